/-! ===== the law's own look: it takes what x.look throws ===== -/
def ll_A (ad : Nat → Nat → Nat) (o sz : Nat) : Nat → Prop := fun q => sw_A ad q ∨ q = o ∨ sz ≤ q
def ll_ws : List Cond := .codeWith yL_look cL_look 5 (some .int) [(0, 10, 13, 13), (0, 10, 17, 15)] :: (([.classLink RL 13 lk_I, .classLink RL 15 lk_N] : List Cond) ++ wsV RL 7 RX2 yX2_look lx_ws)
abbrev ll_rm : Room := { frames := 8, cells := 1, slots := 6, locals := 140 }
abbrev ll_o (cL : ClassId) (o : Nat) (f : Nat → Int64) : Nat × va_E := (o, .inl (cL, 1, .inr (.inl f)))
def ll_pre (D : va_G) (cI cZ cQ cS cL : ClassId) (ad : Nat → Nat → Nat) (h : AHp) (x y : Int32) (o sz sa sb : Nat) (f : Nat → Int64) : Array Value → State → Prop := va_Pc [.ref (ad 0 0), .int x, .int y, .ref o] (fun U => U.heap.size = sz ∧ va_P D sm_cl (sw_ws cI cZ cQ cS ad h ++ [ll_o cL o f]) U.heap ∧ va_K D sm_cl (sw_tys cI cZ cQ cS ++ [(cL, .long)]) U ∧ lk_Z (ll_A ad o sz) sa sb U U.heap)
theorem ll_blind {D : va_G} {cI cZ cQ cS cL : ClassId} {ad : Nat → Nat → Nat} {h : AHp} {x y : Int32} {o sz sa sb : Nat} {f : Nat → Int64} : FrameBlind (ll_pre D cI cZ cQ cS cL ad h x y o sz sa sb f) := fun a U g mk q => ⟨q.1, q.2.1, q.2.2.1, va_K.moved (u := U) (U := U.calling g mk a) (Vm.Alike.refl U.vm) q.2.2.2.1, lk_Z.call q.2.2.2.2⟩
theorem ll_L {D : va_G} {cl : List vw_C} {ws : va_W} {x : Nat × va_E} {H : Heap} (hP : va_P D cl (ws ++ [x]) H) : va_P D cl ws H := fun k q hk => hP k q (by rw [List.getElem?_append_left (List.getElem?_eq_some_iff.mp hk).1]; exact hk)
theorem ll_D {A : Nat → Prop} {cI cZ cQ cS : ClassId} {ad : Nat → Nat → Nat} {h : AHp} {o : Nat} {e : va_E} (hinj : sw_inj ad) (ho : ¬ sw_A ad o) (hA : ∀ q, sw_A ad q → A q) (hAo : A o) : va_D A (sw_ws cI cZ cQ cS ad h ++ [(o, e)]) := by
  have h1 := sw_D (cI := cI) (cZ := cZ) (cQ := cQ) (cS := cS) (h := h) hinj
  refine va_D.app (h1.weaken (fun _ _ _ z => hA _ z)) ⟨fun a b p q ha hb _ => ?_, fun k q hk => ?_⟩ (fun i j p q hp hq e9 => ?_)
  · have g1 := (List.getElem?_eq_some_iff.mp ha).1
    have g2 := (List.getElem?_eq_some_iff.mp hb).1
    simp at g1 g2
    omega
  · have g1 := List.mem_of_getElem? hk
    simp at g1
    rw [g1]
    exact hAo
  · have g1 := List.mem_of_getElem? hq
    simp at g1
    have g2 := h1.2 i p hp
    rw [e9, g1] at g2
    exact ho g2
theorem ll_set {ws : va_W} {a b : Nat × va_E} : (ws ++ [a]).set ws.length b = ws ++ [b] := by simp
theorem ll_at {ws : va_W} {a : Nat × va_E} : (ws ++ [a])[ws.length]? = some a := by simp
theorem ll_gs : GoodIn ll_ws sm_W := sw_good (fun w h => List.mem_cons_of_mem _ (List.mem_append_right _ (by unfold wsV; exact List.mem_append_right _ (lx_gs w h).1))) (fun _ h => h)
theorem ll_g4 : GoodIn ll_ws [Cond.methodLink RL 7 (sm_y.getD 52 ⟨"", "", ""⟩), Cond.instanceMethod (sm_y.getD 52 ⟨"", "", ""⟩), Cond.selects ((sm_cl.getD (sm_own.getD 52 9) (RX0, TX0, 4)).1) (sm_y.getD 52 ⟨"", "", ""⟩) (sm_y.getD 52 ⟨"", "", ""⟩), Cond.initialized ((sm_cl.getD (sm_own.getD 52 9) (RX0, TX0, 4)).1)] := goodIn_of _ (by decide +kernel)
theorem ll_good : (wsV RL 7 RX2 yX2_look lx_ws).all goodWord = true := by decide +kernel
theorem ll_gx : GoodIn ll_ws (wsV RL 7 RX2 yX2_look lx_ws) := fun w hw => ⟨List.mem_cons_of_mem _ (List.mem_append_right _ hw), good_of_word (List.all_eq_true.mp ll_good w hw)⟩
theorem ll_O {D : va_G} {cL : ClassId} {o : Nat} {f : Nat → Int64} {H H1 : Heap} {A : Nat → Prop} (hO : va_P D sm_cl [ll_o cL o f] H) (ho : ¬ A o) (hk : ∀ q : Nat, q < H.size → ¬ A q → H1[q]? = H[q]?) : va_P D sm_cl [ll_o cL o f] H1 := hO.kept (fun k q hq => by
  have g1 := List.mem_of_getElem? hq
  simp at g1
  have g2 := (hO k q hq).lt
  rw [g1] at g2 ⊢
  exact hk o g2 ho)
section LLC
set_option maxHeartbeats 4000000 in
set_option maxRecDepth 100000 in
theorem c_Llook (l : Launch) (htr : l.stackTraces = false) (D : va_G) (cI cZ cQ cS cL : ClassId) (ad : Nat → Nat → Nat) (hinj : sw_inj ad) (h : AHp) (x y v : Int32) (o sz sa sb tw : Nat) (f : Nat → Int64) (ho : ¬ sw_A ad o)
    (hc : (tw = 0 ∧ ∃ n, ah_run n 52 0 (ah_entry 52 [.inr (0, 0), .inl x, .inl y]) [] h = some (some v, h)) ∨ (tw = 1 ∧ ¬ (¬ x < 0 ∧ x < h 0 0 4)) ∨ (tw = 2 ∧ (¬ x < 0 ∧ x < h 0 0 4) ∧ vp_in x 8 ∧ (y.toInt < 0 ∨ 4 < y.toInt))) :
    Met l yL_look ll_ws ll_rm (ll_pre D cI cZ cQ cS cL ad h x y o sz sa sb f) (va_Qi (fun r (f' : Nat → Int64) => r = nI tw ∧ (tw = 0 → f' 0 = v.toInt64)) (fun f' t => va_P D sm_cl (sw_ws cI cZ cQ cS ad h ++ [ll_o cL o f']) t.heap) (ll_A ad o sz)) 1 6 (ll_A ad o sz) := by
  refine va_MetW (cc := cL_look) (maxL := 5) (ret := some .int) (by decide) rfl ?_
  intro p e s m args below meth c s₁ B hml hv
  obtain ⟨rfl, rfl, hPj, hK5, hZ⟩ := hv
  have hx := B.exec
  have hb := B.bytes
  have hr := B.returns
  have hlocks := B.notSynchronized
  have hown : s.vm.findClass RL = some m.cls := findClass_of_methodNamed B.named
  have hts := atoms_spec (ws := ll_ws) B.pre
  have htab : c.exceptionTable.toList = tableOf [(0, 10, 13, 13), (0, 10, 17, 15)] := vx_table (x := yL_look) B (hts _ List.mem_cons_self)
  have hK : va_K D sm_cl (sw_tys cI cZ cQ cS) s := hK5.sub [0, 1, 2, 3] rfl
  have hP := ll_L hPj
  have hO : va_P D sm_cl [ll_o cL o f] s.heap := kx_P hPj
  have hos : o < s.heap.size := (hO 0 _ rfl).lt
  have hxo : ¬ lx_A ad s.heap.size o := fun z => z.elim ho (fun q => absurd hos (Nat.not_lt.mpr q))
  have hS : va_S (ll_A ad o s.heap.size) s.heap s.heap [] := va_S.rf
  have hl := lv_entry ([.ref (ad 0 0), .int x, .int y, .ref o]) (n := 5) (Nat.le_of_ble_eq_true rfl)
  rw [lg_entry_eq]
  generalize (lg_sl ([.ref (ad 0 0), .int x, .int y, .ref o]) ++ List.replicate (5 - (lg_sl ([.ref (ad 0 0), .int x, .int y, .ref o])).length) Slot.unset).toArray = ls at hl ⊢
  have hl : lv_has ls 5 [(0, .ref (ad 0 0)), (1, .int x), (2, .int y), (3, .ref o)] := hl
  refine lv_aload_n hx hb dL_look_0 rfl (lv_at hl 3 rfl) ?_
  refine lv_iconst (v := 0) hx hb dL_look_1 (by decide) ?_
  refine lv_aload_n hx hb dL_look_2 rfl (lv_at hl 0 rfl) ?_
  refine lv_iload_n hx hb dL_look_3 rfl (lv_at hl 1 rfl) ?_
  refine lv_iload_n hx hb dL_look_4 rfl (lv_at hl 2 rfl) ?_
  have hlA : ∀ q, lx_A ad s.heap.size q → ll_A ad o s.heap.size q := fun q z => z.elim Or.inl (fun z => Or.inr (Or.inr z))
  obtain ⟨q0, -, hp⟩ := sw_place (cI := cI) (cZ := cZ) (cQ := cQ) (cS := cS) (ad := ad) (h := h) (q := (0, 0)) (by decide +kernel)
  rw [sw_eC (q := (0, 0)) (c := 2) rfl] at hp
  rcases hc with ⟨rfl, n, hn⟩ | ⟨rfl, hI⟩ | ⟨rfl, hI, hx8, hy⟩
  · refine kv_go (cc := cL_look) (nL := 5) (Ts := ll_ws) (own := RL) ⟨hx, hb, hml, hown, hts⟩ hinj 52 7 0 0 2 [x, y] (A0 := ll_A ad o s.heap.size) (rest := [.int 0, .ref o]) hn rfl (by decide +kernel) (by decide +kernel) ll_gs ll_g4 (by decide +kernel) hP hK (fun _ z => Or.inl z) hS hl.1 (Nat.le_of_ble_eq_true rfl) ⟨Nat.zero_le _, Nat.zero_le _⟩ dL_look_5 (fun H1 locs1 hP1 hS1 hz1 hk1 => ?_)
    · have hO1 := ll_O hO ho hk1
      refine lv_i2l (x := v) (v := v.toInt64) (rest := [.int 0, .ref o]) hx hb dL_look_8 rfl ?_
      refine va_last (A := ll_A ad o s.heap.size) (rest := []) hx hb hK5 (hP1.app hO1) (ll_D hinj ho (fun _ z => Or.inl z) (Or.inr (Or.inl rfl))) hS1 (sw_ws cI cZ cQ cS ad h).length 4 ll_at rfl (i := 0) (x := v.toInt64) (by unfold vp_in; decide) dL_look_9 (fun H2 locs2 hP2 _ hS2 => ?_)
      rw [ll_set] at hP2
      refine lv_goto (tgt := 21) hx hb dL_look_10 (by decide) ?_
      refine lv_iconst (v := 0) hx hb dL_look_21 (by decide) ?_
      refine W.widen (k := 1) (n := 6) (by decide) (by decide) ?_
      exact W.iret hx hb hr (fun t ht hW => ⟨⟨0, vp_updL f 0 v.toInt64, rfl, ⟨nI_0.symm, fun _ => by simp [vp_updL]⟩, by show va_P D sm_cl _ t.heap; rw [ht]; exact hP2⟩, hS2.F ht⟩) hS2.2.2 dL_look_22
  · refine vx_calli (vx_runV (As := [.int x, .int y]) (rest := [.int 0, .ref o]) (b := ad 0 0) (C := RX2) ⟨hx, hb, hml, hown, hts⟩ (c_lookI l htr D cI cZ cQ cS ad hinj h x y s.heap.size sa sb hI) (cwV 2 hts ll_gx rfl rfl rfl ⟨rfl, by decide, by decide, by decide +kernel⟩ ⟨by decide, by decide⟩) ⟨lx_blind, va_recv hK hP (sw_cl_at 2 (by decide)) hp, fun U hU hW => ⟨rfl, by rw [hU], by rw [hU]; exact hP, va_K.moved hW.alike hK, by rw [hU]; exact (hZ.warm hW).narrow hlA⟩⟩ rfl rfl hl.1 rfl (lv_room (Nat.le_of_ble_eq_true rfl)) dL_look_5 ⟨by decide, by decide⟩) hS (fun q _ z => hlA q z) hlA (fun q _ z => hlA q z) (fun E ce q9 u t H1 locs1 ht hvm _ hBX hz1 hk1 hS1 hce hcv hcl => ?_) (fun r u t H1 locs1 _ _ hpost => hpost.elim)
    obtain ⟨rfl, hP1⟩ := hBX
    rw [ht] at hP1
    have hO1 := ll_O hO hxo hk1
    refine vx_catch (own := RL) (name := lk_I) hown [] ⟨0, 10, 13, 13⟩ [⟨0, 10, 17, 15⟩] htab (fun z hz => by cases hz) (by decide) (by decide) (hts (.classLink RL 13 lk_I) (List.mem_cons_of_mem _ (List.mem_append_left _ List.mem_cons_self))) (va_Nw.use rfl (hZ.2.2.2.2.1 (.castable lk_I lk_I) (by decide +kernel))) hce hcv hcl ?_
    refine lv_astore (lv' := [(4, .ref q9), (0, .ref (ad 0 0)), (1, .int x), (2, .int y), (3, .ref o)]) hx hb dL_look_13 hl (by decide) rfl (fun ls hl => ?_)
    refine lv_iconst (v := 1) hx hb dL_look_15 (by decide) ?_
    refine W.widen (k := 1) (n := 6) (by decide) (by decide) ?_
    exact W.iret hx hb hr (fun t ht hW => ⟨⟨1, f, rfl, ⟨by decide, fun z => absurd z (by decide)⟩, by show va_P D sm_cl _ t.heap; rw [ht]; exact hP1.app hO1⟩, hS1.F ht⟩) hS1.2.2 dL_look_16
  · refine vx_calli (vx_runV (As := [.int x, .int y]) (rest := [.int 0, .ref o]) (b := ad 0 0) (C := RX2) ⟨hx, hb, hml, hown, hts⟩ (c_lookN l htr D cI cZ cQ cS ad hinj h x y s.heap.size sa sb hI hx8 hy) (cwV 2 hts ll_gx rfl rfl rfl ⟨rfl, by decide, by decide, by decide +kernel⟩ ⟨by decide, by decide⟩) ⟨lx_blind, va_recv hK hP (sw_cl_at 2 (by decide)) hp, fun U hU hW => ⟨rfl, by rw [hU], by rw [hU]; exact hP, va_K.moved hW.alike hK, by rw [hU]; exact (hZ.warm hW).narrow hlA⟩⟩ rfl rfl hl.1 rfl (lv_room (Nat.le_of_ble_eq_true rfl)) dL_look_5 ⟨by decide, by decide⟩) hS (fun q _ z => hlA q z) hlA (fun q _ z => hlA q z) (fun E ce q9 u t H1 locs1 ht hvm _ hBX hz1 hk1 hS1 hce hcv hcl => ?_) (fun r u t H1 locs1 _ _ hpost => hpost.elim)
    obtain ⟨rfl, hP1⟩ := hBX
    rw [ht] at hP1
    have hO1 := ll_O hO hxo hk1
    refine vx_catch (own := RL) (name := lk_N) hown [⟨0, 10, 13, 13⟩] ⟨0, 10, 17, 15⟩ [] htab (fun z hz => ?_) (by decide) (by decide) (hts (.classLink RL 15 lk_N) (List.mem_cons_of_mem _ (List.mem_append_left _ (List.mem_cons_of_mem _ List.mem_cons_self)))) (va_Nw.use rfl (hZ.2.2.2.2.1 (.castable lk_N lk_N) (by decide +kernel))) hce hcv hcl ?_
    · simp only [List.mem_cons, List.not_mem_nil, or_false] at hz
      subst hz
      exact Or.inr ⟨by decide, lk_I, hts (.classLink RL 13 lk_I) (List.mem_cons_of_mem _ (List.mem_append_left _ List.mem_cons_self)), hZ.2.2.2.2.2⟩
    refine lv_astore (lv' := [(4, .ref q9), (0, .ref (ad 0 0)), (1, .int x), (2, .int y), (3, .ref o)]) hx hb dL_look_17 hl (by decide) rfl (fun ls hl => ?_)
    refine lv_iconst (v := 2) hx hb dL_look_19 (by decide) ?_
    refine W.widen (k := 1) (n := 6) (by decide) (by decide) ?_
    exact W.iret hx hb hr (fun t ht hW => ⟨⟨2, f, rfl, ⟨by decide, fun z => absurd z (by decide)⟩, by show va_P D sm_cl _ t.heap; rw [ht]; exact hP1.app hO1⟩, hS1.F ht⟩) hS1.2.2 dL_look_20
end LLC
