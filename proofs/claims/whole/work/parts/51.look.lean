/-! ===== QuireShop.look where it throws ===== -/
theorem dX2_look_0 : decode cX2_look 0 = .ok (.aload_n 0, 1) := by decide +kernel
theorem dX2_look_1 : decode cX2_look 1 = .ok (.iload_n 1, 1) := by decide +kernel
theorem dX2_look_2 : decode cX2_look 2 = .ok (.invokevirtual 71, 3) := by decide +kernel
theorem dX2_look_5 : decode cX2_look 5 = .ok (.ifCond .ne 13, 3) := by decide +kernel
theorem dX2_look_8 : decode cX2_look 8 = .ok (.new 132, 3) := by decide +kernel
theorem dX2_look_11 : decode cX2_look 11 = .ok (.dup, 1) := by decide +kernel
theorem dX2_look_12 : decode cX2_look 12 = .ok (.ldc 134, 2) := by decide +kernel
theorem dX2_look_14 : decode cX2_look 14 = .ok (.invokespecial 136, 3) := by decide +kernel
theorem dX2_look_17 : decode cX2_look 17 = .ok (.athrow, 1) := by decide +kernel
theorem dX2_look_18 : decode cX2_look 18 = .ok (.aload_n 0, 1) := by decide +kernel
theorem dX2_look_19 : decode cX2_look 19 = .ok (.getfield 17, 3) := by decide +kernel
theorem dX2_look_22 : decode cX2_look 22 = .ok (.iload_n 1, 1) := by decide +kernel
theorem dX2_look_23 : decode cX2_look 23 = .ok (.aaload, 1) := by decide +kernel
theorem dX2_look_24 : decode cX2_look 24 = .ok (.astore_n 3, 1) := by decide +kernel
theorem dX2_look_25 : decode cX2_look 25 = .ok (.iload_n 2, 1) := by decide +kernel
theorem dX2_look_26 : decode cX2_look 26 = .ok (.tableswitch 72 0 4 #[34, 39, 45, 50, 55], 34) := by decide +kernel
theorem dX2_look_60 : decode cX2_look 60 = .ok (.aload_n 3, 1) := by decide +kernel
theorem dX2_look_61 : decode cX2_look 61 = .ok (.getfield 139, 3) := by decide +kernel
theorem dX2_look_64 : decode cX2_look 64 = .ok (.ireturn, 1) := by decide +kernel
theorem dX2_look_65 : decode cX2_look 65 = .ok (.aload_n 0, 1) := by decide +kernel
theorem dX2_look_66 : decode cX2_look 66 = .ok (.aload_n 3, 1) := by decide +kernel
theorem dX2_look_67 : decode cX2_look 67 = .ok (.invokevirtual 142, 3) := by decide +kernel
theorem dX2_look_70 : decode cX2_look 70 = .ok (.ireturn, 1) := by decide +kernel
theorem dX2_look_71 : decode cX2_look 71 = .ok (.aload_n 3, 1) := by decide +kernel
theorem dX2_look_72 : decode cX2_look 72 = .ok (.getfield 145, 3) := by decide +kernel
theorem dX2_look_75 : decode cX2_look 75 = .ok (.ireturn, 1) := by decide +kernel
theorem dX2_look_76 : decode cX2_look 76 = .ok (.aload_n 3, 1) := by decide +kernel
theorem dX2_look_77 : decode cX2_look 77 = .ok (.getfield 148, 3) := by decide +kernel
theorem dX2_look_80 : decode cX2_look 80 = .ok (.ireturn, 1) := by decide +kernel
theorem dX2_look_81 : decode cX2_look 81 = .ok (.aload_n 0, 1) := by decide +kernel
theorem dX2_look_82 : decode cX2_look 82 = .ok (.aload_n 3, 1) := by decide +kernel
theorem dX2_look_83 : decode cX2_look 83 = .ok (.invokevirtual 151, 3) := by decide +kernel
theorem dX2_look_86 : decode cX2_look 86 = .ok (.ifCond .eq 10, 3) := by decide +kernel
theorem dX2_look_89 : decode cX2_look 89 = .ok (.aload_n 3, 1) := by decide +kernel
theorem dX2_look_90 : decode cX2_look 90 = .ok (.getfield 155, 3) := by decide +kernel
theorem dX2_look_93 : decode cX2_look 93 = .ok (.goto 4, 3) := by decide +kernel
theorem dX2_look_96 : decode cX2_look 96 = .ok (.iconst (-1), 1) := by decide +kernel
theorem dX2_look_97 : decode cX2_look 97 = .ok (.ireturn, 1) := by decide +kernel
theorem dX2_look_98 : decode cX2_look 98 = .ok (.new 158, 3) := by decide +kernel
theorem dX2_look_101 : decode cX2_look 101 = .ok (.dup, 1) := by decide +kernel
theorem dX2_look_102 : decode cX2_look 102 = .ok (.ldc 160, 2) := by decide +kernel
theorem dX2_look_104 : decode cX2_look 104 = .ok (.invokespecial 162, 3) := by decide +kernel
theorem dX2_look_107 : decode cX2_look 107 = .ok (.athrow, 1) := by decide +kernel
section KVG
variable {D : va_G} {cI cZ cQ cS : ClassId} {ad : Nat → Nat → Nat} {p : Program} {l : Launch} {e : Env} {R : Room} {s : State} {m : MethodId} {args : Array Value} {below : List Frame} {meth : Method} {c : Code} {H : Heap} {locs : List Loc} {Q : State → Prop} {pc : Nat} {LS : Array Slot} {cells slots : Nat}
/-- the same, for a list of N ints -/
theorem kv_go {Ts : List Cond} {own : String} {cc : ByteArray} {nL : Nat} (S : CallFix p m c cc nL s args Ts own) (hinj : sw_inj ad) (y idx k nr N : Nat) (is : List Int32) {h h1 : AHp} {x : Option Int32} {n : Nat} {rest : List Value} {A0 : Nat → Prop} (hrun : ah_run n y 0 (ah_entry y (.inr (k, nr) :: is.map Sum.inl)) [] h = some (x, h1)) (hN : is.length = N)
    (hd : (decide (y < 92) && decide (N = sm_n.getD y 0) && decide (N + 1 ≤ sm_L.getD y 0) && decide (sm_own.getD y 9 < 4) && decide (ah_cls k = some (sm_own.getD y 9)) && decide ((k, nr) ∈ ck_wl)) = true)
    (hcl : (sm_y.getD y ⟨"", "", ""⟩).cls = (sm_cl.getD (sm_own.getD y 9) (RX0, TX0, 4)).1)
    (hsm : GoodIn Ts sm_W) (hw4 : GoodIn Ts [Cond.methodLink own idx (sm_y.getD y ⟨"", "", ""⟩), Cond.instanceMethod (sm_y.getD y ⟨"", "", ""⟩), Cond.selects ((sm_cl.getD (sm_own.getD y 9) (RX0, TX0, 4)).1) (sm_y.getD y ⟨"", "", ""⟩) (sm_y.getD y ⟨"", "", ""⟩), Cond.initialized ((sm_cl.getD (sm_own.getD y 9) (RX0, TX0, 4)).1)])
    (hroom : (decide (sm_fr.getD y 99 + 1 ≤ R.frames) && decide (8 + (sm_L.getD y 0 + 11) + sm_lo.getD y 999 ≤ R.locals)) = true)
    (hP : va_P D sm_cl (sw_ws cI cZ cQ cS ad h) H) (hK : va_K D sm_cl (sw_tys cI cZ cQ cS) s) (hA0 : ∀ q, sw_A ad q → A0 q) (hS : va_S A0 s.heap H locs) (hLS : LS.size = nL) (hrest : (rest.map fun v => v.category).sum ≤ 8) (hcells : cells ≤ R.cells ∧ slots ≤ R.slots) (hdg : decode cc pc = .ok (.invokevirtual idx, 3))
    (kk : ∀ (H1 : Heap) (locs1 : List Loc), va_P D sm_cl (sw_ws cI cZ cQ cS ad h1) H1 → va_S A0 s.heap H1 locs1 → H.size ≤ H1.size → (∀ q : Nat, q < H.size → ¬ sw_A ad q → H1[q]? = H[q]?) → W p l e R s m args below meth c H1 locs1 cells slots Q (F0 m (pc + 3) LS ((x.map Value.int).toList ++ rest))) :
    W p l e R s m args below meth c H locs cells slots Q (F0 m pc LS ((is.map Value.int).reverse ++ .ref (ad k nr) :: rest)) := by
  have e9 : (is.map (Sum.inl : Int32 → AV)).map (sw_conc ad) = is.map Value.int := by
    rw [List.map_map]
    rfl
  have k9 := kv_call S hinj y idx k nr (is.map Sum.inl) (A0 := A0) (rest := rest) (LS := LS) (pc := pc) (Q := Q) (l := l) (e := e) (below := below) (meth := meth) (cells := cells) (slots := slots) hrun (by rw [List.length_map, hN]; simpa only [Bool.and_eq_true, decide_eq_true_eq] using hd) (fun v hv => by
    obtain ⟨z, -, rfl⟩ := List.mem_map.mp hv
    trivial) hcl hsm hw4 (by simpa only [Bool.and_eq_true, decide_eq_true_eq] using hroom) hP hK hA0 hS hLS hrest hcells hdg kk
  rw [e9] at k9
  exact k9
end KVG
/-- what a throw needs of the world outside A -/
def lk_Z (A : Nat → Prop) (sa sb : Nat) (U : State) (H : Heap) : Prop := vx_Zq Bundle.tN "UNASSIGNED_STACK" Bundle.steD A U H ∧ vx_Zq Bundle.tN "SUPPRESSED_SENTINEL" Bundle.listD A U H ∧ vk_R RX2 134 "no such scribe" sa U ∧ vk_R RX2 160 "no such what" sb U ∧ (∀ w ∈ lk_ng, va_Nw w U) ∧ va_Nc lk_N lk_I U
theorem lk_ng_on : ∀ w ∈ lk_ng, w.onTables = true := by decide +kernel
theorem lk_ng_warm {s U : State} (hW : s.WarmedH U.vm) (h : ∀ w ∈ lk_ng, va_Nw w s) : ∀ w ∈ lk_ng, va_Nw w U := by
  have hd : ∀ x : MethodName, va_Nw (.declares x) s → va_Nw (.declares x) U := fun x hx => va_tabs rfl (rfl : (s.setVm U.vm).vm = U.vm) (by rw [Cond.declares_setVm hW.alike]; exact hx)
  intro w hw
  have h0 := h w hw
  unfold lk_ng at hw
  simp only [List.mem_cons, List.not_mem_nil, or_false] at hw
  rcases hw with rfl | rfl | rfl | rfl | rfl
  · exact va_Nw.warmC hW h0
  · exact va_Nw.warmC hW h0
  · exact hd _ h0
  · exact hd _ h0
  · exact hd _ h0
theorem lk_Z.warm {A : Nat → Prop} {sa sb : Nat} {s U : State} {H : Heap} (hW : s.WarmedH U.vm) (h : lk_Z A sa sb s H) : lk_Z A sa sb U H := by
  obtain ⟨h1, h2, h3, h4, h5, h6⟩ := h
  exact ⟨vx_Zq.moved hW.alike h1, vx_Zq.moved hW.alike h2, vk_R.warm hW h3, vk_R.warm hW h4, lk_ng_warm hW h5, va_Nc.moved hW.alike h6⟩
theorem lk_Z.kept {A : Nat → Prop} {sa sb : Nat} {U : State} {H H1 : Heap} (h : lk_Z A sa sb U H) (hq : ∀ a : Nat, a < H.size → ¬ A a → H1[a]? = H[a]?) : lk_Z A sa sb U H1 := by
  obtain ⟨h1, h2, h3, h4, h5, h6⟩ := h
  exact ⟨h1.kept hq, h2.kept hq, h3, h4, h5, h6⟩
theorem lk_Z.narrow {A B : Nat → Prop} {sa sb : Nat} {U : State} {H : Heap} (h : lk_Z A sa sb U H) (hAB : ∀ q, B q → A q) : lk_Z B sa sb U H := by
  obtain ⟨h1, h2, h3, h4, h5, h6⟩ := h
  exact ⟨h1.narrow hAB, h2.narrow hAB, h3, h4, h5, h6⟩
theorem lk_Z.call {A : Nat → Prop} {sa sb : Nat} {U : State} {g : JFrame} {mk : MethodId} {a : Array Value} (h : lk_Z A sa sb U U.heap) : lk_Z A sa sb (U.calling g mk a) (U.calling g mk a).heap := by
  obtain ⟨h1, h2, h3, h4, h5, h6⟩ := h
  exact ⟨vx_Zq.moved (u := U) (U := U.calling g mk a) (Vm.Alike.refl U.vm) h1, vx_Zq.moved (u := U) (U := U.calling g mk a) (Vm.Alike.refl U.vm) h2, vk_R.same (u := U) (U := U.calling g mk a) rfl h3, vk_R.same (u := U) (U := U.calling g mk a) rfl h4, fun w hw => va_Nw.same (lk_ng_on w hw) (u := U) (U := U.calling g mk a) rfl (h5 w hw), va_Nc.moved (u := U) (U := U.calling g mk a) (Vm.Alike.refl U.vm) h6⟩
def lx_A (ad : Nat → Nat → Nat) (sz : Nat) : Nat → Prop := fun q => sw_A ad q ∨ sz ≤ q
def lx_ws : List Cond := .code yX2_look cX2_look 4 (some .int) :: (sm_W ++ (lk_w0 ++ (lk_w1 ++ lk_w2)))
abbrev lx_rm : Room := { frames := 6, cells := 1, slots := 6, locals := 90 }
def lx_pre (D : va_G) (cI cZ cQ cS : ClassId) (ad : Nat → Nat → Nat) (h : AHp) (x y : Int32) (sz sa sb : Nat) : Array Value → State → Prop := va_Pc [.ref (ad 0 0), .int x, .int y] (fun U => U.heap.size = sz ∧ va_P D sm_cl (sw_ws cI cZ cQ cS ad h) U.heap ∧ va_K D sm_cl (sw_tys cI cZ cQ cS) U ∧ lk_Z (lx_A ad sz) sa sb U U.heap)
theorem lx_blind {D : va_G} {cI cZ cQ cS : ClassId} {ad : Nat → Nat → Nat} {h : AHp} {x y : Int32} {sz sa sb : Nat} : FrameBlind (lx_pre D cI cZ cQ cS ad h x y sz sa sb) := fun a U g mk q => ⟨q.1, q.2.1, q.2.2.1, va_K.moved (u := U) (U := U.calling g mk a) (Vm.Alike.refl U.vm) q.2.2.2.1, lk_Z.call q.2.2.2.2⟩
abbrev lx_Q (ad : Nat → Nat → Nat) (sz : Nat) : Array Value → State → Outcome → State → Prop := va_Qi (fun _ (_ : Unit) => False) (fun _ _ => True) (lx_A ad sz)
abbrev lx_X (D : va_G) (cI cZ cQ cS : ClassId) (ad : Nat → Nat → Nat) (h : AHp) (sz : Nat) (E0 : String) : String → State → State → Prop := vx_X (fun _ : Unit => True) (fun E _ t => E = E0 ∧ va_P D sm_cl (sw_ws cI cZ cQ cS ad h) t.heap) (lx_A ad sz)
theorem lx_XC {D : va_G} {cI cZ cQ cS : ClassId} {ad : Nat → Nat → Nat} {h : AHp} {E0 : String} {s : State} {H : Heap} {locs : List Loc} (hP : va_P D sm_cl (sw_ws cI cZ cQ cS ad h) H) (hS : va_S (lx_A ad s.heap.size) s.heap H locs) : ∀ t : State, s.vm.Alike t.vm → H.size ≤ t.heap.size → (∀ q : Nat, q < H.size → t.heap[q]? = H[q]?) → lx_X D cI cZ cQ cS ad h s.heap.size E0 E0 s t := by
  intro t _ hz hq
  refine ⟨(), trivial, ⟨rfl, hP.kept (fun k q hk => hq q.1 ((hP k q hk).lt))⟩, Nat.le_trans hS.1 hz, fun q g1 g2 => ?_⟩
  rw [hq q (Nat.lt_of_lt_of_le g1 hS.1)]
  exact hS.2.1 q g1 g2
theorem lx_S {ad : Nat → Nat → Nat} {H0 H : Heap} {locs : List Loc} {sz : Nat} (h : va_S (sw_A ad) H0 H locs) : va_S (lx_A ad sz) H0 H locs := ⟨h.1, fun q g1 g2 => h.2.1 q g1 (fun z => g2 (Or.inl z)), fun q hq => Or.inl (h.2.2 q hq)⟩
theorem lx_g4 : GoodIn lx_ws [Cond.methodLink RX2 71 (sm_y.getD 18 ⟨"", "", ""⟩), Cond.instanceMethod (sm_y.getD 18 ⟨"", "", ""⟩), Cond.selects ((sm_cl.getD (sm_own.getD 18 9) (RX0, TX0, 4)).1) (sm_y.getD 18 ⟨"", "", ""⟩) (sm_y.getD 18 ⟨"", "", ""⟩), Cond.initialized ((sm_cl.getD (sm_own.getD 18 9) (RX0, TX0, 4)).1)] := goodIn_of _ (by decide +kernel)
theorem lx_gs : GoodIn lx_ws sm_W := sw_good (fun w h => List.mem_cons_of_mem _ (List.mem_append_left _ h)) (fun _ h => h)
theorem lx_in0 : ∀ w ∈ lk_w0, w ∈ lx_ws := fun w h => List.mem_cons_of_mem _ (List.mem_append_right _ (List.mem_append_left _ h))
theorem lx_in1 : ∀ w ∈ lk_w1, w ∈ lx_ws := fun w h => List.mem_cons_of_mem _ (List.mem_append_right _ (List.mem_append_right _ (List.mem_append_left _ h)))
theorem lx_in2 : ∀ w ∈ lk_w2, w ∈ lx_ws := fun w h => List.mem_cons_of_mem _ (List.mem_append_right _ (List.mem_append_right _ (List.mem_append_right _ h)))
theorem lx_run18 (h : AHp) (x : Int32) : ∃ n, ah_run n 18 0 (ah_entry 18 [.inr (0, 0), .inl x]) [] h = some (some (b01 (¬ x < 0 ∧ x < h 0 0 4)), h) := by
  have hv : Vi 18 h [some (.inr (0, 0)), some (.inl x)] (fun r h' => r = b01 (¬ x < 0 ∧ x < h 0 0 4) ∧ h' = h) := (c_X2_isScribe h 0 x _).mpr ⟨rfl, rfl⟩
  obtain ⟨n, r, h', e, x0, rfl, rfl, rfl⟩ := hv
  exact ⟨n, e⟩
section LXC
variable {D : va_G} {cI cZ cQ cS : ClassId} {ad : Nat → Nat → Nat} {p : Program} {l : Launch} {e : Env} {R : Room} {s : State} {m : MethodId} {args : Array Value} {below : List Frame} {meth : Method} {c : Code} {Q : State → Prop}
set_option maxHeartbeats 4000000 in
set_option maxRecDepth 100000 in
/-- look's first three rows: is it a scribe? -/
theorem lx_first (hinj : sw_inj ad) {h : AHp} {x y : Int32} (X : sw_C D cI cZ cQ cS p s m args meth c 52) (hts : ∀ w ∈ lx_ws, w.before args s = true) {H : Heap} {locs : List Loc} {LS : Array Slot} (hLS : lv_has LS 4 [(0, .ref (ad 0 0)), (1, .int x), (2, .int y)]) (hP : va_P D sm_cl (sw_ws cI cZ cQ cS ad h) H) (hS : va_S (sw_A ad) s.heap H locs)
    (kk : ∀ (H1 : Heap) (locs1 : List Loc), va_P D sm_cl (sw_ws cI cZ cQ cS ad h) H1 → va_S (sw_A ad) s.heap H1 locs1 → W p l e lx_rm s m args below meth c H1 locs1 0 0 Q (F0 m 5 LS [.int (b01 (¬ x < 0 ∧ x < h 0 0 4))])) : W p l e lx_rm s m args below meth c H locs 0 0 Q (F0 m 0 LS []) := by
  obtain ⟨hx, hb, hr, hml, hown, -, hK, hlk⟩ := X
  refine lv_aload_n (cc := cX2_look) hx hb dX2_look_0 rfl (lv_at hLS 0 rfl) ?_
  refine lv_iload_n (cc := cX2_look) hx hb dX2_look_1 rfl (lv_at hLS 1 rfl) ?_
  obtain ⟨n, hn⟩ := lx_run18 h x
  exact kv_go (cc := cX2_look) (nL := 4) (Ts := lx_ws) (own := RX2) ⟨hx, hb, hml, hown, hts⟩ hinj 18 71 0 0 1 [x] (A0 := sw_A ad) (rest := []) hn rfl (by decide +kernel) (by decide +kernel) lx_gs lx_g4 (by decide +kernel) hP hK (fun _ z => z) hS hLS.1 (Nat.zero_le _) ⟨Nat.zero_le _, Nat.zero_le _⟩ dX2_look_2 (fun H1 locs1 hP1 hS1 _ _ => kk H1 locs1 hP1 hS1)
set_option maxHeartbeats 4000000 in
set_option maxRecDepth 100000 in
theorem c_lookI (l : Launch) (htr : l.stackTraces = false) (D : va_G) (cI cZ cQ cS : ClassId) (ad : Nat → Nat → Nat) (hinj : sw_inj ad) (h : AHp) (x y : Int32) (sz sa sb : Nat) (hI : ¬ (¬ x < 0 ∧ x < h 0 0 4)) : vx_Met l yX2_look lx_ws lx_rm (lx_pre D cI cZ cQ cS ad h x y sz sa sb) (lx_Q ad sz) (lx_X D cI cZ cQ cS ad h sz lk_I) 1 6 (lx_A ad sz) := by
  refine vx_ofW (cc := cX2_look) (maxL := 4) (ret := some .int) (by decide) rfl ?_
  intro p e s m args below meth c s₁ B hml ht hv
  obtain ⟨rfl, rfl, hP, hK, hZ⟩ := hv
  have hown : s.vm.findClass RX2 = some m.cls := findClass_of_methodNamed B.named
  have hts := atoms_spec (ws := lx_ws) B.pre
  have X : sw_C D cI cZ cQ cS p s m [Value.ref (ad 0 0), .int x, .int y].toArray meth c 52 := ⟨B.exec, B.bytes, B.returns, hml, hown, fun w hw => hts w (lx_gs w hw).1, hK, B.notSynchronized⟩
  have hl := lv_entry ([.ref (ad 0 0), .int x, .int y]) (n := 4) (Nat.le_of_ble_eq_true rfl)
  rw [lg_entry_eq]
  generalize (lg_sl ([.ref (ad 0 0), .int x, .int y]) ++ List.replicate (4 - (lg_sl ([.ref (ad 0 0), .int x, .int y])).length) Slot.unset).toArray = LS at hl ⊢
  have hl : lv_has LS 4 [(0, .ref (ad 0 0)), (1, .int x), (2, .int y)] := hl
  refine lx_first hinj X hts hl hP va_S.rf (fun H locs hP hS => ?_)
  have hS := lx_S (sz := s.heap.size) hS
  refine lv_if_ne (cc := cX2_look) (tgt := 18) B.exec B.bytes dX2_look_5 (by decide) (fun z => absurd (b01_n.mp z) hI) (fun _ => ?_)
  exact vx_throwS (cc := cX2_look) (own := RX2) (cls := lk_I) (names := lk_nm) (ik := 132) (is := 134) (ic := 136) B.exec B.bytes htr hown (by decide +kernel) (by decide +kernel) (hts _ (lx_in0 _ (by decide +kernel))) (hts _ (lx_in0 _ (by decide +kernel))) hZ.2.2.1
    (vx_hat (B := lk_ng) (fun w hw => hts w (lx_in1 w hw)) lk_ng1 (fun w hw => va_Nw.use (lk_ng_on w hw) (hZ.2.2.2.2.1 w hw))) lk_ot1 hZ.1 hZ.2.1 hS (hl.1.trans hml.symm) dX2_look_8 dX2_look_11 dX2_look_12 dX2_look_14 dX2_look_17 (fun x9 h9 => (ht x9 h9).elim) (by decide) (by decide) (by decide) (by decide) B.notSynchronized (lx_XC hP hS) hS.2.2 (by decide) (by decide)
set_option maxHeartbeats 4000000 in
set_option maxRecDepth 100000 in
theorem c_lookN (l : Launch) (htr : l.stackTraces = false) (D : va_G) (cI cZ cQ cS : ClassId) (ad : Nat → Nat → Nat) (hinj : sw_inj ad) (h : AHp) (x y : Int32) (sz sa sb : Nat) (hI : ¬ x < 0 ∧ x < h 0 0 4) (hx8 : vp_in x 8) (hy : y.toInt < 0 ∨ 4 < y.toInt) : vx_Met l yX2_look lx_ws lx_rm (lx_pre D cI cZ cQ cS ad h x y sz sa sb) (lx_Q ad sz) (lx_X D cI cZ cQ cS ad h sz lk_N) 1 6 (lx_A ad sz) := by
  refine vx_ofW (cc := cX2_look) (maxL := 4) (ret := some .int) (by decide) rfl ?_
  intro p e s m args below meth c s₁ B hml ht hv
  obtain ⟨rfl, rfl, hP, hK, hZ⟩ := hv
  have hown : s.vm.findClass RX2 = some m.cls := findClass_of_methodNamed B.named
  have hts := atoms_spec (ws := lx_ws) B.pre
  have X : sw_C D cI cZ cQ cS p s m [Value.ref (ad 0 0), .int x, .int y].toArray meth c 52 := ⟨B.exec, B.bytes, B.returns, hml, hown, fun w hw => hts w (lx_gs w hw).1, hK, B.notSynchronized⟩
  have hl := lv_entry ([.ref (ad 0 0), .int x, .int y]) (n := 4) (Nat.le_of_ble_eq_true rfl)
  rw [lg_entry_eq]
  generalize (lg_sl ([.ref (ad 0 0), .int x, .int y]) ++ List.replicate (4 - (lg_sl ([.ref (ad 0 0), .int x, .int y])).length) Slot.unset).toArray = LS at hl ⊢
  have hl : lv_has LS 4 [(0, .ref (ad 0 0)), (1, .int x), (2, .int y)] := hl
  refine lx_first hinj X hts hl hP va_S.rf (fun H locs hP hS => ?_)
  have hxl : x.toNatClampNeg < 8 := Nat.not_le.mp fun q => hx8 (Or.inr q)
  refine lv_if_ne (cc := cX2_look) (tgt := 18) B.exec B.bytes dX2_look_5 (by decide) (fun _ => ?_) (fun z => absurd hI (b01_z.mp z))
  have hst0 : ∀ v ∈ ([] : List AV), sw_ok v := fun v hv => by cases hv
  have hok : ∀ v, some v ∈ ([some (.inr (0, 0)), some (.inl x), some (.inl y), none] : List (Option AV)) → sw_ok v := by
    intro v hv
    simp only [List.mem_cons, List.not_mem_nil, or_false, Option.some.injEq, reduceCtorEq] at hv
    rcases hv with rfl | rfl | rfl
    · show (0, 0) ∈ ck_wl
      decide +kernel
    · trivial
    · trivial
  refine sw_step (mi := 52) (pc := 18) (i := .aload_n 0) (len := 1) (ls := [some (.inr (0, 0)), some (.inl x), some (.inl y), none]) (st := []) (q := (19, [some (.inr (0, 0)), some (.inl x), some (.inl y), none], [.inr (0, 0)], h)) X hinj dX2_look_18 hst0 hok rfl hl hP hS rfl (fun H locs LS hP hS hl hst hok hlen => ?_)
  refine sw_step (mi := 52) (pc := 19) (i := .getfield 17) (len := 3) (ls := [some (.inr (0, 0)), some (.inl x), some (.inl y), none]) (st := [.inr (0, 0)]) (q := (22, [some (.inr (0, 0)), some (.inl x), some (.inl y), none], [.inr (2, 0)], h)) X hinj dX2_look_19 hst hok hlen hl hP hS rfl (fun H locs LS hP hS hl hst hok hlen => ?_)
  refine sw_step (mi := 52) (pc := 22) (i := .iload_n 1) (len := 1) (ls := [some (.inr (0, 0)), some (.inl x), some (.inl y), none]) (st := [.inr (2, 0)]) (q := (23, [some (.inr (0, 0)), some (.inl x), some (.inl y), none], [.inl x, .inr (2, 0)], h)) X hinj dX2_look_22 hst hok hlen hl hP hS rfl (fun H locs LS hP hS hl hst hok hlen => ?_)
  refine sw_step (mi := 52) (pc := 23) (i := .aaload) (len := 1) (ls := [some (.inr (0, 0)), some (.inl x), some (.inl y), none]) (st := [.inl x, .inr (2, 0)]) (q := (24, [some (.inr (0, 0)), some (.inl x), some (.inl y), none], [.inr (4, x.toNatClampNeg)], h)) X hinj dX2_look_23 hst hok hlen hl hP hS (by simp only [ah_step, ah_rlen]; exact if_pos ⟨trivial, hx8⟩) (fun H locs LS hP hS hl hst hok hlen => ?_)
  refine sw_step (mi := 52) (pc := 24) (i := .astore_n 3) (len := 1) (ls := [some (.inr (0, 0)), some (.inl x), some (.inl y), none]) (st := [.inr (4, x.toNatClampNeg)]) (q := (25, [some (.inr (0, 0)), some (.inl x), some (.inl y), some (.inr (4, x.toNatClampNeg))], [], h)) X hinj dX2_look_24 hst hok hlen hl hP hS rfl (fun H locs LS hP hS hl hst hok hlen => ?_)
  refine sw_step (mi := 52) (pc := 25) (i := .iload_n 2) (len := 1) (ls := [some (.inr (0, 0)), some (.inl x), some (.inl y), some (.inr (4, x.toNatClampNeg))]) (st := []) (q := (26, [some (.inr (0, 0)), some (.inl x), some (.inl y), some (.inr (4, x.toNatClampNeg))], [.inl y], h)) X hinj dX2_look_25 hst hok hlen hl hP hS rfl (fun H locs LS hP hS hl hst hok hlen => ?_)
  have hS := lx_S (sz := s.heap.size) hS
  refine lv_tableOut (cc := cX2_look) (pc := 26) (tgt := 98) (rest := []) B.exec B.bytes dX2_look_26 hy (by decide) ?_
  exact lk_throw (cc := cX2_look) (own := RX2) (cls := lk_N) (Y0 := "java/lang/RuntimeException") (r := ["java/lang/Exception"]) (ik := 158) (is := 160) (ic := 162) B.exec B.bytes htr hown (by decide +kernel) (by decide +kernel) (by decide +kernel) (hts _ (lx_in0 _ (by decide +kernel))) (hts _ (lx_in0 _ (by decide +kernel))) hZ.2.2.2.1
    (vx_hat (B := lk_ng) (fun w hw => hts w (lx_in2 w hw)) lk_ng2 (fun w hw => va_Nw.use (lk_ng_on w hw) (hZ.2.2.2.2.1 w hw))) lk_ot2 hZ.1 hZ.2.1 hS (hl.1.trans hml.symm) dX2_look_98 dX2_look_101 dX2_look_102 dX2_look_104 dX2_look_107 (fun x9 h9 => (ht x9 h9).elim) (by decide) (by decide) (by decide) (by decide) B.notSynchronized (lx_XC hP hS) hS.2.2 (by decide) (by decide)
end LXC
