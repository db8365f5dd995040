/-! ===== a run of the small machine is a run of the machine ===== -/
def sw_rm (y : Nat) : Room := { frames := sm_fr.getD y 99, cells := 0, slots := 0, locals := sm_lo.getD y 999 }
def sw_wd (y : Nat) : List Cond := Cond.code (sm_y.getD y ⟨"", "", ""⟩) (sm_c.getD y ⟨#[]⟩) (sm_L.getD y 0) (sw_rt y) :: sm_W
def sw_Q (D : va_G) (cI cZ cQ cS : ClassId) (ad : Nat → Nat → Nat) (r : Option Int32) (h' : AHp) : Array Value → State → Outcome → State → Prop := fun _ st oc t => oc = .returned (r.map Value.int) ∧ va_P D sm_cl (sw_ws cI cZ cQ cS ad h') t.heap ∧ va_F (sw_A ad) st t
def sw_pre (D : va_G) (cI cZ cQ cS : ClassId) (ad : Nat → Nat → Nat) (as : List AV) (h : AHp) : Array Value → State → Prop := va_Pc (as.map (sw_conc ad)) (fun U => va_P D sm_cl (sw_ws cI cZ cQ cS ad h) U.heap ∧ va_K D sm_cl (sw_tys cI cZ cQ cS) U)
/-- the contract of method y, for one run of the small machine -/
def sw_Met (D : va_G) (cI cZ cQ cS : ClassId) (ad : Nat → Nat → Nat) (l : Launch) (y : Nat) (as : List AV) (h : AHp) (r : Option Int32) (h' : AHp) : Prop := Met l (sm_y.getD y ⟨"", "", ""⟩) (sw_wd y) (sw_rm y) (sw_pre D cI cZ cQ cS ad as h) (sw_Q D cI cZ cQ cS ad r h') 0 0 (sw_A ad)
theorem sw_code : ∀ y, y < 92 → Cond.code (sm_y.getD y ⟨"", "", ""⟩) (sm_c.getD y ⟨#[]⟩) (sm_L.getD y 0) (sw_rt y) ∈ sm_W := ck_code
theorem sw_good {big ws : List Cond} (hb : ∀ w ∈ sm_W, w ∈ big) (h : ∀ w ∈ ws, w ∈ sm_W) : GoodIn big ws := fun w hw => ⟨hb w (h w hw), good_of_word (List.all_eq_true.mp ck_good w (h w hw))⟩
theorem sw_wd_in {y : Nat} (hy : y < 92) : ∀ w ∈ sw_wd y, w ∈ sm_W := by
  intro w hw
  rcases List.mem_cons.mp hw with rfl | hw
  · exact sw_code y hy
  · exact hw
theorem sw_blind {D : va_G} {cI cZ cQ cS : ClassId} {ad : Nat → Nat → Nat} {as : List AV} {h : AHp} : FrameBlind (sw_pre D cI cZ cQ cS ad as h) := fun a U g mk q => ⟨q.1, q.2.1, va_K.moved (u := U) (U := U.calling g mk a) (Vm.Alike.refl U.vm) q.2.2⟩
section SSM
variable {D : va_G} {cI cZ cQ cS : ClassId} {ad : Nat → Nat → Nat} {p : Program} {l : Launch} {e : Env} {R : Room} {s : State} {m : MethodId} {args : Array Value} {below : List Frame} {meth : Method} {c : Code} {H : Heap} {locs : List Loc} {Q : State → Prop} {pc : Nat} {LS : Array Slot} {cells slots : Nat}
/-- behind a call -/
theorem sw_after {r : Option Int32} {h1 : AHp} {st0 rest : List Value} {a : Array Value} {A0 : Nat → Prop} (hA0 : ∀ q, sw_A ad q → A0 q) (hr : va_Run p l e R s m args below meth c H locs cells slots 0 0 (F0 m pc LS st0) rest (sw_Q D cI cZ cQ cS ad r h1 a) (sw_A ad)) (hS : va_S A0 s.heap H locs)
    (kk : ∀ (H1 : Heap) (locs1 : List Loc), va_P D sm_cl (sw_ws cI cZ cQ cS ad h1) H1 → va_S A0 s.heap H1 locs1 → H.size ≤ H1.size → (∀ q : Nat, q < H.size → ¬ sw_A ad q → H1[q]? = H[q]?) → W p l e R s m args below meth c H1 locs1 cells slots Q (F0 m (pc + 3) LS ((r.map Value.int).toList ++ rest))) : W p l e R s m args below meth c H locs cells slots Q (F0 m pc LS st0) := by
  intro T hT X
  obtain ⟨v, st₀, t, T', L, h0, X', hL, e1, e2, ⟨hv, hp, hz, hk⟩, st⟩ := hr T hT X
  cases hv
  rw [h0] at hz hk
  obtain ⟨t2, a1, b1⟩ := kk T'.heap (locs ++ L) (by rw [e1]; exact hp)
    ⟨Nat.le_trans hS.1 (by rw [e1]; exact hz), fun q g1 g2 => by rw [e1, hk q (Nat.lt_of_lt_of_le g1 hS.1) (fun z => g2 (hA0 q z))]; exact hS.2.1 q g1 g2, fun q hq => by
      rcases List.mem_append.mp hq with g | g
      · exact hS.2.2 q g
      · exact hA0 _ (hL q g)⟩ (by rw [e1]; exact hz) (fun q g1 g2 => by rw [e1]; exact hk q g1 g2) T' rfl X'
  exact ⟨t2, st t2 a1, b1⟩
end SSM
/-- what is proved of n steps -/
def sw_SIM (D : va_G) (cI cZ cQ cS : ClassId) (ad : Nat → Nat → Nat) (n : Nat) : Prop := ∀ (mi pc : Nat) (ls : List (Option AV)) (st : List AV) (h : AHp) (r : Option Int32) (h' : AHp), ah_run n mi pc ls st h = some (r, h') → mi < 92 → ∀ (p : Program) (l : Launch) (e : Env) (R : Room) (s : State) (m : MethodId) (args : Array Value) (below : List Frame) (meth : Method) (c : Code) (H : Heap) (locs : List Loc) (LS : Array Slot),
  sw_C D cI cZ cQ cS p s m args meth c mi → sm_fr.getD mi 0 ≤ R.frames → sm_lo.getD mi 0 ≤ R.locals → (∀ v ∈ st, sw_ok v) → (∀ v, some v ∈ ls → sw_ok v) → ls.length = sm_L.getD mi 0 → lv_has LS (sm_L.getD mi 0) (sw_lv ad ls) → va_P D sm_cl (sw_ws cI cZ cQ cS ad h) H → va_S (sw_A ad) s.heap H locs →
  W p l e R s m args below meth c H locs 0 0 (MQ below (sw_Q D cI cZ cQ cS ad r h') args s 0 0 (sw_A ad)) (F0 m pc LS (st.map (sw_conc ad)))
theorem sw_tab : sm_fr.length = 92 ∧ sm_lo.length = 92 ∧ sm_L.length = 92 := by decide +kernel
theorem sw_getD {L : List Nat} (hL : L.length = 92) {y : Nat} (hy : y < 92) (a b : Nat) : L.getD y a = L.getD y b := by
  rw [List.getD_eq_getElem?_getD, List.getD_eq_getElem?_getD, List.getElem?_eq_getElem (by rw [hL]; exact hy)]
  rfl
theorem sw_toMet {D : va_G} {cI cZ cQ cS : ClassId} {ad : Nat → Nat → Nat} {n : Nat} (S : sw_SIM D cI cZ cQ cS ad n) (l : Launch) {y : Nat} {as : List AV} {h h' : AHp} {r : Option Int32} (hy : y < 92) (hok : ∀ v ∈ as, sw_ok v) (hlen : as.length ≤ sm_L.getD y 0) (hrun : ah_run n y 0 (ah_entry y as) [] h = some (r, h')) : sw_Met D cI cZ cQ cS ad l y as h r h' := by
  obtain ⟨n1, n2, n3, n4, n5⟩ := ck_name y hy
  refine va_MetF (cc := sm_c.getD y ⟨#[]⟩) (maxL := sm_L.getD y 0) (ret := sw_rt y) n1 rfl ?_
  intro p e s m args below meth c s₁ B hml hv
  obtain ⟨rfl, hP, hK⟩ := hv
  have hown : s.vm.findClass (sm_y.getD y ⟨"", "", ""⟩).cls = some m.cls := findClass_of_methodNamed B.named
  rw [n2] at hown
  have hts := atoms_spec (ws := sw_wd y) B.pre
  rw [lg_entry_eq]
  have hent := sw_entry ad y as hlen
  generalize (lg_sl (as.map (sw_conc ad)) ++ List.replicate (sm_L.getD y 0 - (lg_sl (as.map (sw_conc ad))).length) Slot.unset).toArray = LS at hent ⊢
  refine S y 0 (ah_entry y as) [] h r h' hrun hy p l e _ s m _ below meth c s.heap [] LS ⟨B.exec, B.bytes, B.returns, hml, hown, fun w hw => hts w (List.mem_cons_of_mem _ hw), hK, B.notSynchronized⟩ ?_ ?_ (fun v hv => by cases hv) (sw_entry_ok hok) ?_ hent hP va_S.rf
  · show sm_fr.getD y 0 ≤ sm_fr.getD y 99
    rw [sw_getD sw_tab.1 hy 0 99]
    exact Nat.le_refl _
  · show sm_lo.getD y 0 ≤ sm_lo.getD y 999
    rw [sw_getD sw_tab.2.1 hy 0 999]
    exact Nat.le_refl _
  · unfold ah_entry
    rw [List.length_append, List.length_map, List.length_replicate]
    omega
theorem sw_lookup {α : Type} : ∀ (L : List (Nat × α)) (k : Nat) (x : α), L.lookup k = some x → (k, x) ∈ L
  | [], k, x, h => by simp at h
  | (a, b) :: L, k, x, h => by
    rw [List.lookup_cons] at h
    by_cases hk : k = a
    · subst hk
      simp at h
      subst h
      exact List.mem_cons_self
    · have : (k == a) = false := by simp [hk]
      rw [this] at h
      exact List.mem_cons_of_mem _ (sw_lookup L k x h)
theorem sw_dec {mi pc len : Nat} {i : Instr} (hmi : mi < 92) (hi : ah_ins mi pc = some (i, len)) : decode (sm_c.getD mi ⟨#[]⟩) pc = .ok (i, len) := ck_dec mi hmi (pc, (i, len)) (sw_lookup (sm_tabs.getD mi []) pc (i, len) hi)
theorem sw_cats (ad : Nat → Nat → Nat) : ∀ st : List AV, ((st.map (sw_conc ad)).map fun v => v.category).sum = st.length
  | [] => rfl
  | v :: st => by
    have := sw_cats ad st
    rw [List.map_cons, List.map_cons, List.sum_cons, sw_cat, this, List.length_cons]
    omega
set_option maxHeartbeats 4000000 in
theorem sw_sim (D : va_G) (cI cZ cQ cS : ClassId) (ad : Nat → Nat → Nat) (hinj : sw_inj ad) : ∀ n, sw_SIM D cI cZ cQ cS ad n := by
  intro n
  induction n with
  | zero => intro mi pc ls st h r h' e; simp [ah_run] at e
  | succ n ih =>
    intro mi pc ls st h r h' hrun hmi p l e R s m args below meth c H locs LS X hfr hlo hst hok hlen hLS hP hS
    simp only [ah_run] at hrun
    cases hi : ah_ins mi pc with
    | none => rw [hi] at hrun; cases hrun
    | some il =>
      obtain ⟨i, len⟩ := il
      have hdg : decode (sm_c.getD mi ⟨#[]⟩) pc = .ok (i, len) := sw_dec hmi hi
      simp only [hi] at hrun
      cases he : ah_end mi i len st h with
      | some r' =>
        simp only [he] at hrun
        cases hrun
        obtain ⟨hx, hb, hr, hml, hown, hts, hK, hlk⟩ := X
        unfold ah_end at he
        split at he
        · split at he
          · rename_i x
            split at he
            · rename_i hc
              cases he
              obtain ⟨hl, hc⟩ := hc
              subst hl
              have hq : ∀ t : State, t.heap = H → s.WarmedH t.vm → sw_Q D cI cZ cQ cS ad (some x) h args s (.returned (some (.int x))) t := fun t ht _ => ⟨rfl, by rw [ht]; exact hP, hS.F ht⟩
              rcases hc with hc | ⟨hc, hx01⟩
              · refine W.zret (ty := .int) hx hb (by rw [hr, sw_rt, hc] <;> rfl) rfl hq hS.2.2 hdg
              · refine W.zret (ty := .boolean) hx hb (by rw [hr, sw_rt, hc] <;> rfl) (by rcases hx01 with rfl | rfl <;> decide) hq hS.2.2 hdg
            · cases he
          · cases he
        · split at he
          · split at he
            · rename_i hc
              cases he
              obtain ⟨hl, hc⟩ := hc
              subst hl
              have hq : ∀ t : State, t.heap = H → s.WarmedH t.vm → sw_Q D cI cZ cQ cS ad none h args s (.returned none) t := fun t ht _ => ⟨rfl, by rw [ht]; exact hP, hS.F ht⟩
              exact W.vret hx hb (by rw [hr, sw_rt, hc] <;> rfl) hq hS.2.2 hdg
            · cases he
          · cases he
        · cases he
      | none =>
        simp only [he] at hrun
        cases hc : ah_call mi i len st with
        | some q =>
          obtain ⟨y, as, rest⟩ := q
          simp only [hc] at hrun
          cases h1 : ah_run n y 0 (ah_entry y as) [] h with
          | none => simp only [h1] at hrun; cases hrun
          | some q1 =>
            obtain ⟨r1, h1'⟩ := q1
            simp only [h1] at hrun
            have X0 := X
            obtain ⟨hx, hb, hr, hml, hown, hts, hK, hlk⟩ := X
            unfold ah_call at hc
            split at hc
            -- virtual
            · rename_i idx
              split at hc
              · rename_i y' hy'
                split at hc
                · rename_i k nr hrec
                  split at hc
                  · rename_i hh
                    obtain ⟨hl, -, hy92, hstc, hcls, hf1, hl1, hrest, hnL⟩ := hh
                    cases hc
                    subst hl
                    obtain ⟨v1, v2, v3, v4, v5, v6, v7⟩ := ck_mthV _ (sw_mthM hy') hstc
                    obtain ⟨n1, n2, n3, n4, n5⟩ := ck_name y hy92
                    have hlt : sm_n.getD y 0 < st.length := (List.getElem?_eq_some_iff.mp hrec).1
                    have hsplit : st = st.take (sm_n.getD y 0) ++ (.inr (k, nr) :: st.drop (sm_n.getD y 0 + 1)) := by
                      have e1 : st[sm_n.getD y 0] = .inr (k, nr) := (List.getElem?_eq_some_iff.mp hrec).2
                      rw [← e1, List.getElem_cons_drop, List.take_append_drop]
                    have hrev : (st.take (sm_n.getD y 0 + 1)).reverse = .inr (k, nr) :: (st.take (sm_n.getD y 0)).reverse := by
                      rw [List.take_add_one, hrec]
                      simp
                    have hokas : ∀ v ∈ (st.take (sm_n.getD y 0 + 1)).reverse, sw_ok v := fun v hv => hst v (List.mem_of_mem_take (List.mem_reverse.mp hv))
                    have hM := sw_toMet ih l hy92 hokas (by rw [List.length_reverse, List.length_take]; omega) h1
                    have hq : (k, nr) ∈ ck_wl := hst (.inr (k, nr)) (List.mem_of_getElem? hrec)
                    obtain ⟨q0, -, hp⟩ := sw_place (cI := cI) (cZ := cZ) (cQ := cQ) (cS := cS) (ad := ad) (h := h) hq
                    rw [sw_eC (q := (k, nr)) hcls] at hp
                    have hlenAs : (((st.take (sm_n.getD y 0)).reverse).map (sw_conc ad)).length = sm_n.getD y 0 := by
                      rw [List.length_map, List.length_reverse, List.length_take]; omega
                    refine sw_after (fun _ z => z) (va_runV (As := ((st.take (sm_n.getD y 0)).reverse).map (sw_conc ad)) (rest := (st.drop (sm_n.getD y 0 + 1)).map (sw_conc ad)) (b := ad k nr) (C := (sm_cl.getD (sm_own.getD y 9) (RX0, TX0, 4)).1) ⟨hx, hb, hml, hown, hts⟩ hM
                      (cwV (sm_n.getD y 0) hts (sw_good (fun w h => h) (fun w hw => ?_)) rfl rfl rfl ⟨v3, n3, n4, n5⟩ ⟨Nat.le_trans hf1 hfr, Nat.le_trans hl1 hlo⟩)
                      ⟨sw_blind, va_recv hK hP (sw_cl_at _ v2) hp, fun U hU hW => ⟨by rw [hrev]; rfl, by rw [hU]; exact hP, va_K.moved hW.alike hK⟩⟩ rfl hlenAs hLS.1 ?_ (lv_room (by rw [sw_cats]; exact hrest)) hdg ⟨Nat.zero_le _, Nat.zero_le _⟩) hS (fun H1 locs1 hP1 hS1 _ _ => ?_)
                    · unfold wsV at hw
                      rcases List.mem_append.mp hw with hw | hw
                      · simp only [List.mem_cons, List.not_mem_nil, or_false] at hw
                        rcases hw with rfl | rfl | rfl | rfl
                        · exact v4
                        · exact v5
                        · exact v6
                        · exact v7
                      · exact sw_wd_in hy92 w hw
                    · show st.map (sw_conc ad) = _
                      conv => lhs; rw [hsplit]
                      simp [sw_conc]
                    · have := ih mi (pc + 3) ls _ h1' r h' hrun hmi p l e R s m args below meth c H1 locs1 LS X0 hfr hlo ?_ hok hlen hLS hP1 hS1
                      · refine W.eq ?_ this
                        cases r1 <;> simp [sw_conc]
                      · intro v hv
                        rcases List.mem_append.mp hv with hv | hv
                        · obtain ⟨z, -, rfl⟩ := List.mem_map.mp hv
                          trivial
                        · exact hst v (List.mem_of_mem_drop hv)
                  · cases hc
                · cases hc
              · cases hc
            -- static
            · rename_i idx
              split at hc
              · rename_i y' hy'
                split at hc
                · rename_i hh
                  obtain ⟨hl, -, hy92, hstc, hle, hf1, hl1, hrest, hnL⟩ := hh
                  cases hc
                  subst hl
                  obtain ⟨v1, v2, v3, v4⟩ := ck_mthS _ (sw_mthM hy') hstc
                  obtain ⟨n1, n2, n3, n4, n5⟩ := ck_name y hy92
                  have hokas : ∀ v ∈ (st.take (sm_n.getD y 0)).reverse, sw_ok v := fun v hv => hst v (List.mem_of_mem_take (List.mem_reverse.mp hv))
                  have hM := sw_toMet ih l hy92 hokas (by rw [List.length_reverse, List.length_take]; omega) h1
                  have hlenAs : (((st.take (sm_n.getD y 0)).reverse).map (sw_conc ad)).length = sm_n.getD y 0 := by
                    rw [List.length_map, List.length_reverse, List.length_take]; omega
                  refine sw_after (fun _ z => z) (va_runS (As := ((st.take (sm_n.getD y 0)).reverse).map (sw_conc ad)) (rest := (st.drop (sm_n.getD y 0)).map (sw_conc ad)) ⟨hx, hb, hml, hown, hts⟩ hM
                    (va_cwS (sm_n.getD y 0) hts (sw_good (fun w h => h) (fun w hw => ?_)) rfl rfl rfl ⟨n3, n4, n5⟩ ⟨Nat.le_trans hf1 hfr, Nat.le_trans hl1 hlo⟩)
                    ⟨sw_blind, fun U hU hW => ⟨rfl, by rw [hU]; exact hP, va_K.moved hW.alike hK⟩⟩ rfl hlenAs hLS.1 ?_ (lv_room (by rw [sw_cats]; exact hrest)) hdg ⟨Nat.zero_le _, Nat.zero_le _⟩) hS (fun H1 locs1 hP1 hS1 _ _ => ?_)
                  · unfold va_wsS at hw
                    rcases List.mem_append.mp hw with hw | hw
                    · simp only [List.mem_cons, List.not_mem_nil, or_false] at hw
                      rcases hw with rfl | rfl | rfl
                      · exact v2
                      · exact v3
                      · exact v4
                    · exact sw_wd_in hy92 w hw
                  · show st.map (sw_conc ad) = _
                    conv => lhs; rw [← List.take_append_drop (sm_n.getD y 0) st]
                    simp
                  · have := ih mi (pc + 3) ls _ h1' r h' hrun hmi p l e R s m args below meth c H1 locs1 LS X0 hfr hlo ?_ hok hlen hLS hP1 hS1
                    · refine W.eq ?_ this
                      cases r1 <;> simp [sw_conc]
                    · intro v hv
                      rcases List.mem_append.mp hv with hv | hv
                      · obtain ⟨z, -, rfl⟩ := List.mem_map.mp hv
                        trivial
                      · exact hst v (List.mem_of_mem_drop hv)
                · cases hc
              · cases hc
            · cases hc
        | none =>
          simp only [hc] at hrun
          cases hs : ah_step mi i len pc ls st h with
          | none => simp only [hs] at hrun; cases hrun
          | some q =>
            obtain ⟨pc', ls', st', h2⟩ := q
            simp only [hs] at hrun
            refine sw_step X hinj hdg hst hok hlen hLS hP hS hs ?_
            intro H' locs' LS' a1 a2 a3 a4 a5 a6
            exact ih mi pc' ls' st' h2 r h' hrun hmi p l e R s m args below meth c H' locs' LS' X hfr hlo a4 a5 a6 a3 a1 a2
/-- a method's contract out of the small machine's run -/
theorem sw_met {D : va_G} {cI cZ cQ cS : ClassId} {ad : Nat → Nat → Nat} (hinj : sw_inj ad) (l : Launch) {n y : Nat} {as : List AV} {h h' : AHp} {r : Option Int32} (hy : y < 92) (hok : ∀ v ∈ as, sw_ok v) (hlen : as.length ≤ sm_L.getD y 0) (hrun : ah_run n y 0 (ah_entry y as) [] h = some (r, h')) : sw_Met D cI cZ cQ cS ad l y as h r h' := sw_toMet (sw_sim D cI cZ cQ cS ad hinj n) l hy hok hlen hrun
