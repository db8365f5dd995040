/-! ===== a step of the small machine is a step of the machine ===== -/
/-- what holds throughout a method's body -/
def sw_C (D : va_G) (cI cZ cQ cS : ClassId) (p : Program) (s : State) (m : MethodId) (args : Array Value) (meth : Method) (c : Code) (mi : Nat) : Prop :=
  p.tables.exec = Jvm.exec ∧ c.code = sm_c.getD mi ⟨#[]⟩ ∧ meth.sig.returnType = sw_rt mi ∧ c.maxLocals = sm_L.getD mi 0 ∧ s.vm.findClass (sm_R (sm_own.getD mi 9)) = some m.cls ∧ (∀ w ∈ sm_W, w.before args s = true) ∧ va_K D sm_cl (sw_tys cI cZ cQ cS) s ∧ meth.locks = false
theorem sw_ucls {ws : List Cond} (h : ∀ w ∈ sm_W, w ∈ ws) : ∀ c, c < 4 → ∀ w ∈ u_ws (sm_cl.getD c (RX0, TX0, 4)).1 (sm_cl.getD c (RX0, TX0, 4)).2.1 (sm_cl.getD c (RX0, TX0, 4)).2.2, w ∈ ws := by
  intro c hc
  match c, hc with
  | 0, _ => exact fun w hw => h w (ck_x0 w hw)
  | 1, _ => exact fun w hw => h w (ck_x1 w hw)
  | 2, _ => exact fun w hw => h w (ck_x2 w hw)
  | 3, _ => exact fun w hw => h w (ck_x3 w hw)
def sw_ty (c : Nat) : Nat → FieldType := match c with | 0 => tyX0 | 1 => tyX1 | 2 => tyX2 | _ => tyX3
theorem sw_ty_ok : ∀ c, c < 4 → ∀ k, k < (sm_cl.getD c (RX0, TX0, 4)).2.2 → parseFieldDescriptor ((sm_cl.getD c (RX0, TX0, 4)).2.1 k).2.2.1 = some (sw_ty c k) := by
  intro c hc
  match c, hc with
  | 0, _ => exact tyX0_ok
  | 1, _ => exact tyX1_ok
  | 2, _ => exact tyX2_ok
  | 3, _ => exact tyX3_ok
theorem sw_nm : ∀ c, c < 4 → ∀ a, a < (sm_cl.getD c (RX0, TX0, 4)).2.2 → ∀ b, b < (sm_cl.getD c (RX0, TX0, 4)).2.2 → a ≠ b → ((sm_cl.getD c (RX0, TX0, 4)).2.1 a).2.1 ≠ ((sm_cl.getD c (RX0, TX0, 4)).2.1 b).2.1 := by
  intro c hc
  match c, hc with
  | 0, _ => exact nmX0
  | 1, _ => exact nmX1
  | 2, _ => exact nmX2
  | 3, _ => exact nmX3
theorem sw_cl_at : ∀ c, c < 4 → sm_cl[c]? = some (sm_cl.getD c (RX0, TX0, 4)) := by
  intro c hc
  match c, hc with
  | 0, _ => rfl
  | 1, _ => rfl
  | 2, _ => rfl
  | 3, _ => rfl
theorem sw_nf : ∀ c, c < 4 → (sm_cl.getD c (RX0, TX0, 4)).2.2 = ah_nf c := by decide +kernel
theorem sw_int : ∀ c, c < 4 → ∀ j, j < ah_nf c → ah_tgt c j = 0 → sw_ty c j = .int ∧ ((sm_cl.getD c (RX0, TX0, 4)).2.1 j).2.2.2 = false := by decide +kernel
theorem sw_fldM {o idx c j : Nat} (h : ah_fld o idx = some (c, j)) : (o, idx, c, j) ∈ sm_fld := by
  unfold ah_fld at h
  cases hf : sm_fld.find? (fun q => q.1 == o && q.2.1 == idx) with
  | none => rw [hf] at h; cases h
  | some q =>
    rw [hf] at h
    have h1 := List.mem_of_find?_eq_some hf
    have h2 := List.find?_some hf
    simp at h2
    obtain ⟨a, b, c', d⟩ := q
    cases h
    obtain ⟨rfl, rfl⟩ := h2
    exact h1
theorem sw_cstM {o idx : Nat} {v : Int32} (h : ah_cst o idx = some v) : (o, idx, v) ∈ sm_cst := by
  unfold ah_cst at h
  cases hf : sm_cst.find? (fun q => q.1 == o && q.2.1 == idx) with
  | none => rw [hf] at h; cases h
  | some q =>
    rw [hf] at h
    have h1 := List.mem_of_find?_eq_some hf
    have h2 := List.find?_some hf
    simp at h2
    obtain ⟨a, b, c'⟩ := q
    cases h
    obtain ⟨rfl, rfl⟩ := h2
    exact h1
theorem sw_mthM {o idx y : Nat} (h : ah_mth o idx = some y) : (o, idx, y) ∈ sm_mth := by
  unfold ah_mth at h
  cases hf : sm_mth.find? (fun q => q.1 == o && q.2.1 == idx) with
  | none => rw [hf] at h; cases h
  | some q =>
    rw [hf] at h
    have h1 := List.mem_of_find?_eq_some hf
    have h2 := List.find?_some hf
    simp at h2
    obtain ⟨a, b, c'⟩ := q
    cases h
    obtain ⟨rfl, rfl⟩ := h2
    exact h1
theorem sw_jmp {pc : Nat} {off : Int} (h : ah_jok pc off = true) : (pc : Int) + off = (ah_jmp pc off : Int) := by
  unfold ah_jok at h
  unfold ah_jmp
  have := of_decide_eq_true h
  omega
section SST
variable {D : va_G} {cI cZ cQ cS : ClassId} {ad : Nat → Nat → Nat} {p : Program} {l : Launch} {e : Env} {R : Room} {s : State} {m : MethodId} {args : Array Value} {below : List Frame} {meth : Method} {c : Code} {H : Heap} {locs : List Loc} {Q : State → Prop} {mi pc pc' len : Nat} {i : Instr} {ls ls' : List (Option AV)} {st st' : List AV} {h h' : AHp} {LS : Array Slot}
/-- the goals behind a step -/
def sw_K (D : va_G) (cI cZ cQ cS : ClassId) (ad : Nat → Nat → Nat) (p : Program) (l : Launch) (e : Env) (R : Room) (s : State) (m : MethodId) (args : Array Value) (below : List Frame) (meth : Method) (c : Code) (Q : State → Prop) (mi : Nat) (q : AF) : Prop :=
  ∀ (H' : Heap) (locs' : List Loc) (LS' : Array Slot), va_P D sm_cl (sw_ws cI cZ cQ cS ad q.2.2.2) H' → va_S (sw_A ad) s.heap H' locs' → lv_has LS' (sm_L.getD mi 0) (sw_lv ad q.2.1) → (∀ v ∈ q.2.2.1, sw_ok v) → (∀ v, some v ∈ q.2.1 → sw_ok v) → q.2.1.length = sm_L.getD mi 0 → W p l e R s m args below meth c H' locs' 0 0 Q (F0 m q.1 LS' (q.2.2.1.map (sw_conc ad)))
theorem sw_load {n len : Nat} {ref : Bool} (hok : ∀ v, some v ∈ ls → sw_ok v) (hst : ∀ v ∈ st, sw_ok v) (hLS : lv_has LS (sm_L.getD mi 0) (sw_lv ad ls)) (hlen : ls.length = sm_L.getD mi 0) (hP : va_P D sm_cl (sw_ws cI cZ cQ cS ad h) H) (hS : va_S (sw_A ad) s.heap H locs) {q : AF} (hs : ah_load n len pc ls st h ref = some q) (kk : sw_K D cI cZ cQ cS ad p l e R s m args below meth c Q mi q) :
    ∃ v, LS[n]? = some (.val (sw_conc ad v)) ∧ v.isRight = ref ∧ W p l e R s m args below meth c H locs 0 0 Q (F0 m (pc + len) LS (sw_conc ad v :: st.map (sw_conc ad))) := by
  unfold ah_load at hs
  split at hs
  · rename_i v hv
    split at hs
    · rename_i hr
      cases hs
      refine ⟨v, sw_lv_at hLS hv, hr, ?_⟩
      refine kk H locs LS hP hS hLS ?_ hok hlen
      intro w hw
      rcases List.mem_cons.mp hw with rfl | hw
      · exact hok _ (List.mem_of_getElem? hv)
      · exact hst w hw
    · cases hs
  · cases hs
theorem sw_store {n len : Nat} {ref : Bool} (hok : ∀ v, some v ∈ ls → sw_ok v) (hst : ∀ v ∈ st, sw_ok v) (hlen : ls.length = sm_L.getD mi 0) (hP : va_P D sm_cl (sw_ws cI cZ cQ cS ad h) H) (hS : va_S (sw_A ad) s.heap H locs) {q : AF} (hs : ah_store n len pc ls st h ref = some q) (kk : sw_K D cI cZ cQ cS ad p l e R s m args below meth c Q mi q) :
    ∃ v st1, st = v :: st1 ∧ v.isRight = ref ∧ n < sm_L.getD mi 0 ∧ ∀ LS', lv_has LS' (sm_L.getD mi 0) ((n, sw_conc ad v) :: (sw_lv ad ls).filter (fun q => !(q.1 == n) && !(q.1 + 1 == n && q.2.category == 2))) → W p l e R s m args below meth c H locs 0 0 Q (F0 m (pc + len) LS' (st1.map (sw_conc ad))) := by
  unfold ah_store at hs
  split at hs
  · rename_i v st1
    split at hs
    · rename_i hr
      cases hs
      refine ⟨v, st1, rfl, hr.2, by rw [← hlen]; exact hr.1, fun LS' h' => ?_⟩
      refine kk H locs LS' hP hS (sw_lv_set h') (fun w hw => hst w (List.mem_cons_of_mem _ hw)) ?_ (by show (ls.set n (some v)).length = _; rw [List.length_set]; exact hlen)
      intro w hw
      rcases List.mem_or_eq_of_mem_set hw with h1 | h1
      · exact hok w h1
      · cases h1; exact hst _ List.mem_cons_self
    · cases hs
  · cases hs
theorem sw_bin {len : Nat} {f : Int32 → Int32 → Int32} (hok : ∀ v, some v ∈ ls → sw_ok v) (hst : ∀ v ∈ st, sw_ok v) (hLS : lv_has LS (sm_L.getD mi 0) (sw_lv ad ls)) (hlen : ls.length = sm_L.getD mi 0) (hP : va_P D sm_cl (sw_ws cI cZ cQ cS ad h) H) (hS : va_S (sw_A ad) s.heap H locs) {q : AF} (hs : ah_bin len pc ls st h f = some q) (kk : sw_K D cI cZ cQ cS ad p l e R s m args below meth c Q mi q) :
    ∃ x y st1, st = .inl y :: .inl x :: st1 ∧ W p l e R s m args below meth c H locs 0 0 Q (F0 m (pc + len) LS (.int (f x y) :: st1.map (sw_conc ad))) := by
  unfold ah_bin at hs
  split at hs
  · rename_i y x st1
    cases hs
    refine ⟨x, y, st1, rfl, kk H locs LS hP hS hLS ?_ hok hlen⟩
    intro w hw
    rcases List.mem_cons.mp hw with rfl | hw
    · trivial
    · exact hst w (by simp [hw])
  · cases hs
set_option maxHeartbeats 4000000 in
theorem sw_step (X : sw_C D cI cZ cQ cS p s m args meth c mi) (hinj : sw_inj ad) (hdg : decode (sm_c.getD mi ⟨#[]⟩) pc = .ok (i, len)) (hst : ∀ v ∈ st, sw_ok v) (hok : ∀ v, some v ∈ ls → sw_ok v) (hlen : ls.length = sm_L.getD mi 0) (hLS : lv_has LS (sm_L.getD mi 0) (sw_lv ad ls)) (hP : va_P D sm_cl (sw_ws cI cZ cQ cS ad h) H) (hS : va_S (sw_A ad) s.heap H locs)
    {q : AF} (hs : ah_step mi i len pc ls st h = some q) (kk : sw_K D cI cZ cQ cS ad p l e R s m args below meth c Q mi q) : W p l e R s m args below meth c H locs 0 0 Q (F0 m pc LS (st.map (sw_conc ad))) := by
  obtain ⟨hx, hb, hr, hml, hown, hts, hK, hlk⟩ := X
  have hu := sw_ucls (ws := sm_W) (fun w h => h)
  have push : ∀ (v : AV) (st1 : List AV), (∀ w ∈ st1, w ∈ st) → sw_ok v → ∀ w ∈ v :: st1, sw_ok w := by
    intro v st1 hsub hv w hw
    rcases List.mem_cons.mp hw with rfl | hw
    · exact hv
    · exact hst w (hsub w hw)
  unfold ah_step at hs
  split at hs
  -- iconst
  · split at hs
    · rename_i hl; subst hl; cases hs
      exact lv_iconst hx hb hdg rfl (kk H locs LS hP hS hLS (push _ _ (fun w h => h) trivial) hok hlen)
    · cases hs
  · split at hs
    · rename_i hl; subst hl; cases hs
      exact lv_bipush hx hb hdg rfl (kk H locs LS hP hS hLS (push _ _ (fun w h => h) trivial) hok hlen)
    · cases hs
  · split at hs
    · rename_i hl; subst hl; cases hs
      exact lv_sipush hx hb hdg rfl (kk H locs LS hP hS hLS (push _ _ (fun w h => h) trivial) hok hlen)
    · cases hs
  -- ldc
  · split at hs
    · rename_i v hv
      split at hs
      · rename_i hl; subst hl; cases hs
        exact lv_ldc hx hb hown (hts _ (ck_cst _ (sw_cstM hv))) hdg (kk H locs LS hP hS hLS (push _ _ (fun w h => h) trivial) hok hlen)
      · cases hs
    · cases hs
  · split at hs
    · rename_i v hv
      split at hs
      · rename_i hl; subst hl; cases hs
        exact lv_ldcw hx hb hown (hts _ (ck_cst _ (sw_cstM hv))) hdg (kk H locs LS hP hS hLS (push _ _ (fun w h => h) trivial) hok hlen)
      · cases hs
    · cases hs
  -- loads
  · split at hs
    · rename_i hl; subst hl
      obtain ⟨v, h1, h2, h3⟩ := sw_load hok hst hLS hlen hP hS hs kk
      cases v with
      | inl x => exact lv_iload_n hx hb hdg rfl h1 h3
      | inr x => cases h2
    · cases hs
  · split at hs
    · rename_i hl; subst hl
      obtain ⟨v, h1, h2, h3⟩ := sw_load hok hst hLS hlen hP hS hs kk
      cases v with
      | inl x => exact lv_iload hx hb hdg h1 h3
      | inr x => cases h2
    · cases hs
  · split at hs
    · rename_i hl; subst hl
      obtain ⟨v, h1, h2, h3⟩ := sw_load hok hst hLS hlen hP hS hs kk
      cases v with
      | inl x => cases h2
      | inr x => exact lv_aload_n hx hb hdg rfl h1 h3
    · cases hs
  · split at hs
    · rename_i hl; subst hl
      obtain ⟨v, h1, h2, h3⟩ := sw_load hok hst hLS hlen hP hS hs kk
      cases v with
      | inl x => cases h2
      | inr x => exact lv_aload hx hb hdg h1 h3
    · cases hs
  -- stores
  · split at hs
    · rename_i hl; subst hl
      obtain ⟨v, st1, rfl, h2, h3, h4⟩ := sw_store hok hst hlen hP hS hs kk
      cases v with
      | inl x => exact lv_istore_n hx hb hdg rfl hLS h3 rfl h4
      | inr x => cases h2
    · cases hs
  · split at hs
    · rename_i hl; subst hl
      obtain ⟨v, st1, rfl, h2, h3, h4⟩ := sw_store hok hst hlen hP hS hs kk
      cases v with
      | inl x => exact lv_istore hx hb hdg hLS h3 rfl h4
      | inr x => cases h2
    · cases hs
  · split at hs
    · rename_i hl; subst hl
      obtain ⟨v, st1, rfl, h2, h3, h4⟩ := sw_store hok hst hlen hP hS hs kk
      cases v with
      | inl x => cases h2
      | inr x => exact lv_astore_n hx hb hdg rfl hLS h3 rfl h4
    · cases hs
  · split at hs
    · rename_i hl; subst hl
      obtain ⟨v, st1, rfl, h2, h3, h4⟩ := sw_store hok hst hlen hP hS hs kk
      cases v with
      | inl x => cases h2
      | inr x => exact lv_astore hx hb hdg hLS h3 rfl h4
    · cases hs
  -- iinc
  · split at hs
    · rename_i n k _ x hv
      split at hs
      · rename_i hl; subst hl; cases hs
        obtain ⟨kp, hkp⟩ := List.getElem?_of_mem (sw_lv_mem (ad := ad) (ls := ls) (q := (n, .int x)).mpr ⟨_, hv, rfl⟩)
        have hn : n < sm_L.getD mi 0 := by rw [← hlen]; exact (List.getElem?_eq_some_iff.mp hv).1
        refine lv_iinc hx hb hdg hLS hkp rfl hn rfl (fun LS' h' => ?_)
        refine kk H locs LS' hP hS (sw_lv_set (v := .inl (x + Int32.ofInt k)) h') hst ?_ (by show (ls.set n _).length = _; rw [List.length_set]; exact hlen)
        intro w hw
        rcases List.mem_or_eq_of_mem_set hw with h1 | h1
        · exact hok w h1
        · cases h1; trivial
      · cases hs
    · cases hs
  -- arithmetic
  · split at hs
    · rename_i hl; subst hl
      obtain ⟨x, y, st1, rfl, h3⟩ := sw_bin hok hst hLS hlen hP hS hs kk
      exact lv_iadd hx hb hdg h3
    · cases hs
  · split at hs
    · rename_i hl; subst hl
      obtain ⟨x, y, st1, rfl, h3⟩ := sw_bin hok hst hLS hlen hP hS hs kk
      exact lv_isub hx hb hdg h3
    · cases hs
  · split at hs
    · rename_i hl; subst hl
      obtain ⟨x, y, st1, rfl, h3⟩ := sw_bin hok hst hLS hlen hP hS hs kk
      exact lv_imul hx hb hdg h3
    · cases hs
  · split at hs
    · rename_i hl; subst hl
      obtain ⟨x, y, st1, rfl, h3⟩ := sw_bin hok hst hLS hlen hP hS hs kk
      exact lv_iand hx hb hdg h3
    · cases hs
  · split at hs
    · rename_i hl; subst hl
      obtain ⟨x, y, st1, rfl, h3⟩ := sw_bin hok hst hLS hlen hP hS hs kk
      exact lv_ixor hx hb hdg h3
    · cases hs
  · split at hs
    · rename_i hl; subst hl
      obtain ⟨x, y, st1, rfl, h3⟩ := sw_bin hok hst hLS hlen hP hS hs kk
      exact lv_ishr hx hb hdg h3
    · cases hs
  · split at hs
    · rename_i hl; subst hl
      obtain ⟨x, y, st1, rfl, h3⟩ := sw_bin hok hst hLS hlen hP hS hs kk
      exact lv_iushr hx hb hdg rfl h3
    · cases hs
  · split at hs
    · split at hs
      · rename_i hl
        obtain ⟨hl, hne⟩ := hl
        subst hl
        obtain ⟨x, y, st1, e1, h3⟩ := sw_bin hok hst hLS hlen hP hS hs kk
        cases e1
        exact lv_idiv hx hb hdg hne h3
      · cases hs
    · cases hs
  -- dup
  · split at hs
    · rename_i v st1
      split at hs
      · rename_i hl; subst hl; cases hs
        exact lv_dup hx hb hdg (sw_cat ad v) (kk H locs LS hP hS hLS (push _ _ (fun w h => h) (hst v List.mem_cons_self)) hok hlen)
      · cases hs
    · cases hs
  · split at hs
    · rename_i v w st1
      split at hs
      · rename_i hl; subst hl; cases hs
        refine lv_dup2_11 hx hb hdg (sw_cat ad v) (sw_cat ad w) (kk H locs LS hP hS hLS ?_ hok hlen)
        intro z hz
        simp only [List.mem_cons] at hz
        refine hst z ?_
        simp only [List.mem_cons]
        rcases hz with h | h | h | h | h <;> simp [h]
      · cases hs
    · cases hs
  -- goto
  · split at hs
    · rename_i hl
      obtain ⟨hl, hj⟩ := hl
      subst hl; cases hs
      exact lv_goto hx hb hdg (sw_jmp hj) (kk H locs LS hP hS hLS hst hok hlen)
    · cases hs
  -- ifCond
  · rename_i co off
    split at hs
    · rename_i x st1
      have hst1 : ∀ v ∈ st1, sw_ok v := fun v hv => hst v (List.mem_cons_of_mem _ hv)
      split at hs
      · rename_i hl
        obtain ⟨hl, hj⟩ := hl
        subst hl
        have kt : ah_cmp co x 0 = true → W p l e R s m args below meth c H locs 0 0 Q (F0 m (ah_jmp pc off) LS (st1.map (sw_conc ad))) := by
          intro hc; rw [if_pos hc] at hs; cases hs
          exact kk H locs LS hP hS hLS hst1 hok hlen
        have kf : ¬ ah_cmp co x 0 = true → W p l e R s m args below meth c H locs 0 0 Q (F0 m (pc + 3) LS (st1.map (sw_conc ad))) := by
          intro hc; rw [if_neg hc] at hs; cases hs
          exact kk H locs LS hP hS hLS hst1 hok hlen
        cases co with
        | eq => exact lv_if_eq hx hb hdg (sw_jmp hj) (fun z => kt (decide_eq_true z)) (fun z => kf (fun y => z (of_decide_eq_true y)))
        | ne => exact lv_if_ne hx hb hdg (sw_jmp hj) (fun z => kt (decide_eq_true z)) (fun z => kf (fun y => (of_decide_eq_true y) z))
        | lt => exact lv_if_lt hx hb hdg (sw_jmp hj) (fun z => kt (decide_eq_true z)) (fun z => kf (fun y => z (of_decide_eq_true y)))
        | ge => exact lv_if_ge hx hb hdg (sw_jmp hj) (fun z => kt (decide_eq_true z)) (fun z => kf (fun y => z (of_decide_eq_true y)))
        | gt => exact lv_if_gt hx hb hdg (sw_jmp hj) (fun z => kt (decide_eq_true z)) (fun z => kf (fun y => z (of_decide_eq_true y)))
        | le => exact lv_if_le hx hb hdg (sw_jmp hj) (fun z => kt (decide_eq_true z)) (fun z => kf (fun y => z (of_decide_eq_true y)))
      · cases hs
    · cases hs
  -- if_icmp
  · rename_i co off
    split at hs
    · rename_i y x st1
      have hst1 : ∀ v ∈ st1, sw_ok v := fun v hv => hst v (List.mem_cons_of_mem _ (List.mem_cons_of_mem _ hv))
      split at hs
      · rename_i hl
        obtain ⟨hl, hj⟩ := hl
        subst hl
        have kt : ah_cmp co x y = true → W p l e R s m args below meth c H locs 0 0 Q (F0 m (ah_jmp pc off) LS (st1.map (sw_conc ad))) := by
          intro hc; rw [if_pos hc] at hs; cases hs
          exact kk H locs LS hP hS hLS hst1 hok hlen
        have kf : ¬ ah_cmp co x y = true → W p l e R s m args below meth c H locs 0 0 Q (F0 m (pc + 3) LS (st1.map (sw_conc ad))) := by
          intro hc; rw [if_neg hc] at hs; cases hs
          exact kk H locs LS hP hS hLS hst1 hok hlen
        cases co with
        | eq => exact lv_icmp_eq hx hb hdg (sw_jmp hj) (fun z => kt (decide_eq_true z)) (fun z => kf (fun y => z (of_decide_eq_true y)))
        | ne => exact lv_icmp_ne hx hb hdg (sw_jmp hj) (fun z => kt (decide_eq_true z)) (fun z => kf (fun y => (of_decide_eq_true y) z))
        | lt => exact lv_icmp_lt hx hb hdg (sw_jmp hj) (fun z => kt (decide_eq_true z)) (fun z => kf (fun y => z (of_decide_eq_true y)))
        | ge => exact lv_icmp_ge hx hb hdg (sw_jmp hj) (fun z => kt (decide_eq_true z)) (fun z => kf (fun y => z (of_decide_eq_true y)))
        | gt => exact lv_icmp_gt hx hb hdg (sw_jmp hj) (fun z => kt (decide_eq_true z)) (fun z => kf (fun y => z (of_decide_eq_true y)))
        | le => exact lv_icmp_le hx hb hdg (sw_jmp hj) (fun z => kt (decide_eq_true z)) (fun z => kf (fun y => z (of_decide_eq_true y)))
      · cases hs
    · cases hs
  -- tableswitch
  · split at hs
    · rename_i x st1
      have hst1 : ∀ v ∈ st1, sw_ok v := fun v hv => hst v (List.mem_cons_of_mem _ hv)
      split at hs
      · rename_i ho
        split at hs
        · rename_i hj
          cases hs
          exact lv_tableOut hx hb hdg ho (sw_jmp hj) (kk H locs LS hP hS hLS hst1 hok hlen)
        · cases hs
      · rename_i ho
        split at hs
        · rename_i off hoff
          split at hs
          · rename_i hj
            cases hs
            exact lv_tableIn hx hb hdg (fun z => ho (Or.inl z)) (fun z => ho (Or.inr z)) hoff (sw_jmp hj) (kk H locs LS hP hS hLS hst1 hok hlen)
          · cases hs
        · cases hs
    · cases hs
  -- getfield
  · split at hs
    · rename_i k n st1
      have hst1 : ∀ v ∈ st1, sw_ok v := fun v hv => hst v (List.mem_cons_of_mem _ hv)
      have hq : (k, n) ∈ ck_wl := hst (.inr (k, n)) List.mem_cons_self
      split at hs
      · rename_i cn j hf
        split at hs
        · rename_i hl
          obtain ⟨hl, hcl, hj⟩ := hl
          subst hl; cases hs
          obtain ⟨w1, w2, w3, w4⟩ := ck_fld _ (sw_fldM hf)
          obtain ⟨q0, -, hp⟩ := sw_place (cI := cI) (cZ := cZ) (cQ := cQ) (cS := cS) (ad := ad) (h := h) hq
          rw [sw_eC (q := (k, n)) hcl] at hp
          refine va_get (ci := cn) hx hb hts (hu cn w3) hown hK hP q0 hp (sw_cl_at cn w3) j (by rw [sw_nf cn w3]; exact hj) (hts _ w1) (fun _ h9 => by rw [← w2]; exact h9) (sw_fs_get hj) hdg ?_
          have hk2 : ∀ w ∈ (if ah_tgt cn j = 0 then (.inl (h k n j) : AV) else .inr (ah_tgt cn j, n)) :: st1, sw_ok w := by
            intro w hw
            rcases List.mem_cons.mp hw with rfl | hw
            · split
              · trivial
              · rename_i ht
                have := ck_tgt (k, n) hq j (by have := hj; have h22 : ah_nf cn ≤ 22 := (by unfold ah_nf; split <;> decide); omega)
                rw [hcl] at this
                simp [ht] at this
                exact this
            · exact hst1 w hw
          have := kk H locs LS hP hS hLS hk2 hok hlen
          refine W.eq ?_ this
          congr 1
          show _ = sw_conc ad _ :: _
          split <;> rfl
        · cases hs
      · cases hs
    · cases hs
  -- putfield
  · split at hs
    · rename_i v k n st1
      have hst1 : ∀ v ∈ st1, sw_ok v := fun v hv => hst v (List.mem_cons_of_mem _ (List.mem_cons_of_mem _ hv))
      have hq : (k, n) ∈ ck_wl := hst (.inr (k, n)) (List.mem_cons_of_mem _ List.mem_cons_self)
      split at hs
      · rename_i cn j hf
        split at hs
        · rename_i hl
          obtain ⟨hl, hcl, hj, ht⟩ := hl
          subst hl; cases hs
          obtain ⟨w1, w2, w3, w4⟩ := ck_fld _ (sw_fldM hf)
          obtain ⟨q0, hq0, hp⟩ := sw_place (cI := cI) (cZ := cZ) (cQ := cQ) (cS := cS) (ad := ad) (h := h) hq
          rw [sw_eC (q := (k, n)) hcl] at hp
          obtain ⟨i1, i2⟩ := sw_int cn w3 j hj ht
          refine va_put (ci := cn) (ty := .int) hx hb hts (hu cn w3) (sw_ty cn) (sw_ty_ok cn w3) (sw_nm cn w3) hown hK hP (sw_D hinj) hS q0 hp (sw_cl_at cn w3) j (by rw [sw_nf cn w3]; exact hj) (hts _ w1) (fun _ h9 => by rw [← w2]; exact h9) i2 (by rw [sw_ty_ok cn w3 j (by rw [sw_nf cn w3]; exact hj), i1]) rfl rfl (by rw [sw_fs_len]; exact hj) hdg (fun H1 locs1 hP1 _ hS1 => ?_)
          have hP1 : va_P D sm_cl ((sw_ws cI cZ cQ cS ad h).set q0 (ad k n, .inr (cn, (sw_fs ad h (k, n) cn).set j (.int v)))) H1 := hP1
          rw [sw_fs_set (q := (k, n)) hj ht, ← sw_eC (cI := cI) (cZ := cZ) (cQ := cQ) (cS := cS) (q := (k, n)) hcl] at hP1
          rw [sw_set (q := (k, n)) hq0] at hP1
          exact kk H1 locs1 LS hP1 hS1 hLS hst1 hok hlen
        · cases hs
      · cases hs
    · cases hs
  -- iaload
  · split at hs
    · rename_i x k n st1
      have hq : (k, n) ∈ ck_wl := hst (.inr (k, n)) (List.mem_cons_of_mem _ List.mem_cons_self)
      split at hs
      · rename_i N hN
        split at hs
        · rename_i hl
          obtain ⟨hl, hin⟩ := hl
          subst hl; cases hs
          obtain ⟨q0, hq0, hp⟩ := sw_place (cI := cI) (cZ := cZ) (cQ := cQ) (cS := cS) (ad := ad) (h := h) hq
          rw [sw_eI hq hN] at hp
          exact va_iald hx hb hK hP q0 0 hp rfl hin hdg (kk H locs LS hP hS hLS (push _ _ (fun w h => by simp [h]) trivial) hok hlen)
        · cases hs
      · cases hs
    · cases hs
  -- baload
  · split at hs
    · rename_i x k n st1
      have hq : (k, n) ∈ ck_wl := hst (.inr (k, n)) (List.mem_cons_of_mem _ List.mem_cons_self)
      split at hs
      · rename_i N hN
        split at hs
        · rename_i hl
          obtain ⟨hl, hin⟩ := hl
          subst hl; cases hs
          obtain ⟨q0, hq0, hp⟩ := sw_place (cI := cI) (cZ := cZ) (cQ := cQ) (cS := cS) (ad := ad) (h := h) hq
          rw [sw_eZ hq hN] at hp
          exact va_zald hx hb hK hP q0 1 hp rfl hin hdg (kk H locs LS hP hS hLS (push _ _ (fun w h => by simp [h]) trivial) hok hlen)
        · cases hs
      · cases hs
    · cases hs
  -- aaload
  · split at hs
    · rename_i x k n st1
      have hq : (k, n) ∈ ck_wl := hst (.inr (k, n)) (List.mem_cons_of_mem _ List.mem_cons_self)
      split at hs
      · rename_i N kt hN
        split at hs
        · rename_i hl
          obtain ⟨hl, hin⟩ := hl
          subst hl; cases hs
          obtain ⟨q0, hq0, hp⟩ := sw_place (cI := cI) (cZ := cZ) (cQ := cQ) (cS := cS) (ad := ad) (h := h) hq
          rw [sw_eR hq hN] at hp
          have hlt : x.toNatClampNeg < N := Nat.not_le.mp fun q => hin (Or.inr q)
          have hk : (k = 1 ∧ N = 20 ∧ kt = 3) ∨ (k = 2 ∧ N = 8 ∧ kt = 4) := by
            unfold ah_rlen at hN
            split at hN
            · cases hN; simp
            · cases hN; simp
            · cases hN
          have hin2 : (kt, x.toNatClampNeg) ∈ ck_wl := by
            rcases hk with ⟨-, rfl, rfl⟩ | ⟨-, rfl, rfl⟩
            · exact ck_q _ hlt
            · exact ck_s _ hlt
          have kk2 := kk H locs LS hP hS hLS (push _ _ (fun w h => by simp [h]) hin2) hok hlen
          rcases hk with ⟨-, rfl, rfl⟩ | ⟨-, rfl, rfl⟩
          · exact va_aldq (C := RX0) hx hb hK hP q0 2 hp rfl hin hdg kk2
          · exact va_aldq (C := RX1) hx hb hK hP q0 3 hp rfl hin hdg kk2
        · cases hs
      · cases hs
    · cases hs
  -- iastore
  · split at hs
    · rename_i v x k n st1
      have hq : (k, n) ∈ ck_wl := hst (.inr (k, n)) (by simp)
      have hst1 : ∀ v ∈ st1, sw_ok v := fun v hv => hst v (by simp [hv])
      split at hs
      · rename_i N hN
        split at hs
        · rename_i hl
          obtain ⟨hl, hin⟩ := hl
          subst hl; cases hs
          obtain ⟨q0, hq0, hp⟩ := sw_place (cI := cI) (cZ := cZ) (cQ := cQ) (cS := cS) (ad := ad) (h := h) hq
          rw [sw_eI hq hN] at hp
          refine va_iast hx hb hK hP (sw_D hinj) hS q0 0 hp rfl hin hdg (fun H1 locs1 hP1 _ hS1 => ?_)
          rw [sw_arr_set (q := (k, n)), ← sw_eI (cI := cI) (cZ := cZ) (cQ := cQ) (cS := cS) (ad := ad) hq hN] at hP1
          rw [sw_set (q := (k, n)) hq0] at hP1
          exact kk H1 locs1 LS hP1 hS1 hLS hst1 hok hlen
        · cases hs
      · cases hs
    · cases hs
  -- bastore
  · split at hs
    · rename_i v x k n st1
      have hq : (k, n) ∈ ck_wl := hst (.inr (k, n)) (by simp)
      have hst1 : ∀ v ∈ st1, sw_ok v := fun v hv => hst v (by simp [hv])
      split at hs
      · rename_i N hN
        split at hs
        · rename_i hl
          obtain ⟨hl, hin, hv⟩ := hl
          subst hl; cases hs
          have hnar : vp_nar .boolean v = v := by rcases hv with rfl | rfl <;> decide
          obtain ⟨q0, hq0, hp⟩ := sw_place (cI := cI) (cZ := cZ) (cQ := cQ) (cS := cS) (ad := ad) (h := h) hq
          rw [sw_eZ hq hN] at hp
          refine va_zast hx hb hK hP (sw_D hinj) hS q0 1 hp rfl hin hdg (fun H1 locs1 hP1 _ hS1 => ?_)
          rw [hnar, sw_arr_set (q := (k, n)), ← sw_eZ (cI := cI) (cZ := cZ) (cQ := cQ) (cS := cS) (ad := ad) hq hN] at hP1
          rw [sw_set (q := (k, n)) hq0] at hP1
          exact kk H1 locs1 LS hP1 hS1 hLS hst1 hok hlen
        · cases hs
      · cases hs
    · cases hs
  -- arraylength
  · split at hs
    · rename_i k n st1
      have hq : (k, n) ∈ ck_wl := hst (.inr (k, n)) List.mem_cons_self
      split at hs
      · rename_i N hN
        split at hs
        · rename_i hl
          subst hl; cases hs
          obtain ⟨q0, hq0, hp⟩ := sw_place (cI := cI) (cZ := cZ) (cQ := cQ) (cS := cS) (ad := ad) (h := h) hq
          rw [sw_eI hq hN] at hp
          exact va_alen hx hb hK hP q0 0 hp rfl rfl hdg (kk H locs LS hP hS hLS (push _ _ (fun w h => by simp [h]) trivial) hok hlen)
        · cases hs
      · cases hs
    · cases hs
  · cases hs
end SST
