/-! ===== rules of the small machine for the x rows ===== -/
theorem VV_br {mi pc tgt : Nat} {co : Jvm.ClassFile.Cond} {off : Int} {h : AHp} {ls : List (Option AV)} {st : List AV} {x : Int32} {P : Prop} {Q : Option Int32 → AHp → Prop} (hi : ah_ins mi pc = some (.ifCond co off, 3)) (hj : ah_jok pc off = true) (ht : ah_jmp pc off = tgt) (hP : ah_cmp co x 0 = true ↔ P) : VV mi h pc ls (.inl x :: st) Q ↔ (P → VV mi h tgt ls st Q) ∧ (¬ P → VV mi h (pc + 3) ls st Q) := by
  subst ht
  by_cases hp : P
  · have hs : ah_step mi (.ifCond co off) 3 pc ls (.inl x :: st) h = some (ah_jmp pc off, ls, st, h) := by
      simp only [ah_step, hj, and_self, if_true, if_pos (hP.mpr hp)]
    rw [VV_step hi rfl rfl hs]
    exact ⟨fun v => ⟨fun _ => v, fun n => absurd hp n⟩, fun v => v.1 hp⟩
  · have hs : ah_step mi (.ifCond co off) 3 pc ls (.inl x :: st) h = some (pc + 3, ls, st, h) := by
      simp only [ah_step, hj, and_self, if_true, if_neg (fun z => hp (hP.mp z))]
    rw [VV_step hi rfl rfl hs]
    exact ⟨fun v => ⟨fun n => absurd n hp, fun _ => v⟩, fun v => v.2 hp⟩
theorem VV_br2 {mi pc tgt : Nat} {co : Jvm.ClassFile.Cond} {off : Int} {h : AHp} {ls : List (Option AV)} {st : List AV} {x y : Int32} {P : Prop} {Q : Option Int32 → AHp → Prop} (hi : ah_ins mi pc = some (.if_icmp co off, 3)) (hj : ah_jok pc off = true) (ht : ah_jmp pc off = tgt) (hP : ah_cmp co x y = true ↔ P) : VV mi h pc ls (.inl y :: .inl x :: st) Q ↔ (P → VV mi h tgt ls st Q) ∧ (¬ P → VV mi h (pc + 3) ls st Q) := by
  subst ht
  by_cases hp : P
  · have hs : ah_step mi (.if_icmp co off) 3 pc ls (.inl y :: .inl x :: st) h = some (ah_jmp pc off, ls, st, h) := by
      simp only [ah_step, hj, and_self, if_true, if_pos (hP.mpr hp)]
    rw [VV_step hi rfl rfl hs]
    exact ⟨fun v => ⟨fun _ => v, fun n => absurd hp n⟩, fun v => v.1 hp⟩
  · have hs : ah_step mi (.if_icmp co off) 3 pc ls (.inl y :: .inl x :: st) h = some (pc + 3, ls, st, h) := by
      simp only [ah_step, hj, and_self, if_true, if_neg (fun z => hp (hP.mp z))]
    rw [VV_step hi rfl rfl hs]
    exact ⟨fun v => ⟨fun n => absurd n hp, fun _ => v⟩, fun v => v.2 hp⟩
/-- an index into the int array of kind k, the boolean array, the array of references -/
def ix_i (k : Nat) (x : Int32) : Prop := match ah_ilen k with | some N => vp_in x N | none => False
def ix_z (k : Nat) (x : Int32) : Prop := match ah_zlen k with | some N => vp_in x N | none => False
def ix_r (k : Nat) (x : Int32) : Prop := match ah_rlen k with | some q => vp_in x q.1 | none => False
theorem VV_iald {mi pc k n : Nat} {h : AHp} {ls : List (Option AV)} {st : List AV} {x : Int32} {Q : Option Int32 → AHp → Prop} (hi : ah_ins mi pc = some (.iaload, 1)) : VV mi h pc ls (.inl x :: .inr (k, n) :: st) Q ↔ ix_i k x ∧ VV mi h (pc + 1) ls (.inl (h k n x.toNatClampNeg) :: st) Q := by
  unfold ix_i
  cases hN : ah_ilen k with
  | none => exact ⟨fun v => absurd v (VV_no hi rfl rfl (by simp only [ah_step, hN])), fun v => v.1.elim⟩
  | some N =>
    by_cases hv : vp_in x N
    · have hs : ah_step mi .iaload 1 pc ls (.inl x :: .inr (k, n) :: st) h = some (pc + 1, ls, .inl (h k n x.toNatClampNeg) :: st, h) := by
        simp only [ah_step, hN]; exact if_pos ⟨trivial, hv⟩
      rw [VV_step hi rfl rfl hs]
      exact ⟨fun v => ⟨hv, v⟩, fun v => v.2⟩
    · exact ⟨fun v => absurd v (VV_no hi rfl rfl (by simp only [ah_step, hN]; exact if_neg (fun z => hv z.2))), fun v => absurd v.1 hv⟩
theorem VV_bald {mi pc k n : Nat} {h : AHp} {ls : List (Option AV)} {st : List AV} {x : Int32} {Q : Option Int32 → AHp → Prop} (hi : ah_ins mi pc = some (.baload, 1)) : VV mi h pc ls (.inl x :: .inr (k, n) :: st) Q ↔ ix_z k x ∧ VV mi h (pc + 1) ls (.inl (h k n x.toNatClampNeg) :: st) Q := by
  unfold ix_z
  cases hN : ah_zlen k with
  | none => exact ⟨fun v => absurd v (VV_no hi rfl rfl (by simp only [ah_step, hN])), fun v => v.1.elim⟩
  | some N =>
    by_cases hv : vp_in x N
    · have hs : ah_step mi .baload 1 pc ls (.inl x :: .inr (k, n) :: st) h = some (pc + 1, ls, .inl (h k n x.toNatClampNeg) :: st, h) := by
        simp only [ah_step, hN]; exact if_pos ⟨trivial, hv⟩
      rw [VV_step hi rfl rfl hs]
      exact ⟨fun v => ⟨hv, v⟩, fun v => v.2⟩
    · exact ⟨fun v => absurd v (VV_no hi rfl rfl (by simp only [ah_step, hN]; exact if_neg (fun z => hv z.2))), fun v => absurd v.1 hv⟩
theorem VV_aald {mi pc k n kt N : Nat} {h : AHp} {ls : List (Option AV)} {st : List AV} {x : Int32} {Q : Option Int32 → AHp → Prop} (hi : ah_ins mi pc = some (.aaload, 1)) (hN : ah_rlen k = some (N, kt)) : VV mi h pc ls (.inl x :: .inr (k, n) :: st) Q ↔ vp_in x N ∧ VV mi h (pc + 1) ls (.inr (kt, x.toNatClampNeg) :: st) Q := by
  by_cases hv : vp_in x N
  · have hs : ah_step mi .aaload 1 pc ls (.inl x :: .inr (k, n) :: st) h = some (pc + 1, ls, .inr (kt, x.toNatClampNeg) :: st, h) := by
      simp only [ah_step, hN]; exact if_pos ⟨trivial, hv⟩
    rw [VV_step hi rfl rfl hs]
    exact ⟨fun v => ⟨hv, v⟩, fun v => v.2⟩
  · exact ⟨fun v => absurd v (VV_no hi rfl rfl (by simp only [ah_step, hN]; exact if_neg (fun z => hv z.2))), fun v => absurd v.1 hv⟩
theorem VV_iast {mi pc k n : Nat} {h : AHp} {ls : List (Option AV)} {st : List AV} {x y : Int32} {Q : Option Int32 → AHp → Prop} (hi : ah_ins mi pc = some (.iastore, 1)) : VV mi h pc ls (.inl y :: .inl x :: .inr (k, n) :: st) Q ↔ ix_i k x ∧ VV mi (ah_up h k n x.toNatClampNeg y) (pc + 1) ls st Q := by
  unfold ix_i
  cases hN : ah_ilen k with
  | none => exact ⟨fun v => absurd v (VV_no hi rfl rfl (by simp only [ah_step, hN])), fun v => v.1.elim⟩
  | some N =>
    by_cases hv : vp_in x N
    · have hs : ah_step mi .iastore 1 pc ls (.inl y :: .inl x :: .inr (k, n) :: st) h = some (pc + 1, ls, st, ah_up h k n x.toNatClampNeg y) := by
        simp only [ah_step, hN]; exact if_pos ⟨trivial, hv⟩
      rw [VV_step hi rfl rfl hs]
      exact ⟨fun v => ⟨hv, v⟩, fun v => v.2⟩
    · exact ⟨fun v => absurd v (VV_no hi rfl rfl (by simp only [ah_step, hN]; exact if_neg (fun z => hv z.2))), fun v => absurd v.1 hv⟩
theorem VV_bast {mi pc k n : Nat} {h : AHp} {ls : List (Option AV)} {st : List AV} {x y : Int32} {Q : Option Int32 → AHp → Prop} (hi : ah_ins mi pc = some (.bastore, 1)) : VV mi h pc ls (.inl y :: .inl x :: .inr (k, n) :: st) Q ↔ (ix_z k x ∧ (y = 0 ∨ y = 1)) ∧ VV mi (ah_up h k n x.toNatClampNeg y) (pc + 1) ls st Q := by
  unfold ix_z
  cases hN : ah_zlen k with
  | none => exact ⟨fun v => absurd v (VV_no hi rfl rfl (by simp only [ah_step, hN])), fun v => v.1.1.elim⟩
  | some N =>
    by_cases hv : vp_in x N ∧ (y = 0 ∨ y = 1)
    · have hs : ah_step mi .bastore 1 pc ls (.inl y :: .inl x :: .inr (k, n) :: st) h = some (pc + 1, ls, st, ah_up h k n x.toNatClampNeg y) := by
        simp only [ah_step, hN]; exact if_pos ⟨trivial, hv.1, hv.2⟩
      rw [VV_step hi rfl rfl hs]
      exact ⟨fun v => ⟨hv, v⟩, fun v => v.2⟩
    · exact ⟨fun v => absurd v (VV_no hi rfl rfl (by simp only [ah_step, hN]; exact if_neg (fun z => hv z.2))), fun v => absurd v.1 hv⟩
theorem VV_alen {mi pc k n : Nat} {h : AHp} {ls : List (Option AV)} {st : List AV} {Q : Option Int32 → AHp → Prop} {N : Nat} (hi : ah_ins mi pc = some (.arraylength, 1)) (hN : ah_ilen k = some N) : VV mi h pc ls (.inr (k, n) :: st) Q ↔ VV mi h (pc + 1) ls (.inl (nI N) :: st) Q := by
  have hs : ah_step mi .arraylength 1 pc ls (.inr (k, n) :: st) h = some (pc + 1, ls, .inl (nI N) :: st, h) := by
    simp only [ah_step, hN]; rfl
  rw [VV_step hi rfl rfl hs]
theorem VV_zret {mi pc : Nat} {h : AHp} {ls : List (Option AV)} {x : Int32} {Q : Option Int32 → AHp → Prop} (hi : ah_ins mi pc = some (.ireturn, 1)) (hr : sm_ret.getD mi 9 = 2) : VV mi h pc ls [.inl x] Q ↔ (x = 0 ∨ x = 1) ∧ Q (some x) h := by
  by_cases hv : x = 0 ∨ x = 1
  · have he : ah_end mi .ireturn 1 [.inl x] h = some (some x, h) := by
      simp only [ah_end]
      exact if_pos ⟨trivial, Or.inr ⟨hr, hv⟩⟩
    rw [VV_end hi he]
    exact ⟨fun v => ⟨hv, v⟩, fun v => v.2⟩
  · refine ⟨fun v => absurd v (VV_no hi ?_ rfl rfl), fun v => absurd v.1 hv⟩
    simp only [ah_end]
    refine if_neg (fun z => ?_)
    rcases z.2 with z | z
    · rw [hr] at z; cases z
    · exact hv z.2
theorem VV_idiv {mi pc : Nat} {h : AHp} {ls : List (Option AV)} {st : List AV} {x y : Int32} {Q : Option Int32 → AHp → Prop} (hi : ah_ins mi pc = some (.idiv, 1)) : VV mi h pc ls (.inl y :: .inl x :: st) Q ↔ ¬ y = 0 ∧ VV mi h (pc + 1) ls (.inl (x / y) :: st) Q := by
  by_cases hv : y = 0
  · exact ⟨fun v => absurd v (VV_no hi rfl rfl (by simp only [ah_step]; exact if_neg (fun z => z.2 hv))), fun v => absurd hv v.1⟩
  · have hs : ah_step mi .idiv 1 pc ls (.inl y :: .inl x :: st) h = some (pc + 1, ls, .inl (x / y) :: st, h) := by
      simp only [ah_step]; exact if_pos ⟨trivial, hv⟩
    rw [VV_step hi rfl rfl hs]
    exact ⟨fun v => ⟨hv, v⟩, fun v => v.2⟩
theorem VV_tsw {mi pc len : Nat} {d lo hh off : Int} {offs : Array Int} {h : AHp} {ls : List (Option AV)} {st : List AV} {x : Int32} {Q : Option Int32 → AHp → Prop} {tgt : Nat} (hi : ah_ins mi pc = some (.tableswitch d lo hh offs, len)) (hx : (if x.toInt < lo ∨ hh < x.toInt then some d else offs[(x.toInt - lo).toNat]?) = some off) (hj : ah_jok pc off = true) (ht : ah_jmp pc off = tgt) : VV mi h pc ls (.inl x :: st) Q ↔ VV mi h tgt ls st Q := by
  subst ht
  have hs : ah_step mi (.tableswitch d lo hh offs) len pc ls (.inl x :: st) h = some (ah_jmp pc off, ls, st, h) := by
    simp only [ah_step]
    by_cases ho : x.toInt < lo ∨ hh < x.toInt
    · rw [if_pos ho] at hx ⊢
      cases hx
      exact if_pos hj
    · rw [if_neg ho] at hx ⊢
      rw [hx]
      exact if_pos hj
  rw [VV_step hi rfl rfl hs]
theorem ix_i5 (x : Int32) : ix_i 5 x ↔ vp_in x 8 := Iff.rfl
theorem ix_i6 (x : Int32) : ix_i 6 x ↔ vp_in x 8 := Iff.rfl
theorem ix_i7 (x : Int32) : ix_i 7 x ↔ vp_in x 8 := Iff.rfl
theorem ix_i8 (x : Int32) : ix_i 8 x ↔ vp_in x 8 := Iff.rfl
theorem ix_i9 (x : Int32) : ix_i 9 x ↔ vp_in x 8 := Iff.rfl
theorem ix_i17 (x : Int32) : ix_i 17 x ↔ vp_in x 8 := Iff.rfl
theorem ix_i18 (x : Int32) : ix_i 18 x ↔ vp_in x 8 := Iff.rfl
theorem ix_i19 (x : Int32) : ix_i 19 x ↔ vp_in x 8 := Iff.rfl
theorem ix_i20 (x : Int32) : ix_i 20 x ↔ vp_in x 8 := Iff.rfl
theorem ix_i12 (x : Int32) : ix_i 12 x ↔ vp_in x 20 := Iff.rfl
theorem ix_i13 (x : Int32) : ix_i 13 x ↔ vp_in x 20 := Iff.rfl
theorem ix_i14 (x : Int32) : ix_i 14 x ↔ vp_in x 20 := Iff.rfl
theorem ix_i15 (x : Int32) : ix_i 15 x ↔ vp_in x 20 := Iff.rfl
theorem ix_i21 (x : Int32) : ix_i 21 x ↔ vp_in x 64 := Iff.rfl
theorem ix_i23 (x : Int32) : ix_i 23 x ↔ vp_in x 64 := Iff.rfl
theorem ix_i24 (x : Int32) : ix_i 24 x ↔ vp_in x 64 := Iff.rfl
theorem ix_i25 (x : Int32) : ix_i 25 x ↔ vp_in x 64 := Iff.rfl
theorem ix_i26 (x : Int32) : ix_i 26 x ↔ vp_in x 64 := Iff.rfl
theorem ix_z22 (x : Int32) : ix_z 22 x ↔ vp_in x 64 := Iff.rfl
