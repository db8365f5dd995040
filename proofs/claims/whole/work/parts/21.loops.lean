/-! ===== loops that read ===== -/
theorem it0 {V : Nat → Prop} (n : Nat) (step : ∀ i, i < n → (V i ↔ V (i + 1))) : V 0 ↔ V n := by
  have : ∀ k, k ≤ n → (V 0 ↔ V k) := by
    intro k
    induction k with
    | zero => intro _; exact Iff.rfl
    | succ k ih => intro hk; exact (ih (by omega)).trans (step k (by omega))
  exact this n (Nat.le_refl n)
theorem it1 {τ : Type} {V : Nat → τ → Prop} (n : Nat) (step : ∀ i t, i < n → ∃ t', (V i t ↔ V (i + 1) t')) (t : τ) : ∃ t', (V 0 t ↔ V n t') := by
  have : ∀ k, k ≤ n → ∃ t', (V 0 t ↔ V k t') := by
    intro k
    induction k with
    | zero => intro _; exact ⟨t, Iff.rfl⟩
    | succ k ih =>
      intro hk
      obtain ⟨t1, e1⟩ := ih (by omega)
      obtain ⟨t2, e2⟩ := step k t1 (by omega)
      exact ⟨t2, e1.trans e2⟩
  exact this n (Nat.le_refl n)
/-- the facts of a counter -/
theorem lx {i N M : Nat} (hi : i < N) (hN : N ≤ M) (hM : M ≤ 10000) : ¬ nI N ≤ nI i ∧ vp_in (nI i) M ∧ (nI i).toNatClampNeg = i ∧ nI i + 1 = nI (i + 1) := ⟨nI_ge hi (by omega), vp_in_nI (by omega) (by omega), nI_clamp (by omega), nI_1 i⟩
theorem lxe (N : Nat) : nI N ≤ nI N := Int32.le_refl _
def oI : Option Nat → Int32 | none => -1 | some n => nI n
theorem oI_none : oI none = -1 := rfl
theorem oI_some (n : Nat) : oI (some n) = nI n := rfl
theorem nI_m1 {n : Nat} (h : n < 2 ^ 31) : ¬ nI n = -1 := by
  intro e
  have := congrArg Int32.toInt e
  rw [nI_toInt h] at this
  have h2 : (-1 : Int32).toInt = -1 := by decide
  omega
theorem oI_m1 {o : Option Nat} (h : ∀ n, o = some n → n < 2 ^ 31) : oI o = -1 ↔ o = none := by
  cases o with
  | none => simp [oI]
  | some n => simp [oI, nI_m1 (h n rfl)]
def sp_unw (pc us : Nat → Int32) (w p : Int32) : Nat → Nat
  | 0 => 0
  | n + 1 => sp_unw pc us w p n + if pc n = p ∧ us n < w then 1 else 0
def sp_cop (pc : Nat → Int32) (p : Int32) : Nat → Nat
  | 0 => 0
  | n + 1 => sp_cop pc p n + if pc n = p then 1 else 0
def sp_fre (pc us hd : Nat → Int32) (w p : Int32) (q : Nat) : Prop := pc q = p ∧ hd q = -1 ∧ us q < w
def sp_lus (pc us hd : Nat → Int32) (w p : Int32) : Nat → Option Nat
  | 0 => none
  | n + 1 => match sp_lus pc us hd w p n with
    | none => if pc n = p ∧ hd n = -1 ∧ us n < w then some n else none
    | some b => if (pc n = p ∧ hd n = -1 ∧ us n < w) ∧ us n < us b then some n else some b
theorem sp_lus_ok {pc us hd : Nat → Int32} {w p : Int32} : ∀ {n b : Nat}, sp_lus pc us hd w p n = some b → b < n ∧ sp_fre pc us hd w p b
  | 0, b, h => by simp [sp_lus] at h
  | n + 1, b, h => by
    rw [sp_lus] at h
    cases e : sp_lus pc us hd w p n with
    | none =>
      rw [e] at h
      simp only at h
      split at h
      · rename_i c; cases h; exact ⟨by omega, c⟩
      · cases h
    | some b' =>
      rw [e] at h
      simp only at h
      have ih := sp_lus_ok e
      split at h
      · rename_i c; cases h; exact ⟨by omega, c.1⟩
      · cases h; exact ⟨by omega, ih.2⟩
def sp_cnt (p : Nat → Bool) : Nat → Nat
  | 0 => 0
  | n + 1 => sp_cnt p n + if p n = true then 1 else 0
theorem sp_cnt_le (p : Nat → Bool) : ∀ n, sp_cnt p n ≤ n
  | 0 => Nat.le_refl _
  | n + 1 => by have := sp_cnt_le p n; rw [sp_cnt]; split <;> omega
section LP
variable (h : AHp) (q s n N : Nat) (x y z : Int32) (K : Int32 → AHp → Prop) (J : AHp → Prop)
theorem c_X2_unworn (hN : h 0 n 3 = nI N) (h20 : N ≤ 20) : Vi 31 h [some (.inr (0, n)), some (.inl x), none, none] K ↔ K (nI (sp_unw (fun q => h 3 q 0) (fun q => h 3 q 2) (h 0 n 7) x N)) h := by
  rw [Vi]
  simp only [xr_31_0, xr_31_1, xr_31_2, xr_31_3]
  refine Iff.trans (it0 (V := fun i => VV 31 h 4 [some (.inr (0, n)), some (.inl x), some (.inl (nI (sp_unw (fun q => h 3 q 0) (fun q => h 3 q 2) (h 0 n 7) x i))), some (.inl (nI i))] [] (fun r h' => ∃ x, r = some x ∧ K x h')) N ?_) ?_
  · intro i hi
    obtain ⟨f1, f2, f3, f4⟩ := lx hi h20 (by omega)
    rw [xr_31_4]
    simp only [xr_31_0, xr_31_1, xr_31_2, xr_31_3, xr_31_5, xr_31_6, xr_31_9, xr_31_12, xr_31_13, xr_31_16, xr_31_17_1, xr_31_17_2, xr_31_18, xr_31_21, xr_31_22, xr_31_25, xr_31_26, xr_31_27, xr_31_30, xr_31_31_1, xr_31_31_2, xr_31_32, xr_31_35, xr_31_38, xr_31_41, xr_31_44, xr_31_47, xr_31_48, hN, f1, f2, f3, f4, c_X2_isWorn, b01_z, true_and, not_false_iff, true_imp_iff, false_imp_iff, sp_unw]
    by_cases a : h 3 i 0 = x <;> rcases i32_c (h 3 i 2) (h 0 n 7) with ⟨b1, b2⟩ | ⟨b1, b2⟩ <;> simp [a, b1, b2, nI_1]
  · rw [xr_31_4]
    simp only [xr_31_0, xr_31_1, xr_31_2, xr_31_3, xr_31_5, xr_31_6, xr_31_9, xr_31_12, xr_31_13, xr_31_16, xr_31_17_1, xr_31_17_2, xr_31_18, xr_31_21, xr_31_22, xr_31_25, xr_31_26, xr_31_27, xr_31_30, xr_31_31_1, xr_31_31_2, xr_31_32, xr_31_35, xr_31_38, xr_31_41, xr_31_44, xr_31_47, xr_31_48, hN, lxe, not_true, false_imp_iff, true_imp_iff, and_true, ex_some]
theorem c_X2_quiresOf (hN : h 0 n 3 = nI N) (h20 : N ≤ 20) : Vi 42 h [some (.inr (0, n)), some (.inl x), none, none] K ↔ K (nI (sp_cop (fun q => h 3 q 0) x N)) h := by
  rw [Vi]
  simp only [xr_42_0, xr_42_1, xr_42_2, xr_42_3]
  refine Iff.trans (it0 (V := fun i => VV 42 h 4 [some (.inr (0, n)), some (.inl x), some (.inl (nI (sp_cop (fun q => h 3 q 0) x i))), some (.inl (nI i))] [] (fun r h' => ∃ x, r = some x ∧ K x h')) N ?_) ?_
  · intro i hi
    obtain ⟨f1, f2, f3, f4⟩ := lx hi h20 (by omega)
    rw [xr_42_4]
    simp only [xr_42_0, xr_42_1, xr_42_2, xr_42_3, xr_42_5, xr_42_6, xr_42_9, xr_42_12, xr_42_13, xr_42_16, xr_42_17_1, xr_42_17_2, xr_42_18, xr_42_21, xr_42_22, xr_42_25, xr_42_28, xr_42_31, xr_42_34, xr_42_35, hN, f1, f2, f3, f4, true_and, not_false_iff, true_imp_iff, false_imp_iff, sp_cop]
    by_cases a : h 3 i 0 = x <;> simp [a, nI_1]
  · rw [xr_42_4]
    simp only [xr_42_0, xr_42_1, xr_42_2, xr_42_3, xr_42_5, xr_42_6, xr_42_9, xr_42_12, xr_42_13, xr_42_16, xr_42_17_1, xr_42_17_2, xr_42_18, xr_42_21, xr_42_22, xr_42_25, xr_42_28, xr_42_31, xr_42_34, xr_42_35, hN, lxe, not_true, false_imp_iff, true_imp_iff, and_true, ex_some]
theorem c_X2_endedBooks (hN : h 0 n 4 = nI N) (h8 : N ≤ 8) : Vi 37 h [some (.inr (0, n)), none, none] K ↔ K (nI (sp_cnt (fun s => decide (h 0 n 2 ≤ h 4 s 6)) N)) h := by
  rw [Vi]
  simp only [xr_37_0, xr_37_1, xr_37_2, xr_37_3]
  refine Iff.trans (it0 (V := fun i => VV 37 h 4 [some (.inr (0, n)), some (.inl (nI (sp_cnt (fun s => decide (h 0 n 2 ≤ h 4 s 6)) i))), some (.inl (nI i))] [] (fun r h' => ∃ x, r = some x ∧ K x h')) N ?_) ?_
  · intro i hi
    obtain ⟨f1, f2, f3, f4⟩ := lx hi h8 (by omega)
    rw [xr_37_4]
    simp only [xr_37_0, xr_37_1, xr_37_2, xr_37_3, xr_37_5, xr_37_6, xr_37_9, xr_37_12, xr_37_13, xr_37_14, xr_37_17, xr_37_18_1, xr_37_18_2, xr_37_19, xr_37_22, xr_37_25, xr_37_28, xr_37_31, xr_37_34, xr_37_35, hN, f1, f2, f3, f4, c_X2_hasEnded, b01_z, true_and, not_false_iff, true_imp_iff, false_imp_iff, sp_cnt]
    by_cases a : h 0 n 2 ≤ h 4 i 6 <;> simp [a, nI_1]
  · rw [xr_37_4]
    simp only [xr_37_0, xr_37_1, xr_37_2, xr_37_3, xr_37_5, xr_37_6, xr_37_9, xr_37_12, xr_37_13, xr_37_14, xr_37_17, xr_37_18_1, xr_37_18_2, xr_37_19, xr_37_22, xr_37_25, xr_37_28, xr_37_31, xr_37_34, xr_37_35, hN, lxe, not_true, false_imp_iff, true_imp_iff, and_true, ex_some]
theorem c_X2_allEnded (hN : h 0 n 4 = nI N) (h8 : N ≤ 8) : Vi 38 h [some (.inr (0, n))] K ↔ K (b01 (sp_cnt (fun s => decide (h 0 n 2 ≤ h 4 s 6)) N = N)) h := by
  rw [Vi]
  have hle := sp_cnt_le (fun s => decide (h 0 n 2 ≤ h 4 s 6)) N
  have e : nI (sp_cnt (fun s => decide (h 0 n 2 ≤ h 4 s 6)) N) = nI N ↔ sp_cnt (fun s => decide (h 0 n 2 ≤ h 4 s 6)) N = N := nI_eq (by omega) (by omega)
  simp only [xr_38_0, xr_38_1, xr_38_4, xr_38_5, xr_38_8, xr_38_11, xr_38_12, xr_38_15, xr_38_16, c_X2_endedBooks h n N _ hN h8, hN, ex_some, z_or, o_or, true_and, e]
  by_cases a : sp_cnt (fun s => decide (h 0 n 2 ≤ h 4 s 6)) N = N <;> simp [a, b01]
theorem c_X2_least (hN : h 0 n 3 = nI N) (h20 : N ≤ 20) : Vi 30 h [some (.inr (0, n)), some (.inl x), none, none, none] K ↔ K (oI (sp_lus (fun q => h 3 q 0) (fun q => h 3 q 2) (fun q => h 3 q 3) (h 0 n 7) x N)) h := by
  rw [Vi]
  simp only [xr_30_0, xr_30_1, xr_30_2, xr_30_3]
  obtain ⟨t', e⟩ := it1 (V := fun i t => VV 30 h 4 [some (.inr (0, n)), some (.inl x), some (.inl (oI (sp_lus (fun q => h 3 q 0) (fun q => h 3 q 2) (fun q => h 3 q 3) (h 0 n 7) x i))), some (.inl (nI i)), t] [] (fun r h' => ∃ x, r = some x ∧ K x h')) N (by
    intro i t hi
    obtain ⟨f1, f2, f3, f4⟩ := lx hi h20 (by omega)
    rw [xr_30_4]
    simp only [xr_30_0, xr_30_1, xr_30_2, xr_30_3, xr_30_5, xr_30_6, xr_30_9, xr_30_12, xr_30_13, xr_30_16, xr_30_17_1, xr_30_17_2, xr_30_18, xr_30_21, xr_30_22, xr_30_25, xr_30_26, xr_30_29, xr_30_30_1, xr_30_30_2, xr_30_31, xr_30_34, xr_30_37, xr_30_38, xr_30_39, xr_30_42, xr_30_43_1, xr_30_43_2, xr_30_44, xr_30_47, xr_30_50, xr_30_51, xr_30_54, xr_30_55, xr_30_57, xr_30_59, xr_30_62, xr_30_63, xr_30_64, xr_30_67, xr_30_68, xr_30_71, xr_30_72_1, xr_30_72_2, xr_30_73, xr_30_76, xr_30_77, xr_30_80, xr_30_81_1, xr_30_81_2, xr_30_82, xr_30_85, xr_30_88, xr_30_89, xr_30_90, xr_30_93, xr_30_96, xr_30_97, hN, f1, f2, f3, f4, c_X2_isWorn, c_X0_isOnShelf, b01_z, true_and, not_false_iff, true_imp_iff, false_imp_iff, sp_lus]
    cases eb : sp_lus (fun q => h 3 q 0) (fun q => h 3 q 2) (fun q => h 3 q 3) (h 0 n 7) x i with
    | none =>
      by_cases a : h 3 i 0 = x <;> by_cases b : h 3 i 3 = -1 <;> rcases i32_c (h 3 i 2) (h 0 n 7) with ⟨b1, b2⟩ | ⟨b1, b2⟩
      · exact ⟨some (.inl 1), by simp [a, b, b1, b2, oI]⟩
      all_goals exact ⟨some (.inl 0), by simp [a, b, b1, b2, oI]⟩
    | some b' =>
      obtain ⟨g1, g2⟩ := sp_lus_ok eb
      have g3 : vp_in (nI b') 20 := vp_in_nI (by omega) (by omega)
      have g4 : (nI b').toNatClampNeg = b' := nI_clamp (by omega)
      have g5 : ¬ nI b' = -1 := nI_m1 (by omega)
      by_cases a : h 3 i 0 = x <;> by_cases b : h 3 i 3 = -1 <;> rcases i32_c (h 3 i 2) (h 0 n 7) with ⟨b1, b2⟩ | ⟨b1, b2⟩
      · refine ⟨some (.inl 1), ?_⟩
        rcases i32_c (h 3 i 2) (h 3 b' 2) with ⟨d1, d2⟩ | ⟨d1, d2⟩ <;> simp [a, b, b1, b2, oI, g3, g4, g5, d1, d2]
      all_goals exact ⟨some (.inl 0), by simp [a, b, b1, b2, oI, g5]⟩) none
  refine Iff.trans e ?_
  rw [xr_30_4]
  simp only [xr_30_0, xr_30_1, xr_30_2, xr_30_3, xr_30_5, xr_30_6, xr_30_9, xr_30_12, xr_30_13, xr_30_16, xr_30_17_1, xr_30_17_2, xr_30_18, xr_30_21, xr_30_22, xr_30_25, xr_30_26, xr_30_29, xr_30_30_1, xr_30_30_2, xr_30_31, xr_30_34, xr_30_37, xr_30_38, xr_30_39, xr_30_42, xr_30_43_1, xr_30_43_2, xr_30_44, xr_30_47, xr_30_50, xr_30_51, xr_30_54, xr_30_55, xr_30_57, xr_30_59, xr_30_62, xr_30_63, xr_30_64, xr_30_67, xr_30_68, xr_30_71, xr_30_72_1, xr_30_72_2, xr_30_73, xr_30_76, xr_30_77, xr_30_80, xr_30_81_1, xr_30_81_2, xr_30_82, xr_30_85, xr_30_88, xr_30_89, xr_30_90, xr_30_93, xr_30_96, xr_30_97, hN, lxe, not_true, false_imp_iff, true_imp_iff, and_true, ex_some]
end LP
