/-! ===== bound ===== -/
def sp_pa (a : AHp) (s : Nat) : Nat := (a 4 s 5).toNatClampNeg
def sp_hd (a : AHp) (s : Nat) : Nat := (a 4 s 11).toNatClampNeg
def sp_ct (P : Nat) (a : AHp) (s : Nat) : Nat := sp_cnt (fun p => decide (¬ a 7 s p = -1)) P
def sp_se (P D : Nat) (a : AHp) (s : Nat) : Nat := if sp_ct P a s = P then D else if a 4 s 8 = -1 then D + sp_pa a s * (P - sp_ct P a s) else sp_hd a s + sp_pa a s + sp_pa a s * (P - sp_ct P a s - 1)
def sp_b1 (P D : Nat) (a : AHp) : Nat → Nat
  | 0 => D
  | n + 1 => if sp_b1 P D a n < sp_se P D a n then sp_se P D a n else sp_b1 P D a n
def sp_bz (a : AHp) (p s : Nat) : Prop := ¬ a 4 s 8 = -1 ∧ a 4 s 9 = nI p
def sp_ws (D : Nat) (a : AHp) (p s : Nat) : Nat := if ¬ a 4 s 8 = -1 ∧ a 4 s 9 = nI p then sp_hd a s + sp_pa a s - D else if a 7 s p = -1 then sp_pa a s else 0
def sp_wk (D : Nat) (a : AHp) (p : Nat) : Nat → Nat
  | 0 => 0
  | n + 1 => sp_wk D a p n + sp_ws D a p n
def sp_cp (NQ : Nat) (a : AHp) (p : Nat) : Nat := sp_cop (fun q => a 3 q 0) (nI p) NQ
def sp_b3 (NQ NS D : Nat) (a : AHp) : Nat → Nat → Nat → Int32
  | 0, _, l => nI l
  | k + 1, p, l => if 0 < sp_cp NQ a p then sp_b3 NQ NS D a k (p + 1) (if l < D + (sp_wk D a p NS + sp_cp NQ a p - 1) / sp_cp NQ a p then D + (sp_wk D a p NS + sp_cp NQ a p - 1) / sp_cp NQ a p else l) else if 0 < sp_wk D a p NS then -1 else sp_b3 NQ NS D a k (p + 1) l
theorem sp_cop_le (pc : Nat → Int32) (p : Int32) : ∀ n, sp_cop pc p n ≤ n
  | 0 => Nat.le_refl _
  | n + 1 => by have := sp_cop_le pc p n; rw [sp_cop]; split <;> omega
theorem sp_cop_pos {pc : Nat → Int32} {p : Int32} {q : Nat} : ∀ {n : Nat}, q < n → pc q = p → 0 < sp_cop pc p n
  | 0, h, _ => by omega
  | n + 1, h, e => by
    rw [sp_cop]
    by_cases hq : q = n
    · subst hq; rw [if_pos e]; omega
    · have := sp_cop_pos (pc := pc) (p := p) (show q < n by omega) e; omega
section BD
variable {P NQ NS D : Nat} {a b : AHp} {s p : Nat}
/-- the numbers of one SCRIBE -/
theorem bd_s (c : cI P NQ NS D (fun _ => D) a) (hs : s < NS) : a 4 s 5 = nI (sp_pa a s) ∧ 1 ≤ sp_pa a s ∧ sp_pa a s ≤ 9 ∧ a 4 s 6 = nI (sp_ct P a s) ∧ sp_ct P a s ≤ P ∧ (¬ a 4 s 8 = -1 → a 4 s 11 = nI (sp_hd a s) ∧ sp_hd a s ≤ D ∧ D ≤ sp_hd a s + sp_pa a s ∧ sp_ct P a s < P ∧ ∃ q p, q < NQ ∧ p < P ∧ a 4 s 8 = nI q ∧ a 4 s 9 = nI p ∧ a 3 q 0 = nI p ∧ a 7 s p = -1) := by
  obtain ⟨⟨pa, pa1, pa2, pa3⟩, i2, -, -, -, i6⟩ := c.2.2 s hs
  have p5 := c.1.1.2.2.2.2
  have e1 : sp_pa a s = pa := by unfold sp_pa; rw [pa3]; exact nI_clamp (by omega)
  refine ⟨by rw [e1]; exact pa3, by omega, by omega, i2, sp_cnt_le _ _, fun hne => ?_⟩
  rcases i6 with i6 | ⟨q, p, er, d, pc, j1, j2, j3, j4, j5, j6, j7, j8, j9, j10, j11, j12, j13, j14⟩
  · exact absurd i6 hne
  · have e2 : sp_hd a s = d := by unfold sp_hd; rw [j8]; exact nI_clamp (by omega)
    have e3 : pc = pa := (nI_eq (by omega) (by omega)).mp (j9.symm.trans pa3)
    have j13' : D ≤ d + pc := j13
    refine ⟨by rw [e2]; exact j8, by omega, by omega, sp_cnt_lt j2 (by simp [j14]), q, p, j1, j2, j4, j5, j6, j14⟩
theorem bd_se (c : cI P NQ NS D (fun _ => D) a) (hs : s < NS) : sp_se P D a s ≤ 11000 ∧ D ≤ sp_se P D a s := by
  obtain ⟨-, h2, h3, -, h5, h6⟩ := bd_s c hs
  obtain ⟨⟨p1, p2, p3, p4, p5⟩, -⟩ := c.1
  unfold sp_se
  by_cases c1 : sp_ct P a s = P
  · rw [if_pos c1]; omega
  · rw [if_neg c1]
    have m1 : sp_pa a s * (P - sp_ct P a s) ≤ 9 * 8 := Nat.mul_le_mul h3 (by omega)
    have m2 : sp_pa a s * (P - sp_ct P a s - 1) ≤ 9 * 8 := Nat.mul_le_mul h3 (by omega)
    by_cases c2 : a 4 s 8 = -1
    · rw [if_pos c2]; omega
    · rw [if_neg c2]
      obtain ⟨-, k2, k3, -⟩ := h6 c2
      omega
theorem bd_b1 (c : cI P NQ NS D (fun _ => D) a) : ∀ n, n ≤ NS → sp_b1 P D a n ≤ 11000 ∧ D ≤ sp_b1 P D a n
  | 0, _ => by have := c.1.1.2.2.2.2; rw [sp_b1]; omega
  | n + 1, h => by
    have ih := bd_b1 c n (by omega)
    have := bd_se c (show n < NS by omega)
    rw [sp_b1]
    split <;> omega
theorem bd_ws (c : cI P NQ NS D (fun _ => D) a) (hs : s < NS) : sp_ws D a p s ≤ 9 := by
  obtain ⟨-, h2, h3, -, h5, h6⟩ := bd_s c hs
  unfold sp_ws
  by_cases c1 : ¬ a 4 s 8 = -1 ∧ a 4 s 9 = nI p
  · rw [if_pos c1]
    obtain ⟨-, k2, k3, -⟩ := h6 c1.1
    omega
  · rw [if_neg c1]; split <;> omega
theorem bd_wk (c : cI P NQ NS D (fun _ => D) a) (n : Nat) (hn : n ≤ NS) : sp_wk D a p n ≤ 9 * n := by
  induction n with
  | zero => exact Nat.le_refl _
  | succ n ih =>
    have h1 := ih (by omega)
    have h2 := bd_ws (p := p) c (show n < NS by omega)
    rw [sp_wk]; omega
theorem c_X2_soonest (c : cI P NQ NS D (fun _ => D) a) (hs : s < NS) (K : Int32 → AHp → Prop) : Vi 40 a [some (.inr (0, 0)), some (.inr (4, s)), none] K ↔ K (nI (sp_se P D a s)) a := by
  obtain ⟨⟨p1, p2, p3, p4, p5⟩, z2, z3, z4, z5, z6, z7⟩ := c.1
  obtain ⟨h1, h2, h3, h4, h5, h6⟩ := bd_s c hs
  have e1 : nI P - nI (sp_ct P a s) = nI (P - sp_ct P a s) := pk_sub h5
  have g0 : (0 : Int32) < nI (P - sp_ct P a s) ↔ 0 < P - sp_ct P a s := nI_ltI (a := 0) (by omega) (by omega)
  rw [Vi]
  simp only [xr_40_0, xr_40_1, xr_40_4, xr_40_5, xr_40_8, xr_40_9, xr_40_10, xr_40_11, xr_40_14, xr_40_15, xr_40_18, xr_40_19, xr_40_20, xr_40_23, xr_40_26, xr_40_27, xr_40_30, xr_40_31, xr_40_34, xr_40_35, xr_40_36, xr_40_37, xr_40_38, xr_40_39, xr_40_42, xr_40_43, xr_40_46, xr_40_47, xr_40_48, xr_40_49, xr_40_50, xr_40_51, c_X1_isIdle, c_X1_endDay, z2, z5, h1, h4, e1, g0, pk_mul, nI_add, b01_z, ex_some]
  unfold sp_se
  by_cases c1 : sp_ct P a s = P
  · have c1' : ¬ 0 < P - sp_ct P a s := by omega
    simp only [c1, if_true, not_true, not_false_iff, true_imp_iff, false_imp_iff, true_and, and_true, Nat.sub_self, Nat.lt_irrefl]
  · have c1' : 0 < P - sp_ct P a s := by omega
    by_cases c2 : a 4 s 8 = -1
    · simp only [c1, c1', c2, if_true, if_false, not_true, not_false_iff, true_imp_iff, false_imp_iff, true_and, and_true]
    · obtain ⟨k1, -⟩ := h6 c2
      have e2 : nI (P - sp_ct P a s) - 1 = nI (P - sp_ct P a s - 1) := pk_sub (b := 1) (by omega)
      simp only [c1, c1', c2, k1, e2, pk_mul, nI_add, if_false, not_true, not_false_iff, true_imp_iff, false_imp_iff, true_and, and_true]
theorem c_X2_workLeft (c : cI P NQ NS D (fun _ => D) a) (hp : p < P) (K : Int32 → AHp → Prop) : Vi 41 a [some (.inr (0, 0)), some (.inl (nI p)), none, none, none] K ↔ K (nI (sp_wk D a p NS)) a := by
  obtain ⟨⟨p1, p2, p3, p4, p5⟩, z2, z3, z4, z5, z6, z7⟩ := c.1
  have q1 : vp_in (nI p) 8 := vp_in_nI (by omega) (by omega)
  have q2 : (nI p).toNatClampNeg = p := nI_clamp (by omega)
  rw [Vi]
  simp only [xr_41_0, xr_41_1, xr_41_2, xr_41_3]
  obtain ⟨t', e⟩ := it1 (V := fun i t => VV 41 a 4 [some (.inr (0, 0)), some (.inl (nI p)), some (.inl (nI (sp_wk D a p i))), some (.inl (nI i)), t] [] (fun r h' => ∃ x, r = some x ∧ K x h')) NS (by
    intro i t hi
    obtain ⟨f1, f2, f3, f4⟩ := lx hi p4 (by omega)
    obtain ⟨h1, h2, h3, h4, h5, h6⟩ := bd_s c hi
    refine ⟨some (.inr (4, i)), ?_⟩
    rw [xr_41_4]
    by_cases c1 : ¬ a 4 i 8 = -1 ∧ a 4 i 9 = nI p
    · obtain ⟨k1, k2, k3, -⟩ := h6 c1.1
      have e2 : nI (sp_hd a i + sp_pa a i) - nI D = nI (sp_hd a i + sp_pa a i - D) := pk_sub (by omega)
      simp only [xr_41_0, xr_41_1, xr_41_2, xr_41_3, xr_41_5, xr_41_6, xr_41_9, xr_41_12, xr_41_13, xr_41_16, xr_41_17_1, xr_41_17_2, xr_41_18, xr_41_20, xr_41_22, xr_41_23, xr_41_26, xr_41_29, xr_41_30, xr_41_32, xr_41_35, xr_41_36, xr_41_39, xr_41_40, xr_41_41, xr_41_42, xr_41_45, xr_41_47, xr_41_48, xr_41_51, xr_41_54, xr_41_55, xr_41_57, xr_41_60, xr_41_61, xr_41_62, xr_41_65, xr_41_68, xr_41_69, z4, z5, f1, f2, f3, f4, c1, h1, k1, e2, nI_add, c_X1_isWriting, c_X1_endDay, b01_z, not_true, not_false_iff, true_imp_iff, false_imp_iff, true_and, and_true, and_self, sp_wk, sp_ws, if_true]
    · by_cases c2 : a 7 i p = -1
      · simp only [xr_41_0, xr_41_1, xr_41_2, xr_41_3, xr_41_5, xr_41_6, xr_41_9, xr_41_12, xr_41_13, xr_41_16, xr_41_17_1, xr_41_17_2, xr_41_18, xr_41_20, xr_41_22, xr_41_23, xr_41_26, xr_41_29, xr_41_30, xr_41_32, xr_41_35, xr_41_36, xr_41_39, xr_41_40, xr_41_41, xr_41_42, xr_41_45, xr_41_47, xr_41_48, xr_41_51, xr_41_54, xr_41_55, xr_41_57, xr_41_60, xr_41_61, xr_41_62, xr_41_65, xr_41_68, xr_41_69, z4, f1, f2, f3, f4, q1, q2, c1, c2, h1, nI_add, c_X1_isWriting, c_X1_has, b01_z, b01_n, not_true, not_false_iff, true_imp_iff, false_imp_iff, true_and, and_true, sp_wk, sp_ws, if_true, if_false]
      · simp only [xr_41_0, xr_41_1, xr_41_2, xr_41_3, xr_41_5, xr_41_6, xr_41_9, xr_41_12, xr_41_13, xr_41_16, xr_41_17_1, xr_41_17_2, xr_41_18, xr_41_20, xr_41_22, xr_41_23, xr_41_26, xr_41_29, xr_41_30, xr_41_32, xr_41_35, xr_41_36, xr_41_39, xr_41_40, xr_41_41, xr_41_42, xr_41_45, xr_41_47, xr_41_48, xr_41_51, xr_41_54, xr_41_55, xr_41_57, xr_41_60, xr_41_61, xr_41_62, xr_41_65, xr_41_68, xr_41_69, z4, f1, f2, f3, f4, q1, q2, c1, c2, nI_add, c_X1_isWriting, c_X1_has, b01_z, b01_n, not_true, not_false_iff, true_imp_iff, false_imp_iff, true_and, and_true, sp_wk, sp_ws, if_false, Nat.add_zero]) none
  refine Iff.trans e ?_
  rw [xr_41_4]
  simp only [xr_41_0, xr_41_1, xr_41_2, xr_41_3, xr_41_5, xr_41_6, xr_41_9, xr_41_12, xr_41_13, xr_41_16, xr_41_17_1, xr_41_17_2, xr_41_18, xr_41_20, xr_41_22, xr_41_23, xr_41_26, xr_41_29, xr_41_30, xr_41_32, xr_41_35, xr_41_36, xr_41_39, xr_41_40, xr_41_41, xr_41_42, xr_41_45, xr_41_47, xr_41_48, xr_41_51, xr_41_54, xr_41_55, xr_41_57, xr_41_60, xr_41_61, xr_41_62, xr_41_65, xr_41_68, xr_41_69, z4, lxe, not_true, false_imp_iff, true_imp_iff, and_true, ex_some]
theorem c_X2_boundLoop (c : cI P NQ NS D (fun _ => D) a) : ∀ (k p l : Nat) (t3 t4 : Option AV), p + k = P → l ≤ 20000 → ∀ Q, (VV 43 a 47 [some (.inr (0, 0)), some (.inl (nI l)), some (.inl (nI p)), t3, t4] [] Q ↔ Q (some (sp_b3 NQ NS D a k p l)) a) := by
  obtain ⟨⟨p1, p2, p3, p4, p5⟩, z2, z3, z4, z5, z6, z7⟩ := c.1
  intro k
  induction k with
  | zero =>
    intro p l t3 t4 hp hl Q
    rw [show p = P by omega, xr_43_47]
    simp only [xr_43_0, xr_43_1, xr_43_4, xr_43_7, xr_43_8, xr_43_9, xr_43_10, xr_43_13, xr_43_14, xr_43_15, xr_43_17, xr_43_18, xr_43_21, xr_43_24, xr_43_25, xr_43_26, xr_43_27, xr_43_30, xr_43_31_1, xr_43_31_2, xr_43_32, xr_43_35, xr_43_38, xr_43_39, xr_43_42, xr_43_45, xr_43_46, xr_43_48, xr_43_49, xr_43_52, xr_43_55, xr_43_56, xr_43_57, xr_43_60, xr_43_61, xr_43_62, xr_43_63, xr_43_66, xr_43_68, xr_43_70, xr_43_73, xr_43_74, xr_43_75, xr_43_78, xr_43_79, xr_43_81, xr_43_82, xr_43_83, xr_43_84, xr_43_86, xr_43_87, xr_43_88, xr_43_91, xr_43_92, xr_43_95, xr_43_96, xr_43_99, xr_43_100, xr_43_101, xr_43_104, xr_43_107, xr_43_108, z2, lxe, not_true, false_imp_iff, true_imp_iff, and_true, sp_b3]
  | succ k ih =>
    intro p l t3 t4 hp hl Q
    obtain ⟨f1, f2, f3, f4⟩ := lx (show p < P by omega) p2 (by omega)
    have cw : ∀ K, Vi 41 a [some (.inr (0, 0)), some (.inl (nI p)), none, none, none] K ↔ K (nI (sp_wk D a p NS)) a := fun K => c_X2_workLeft c (by omega) K
    have cq : ∀ K, Vi 42 a [some (.inr (0, 0)), some (.inl (nI p)), none, none] K ↔ K (nI (sp_cp NQ a p)) a := fun K => c_X2_quiresOf a 0 NQ (nI p) K z3 p3
    have hw := bd_wk (p := p) c NS (Nat.le_refl NS)
    have hc : sp_cp NQ a p ≤ NQ := sp_cop_le _ _ _
    have g0 : nI (sp_cp NQ a p) ≤ 0 ↔ sp_cp NQ a p ≤ 0 := nI_leI (b := 0) (by omega) (by omega)
    have g1 : nI (sp_wk D a p NS) ≤ 0 ↔ sp_wk D a p NS ≤ 0 := nI_leI (b := 0) (by omega) (by omega)
    rw [xr_43_47, sp_b3]
    by_cases c1 : 0 < sp_cp NQ a p
    · have c1' : ¬ sp_cp NQ a p ≤ 0 := by omega
      have e1 : nI (sp_wk D a p NS + sp_cp NQ a p) - 1 = nI (sp_wk D a p NS + sp_cp NQ a p - 1) := pk_sub (b := 1) (by omega)
      have e2 : nI (sp_wk D a p NS + sp_cp NQ a p - 1) / nI (sp_cp NQ a p) = nI ((sp_wk D a p NS + sp_cp NQ a p - 1) / sp_cp NQ a p) := pk_div (by omega) c1 (by omega)
      have e3 : ¬ nI (sp_cp NQ a p) = 0 := nI_ne0 c1 (by omega)
      have hq : (sp_wk D a p NS + sp_cp NQ a p - 1) / sp_cp NQ a p ≤ 100 := Nat.le_trans (Nat.div_le_self _ _) (by omega)
      have g2 : nI l < nI (D + (sp_wk D a p NS + sp_cp NQ a p - 1) / sp_cp NQ a p) ↔ l < D + (sp_wk D a p NS + sp_cp NQ a p - 1) / sp_cp NQ a p := nI_ltI (by omega) (by omega)
      simp only [xr_43_0, xr_43_1, xr_43_4, xr_43_7, xr_43_8, xr_43_9, xr_43_10, xr_43_13, xr_43_14, xr_43_15, xr_43_17, xr_43_18, xr_43_21, xr_43_24, xr_43_25, xr_43_26, xr_43_27, xr_43_30, xr_43_31_1, xr_43_31_2, xr_43_32, xr_43_35, xr_43_38, xr_43_39, xr_43_42, xr_43_45, xr_43_46, xr_43_48, xr_43_49, xr_43_52, xr_43_55, xr_43_56, xr_43_57, xr_43_60, xr_43_61, xr_43_62, xr_43_63, xr_43_66, xr_43_68, xr_43_70, xr_43_73, xr_43_74, xr_43_75, xr_43_78, xr_43_79, xr_43_81, xr_43_82, xr_43_83, xr_43_84, xr_43_86, xr_43_87, xr_43_88, xr_43_91, xr_43_92, xr_43_95, xr_43_96, xr_43_99, xr_43_100, xr_43_101, xr_43_104, xr_43_107, xr_43_108, z2, z5, f1, f4, cw, cq, g0, c1', e1, e2, e3, nI_add, c_J9_max, g2, not_true, not_false_iff, true_imp_iff, false_imp_iff, true_and, and_true]
      rw [if_pos c1]
      by_cases c2 : l < D + (sp_wk D a p NS + sp_cp NQ a p - 1) / sp_cp NQ a p
      · rw [if_pos c2, if_pos c2]
        exact ih (p + 1) _ _ _ (by omega) (by omega) Q
      · rw [if_neg c2, if_neg c2]
        exact ih (p + 1) _ _ _ (by omega) (by omega) Q
    · have c1' : sp_cp NQ a p ≤ 0 := by omega
      rw [if_neg c1]
      by_cases c2 : 0 < sp_wk D a p NS
      · have c2' : ¬ sp_wk D a p NS ≤ 0 := by omega
        simp only [xr_43_0, xr_43_1, xr_43_4, xr_43_7, xr_43_8, xr_43_9, xr_43_10, xr_43_13, xr_43_14, xr_43_15, xr_43_17, xr_43_18, xr_43_21, xr_43_24, xr_43_25, xr_43_26, xr_43_27, xr_43_30, xr_43_31_1, xr_43_31_2, xr_43_32, xr_43_35, xr_43_38, xr_43_39, xr_43_42, xr_43_45, xr_43_46, xr_43_48, xr_43_49, xr_43_52, xr_43_55, xr_43_56, xr_43_57, xr_43_60, xr_43_61, xr_43_62, xr_43_63, xr_43_66, xr_43_68, xr_43_70, xr_43_73, xr_43_74, xr_43_75, xr_43_78, xr_43_79, xr_43_81, xr_43_82, xr_43_83, xr_43_84, xr_43_86, xr_43_87, xr_43_88, xr_43_91, xr_43_92, xr_43_95, xr_43_96, xr_43_99, xr_43_100, xr_43_101, xr_43_104, xr_43_107, xr_43_108, z2, f1, f4, cw, cq, g0, g1, c1', c2', not_true, not_false_iff, true_imp_iff, false_imp_iff, true_and, and_true, if_pos c2]
      · have c2' : sp_wk D a p NS ≤ 0 := by omega
        simp only [xr_43_0, xr_43_1, xr_43_4, xr_43_7, xr_43_8, xr_43_9, xr_43_10, xr_43_13, xr_43_14, xr_43_15, xr_43_17, xr_43_18, xr_43_21, xr_43_24, xr_43_25, xr_43_26, xr_43_27, xr_43_30, xr_43_31_1, xr_43_31_2, xr_43_32, xr_43_35, xr_43_38, xr_43_39, xr_43_42, xr_43_45, xr_43_46, xr_43_48, xr_43_49, xr_43_52, xr_43_55, xr_43_56, xr_43_57, xr_43_60, xr_43_61, xr_43_62, xr_43_63, xr_43_66, xr_43_68, xr_43_70, xr_43_73, xr_43_74, xr_43_75, xr_43_78, xr_43_79, xr_43_81, xr_43_82, xr_43_83, xr_43_84, xr_43_86, xr_43_87, xr_43_88, xr_43_91, xr_43_92, xr_43_95, xr_43_96, xr_43_99, xr_43_100, xr_43_101, xr_43_104, xr_43_107, xr_43_108, z2, f1, f4, cw, cq, g0, g1, c1', c2', not_true, not_false_iff, true_imp_iff, false_imp_iff, true_and, and_true, if_neg c2]
        exact ih (p + 1) _ _ _ (by omega) hl Q
theorem c_X2_bound (c : cI P NQ NS D (fun _ => D) a) (hE : ¬ sp_eA NS a) (K : Int32 → AHp → Prop) : Vi 43 a [some (.inr (0, 0)), none, none, none, none] K ↔ K (sp_b3 NQ NS D a P 0 (sp_b1 P D a NS)) a := by
  obtain ⟨⟨p1, p2, p3, p4, p5⟩, z2, z3, z4, z5, z6, z7⟩ := c.1
  have hE' : ¬ sp_cnt (fun s => decide (a 0 0 2 ≤ a 4 s 6)) NS = NS := hE
  rw [Vi]
  simp only [xr_43_0, xr_43_1, xr_43_4, xr_43_7, xr_43_8, xr_43_9, xr_43_10, xr_43_13, xr_43_14, xr_43_15, c_X2_allEnded a 0 NS _ z4 p4, hE', b01_z, z5, not_true, not_false_iff, true_imp_iff, false_imp_iff, true_and, and_true]
  refine Iff.trans (it0 (V := fun i => VV 43 a 16 [some (.inr (0, 0)), some (.inl (nI (sp_b1 P D a i))), some (.inl (nI i)), none, none] [] (fun r h' => ∃ x, r = some x ∧ K x h')) NS ?_) ?_
  · intro i hi
    obtain ⟨f1, f2, f3, f4⟩ := lx hi p4 (by omega)
    have h1 := bd_b1 c i (by omega)
    have h2 := bd_se c hi
    have g2 : nI (sp_b1 P D a i) < nI (sp_se P D a i) ↔ sp_b1 P D a i < sp_se P D a i := nI_ltI (by omega) (by omega)
    rw [xr_43_16]
    simp only [xr_43_0, xr_43_1, xr_43_4, xr_43_7, xr_43_8, xr_43_9, xr_43_10, xr_43_13, xr_43_14, xr_43_15, xr_43_17, xr_43_18, xr_43_21, xr_43_24, xr_43_25, xr_43_26, xr_43_27, xr_43_30, xr_43_31_1, xr_43_31_2, xr_43_32, xr_43_35, xr_43_38, xr_43_39, xr_43_42, xr_43_45, xr_43_46, xr_43_48, xr_43_49, xr_43_52, xr_43_55, xr_43_56, xr_43_57, xr_43_60, xr_43_61, xr_43_62, xr_43_63, xr_43_66, xr_43_68, xr_43_70, xr_43_73, xr_43_74, xr_43_75, xr_43_78, xr_43_79, xr_43_81, xr_43_82, xr_43_83, xr_43_84, xr_43_86, xr_43_87, xr_43_88, xr_43_91, xr_43_92, xr_43_95, xr_43_96, xr_43_99, xr_43_100, xr_43_101, xr_43_104, xr_43_107, xr_43_108, z4, f1, f2, f3, f4, c_X2_soonest c hi, c_J9_max, g2, not_false_iff, true_imp_iff, false_imp_iff, true_and, sp_b1]
    by_cases c2 : sp_b1 P D a i < sp_se P D a i
    · rw [if_pos c2, if_pos c2]
    · rw [if_neg c2, if_neg c2]
  · rw [xr_43_16]
    simp only [xr_43_17, xr_43_18, xr_43_21, xr_43_45, xr_43_46, z4, lxe, not_true, false_imp_iff, true_imp_iff, and_true]
    have hb := bd_b1 c NS (Nat.le_refl NS)
    refine Iff.trans (c_X2_boundLoop c P 0 (sp_b1 P D a NS) none none (by omega) (by omega) _) ?_
    rw [ex_some]
end BD
