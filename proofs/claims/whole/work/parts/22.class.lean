/-! ===== the class: what changes cells, and the choice of a quire ===== -/
theorem ah_rd (h : AHp) (k i j k' i' j' : Nat) (v : Int32) : ah_up h k i j v k' i' j' = if k' = k ∧ i' = i ∧ j' = j then v else h k' i' j' := rfl
theorem ah_rk {h : AHp} {k i j k' : Nat} {v : Int32} (hk : k' ≠ k) : ah_up h k i j v k' = h k' := by
  funext i' j'
  rw [ah_rd, if_neg (fun z => hk z.1)]
def ah_fill (h : AHp) (k i : Nat) (v : Int32) (n : Nat) : AHp := fun k' i' j' => if k' = k ∧ i' = i ∧ j' < n then v else h k' i' j'
theorem ah_fill_0 (h : AHp) (k i : Nat) (v : Int32) : ah_fill h k i v 0 = h := by
  funext a b c; simp [ah_fill]
theorem ah_fill_s (h : AHp) (k i : Nat) (v : Int32) (n : Nat) : ah_up (ah_fill h k i v n) k i n v = ah_fill h k i v (n + 1) := by
  funext a b c
  simp only [ah_rd, ah_fill]
  by_cases h1 : a = k ∧ b = i
  · obtain ⟨rfl, rfl⟩ := h1
    by_cases h2 : c = n
    · subst h2; simp
    · by_cases h3 : c < n
      · simp [h2, h3, show c < n + 1 by omega]
      · simp [h2, h3, show ¬ c < n + 1 by omega]
  · have h4 : ¬ (a = k ∧ b = i ∧ c = n) := fun z => h1 ⟨z.1, z.2.1⟩
    have h5 : ¬ (a = k ∧ b = i ∧ c < n) := fun z => h1 ⟨z.1, z.2.1⟩
    have h6 : ¬ (a = k ∧ b = i ∧ c < n + 1) := fun z => h1 ⟨z.1, z.2.1⟩
    simp [h4, h5, h6]
def sp_hi (h : AHp) (s : Nat) (d : Int32) : AHp :=
  ah_up (ah_up (ah_up (ah_up (ah_up (ah_up (ah_up h 6 s (h 4 s 9).toNatClampNeg (h 4 s 10 ^^^ h 5 s (h 4 s 9).toNatClampNeg)) 7 s (h 4 s 9).toNatClampNeg (h 4 s 8)) 8 s (h 4 s 9).toNatClampNeg (h 4 s 11)) 9 s (h 4 s 9).toNatClampNeg d) 4 s 6 (h 4 s 6 + 1)) 4 s 7 d) 4 s 8 (-1)
def sp_beg (h : AHp) (s : Nat) (pace d : Int32) : AHp := ah_up (ah_up (ah_up (ah_up (ah_fill (ah_fill h 5 s 0 8) 7 s (-1) 8) 4 s 5 pace) 4 s 6 0) 4 s 7 d) 4 s 8 (-1)
def sp_rk (ru : Int32) (un : Nat → Nat) (p : Nat) : Nat := if ru = 0 then p else un p
def sp_chs (hs : Nat → Bool) (lu : Nat → Option Nat) (rk : Nat → Nat) : Nat → Option Nat
  | 0 => none
  | p + 1 => match sp_chs hs lu rk p with
    | none => if hs p = false ∧ (lu p).isSome = true then some p else none
    | some b => if (hs p = false ∧ (lu p).isSome = true) ∧ rk p < rk b then some p else some b
theorem sp_chs_ok {hs : Nat → Bool} {lu : Nat → Option Nat} {rk : Nat → Nat} : ∀ {n b : Nat}, sp_chs hs lu rk n = some b → b < n ∧ hs b = false ∧ (lu b).isSome = true
  | 0, b, h => by simp [sp_chs] at h
  | n + 1, b, h => by
    rw [sp_chs] at h
    cases e : sp_chs hs lu rk n with
    | none =>
      rw [e] at h
      simp only at h
      split at h
      · rename_i c; cases h; exact ⟨by omega, c⟩
      · cases h
    | some b' =>
      rw [e] at h
      simp only at h
      have ih := sp_chs_ok e
      split at h
      · rename_i c; cases h; exact ⟨by omega, c.1⟩
      · cases h; exact ⟨by omega, ih.2⟩
theorem sp_unw_le (pc us : Nat → Int32) (w p : Int32) : ∀ n, sp_unw pc us w p n ≤ n
  | 0 => Nat.le_refl _
  | n + 1 => by have := sp_unw_le pc us w p n; rw [sp_unw]; split <;> omega
def sp_nxt (wt : Nat → Bool) (ky : Nat → Int32) (la : Int32) : Nat → Option Nat
  | 0 => none
  | n + 1 => match sp_nxt wt ky la n with
    | none => if wt n = true ∧ la < ky n then some n else none
    | some b => if (wt n = true ∧ la < ky n) ∧ ky n < ky b then some n else some b
theorem sp_nxt_lt {wt : Nat → Bool} {ky : Nat → Int32} {la : Int32} : ∀ {n b : Nat}, sp_nxt wt ky la n = some b → b < n
  | 0, b, h => by simp [sp_nxt] at h
  | n + 1, b, h => by
    rw [sp_nxt] at h
    cases e : sp_nxt wt ky la n with
    | none =>
      rw [e] at h
      simp only at h
      split at h
      · cases h; omega
      · cases h
    | some b' =>
      rw [e] at h
      simp only at h
      have ih := sp_nxt_lt e
      split at h
      · cases h; omega
      · cases h; omega
def sp_skp (bz : Nat → Bool) (ed : Nat → Int32) (e : Int32) : Nat → Int32
  | 0 => e
  | n + 1 => if bz n = true then (if ed n < sp_skp bz ed e n then ed n else sp_skp bz ed e n) else sp_skp bz ed e n
section CL
variable (h : AHp) (q s n N P : Nat) (x y z : Int32) (K : Int32 → AHp → Prop) (J : AHp → Prop)
theorem c_J7_fill5 : Vv 2 h [some (.inr (5, s)), some (.inl x), none, none] J ↔ J (ah_fill h 5 s x 8) := by
  rw [Vv]
  simp only [xr_2_0, xr_2_1, xr_2_2, xr_2_3_5, xr_2_4]
  refine Iff.trans (Iff.of_eq (congrArg (fun g => VV 2 g 5 [some (.inr (5, s)), some (.inl x), some (.inl 0), some (.inl (nI 8))] [] (fun r h' => r = none ∧ J h')) (ah_fill_0 h 5 s x).symm)) ?_
  refine Iff.trans (it0 (V := fun i => VV 2 (ah_fill h 5 s x i) 5 [some (.inr (5, s)), some (.inl x), some (.inl (nI i)), some (.inl (nI 8))] [] (fun r h' => r = none ∧ J h')) 8 ?_) ?_
  · intro i hi
    obtain ⟨f1, f2, f3, f4⟩ := lx hi (Nat.le_refl 8) (by omega)
    rw [xr_2_5]
    simp only [xr_2_0, xr_2_1, xr_2_2, xr_2_3_5, xr_2_3_7, xr_2_4, xr_2_6, xr_2_7, xr_2_10, xr_2_11, xr_2_12, xr_2_13, xr_2_14, xr_2_17, xr_2_20, f1, f2, f3, f4, ix_i5, true_and, not_false_iff, true_imp_iff, false_imp_iff, ah_fill_s]
  · rw [xr_2_5]
    simp only [xr_2_0, xr_2_1, xr_2_2, xr_2_3_5, xr_2_3_7, xr_2_4, xr_2_6, xr_2_7, xr_2_10, xr_2_11, xr_2_12, xr_2_13, xr_2_14, xr_2_17, xr_2_20, lxe, not_true, false_imp_iff, true_imp_iff, and_true, true_and]
theorem c_J7_fill7 : Vv 2 h [some (.inr (7, s)), some (.inl x), none, none] J ↔ J (ah_fill h 7 s x 8) := by
  rw [Vv]
  simp only [xr_2_0, xr_2_1, xr_2_2, xr_2_3_7, xr_2_4]
  refine Iff.trans (Iff.of_eq (congrArg (fun g => VV 2 g 5 [some (.inr (7, s)), some (.inl x), some (.inl 0), some (.inl (nI 8))] [] (fun r h' => r = none ∧ J h')) (ah_fill_0 h 7 s x).symm)) ?_
  refine Iff.trans (it0 (V := fun i => VV 2 (ah_fill h 7 s x i) 5 [some (.inr (7, s)), some (.inl x), some (.inl (nI i)), some (.inl (nI 8))] [] (fun r h' => r = none ∧ J h')) 8 ?_) ?_
  · intro i hi
    obtain ⟨f1, f2, f3, f4⟩ := lx hi (Nat.le_refl 8) (by omega)
    rw [xr_2_5]
    simp only [xr_2_0, xr_2_1, xr_2_2, xr_2_3_5, xr_2_3_7, xr_2_4, xr_2_6, xr_2_7, xr_2_10, xr_2_11, xr_2_12, xr_2_13, xr_2_14, xr_2_17, xr_2_20, f1, f2, f3, f4, ix_i7, true_and, not_false_iff, true_imp_iff, false_imp_iff, ah_fill_s]
  · rw [xr_2_5]
    simp only [xr_2_0, xr_2_1, xr_2_2, xr_2_3_5, xr_2_3_7, xr_2_4, xr_2_6, xr_2_7, xr_2_10, xr_2_11, xr_2_12, xr_2_13, xr_2_14, xr_2_17, xr_2_20, lxe, not_true, false_imp_iff, true_imp_iff, and_true, true_and]
theorem c_X1_begin : Vv 3 h [some (.inr (4, s)), some (.inl x), some (.inl y)] J ↔ J (sp_beg h s x y) := by
  rw [Vv]
  simp only [xr_3_0, xr_3_1, xr_3_4, xr_3_5, xr_3_8, xr_3_9, xr_3_12, xr_3_13, xr_3_16, xr_3_17, xr_3_18, xr_3_21, xr_3_22, xr_3_23, xr_3_26, xr_3_27, xr_3_28, xr_3_31, xr_3_32, xr_3_33, xr_3_36, c_J7_fill5, c_J7_fill7, true_and, sp_beg]
theorem c_X1_handIn (hp : vp_in (h 4 s 9) 8) : Vv 10 h [some (.inr (4, s)), some (.inl x)] J ↔ J (sp_hi h s x) := by
  rw [Vv]
  simp only [xr_10_0, xr_10_1, xr_10_4, xr_10_5, xr_10_8, xr_10_9, xr_10_12, xr_10_13, xr_10_16, xr_10_17, xr_10_20, xr_10_21, xr_10_22, xr_10_23, xr_10_24, xr_10_27, xr_10_28, xr_10_31, xr_10_32, xr_10_35, xr_10_36, xr_10_37, xr_10_40, xr_10_41, xr_10_44, xr_10_45, xr_10_48, xr_10_49, xr_10_50, xr_10_53, xr_10_54, xr_10_57, xr_10_58, xr_10_59, xr_10_60, xr_10_61, xr_10_64, xr_10_65, xr_10_66, xr_10_69, xr_10_70, xr_10_71, xr_10_74, xr_10_75, xr_10_76, xr_10_79, true_and, ix_i5, ix_i6, ix_i7, ix_i8, ix_i9, ah_rd, hp]
  simp [hp, sp_hi]
theorem c_X2_chosen (hN : h 0 n 3 = nI N) (h20 : N ≤ 20) (hP : h 0 n 2 = nI P) (h8 : P ≤ 8) : Vi 32 h [some (.inr (0, n)), some (.inr (4, s)), none, none, none, none, none] K ↔
    K (oI ((sp_chs (fun p => decide (¬ h 7 s p = -1)) (fun p => sp_lus (fun q => h 3 q 0) (fun q => h 3 q 2) (fun q => h 3 q 3) (h 0 n 7) (nI p) N) (sp_rk (h 0 n 6) (fun p => sp_unw (fun q => h 3 q 0) (fun q => h 3 q 2) (h 0 n 7) (nI p) N)) P).bind (fun p => sp_lus (fun q => h 3 q 0) (fun q => h 3 q 2) (fun q => h 3 q 3) (h 0 n 7) (nI p) N))) h := by
  rw [Vi]
  simp only [xr_32_0, xr_32_1, xr_32_2, xr_32_3, xr_32_4, xr_32_5]
  generalize hlu : (fun p => sp_lus (fun q => h 3 q 0) (fun q => h 3 q 2) (fun q => h 3 q 3) (h 0 n 7) (nI p) N) = lu
  generalize hun : (fun p => sp_unw (fun q => h 3 q 0) (fun q => h 3 q 2) (h 0 n 7) (nI p) N) = un
  generalize hhs : (fun p => decide (¬ h 7 s p = -1)) = hs
  generalize hrk : sp_rk (h 0 n 6) un = rk
  have lu_lt : ∀ p b, lu p = some b → b < 20 := by
    intro p b e
    rw [← hlu] at e
    have := (sp_lus_ok e).1
    omega
  have un_lt : ∀ p, un p ≤ 20 := by
    intro p
    rw [← hun]
    exact Nat.le_trans (sp_unw_le _ _ _ _ _) h20
  obtain ⟨t', e⟩ := it1 (V := fun i (t : Option AV × Option AV) => VV 32 h 7 [some (.inr (0, n)), some (.inr (4, s)), some (.inl (oI ((sp_chs hs lu rk i).bind lu))), some (.inl (nI (match sp_chs hs lu rk i with | none => 0 | some b => rk b))), some (.inl (nI i)), t.1, t.2] [] (fun r h' => ∃ x, r = some x ∧ K x h')) P (by
    intro i t hi
    obtain ⟨f1, f2, f3, f4⟩ := lx hi h8 (by omega)
    rw [xr_32_7]
    have c1 : ∀ (K : Int32 → AHp → Prop), Vi 30 h [some (.inr (0, n)), some (.inl (nI i)), none, none, none] K ↔ K (oI (lu i)) h := by
      intro K; rw [c_X2_least h n N (nI i) K hN h20, ← hlu]
    have c2 : ∀ (K : Int32 → AHp → Prop), Vi 31 h [some (.inr (0, n)), some (.inl (nI i)), none, none] K ↔ K (nI (un i)) h := by
      intro K; rw [c_X2_unworn h n N (nI i) K hN h20, ← hun]
    have hsi : (h 7 s i = -1) ↔ hs i = false := by rw [← hhs]; simp
    simp only [xr_32_0, xr_32_1, xr_32_2, xr_32_3, xr_32_4, xr_32_5, xr_32_9, xr_32_10, xr_32_13, xr_32_16, xr_32_17, xr_32_19, xr_32_22, xr_32_25, xr_32_26, xr_32_29, xr_32_30, xr_32_32, xr_32_35, xr_32_37, xr_32_38, xr_32_41, xr_32_44, xr_32_46, xr_32_49, xr_32_50, xr_32_52, xr_32_55, xr_32_57, xr_32_59, xr_32_60, xr_32_63, xr_32_64, xr_32_65, xr_32_68, xr_32_70, xr_32_71, xr_32_74, xr_32_76, xr_32_77, xr_32_79, xr_32_80, xr_32_83, xr_32_86, xr_32_87, hP, f1, f2, f3, f4, c_X1_has, c1, c2, b01_z, true_and, not_false_iff, true_imp_iff, false_imp_iff, sp_chs, Classical.not_not, hsi]
    have hrki : ∀ b, rk b ≤ 20 ∨ rk b = b := by
      intro b; rw [← hrk]; unfold sp_rk; split
      · exact Or.inr rfl
      · exact Or.inl (un_lt b)
    have hr0 : h 0 n 6 = 0 → rk i = i := by intro z; rw [← hrk]; simp [sp_rk, z]
    have hr1 : ¬ h 0 n 6 = 0 → rk i = un i := by intro z; rw [← hrk]; simp [sp_rk, z]
    cases hh : hs i with
    | true =>
      by_cases r0 : h 0 n 6 = 0
      · refine ⟨(some (.inl (-1)), some (.inl (nI i))), ?_⟩
        cases sp_chs hs lu rk i <;> simp [r0]
      · refine ⟨(some (.inl (-1)), some (.inl (nI (un i)))), ?_⟩
        cases sp_chs hs lu rk i <;> simp [r0]
    | false =>
      cases hl : lu i with
      | none =>
        by_cases r0 : h 0 n 6 = 0
        · refine ⟨(some (.inl (-1)), some (.inl (nI i))), ?_⟩
          cases sp_chs hs lu rk i <;> simp [r0, oI]
        · refine ⟨(some (.inl (-1)), some (.inl (nI (un i)))), ?_⟩
          cases sp_chs hs lu rk i <;> simp [r0, oI]
      | some qn =>
        have g5 : ¬ nI qn = -1 := nI_m1 (by have := lu_lt i qn hl; omega)
        by_cases r0 : h 0 n 6 = 0
        · refine ⟨(some (.inl (nI qn)), some (.inl (nI i))), ?_⟩
          cases hc : sp_chs hs lu rk i with
          | none => simp [r0, oI, g5, hl, hr0 r0]
          | some b =>
            obtain ⟨b1, b2, b3⟩ := sp_chs_ok hc
            obtain ⟨qb, hqb⟩ := Option.isSome_iff_exists.mp b3
            have g6 : ¬ nI qb = -1 := nI_m1 (by have := lu_lt b qb hqb; omega)
            have g7 : nI (rk b) ≤ nI i ↔ rk b ≤ i := nI_leI (by have := hrki b; omega) (by omega)
            by_cases g8 : rk b ≤ i
            · simp [r0, oI, g5, g6, hqb, g7, g8, hr0 r0, Nat.not_lt.mpr g8]
            · simp [r0, oI, g5, g6, hqb, g7, g8, hr0 r0, hl, Nat.lt_of_not_le g8]
        · refine ⟨(some (.inl (nI qn)), some (.inl (nI (un i)))), ?_⟩
          cases hc : sp_chs hs lu rk i with
          | none => simp [r0, oI, g5, hl, hr1 r0]
          | some b =>
            obtain ⟨b1, b2, b3⟩ := sp_chs_ok hc
            obtain ⟨qb, hqb⟩ := Option.isSome_iff_exists.mp b3
            have g6 : ¬ nI qb = -1 := nI_m1 (by have := lu_lt b qb hqb; omega)
            have g7 : nI (rk b) ≤ nI (un i) ↔ rk b ≤ un i := nI_leI (by have := hrki b; omega) (by have := un_lt i; omega)
            by_cases g8 : rk b ≤ un i
            · simp [r0, oI, g5, g6, hqb, g7, g8, hr1 r0, Nat.not_lt.mpr g8]
            · simp [r0, oI, g5, g6, hqb, g7, g8, hr1 r0, hl, Nat.lt_of_not_le g8]) (none, none)
  refine Iff.trans e ?_
  rw [xr_32_7]
  simp only [xr_32_0, xr_32_1, xr_32_2, xr_32_3, xr_32_4, xr_32_5, xr_32_9, xr_32_10, xr_32_13, xr_32_16, xr_32_17, xr_32_19, xr_32_22, xr_32_25, xr_32_26, xr_32_29, xr_32_30, xr_32_32, xr_32_35, xr_32_37, xr_32_38, xr_32_41, xr_32_44, xr_32_46, xr_32_49, xr_32_50, xr_32_52, xr_32_55, xr_32_57, xr_32_59, xr_32_60, xr_32_63, xr_32_64, xr_32_65, xr_32_68, xr_32_70, xr_32_71, xr_32_74, xr_32_76, xr_32_77, xr_32_79, xr_32_80, xr_32_83, xr_32_86, xr_32_87, hP, lxe, not_true, false_imp_iff, true_imp_iff, and_true, ex_some]
theorem c_X2_next (hN : h 0 n 4 = nI N) (h8 : N ≤ 8) : Vi 28 h [some (.inr (0, n)), some (.inl x), none, none, none] K ↔
    K (oI (sp_nxt (fun s => decide (h 4 s 8 = -1 ∧ ¬ h 0 n 2 ≤ h 4 s 6)) (fun s => h 4 s 7 * 8 + nI s) x N)) h := by
  rw [Vi]
  simp only [xr_28_0, xr_28_1, xr_28_2, xr_28_3]
  generalize hwt : (fun s => decide (h 4 s 8 = -1 ∧ ¬ h 0 n 2 ≤ h 4 s 6)) = wt
  obtain ⟨t', e⟩ := it1 (V := fun i t => VV 28 h 4 [some (.inr (0, n)), some (.inl x), some (.inl (oI (sp_nxt wt (fun s => h 4 s 7 * 8 + nI s) x i))), some (.inl (nI i)), t] [] (fun r h' => ∃ x, r = some x ∧ K x h')) N (by
    intro i t hi
    obtain ⟨f1, f2, f3, f4⟩ := lx hi h8 (by omega)
    rw [xr_28_4]
    simp only [xr_28_0, xr_28_1, xr_28_2, xr_28_3, xr_28_5, xr_28_6, xr_28_9, xr_28_12, xr_28_13, xr_28_16, xr_28_17_1, xr_28_17_2, xr_28_18, xr_28_21, xr_28_24, xr_28_25, xr_28_26, xr_28_29, xr_28_30_1, xr_28_30_2, xr_28_31, xr_28_34, xr_28_37, xr_28_38, xr_28_39, xr_28_42, xr_28_43, xr_28_46, xr_28_47, xr_28_50, xr_28_51, xr_28_53, xr_28_55, xr_28_58, xr_28_59, xr_28_60, xr_28_63, xr_28_64, xr_28_65, xr_28_68, xr_28_69, xr_28_70, xr_28_73, xr_28_76, xr_28_77, xr_28_78, xr_28_81, xr_28_84, xr_28_85, hN, f1, f2, f3, f4, c_X1_isIdle, c_X2_hasEnded, c_X2_lineKey, b01_z, true_and, not_false_iff, true_imp_iff, false_imp_iff, sp_nxt, Classical.not_not]
    have hw : wt i = true ↔ (h 4 i 8 = -1 ∧ ¬ h 0 n 2 ≤ h 4 i 6) := by rw [← hwt]; simp
    cases eb : sp_nxt wt (fun s => h 4 s 7 * 8 + nI s) x i with
    | none =>
      by_cases a : h 4 i 8 = -1 <;> by_cases b : h 0 n 2 ≤ h 4 i 6 <;> rcases i32_c x (h 4 i 7 * 8 + nI i) with ⟨b1, b2⟩ | ⟨b1, b2⟩
      case neg.inl => exact ⟨some (.inl 1), by simp [a, b, b1, b2, oI, hw]⟩
      all_goals exact ⟨some (.inl 0), by simp [a, b, b1, b2, oI, hw]⟩
    | some b' =>
      have g1 := sp_nxt_lt eb
      have g3 : vp_in (nI b') 8 := vp_in_nI (by omega) (by omega)
      have g4 : (nI b').toNatClampNeg = b' := nI_clamp (by omega)
      have g5 : ¬ nI b' = -1 := nI_m1 (by omega)
      by_cases a : h 4 i 8 = -1 <;> by_cases b : h 0 n 2 ≤ h 4 i 6 <;> rcases i32_c x (h 4 i 7 * 8 + nI i) with ⟨b1, b2⟩ | ⟨b1, b2⟩
      case neg.inl =>
        refine ⟨some (.inl 1), ?_⟩
        rcases i32_c (h 4 i 7 * 8 + nI i) (h 4 b' 7 * 8 + nI b') with ⟨d1, d2⟩ | ⟨d1, d2⟩ <;> simp [a, b, b1, b2, oI, g3, g4, g5, d1, d2, hw]
      all_goals exact ⟨some (.inl 0), by simp [a, b, b1, b2, oI, g5, hw]⟩) none
  refine Iff.trans e ?_
  rw [xr_28_4]
  simp only [xr_28_0, xr_28_1, xr_28_2, xr_28_3, xr_28_5, xr_28_6, xr_28_9, xr_28_12, xr_28_13, xr_28_16, xr_28_17_1, xr_28_17_2, xr_28_18, xr_28_21, xr_28_24, xr_28_25, xr_28_26, xr_28_29, xr_28_30_1, xr_28_30_2, xr_28_31, xr_28_34, xr_28_37, xr_28_38, xr_28_39, xr_28_42, xr_28_43, xr_28_46, xr_28_47, xr_28_50, xr_28_51, xr_28_53, xr_28_55, xr_28_58, xr_28_59, xr_28_60, xr_28_63, xr_28_64, xr_28_65, xr_28_68, xr_28_69, xr_28_70, xr_28_73, xr_28_76, xr_28_77, xr_28_78, xr_28_81, xr_28_84, xr_28_85, hN, lxe, not_true, false_imp_iff, true_imp_iff, and_true, ex_some]
theorem c_X2_skip (hN : h 0 n 4 = nI N) (h8 : N ≤ 8) : Vv 35 h [some (.inr (0, n)), some (.inl x), none, none] J ↔
    J (ah_up h 0 n 5 (if h 0 n 5 < sp_skp (fun s => decide (¬ h 4 s 8 = -1)) (fun s => h 4 s 11 + h 4 s 5) x N then sp_skp (fun s => decide (¬ h 4 s 8 = -1)) (fun s => h 4 s 11 + h 4 s 5) x N else h 0 n 5)) := by
  rw [Vv]
  simp only [xr_35_0, xr_35_1, xr_35_2, xr_35_3]
  refine Iff.trans (it0 (V := fun i => VV 35 h 4 [some (.inr (0, n)), some (.inl x), some (.inl (sp_skp (fun s => decide (¬ h 4 s 8 = -1)) (fun s => h 4 s 11 + h 4 s 5) x i)), some (.inl (nI i))] [] (fun r h' => r = none ∧ J h')) N ?_) ?_
  · intro i hi
    obtain ⟨f1, f2, f3, f4⟩ := lx hi h8 (by omega)
    rw [xr_35_4]
    simp only [xr_35_0, xr_35_1, xr_35_2, xr_35_3, xr_35_5, xr_35_6, xr_35_9, xr_35_12, xr_35_13, xr_35_16, xr_35_17_1, xr_35_17_2, xr_35_18, xr_35_21, xr_35_24, xr_35_25, xr_35_26, xr_35_29, xr_35_30_1, xr_35_30_2, xr_35_31, xr_35_34, xr_35_37, xr_35_38, xr_35_41, xr_35_44, xr_35_45, xr_35_46, xr_35_49, xr_35_50, xr_35_53, xr_35_56, hN, f1, f2, f3, f4, c_X1_isIdle, c_X1_endDay, c_J9_min, b01_z, true_and, not_false_iff, true_imp_iff, false_imp_iff, sp_skp]
    by_cases a : h 4 i 8 = -1 <;> simp [a]
  · rw [xr_35_4]
    simp only [xr_35_0, xr_35_1, xr_35_2, xr_35_3, xr_35_5, xr_35_6, xr_35_9, xr_35_12, xr_35_13, xr_35_16, xr_35_17_1, xr_35_17_2, xr_35_18, xr_35_21, xr_35_24, xr_35_25, xr_35_26, xr_35_29, xr_35_30_1, xr_35_30_2, xr_35_31, xr_35_34, xr_35_37, xr_35_38, xr_35_41, xr_35_44, xr_35_45, xr_35_46, xr_35_49, xr_35_50, xr_35_53, xr_35_56, hN, lxe, c_J9_max, not_true, false_imp_iff, true_imp_iff, and_true, true_and]
end CL
