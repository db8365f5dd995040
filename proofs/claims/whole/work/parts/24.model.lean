/-! ===== the reference: its small methods and its day ===== -/
theorem e_8 (s p : Nat) : (8 : Int32) * nI s + nI p = nI (8 * s + p) := by
  rw [show (8 : Int32) = nI 8 from rfl, pk_mul, nI_add]
theorem e_8i {s p : Nat} (hs : s < 8) (hp : p < 8) : vp_in (nI (8 * s + p)) 64 ∧ (nI (8 * s + p)).toNatClampNeg = 8 * s + p := ⟨vp_in_nI (by omega) (by omega), nI_clamp (by omega)⟩
theorem sp_lus_mono {pc us hd : Nat → Int32} {w p : Int32} {i : Nat} (h : (sp_lus pc us hd w p i).isSome = true) : ∀ {n : Nat}, i ≤ n → (sp_lus pc us hd w p n).isSome = true := by
  intro n hn
  induction n with
  | zero => rw [show i = 0 by omega] at h; exact h
  | succ n ih =>
    by_cases e : i = n + 1
    · rw [← e]; exact h
    · obtain ⟨b, hb⟩ := Option.isSome_iff_exists.mp (ih (by omega))
      rw [sp_lus, hb]
      simp only
      split <;> rfl
def md_lu (b : AHp) (NQ p : Nat) : Option Nat := sp_lus (b 12 0) (b 14 0) (b 15 0) (b 10 0 19) (nI p) NQ
def md_un (b : AHp) (NQ p : Nat) : Nat := sp_unw (b 12 0) (b 14 0) (b 10 0 19) (nI p) NQ
def md_has (b : AHp) (s : Nat) : Nat → Bool := fun p => decide (¬ b 22 0 (8 * s + p) = 0)
def md_ch (b : AHp) (P NQ s : Nat) : Option Nat := sp_chs (md_has b s) (md_lu b NQ) (sp_rk (b 10 0 18) (md_un b NQ)) P
def md_tq (b : AHp) (s p q : Nat) : AHp := ah_up (ah_up (ah_up (ah_up (ah_up (ah_up b 14 0 q (b 14 0 q + 1)) 15 0 q (nI s)) 19 0 s (nI q)) 23 0 (8 * s + p) (b 13 0 q)) 24 0 (8 * s + p) (nI q)) 25 0 (8 * s + p) (b 10 0 17)
def md_tk (P NQ : Nat) (b : AHp) (s : Nat) : AHp := match md_ch b P NQ s with
  | none => b
  | some p => match md_lu b NQ p with
    | none => b
    | some q => md_tq b s p q
def md_q (b : AHp) (s : Nat) : Nat := (b 19 0 s).toNatClampNeg
def md_p (b : AHp) (s : Nat) : Nat := (b 12 0 (md_q b s)).toNatClampNeg
def md_h1 (b : AHp) (s q p : Nat) : AHp := ah_up (ah_up (ah_up (ah_up (ah_up (ah_up b 22 0 (8 * s + p) 1) 23 0 (8 * s + p) (b 23 0 (8 * s + p) ^^^ b 21 0 (8 * s + p))) 26 0 (8 * s + p) (b 10 0 17)) 15 0 q (-1)) 19 0 s (-1)) 18 0 s (b 10 0 17)
def md_hi (P : Nat) (b : AHp) (s q p : Nat) : AHp := if sp_cnt (md_has (md_h1 b s q p) s) P = P then ah_up (md_h1 b s q p) 20 0 s (b 10 0 17) else md_h1 b s q p
def md_hin (P : Nat) (s : Nat) (b : AHp) : AHp := if ¬ b 19 0 s = -1 ∧ b 25 0 (8 * s + md_p b s) + b 17 0 s = b 10 0 17 then md_hi P b s (md_q b s) (md_p b s) else b
def md_vis (P NQ d : Nat) (s : Nat) (b : AHp) : AHp := if b 19 0 s = -1 ∧ b 18 0 s = nI d ∧ sp_cnt (md_has b s) P < P then md_tk P NQ b s else b
def md_row (P NQ NS : Nat) (d : Nat) (b : AHp) : AHp := sp_fo (md_vis P NQ d) b NS
def md_day (P NQ NS D : Nat) (b : AHp) : AHp := ah_up (sp_fo (md_row P NQ NS) (sp_fo (md_hin P) b NS) (D + 1)) 10 0 17 (sp_fo (md_row P NQ NS) (sp_fo (md_hin P) b NS) (D + 1) 10 0 17 + 1)
theorem md_tk_k {P NQ s : Nat} {b : AHp} {k : Nat} (hk : k < 14) : md_tk P NQ b s k = b k := by
  unfold md_tk
  cases md_ch b P NQ s with
  | none => rfl
  | some p =>
    show (match md_lu b NQ p with | none => b | some q => md_tq b s p q) k = b k
    cases md_lu b NQ p with
    | none => rfl
    | some q =>
      show md_tq b s p q k = b k
      unfold md_tq
      repeat rw [ah_rk (by omega)]
theorem md_h1_k {s q p : Nat} {b : AHp} {k : Nat} (hk : k < 15) : md_h1 b s q p k = b k := by
  unfold md_h1
  repeat rw [ah_rk (by omega)]
theorem md_hin_k {P s : Nat} {b : AHp} {k : Nat} (hk : k < 15) : md_hin P s b k = b k := by
  unfold md_hin
  split
  · unfold md_hi
    split
    · rw [ah_rk (by omega), md_h1_k hk]
    · rw [md_h1_k hk]
  · rfl
theorem md_vis_k {P NQ d s : Nat} {b : AHp} {k : Nat} (hk : k < 14) : md_vis P NQ d s b k = b k := by
  unfold md_vis
  split
  · exact md_tk_k hk
  · rfl
theorem sp_fo_k {f : Nat → AHp → AHp} {k : Nat} (hf : ∀ i b, f i b k = b k) (b : AHp) : ∀ n, sp_fo f b n k = b k
  | 0 => rfl
  | n + 1 => by rw [sp_fo, hf, sp_fo_k hf b n]
theorem md_row_k {P NQ NS d : Nat} {b : AHp} {k : Nat} (hk : k < 14) : md_row P NQ NS d b k = b k := sp_fo_k (fun i b => md_vis_k hk) b NS
section MD
variable (b : AHp) (N P NQ NS D s : Nat) (x : Int32) (K : Int32 → AHp → Prop) (J : AHp → Prop)
theorem c_X3_hasMany (hs : s < 8) (hP : b 10 0 0 = nI P) (h8 : P ≤ 8) : Vi 67 b [some (.inr (10, 0)), some (.inl (nI s)), none, none] K ↔ K (nI (sp_cnt (md_has b s) P)) b := by
  rw [Vi]
  simp only [xr_67_0, xr_67_1, xr_67_2, xr_67_3]
  refine Iff.trans (it0 (V := fun i => VV 67 b 4 [some (.inr (10, 0)), some (.inl (nI s)), some (.inl (nI (sp_cnt (md_has b s) i))), some (.inl (nI i))] [] (fun r h' => ∃ x, r = some x ∧ K x h')) P ?_) ?_
  · intro i hi
    obtain ⟨f1, f2, f3, f4⟩ := lx hi h8 (by omega)
    obtain ⟨e1, e2⟩ := e_8i hs (show i < 8 by omega)
    rw [xr_67_4]
    simp only [xr_67_0, xr_67_1, xr_67_2, xr_67_3, xr_67_5, xr_67_6, xr_67_9, xr_67_12, xr_67_13, xr_67_14, xr_67_17, xr_67_19, xr_67_20, xr_67_21, xr_67_22, xr_67_23, xr_67_24, xr_67_27, xr_67_28, xr_67_31, xr_67_32, xr_67_33, xr_67_34, xr_67_37, xr_67_40, xr_67_41, hP, f1, f2, f3, f4, e_8, e1, e2, ix_z22, true_and, not_false_iff, true_imp_iff, false_imp_iff, sp_cnt, md_has]
    by_cases a : b 22 0 (8 * s + i) = 0 <;> simp [a, nI_1]
  · rw [xr_67_4]
    simp only [xr_67_0, xr_67_1, xr_67_2, xr_67_3, xr_67_5, xr_67_6, xr_67_9, xr_67_12, xr_67_13, xr_67_14, xr_67_17, xr_67_19, xr_67_20, xr_67_21, xr_67_22, xr_67_23, xr_67_24, xr_67_27, xr_67_28, xr_67_31, xr_67_32, xr_67_33, xr_67_34, xr_67_37, xr_67_40, xr_67_41, hP, lxe, not_true, false_imp_iff, true_imp_iff, and_true, ex_some]
theorem c_X3_sound (hN : b 10 0 1 = nI NQ) (h20 : NQ ≤ 20) : Vi 71 b [some (.inr (10, 0)), some (.inl x), none, none] K ↔ K (nI (sp_unw (b 12 0) (b 14 0) (b 10 0 19) x NQ)) b := by
  rw [Vi]
  simp only [xr_71_0, xr_71_1, xr_71_2, xr_71_3]
  refine Iff.trans (it0 (V := fun i => VV 71 b 4 [some (.inr (10, 0)), some (.inl x), some (.inl (nI (sp_unw (b 12 0) (b 14 0) (b 10 0 19) x i))), some (.inl (nI i))] [] (fun r h' => ∃ x, r = some x ∧ K x h')) NQ ?_) ?_
  · intro i hi
    obtain ⟨f1, f2, f3, f4⟩ := lx hi h20 (by omega)
    rw [xr_71_4]
    simp only [xr_71_0, xr_71_1, xr_71_2, xr_71_3, xr_71_5, xr_71_6, xr_71_9, xr_71_12, xr_71_13, xr_71_14, xr_71_17, xr_71_18, xr_71_19, xr_71_20, xr_71_23, xr_71_24, xr_71_27, xr_71_28, xr_71_29, xr_71_30, xr_71_33, xr_71_36, xr_71_37, xr_71_40, xr_71_41, xr_71_42, xr_71_43, xr_71_46, xr_71_49, xr_71_50, hN, f1, f2, f3, f4, ix_i12, ix_i14, true_and, not_false_iff, true_imp_iff, false_imp_iff, sp_unw]
    by_cases a : b 12 0 i = x <;> rcases i32_c (b 14 0 i) (b 10 0 19) with ⟨b1, b2⟩ | ⟨b1, b2⟩ <;> simp [a, b1, b2, nI_1]
  · rw [xr_71_4]
    simp only [xr_71_0, xr_71_1, xr_71_2, xr_71_3, xr_71_5, xr_71_6, xr_71_9, xr_71_12, xr_71_13, xr_71_14, xr_71_17, xr_71_18, xr_71_19, xr_71_20, xr_71_23, xr_71_24, xr_71_27, xr_71_28, xr_71_29, xr_71_30, xr_71_33, xr_71_36, xr_71_37, xr_71_40, xr_71_41, xr_71_42, xr_71_43, xr_71_46, xr_71_49, xr_71_50, hN, lxe, not_true, false_imp_iff, true_imp_iff, and_true, ex_some]
theorem c_X3_isOnShelf (hN : b 10 0 1 = nI NQ) (h20 : NQ ≤ 20) : Vi 70 b [some (.inr (10, 0)), some (.inl x), none] K ↔ K (b01 ((sp_lus (b 12 0) (b 14 0) (b 15 0) (b 10 0 19) x NQ).isSome = true)) b := by
  rw [Vi]
  simp only [xr_70_0, xr_70_1]
  have key : ∀ (k i : Nat), i + k = NQ → sp_lus (b 12 0) (b 14 0) (b 15 0) (b 10 0 19) x i = none → (VV 70 b 2 [some (.inr (10, 0)), some (.inl x), some (.inl (nI i))] [] (fun r h' => ∃ x, r = some x ∧ K x h') ↔ K (b01 ((sp_lus (b 12 0) (b 14 0) (b 15 0) (b 10 0 19) x NQ).isSome = true)) b) := by
    intro k
    induction k with
    | zero =>
      intro i hi hn
      rw [Nat.add_zero] at hi
      subst hi
      rw [xr_70_2]
      simp only [xr_70_0, xr_70_1, xr_70_3, xr_70_4, xr_70_7, xr_70_10, xr_70_11, xr_70_14, xr_70_15, xr_70_16, xr_70_17, xr_70_20, xr_70_21, xr_70_22, xr_70_25, xr_70_28, xr_70_29, xr_70_30, xr_70_33, xr_70_36, xr_70_37, hN, lxe, not_true, false_imp_iff, true_imp_iff, and_true, ex_some, z_or, true_and, hn]
      simp [b01]
    | succ k ih =>
      intro i hi hn
      obtain ⟨f1, f2, f3, f4⟩ := lx (show i < NQ by omega) h20 (by omega)
      rw [xr_70_2]
      simp only [xr_70_0, xr_70_1, xr_70_3, xr_70_4, xr_70_7, xr_70_10, xr_70_11, xr_70_14, xr_70_15, xr_70_16, xr_70_17, xr_70_20, xr_70_21, xr_70_22, xr_70_25, xr_70_28, xr_70_29, xr_70_30, xr_70_33, xr_70_36, xr_70_37, hN, f1, f2, f3, f4, ix_i12, c_X3_isThere, b01_z, true_and, not_false_iff, true_imp_iff, false_imp_iff, ex_some, o_or]
      by_cases c : b 12 0 i = x ∧ b 15 0 i = -1 ∧ b 14 0 i < b 10 0 19
      · have h1 : sp_lus (b 12 0) (b 14 0) (b 15 0) (b 10 0 19) x (i + 1) = some i := by
          rw [sp_lus, hn]; simp only; rw [if_pos c]
        have h2 : (sp_lus (b 12 0) (b 14 0) (b 15 0) (b 10 0 19) x NQ).isSome = true := sp_lus_mono (i := i + 1) (by rw [h1]; rfl) (by omega)
        simp [c.1, c.2.1, c.2.2, h2, b01]
      · have h1 : sp_lus (b 12 0) (b 14 0) (b 15 0) (b 10 0 19) x (i + 1) = none := by
          rw [sp_lus, hn]; simp only; rw [if_neg c]
        have ih2 := ih (i + 1) (by omega) h1
        by_cases c1 : b 12 0 i = x
        · have c2 : ¬ (b 15 0 i = -1 ∧ b 14 0 i < b 10 0 19) := fun z => c ⟨c1, z⟩
          simp only [c1, c2, not_true, not_false_iff, true_imp_iff, false_imp_iff, true_and, and_true]
          exact ih2
        · simp only [c1, not_true, not_false_iff, true_imp_iff, false_imp_iff, true_and, and_true]
          exact ih2
  exact key NQ 0 (by omega) rfl
theorem c_X3_handsIn (q p : Nat) (hs : s < 8) (hq : b 19 0 s = nI q) (hq20 : q < 20) (hp : b 12 0 q = nI p) (hp8 : p < 8) (hP : b 10 0 0 = nI P) (h8 : P ≤ 8) : Vv 68 b [some (.inr (10, 0)), some (.inl (nI s)), none, none] J ↔ J (md_hi P b s q p) := by
  rw [Vv]
  have s1 : vp_in (nI s) 8 := vp_in_nI hs (by omega)
  have s2 : (nI s).toNatClampNeg = s := nI_clamp (by omega)
  have q1 : vp_in (nI q) 20 := vp_in_nI hq20 (by omega)
  have q2 : (nI q).toNatClampNeg = q := nI_clamp (by omega)
  obtain ⟨e1, e2⟩ := e_8i hs hp8
  have hm : ∀ K, Vi 67 (md_h1 b s q p) [some (.inr (10, 0)), some (.inl (nI s)), none, none] K ↔ K (nI (sp_cnt (md_has (md_h1 b s q p) s) P)) (md_h1 b s q p) := fun K => c_X3_hasMany (md_h1 b s q p) P s K hs (by rw [md_h1_k (by omega)]; exact hP) h8
  have hh : ah_up (ah_up (ah_up (ah_up (ah_up (ah_up b 22 0 (8 * s + p) 1) 23 0 (8 * s + p) (b 23 0 (8 * s + p) ^^^ b 21 0 (8 * s + p))) 26 0 (8 * s + p) (b 10 0 17)) 15 0 q (-1)) 19 0 s (-1)) 18 0 s (b 10 0 17) = md_h1 b s q p := rfl
  have hle := sp_cnt_le (md_has (md_h1 b s q p) s) P
  have he : nI (sp_cnt (md_has (md_h1 b s q p) s) P) = nI P ↔ sp_cnt (md_has (md_h1 b s q p) s) P = P := nI_eq (by omega) (by omega)
  have ht : (md_h1 b s q p) 10 0 17 = b 10 0 17 := by rw [md_h1_k (by omega)]
  have hp0 : (md_h1 b s q p) 10 0 0 = nI P := by rw [md_h1_k (by omega)]; exact hP
  have d0 : ∀ (h : AHp) (k i j k' i' j' : Nat) (v : Int32), k' ≠ k → ah_up h k i j v k' i' j' = h k' i' j' := fun h k i j k' i' j' v z => by rw [ah_rk z]
  simp only [xr_68_0, xr_68_1, xr_68_4, xr_68_5, xr_68_6, xr_68_7, xr_68_9, xr_68_10, xr_68_11, xr_68_12, xr_68_15, xr_68_16, xr_68_17, xr_68_18, xr_68_19, xr_68_20, xr_68_23, xr_68_24, xr_68_25, xr_68_26, xr_68_27, xr_68_30, xr_68_31, xr_68_32, xr_68_33, xr_68_34, xr_68_37, xr_68_38, xr_68_39, xr_68_40, xr_68_41, xr_68_42, xr_68_45, xr_68_46, xr_68_47, xr_68_50, xr_68_51, xr_68_52, xr_68_55, xr_68_56, xr_68_57, xr_68_58, xr_68_59, xr_68_62, xr_68_63, xr_68_64, xr_68_65, xr_68_66, xr_68_69, xr_68_70, xr_68_71, xr_68_74, xr_68_75, xr_68_76, xr_68_77, xr_68_80, xr_68_81, xr_68_84, xr_68_87, xr_68_88, xr_68_91, xr_68_92, xr_68_93, xr_68_96, xr_68_97, ix_i12, ix_i15, ix_i18, ix_i19, ix_i20, ix_i21, ix_z22, ix_i23, ix_i26, s1, s2, hq, q1, q2, hp, e_8, e1, e2, true_and, o_or, d0 _ 22 _ _ 23 _ _ _ (by decide), d0 _ 22 _ _ 21 _ _ _ (by decide), d0 _ 22 _ _ 10 _ _ _ (by decide), d0 _ 23 _ _ 10 _ _ _ (by decide), d0 _ 26 _ _ 10 _ _ _ (by decide), d0 _ 15 _ _ 10 _ _ _ (by decide), d0 _ 19 _ _ 10 _ _ _ (by decide), hh, hm, he, ht, hp0]
  unfold md_hi
  by_cases c : sp_cnt (md_has (md_h1 b s q p) s) P = P <;> simp [c]
end MD
