/-! ===== slip, scribe, anew ===== -/
def md_clr (h : AHp) (s n : Nat) : AHp := fun k' i' j' => if (k' = 21 ∨ k' = 22) ∧ i' = 0 ∧ 8 * s ≤ j' ∧ j' < 8 * s + n then 0 else h k' i' j'
theorem md_clr_0 (h : AHp) (s : Nat) : md_clr h s 0 = h := by
  funext k i j
  unfold md_clr
  rw [if_neg (by omega)]
theorem md_clr_s (h : AHp) (s n : Nat) : ah_up (ah_up (md_clr h s n) 21 0 (8 * s + n) 0) 22 0 (8 * s + n) 0 = md_clr h s (n + 1) := by
  funext k i j
  rw [ah_rd, ah_rd]
  unfold md_clr
  by_cases c : (k = 21 ∨ k = 22) ∧ i = 0 ∧ 8 * s ≤ j ∧ j < 8 * s + n
  · rw [if_pos c, if_pos (show (k = 21 ∨ k = 22) ∧ i = 0 ∧ 8 * s ≤ j ∧ j < 8 * s + (n + 1) by omega)]
    simp
  · rw [if_neg c]
    by_cases c2 : (k = 21 ∨ k = 22) ∧ i = 0 ∧ 8 * s ≤ j ∧ j < 8 * s + (n + 1)
    · rw [if_pos c2]
      rcases c2.1 with rfl | rfl
      · rw [if_neg (by omega), if_pos (by omega)]
      · rw [if_pos (by omega)]
    · rw [if_neg c2, if_neg (by omega), if_neg (by omega)]
theorem md_clr_k {h : AHp} {s n k : Nat} (hk : k ≠ 21 ∧ k ≠ 22) : md_clr h s n k = h k := by
  funext i j
  unfold md_clr
  rw [if_neg (by omega)]
section O3
variable (h : AHp) (x y z : Int32) (K : Int32 → AHp → Prop) {P NQ NS D : Nat}
theorem c_X2_slip (hS : h 0 0 4 = nI NS) (h8 : NS ≤ 8) (hP : h 0 0 2 = nI P) (hP8 : P ≤ 8) : Vi 23 h [some (.inr (0, 0)), some (.inl x), some (.inl y), some (.inl z)] K ↔ if (¬ x < 0 ∧ x < nI NS) ∧ (¬ y < 0 ∧ y < nI P) ∧ (¬ z < 0 ∧ z ≤ 65535) ∧ h 7 x.toNatClampNeg y.toNatClampNeg = -1 then K 1 (ah_up h 5 x.toNatClampNeg y.toNatClampNeg z) else K 0 h := by
  rw [Vi]
  simp only [xr_23_0, xr_23_1, xr_23_2, xr_23_5, xr_23_8, xr_23_9, xr_23_10, xr_23_13, xr_23_16, xr_23_17, xr_23_20, xr_23_23, xr_23_24, xr_23_27, xr_23_28_1, xr_23_28_2, xr_23_29, xr_23_30, xr_23_33, xr_23_36, xr_23_37, xr_23_38, xr_23_39, xr_23_42, xr_23_43_1, xr_23_43_2, xr_23_44, xr_23_47, xr_23_48, xr_23_49, xr_23_50, xr_23_51, c_X2_isScribe, c_X2_isPiece, c_X2_isBits, c_X1_has, b01_z, b01_n, ex_some, hS, hP, ix_i5, Classical.not_not]
  by_cases c1 : ¬ x < 0 ∧ x < nI NS
  · have v1 : vp_in x 8 := vp_of h8 (by omega) c1.1 c1.2
    by_cases c2 : ¬ y < 0 ∧ y < nI P
    · have v2 : vp_in y 8 := vp_of hP8 (by omega) c2.1 c2.2
      by_cases c3 : ¬ z < 0 ∧ z ≤ 65535
      · by_cases c4 : h 7 x.toNatClampNeg y.toNatClampNeg = -1
        · simp only [c1, c2, c3, c4, v1, v2, true_or, or_true, not_true, not_false_iff, true_imp_iff, false_imp_iff, true_and, and_true, and_self, if_true]
        · simp only [c1, c2, c3, c4, v1, v2, true_or, or_true, not_true, not_false_iff, true_imp_iff, false_imp_iff, true_and, and_true, and_false, if_false]
      · simp only [c1, c2, c3, v1, v2, true_or, or_true, not_true, not_false_iff, true_imp_iff, false_imp_iff, true_and, and_true, and_false, false_and, if_false]
    · simp only [c1, c2, v1, true_or, or_true, not_true, not_false_iff, true_imp_iff, false_imp_iff, true_and, and_true, and_false, false_and, if_false]
  · simp only [c1, true_or, or_true, not_true, not_false_iff, true_imp_iff, false_imp_iff, true_and, and_true, and_false, false_and, if_false]
theorem c_X3_slip (hS : h 10 0 6 = nI NS) (h8 : NS ≤ 8) (hP : h 10 0 0 = nI P) (hP8 : P ≤ 8) : Vi 66 h [some (.inr (10, 0)), some (.inl x), some (.inl y), some (.inl z)] K ↔ if (¬ x < 0 ∧ x < nI NS) ∧ (¬ y < 0 ∧ y < nI P) ∧ (¬ z < 0 ∧ z ≤ 65535) ∧ h 22 0 (8 * x.toNatClampNeg + y.toNatClampNeg) = 0 then K 1 (ah_up (ah_up h 10 0 20 0) 21 0 (8 * x.toNatClampNeg + y.toNatClampNeg) z) else K 0 (ah_up h 10 0 20 0) := by
  rw [Vi]
  have d0 : (ah_up h 10 0 20 0) 10 0 6 = nI NS := hS
  have d1 : (ah_up h 10 0 20 0) 10 0 0 = nI P := hP
  have d2 : ∀ j, (ah_up h 10 0 20 0) 22 0 j = h 22 0 j := fun j => rfl
  simp only [xr_66_0, xr_66_1, xr_66_2, xr_66_5, xr_66_6, xr_66_7, xr_66_10, xr_66_13, xr_66_14, xr_66_15, xr_66_18, xr_66_21, xr_66_22, xr_66_25, xr_66_28, xr_66_29, xr_66_32, xr_66_34, xr_66_35, xr_66_36, xr_66_37, xr_66_38, xr_66_39, xr_66_42, xr_66_43, xr_66_44, xr_66_45, xr_66_48, xr_66_50, xr_66_51, xr_66_52, xr_66_53, xr_66_54, xr_66_55, xr_66_56, xr_66_57, c_X3_isScribe, c_X3_isPiece, c_X3_areBits, b01_z, b01_n, ex_some, d0, d1, d2, ix_i21, ix_z22, Classical.not_not]
  by_cases c1 : ¬ x < 0 ∧ x < nI NS
  · by_cases c2 : ¬ y < 0 ∧ y < nI P
    · obtain ⟨s, s1, rfl⟩ := in_nI (by omega) c1.1 c1.2
      obtain ⟨p, q1, rfl⟩ := in_nI (by omega) c2.1 c2.2
      obtain ⟨e1, e2⟩ := e_8i (show s < 8 by omega) (show p < 8 by omega)
      have e3 : (nI s).toNatClampNeg = s := nI_clamp (by omega)
      have e4 : (nI p).toNatClampNeg = p := nI_clamp (by omega)
      by_cases c3 : ¬ z < 0 ∧ z ≤ 65535
      · by_cases c4 : h 22 0 (8 * s + p) = 0
        · simp only [c1, c2, c3, c4, e_8, e1, e2, e3, e4, true_or, or_true, not_true, not_false_iff, true_imp_iff, false_imp_iff, true_and, and_true, and_self, if_true]
        · simp only [c1, c2, c3, c4, e_8, e1, e2, e3, e4, true_or, or_true, not_true, not_false_iff, true_imp_iff, false_imp_iff, true_and, and_true, and_false, if_false]
      · simp only [c1, c2, c3, true_or, or_true, not_true, not_false_iff, true_imp_iff, false_imp_iff, true_and, and_true, and_false, false_and, if_false]
    · simp only [c1, c2, true_or, or_true, not_true, not_false_iff, true_imp_iff, false_imp_iff, true_and, and_true, and_false, false_and, if_false]
  · simp only [c1, true_or, or_true, not_true, not_false_iff, true_imp_iff, false_imp_iff, true_and, and_true, and_false, false_and, if_false]
theorem op_slip (g : GG h) : Vi 23 h [some (.inr (0, 0)), some (.inl x), some (.inl y), some (.inl z)] (fun r h1 => Vi 66 h1 [some (.inr (10, 0)), some (.inl x), some (.inl y), some (.inl z)] (fun r2 h2 => r2 = r ∧ GG h2)) := by
  obtain ⟨P, NQ, NS, D, c, r⟩ := id g
  obtain ⟨⟨p1, p2, p3, p4, p5⟩, z2, z3, z4, z5, z6, z7⟩ := c.1
  obtain ⟨y0, y1, y2, y3, y4, y5⟩ := r.1
  rw [c_X2_slip h x y z _ z4 p4 z2 p2]
  by_cases c1 : (¬ x < 0 ∧ x < nI NS) ∧ (¬ y < 0 ∧ y < nI P)
  · obtain ⟨s, s1, rfl⟩ := in_nI (by omega) c1.1.1 c1.1.2
    obtain ⟨p, q1, rfl⟩ := in_nI (by omega) c1.2.1 c1.2.2
    have e3 : (nI s).toNatClampNeg = s := nI_clamp (by omega)
    have e4 : (nI p).toNatClampNeg = p := nI_clamp (by omega)
    have hh : h 22 0 (8 * s + p) = 0 ↔ h 7 s p = -1 := by
      rw [(( r.2.2 s s1).2.2.2.2 p (by omega)).2.1]
      by_cases c9 : h 7 s p = -1 <;> simp [c9]
    by_cases hc : (¬ z < 0 ∧ z ≤ 65535) ∧ h 7 s p = -1
    · rw [e3, e4, if_pos ⟨c1.1, c1.2, hc⟩]
      rw [c_X3_slip (P := P) (NS := NS) _ (nI s) (nI p) z _ (by rw [ah_rk (by omega), y2, z4]) p4 (by rw [ah_rk (by omega), y0, z2]) p2, e3, e4]
      rw [if_pos ⟨c1.1, c1.2, hc.1, by rw [ah_rk (by omega)]; exact hh.mpr hc.2⟩]
      refine ⟨rfl, ?_⟩
      obtain ⟨e, he, rfl⟩ := in_nIl (N := 65535) (by omega) hc.1.1 hc.1.2
      generalize hg : ah_up (ah_up (ah_up h 5 s p (nI e)) 10 0 20 0) 21 0 (8 * s + p) (nI e) = w
      have k5 : ∀ t j, w 5 t j = if t = s ∧ j = p then nI e else h 5 t j := by intro t j; rw [← hg]; simp [ah_rd]
      have k21 : ∀ j, w 21 0 j = if j = 8 * s + p then nI e else h 21 0 j := by intro j; rw [← hg]; simp [ah_rd]
      have k10 : ∀ j, j < 20 → w 10 0 j = h 10 0 j := by intro j hj; rw [← hg]; simp [ah_rd, show ¬ j = 20 by omega]
      have ko : ∀ k, k ≠ 5 → k ≠ 10 → k ≠ 21 → w k = h k := by intro k h1 h2 h3; rw [← hg]; repeat rw [ah_rk (by omega)]
      clear hg
      obtain ⟨c0, cq, cs⟩ := c
      obtain ⟨-, rq, rs⟩ := r
      refine ⟨P, NQ, NS, D, ⟨?_, fun q hq => cI_q_congr (by rw [ko 3 (by omega) (by omega) (by omega)]) (cq q hq), fun t ht => ?_⟩, ⟨⟨?_, ?_, ?_, ?_, ?_, ?_⟩, fun q hq => ?_, fun t ht => ?_⟩⟩
      · unfold cI_0; rw [ko 0 (by omega) (by omega) (by omega)]; exact c0
      · obtain ⟨i1, i2, i3, i4, i5, i6⟩ := cs t ht
        unfold cI_s cI_b
        simp only [ko 3 (by omega) (by omega) (by omega), ko 4 (by omega) (by omega) (by omega), ko 6 (by omega) (by omega) (by omega), ko 7 (by omega) (by omega) (by omega)]
        refine ⟨i1, i2, i3, fun p' hp' => ?_, i5, i6⟩
        rw [k5]
        by_cases c9 : t = s ∧ p' = p
        · rw [if_pos c9]; exact ⟨e, by omega, rfl⟩
        · rw [if_neg c9]; exact i4 p' hp'
      · rw [k10 _ (by omega), ko 0 (by omega) (by omega) (by omega)]; exact y0
      · rw [k10 _ (by omega), ko 0 (by omega) (by omega) (by omega)]; exact y1
      · rw [k10 _ (by omega), ko 0 (by omega) (by omega) (by omega)]; exact y2
      · rw [k10 _ (by omega), ko 0 (by omega) (by omega) (by omega)]; exact y3
      · rw [k10 _ (by omega), ko 0 (by omega) (by omega) (by omega)]; exact y4
      · rw [k10 _ (by omega), ko 0 (by omega) (by omega) (by omega)]; exact y5
      · unfold rI_q
        simp only [ko 3 (by omega) (by omega) (by omega), ko 12 (by omega) (by omega) (by omega), ko 13 (by omega) (by omega) (by omega), ko 14 (by omega) (by omega) (by omega), ko 15 (by omega) (by omega) (by omega)]
        exact rq q hq
      · have v := rs t ht
        unfold rI_s rI_p at v ⊢
        have kk : ∀ k, k ≠ 5 → k ≠ 10 → k ≠ 21 → w k = h k := ko
        simp only [kk 0 (by omega) (by omega) (by omega), kk 4 (by omega) (by omega) (by omega), kk 6 (by omega) (by omega) (by omega), kk 7 (by omega) (by omega) (by omega), kk 8 (by omega) (by omega) (by omega), kk 9 (by omega) (by omega) (by omega), kk 17 (by omega) (by omega) (by omega), kk 18 (by omega) (by omega) (by omega), kk 19 (by omega) (by omega) (by omega), kk 20 (by omega) (by omega) (by omega), kk 22 (by omega) (by omega) (by omega), kk 23 (by omega) (by omega) (by omega), kk 24 (by omega) (by omega) (by omega), kk 25 (by omega) (by omega) (by omega), kk 26 (by omega) (by omega) (by omega)]
        obtain ⟨v1, v2, v3, v4, v5⟩ := v
        refine ⟨v1, v2, v3, v4, fun p' hp' => ?_⟩
        obtain ⟨u1, u2⟩ := v5 p' hp'
        refine ⟨?_, u2⟩
        rw [k5, k21]
        by_cases c9 : t = s ∧ p' = p
        · rw [if_pos c9, if_pos (by omega)]
        · rw [if_neg c9, if_neg (by omega)]; exact u1
    · rw [e3, e4, if_neg (fun zz => hc ⟨zz.2.2.1, zz.2.2.2⟩)]
      rw [c_X3_slip (P := P) (NS := NS) h (nI s) (nI p) z _ (by rw [y2, z4]) p4 (by rw [y0, z2]) p2, e3, e4]
      rw [if_neg (fun zz => hc ⟨zz.2.2.1, hh.mp zz.2.2.2⟩)]
      exact ⟨rfl, GG_thr g⟩
  · rw [if_neg (fun zz => c1 ⟨zz.1, zz.2.1⟩)]
    rw [c_X3_slip (P := P) (NS := NS) h x y z _ (by rw [y2, z4]) p4 (by rw [y0, z2]) p2]
    rw [if_neg (fun zz => c1 ⟨zz.1, zz.2.1⟩)]
    exact ⟨rfl, GG_thr g⟩
theorem c_X2_scribe (hS : h 0 0 4 = nI NS) (h8 : NS ≤ 8) : Vi 22 h [some (.inr (0, 0)), some (.inl x)] K ↔ if (¬ x < 1 ∧ ¬ 9 < x) ∧ NS < 8 then K (nI NS) (ah_up (sp_beg h NS x (h 0 0 5)) 0 0 4 (nI (NS + 1))) else K (-1) h := by
  rw [Vi]
  have g8 : nI NS < (8 : Int32) ↔ NS < 8 := nI_ltI (b := 8) (by omega) (by omega)
  simp only [xr_22_0, xr_22_1, xr_22_2, xr_22_5, xr_22_6, xr_22_8, xr_22_11, xr_22_12, xr_22_15, xr_22_17, xr_22_20, xr_22_21, xr_22_22, xr_22_23, xr_22_26, xr_22_27, xr_22_30_1, xr_22_30_2, xr_22_31, xr_22_32, xr_22_33, xr_22_36, xr_22_39, xr_22_40, xr_22_41, xr_22_44, xr_22_45, xr_22_46, xr_22_49, xr_22_50, xr_22_53, xr_22_54, xr_22_55, c_X1_begin, ex_some, hS, g8]
  by_cases c1 : x < 1
  · simp only [c1, not_true, not_false_iff, true_imp_iff, false_imp_iff, true_and, and_true, false_and, if_false]
  · by_cases c2 : 9 < x
    · simp only [c1, c2, not_true, not_false_iff, true_imp_iff, false_imp_iff, true_and, and_true, false_and, and_false, if_false]
    · by_cases c3 : NS < 8
      · have v1 : vp_in (nI NS) 8 := vp_in_nI c3 (by omega)
        have v2 : (nI NS).toNatClampNeg = NS := nI_clamp (by omega)
        have e0 : sp_beg h NS x (h 0 0 5) 0 0 4 = nI NS := by
          unfold sp_beg
          rw [ah_rk (by omega), ah_rk (by omega), ah_rk (by omega), ah_rk (by omega)]
          exact hS
        have e1 : ∀ v, (ah_up (sp_beg h NS x (h 0 0 5)) 0 0 4 v) 0 0 4 = v := fun v => rfl
        simp only [c1, c2, c3, v1, v2, e0, e1, nI_1, nI_sub1, not_true, not_false_iff, true_imp_iff, false_imp_iff, true_and, and_true, and_self, if_true]
      · simp only [c1, c2, c3, not_true, not_false_iff, true_imp_iff, false_imp_iff, true_and, and_true, false_and, and_false, if_false]
def md_beg (h : AHp) (s : Nat) (x : Int32) : AHp := ah_up (ah_up (ah_up (ah_up (ah_up h 10 0 20 0) 17 0 s x) 18 0 s (h 10 0 17)) 19 0 s (-1)) 20 0 s (-1)
theorem c_X3_scribe (hS : h 10 0 6 = nI NS) (h8 : NS ≤ 8) : Vi 65 h [some (.inr (10, 0)), some (.inl x), none] K ↔ if (¬ x < 1 ∧ ¬ 9 < x) ∧ NS < 8 then K (nI NS) (ah_up (md_clr (md_beg h NS x) NS 8) 10 0 6 (nI (NS + 1))) else K (-1) (ah_up h 10 0 20 0) := by
  rw [Vi]
  have g8 : nI NS = (8 : Int32) ↔ NS = 8 := nI_eq (b := 8) (by omega) (by omega)
  have d6 : ∀ (g : AHp) k j v, k ≠ 10 → (ah_up g k 0 j v) 10 0 6 = g 10 0 6 := fun g k j v hk => by rw [ah_rk (by omega)]
  have d17 : ∀ (g : AHp) k j v, k ≠ 10 → (ah_up g k 0 j v) 10 0 17 = g 10 0 17 := fun g k j v hk => by rw [ah_rk (by omega)]
  have d0 : (ah_up h 10 0 20 0) 10 0 6 = nI NS := hS
  have d1 : (ah_up h 10 0 20 0) 10 0 17 = h 10 0 17 := rfl
  by_cases c3 : NS < 8
  · have v1 : vp_in (nI NS) 8 := vp_in_nI c3 (by omega)
    have v2 : (nI NS).toNatClampNeg = NS := nI_clamp (by omega)
    have c4 : ¬ NS = 8 := by omega
    simp only [xr_65_0, xr_65_1, xr_65_2, xr_65_5, xr_65_6, xr_65_9, xr_65_11, xr_65_14, xr_65_15, xr_65_16, xr_65_19, xr_65_20, xr_65_22, xr_65_25, xr_65_26, xr_65_27, xr_65_28, xr_65_31, xr_65_32, xr_65_35, xr_65_36, xr_65_37, xr_65_38, xr_65_41, xr_65_42, xr_65_45, xr_65_46, xr_65_49, xr_65_50, xr_65_51, xr_65_54, xr_65_55, xr_65_58, xr_65_59, xr_65_60, xr_65_61, xr_65_64, xr_65_65, xr_65_68, xr_65_69, xr_65_70, xr_65_71, ex_some, g8, d0, d1, d6 _ 17 _ _ (by omega), d6 _ 18 _ _ (by omega), d6 _ 19 _ _ (by omega), d17 _ 17 _ _ (by omega), ix_i17, ix_i18, ix_i19, ix_i20, v1, v2, c4, not_true, not_false_iff, true_imp_iff, false_imp_iff, true_and, and_true]
    have hb : ah_up (ah_up (ah_up (ah_up (ah_up h 10 0 20 0) 17 0 NS x) 18 0 NS (h 10 0 17)) 19 0 NS (-1)) 20 0 NS (-1) = md_beg h NS x := rfl
    rw [hb]
    have hb6 : md_beg h NS x 10 0 6 = nI NS := by
      unfold md_beg
      rw [ah_rk (by omega), ah_rk (by omega), ah_rk (by omega), ah_rk (by omega)]
      exact hS
    have lp : ∀ Q, VV 65 (md_beg h NS x) 72 [some (.inr (10, 0)), some (.inl x), some (.inl 0)] [] Q ↔ Q (some (nI NS)) (ah_up (md_clr (md_beg h NS x) NS 8) 10 0 6 (nI (NS + 1))) := by
      intro Q
      refine Iff.trans (Iff.of_eq (congrArg (fun g => VV 65 g 72 [some (.inr (10, 0)), some (.inl x), some (.inl 0)] [] Q) (md_clr_0 (md_beg h NS x) NS).symm)) ?_
      refine Iff.trans (it0 (V := fun i => VV 65 (md_clr (md_beg h NS x) NS i) 72 [some (.inr (10, 0)), some (.inl x), some (.inl (nI i))] [] Q) 8 ?_) ?_
      · intro i hi
        obtain ⟨f1, f2, f3, f4⟩ := lx hi (Nat.le_refl 8) (by omega)
        have f1' : ¬ (8 : Int32) ≤ nI i := f1
        obtain ⟨e1, e2⟩ := e_8i c3 (show i < 8 by omega)
        have q6 : md_clr (md_beg h NS x) NS i 10 0 6 = nI NS := by rw [md_clr_k (by omega)]; exact hb6
        have q7 : (ah_up (md_clr (md_beg h NS x) NS i) 21 0 (8 * NS + i) 0) 10 0 6 = nI NS := by rw [ah_rk (by omega)]; exact q6
        rw [xr_65_72]
        simp only [xr_65_0, xr_65_1, xr_65_2, xr_65_5, xr_65_6, xr_65_9, xr_65_11, xr_65_14, xr_65_15, xr_65_16, xr_65_19, xr_65_20, xr_65_22, xr_65_25, xr_65_26, xr_65_27, xr_65_28, xr_65_31, xr_65_32, xr_65_35, xr_65_36, xr_65_37, xr_65_38, xr_65_41, xr_65_42, xr_65_45, xr_65_46, xr_65_49, xr_65_50, xr_65_51, xr_65_54, xr_65_55, xr_65_58, xr_65_59, xr_65_60, xr_65_61, xr_65_64, xr_65_65, xr_65_68, xr_65_69, xr_65_70, xr_65_71, xr_65_73, xr_65_75, xr_65_78, xr_65_79, xr_65_82, xr_65_84, xr_65_85, xr_65_88, xr_65_89, xr_65_90, xr_65_91, xr_65_92, xr_65_93, xr_65_94, xr_65_97, xr_65_99, xr_65_100, xr_65_103, xr_65_104, xr_65_105, xr_65_106, xr_65_107, xr_65_108, xr_65_111, xr_65_114, xr_65_115, xr_65_116, xr_65_119, xr_65_120, xr_65_121, xr_65_124, xr_65_125, xr_65_128, xr_65_129, xr_65_130, f1', f4, q6, q7, e_8, e1, e2, ix_i21, ix_z22, md_clr_s, true_or, not_false_iff, true_imp_iff, false_imp_iff, true_and]
      · have f9 : (8 : Int32) ≤ nI 8 := Int32.le_refl _
        have q6 : md_clr (md_beg h NS x) NS 8 10 0 6 = nI NS := by rw [md_clr_k (by omega)]; exact hb6
        have e1 : ∀ v, (ah_up (md_clr (md_beg h NS x) NS 8) 10 0 6 v) 10 0 6 = v := fun v => rfl
        rw [xr_65_72]
        simp only [xr_65_0, xr_65_1, xr_65_2, xr_65_5, xr_65_6, xr_65_9, xr_65_11, xr_65_14, xr_65_15, xr_65_16, xr_65_19, xr_65_20, xr_65_22, xr_65_25, xr_65_26, xr_65_27, xr_65_28, xr_65_31, xr_65_32, xr_65_35, xr_65_36, xr_65_37, xr_65_38, xr_65_41, xr_65_42, xr_65_45, xr_65_46, xr_65_49, xr_65_50, xr_65_51, xr_65_54, xr_65_55, xr_65_58, xr_65_59, xr_65_60, xr_65_61, xr_65_64, xr_65_65, xr_65_68, xr_65_69, xr_65_70, xr_65_71, xr_65_73, xr_65_75, xr_65_78, xr_65_79, xr_65_82, xr_65_84, xr_65_85, xr_65_88, xr_65_89, xr_65_90, xr_65_91, xr_65_92, xr_65_93, xr_65_94, xr_65_97, xr_65_99, xr_65_100, xr_65_103, xr_65_104, xr_65_105, xr_65_106, xr_65_107, xr_65_108, xr_65_111, xr_65_114, xr_65_115, xr_65_116, xr_65_119, xr_65_120, xr_65_121, xr_65_124, xr_65_125, xr_65_128, xr_65_129, xr_65_130, f9, q6, e1, nI_1, nI_sub1, not_true, not_false_iff, true_imp_iff, false_imp_iff, true_and, and_true]
    by_cases c1 : x < 1
    · simp only [c1, not_true, not_false_iff, true_imp_iff, false_imp_iff, true_and, and_true, false_and, if_false]
    · rcases i32_c 9 x with ⟨b1, b2⟩ | ⟨b1, b2⟩
      · simp only [c1, b1, b2, not_true, not_false_iff, true_imp_iff, false_imp_iff, true_and, and_true, false_and, and_false, if_false]
      · simp only [c1, b1, b2, c3, lp, ex_some, not_true, not_false_iff, true_imp_iff, false_imp_iff, true_and, and_true, and_self, if_true]
  · have c4 : NS = 8 := by omega
    simp only [xr_65_0, xr_65_1, xr_65_2, xr_65_5, xr_65_6, xr_65_9, xr_65_11, xr_65_25, xr_65_26, ex_some, g8, d0, c4, c3, not_true, not_false_iff, true_imp_iff, false_imp_iff, true_and, and_true, and_false, if_false]
    simp [show nI 8 = (8 : Int32) from rfl]
end O3
