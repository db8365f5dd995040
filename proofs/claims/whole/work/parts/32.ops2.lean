/-! ===== quire, slip, scribe, anew ===== -/
theorem vp_of {x : Int32} {N M : Nat} (hN : N ≤ M) (hM : M ≤ 10000) (h0 : ¬ x < 0) (h1 : x < nI N) : vp_in x M := by
  obtain ⟨p, hp, rfl⟩ := in_nI (by omega) h0 h1
  exact vp_in_nI (by omega) (by omega)
theorem nI_sub1 (n : Nat) : nI (n + 1) - 1 = nI n := nI_pred n
theorem cI_s_grow {P NQ NQ' D e s : Nat} {h h' : AHp} (hN : NQ ≤ NQ') (e4 : h' 4 s = h 4 s) (e5 : h' 5 s = h 5 s) (e6 : h' 6 s = h 6 s) (e7 : h' 7 s = h 7 s) (e3 : ∀ q, q < NQ → h' 3 q 0 = h 3 q 0) (i : cI_s P NQ D e h s) : cI_s P NQ' D e h' s := by
  unfold cI_s cI_b at i ⊢
  rw [e4, e5, e6, e7]
  obtain ⟨i1, i2, i3, i4, i5, i6⟩ := i
  refine ⟨i1, i2, i3, i4, i5, ?_⟩
  rcases i6 with i6 | ⟨q, p, er, d, pc, j1, j2, j3, j4, j5, j6, j7⟩
  · exact Or.inl i6
  · exact Or.inr ⟨q, p, er, d, pc, by omega, j2, j3, j4, j5, by rw [e3 q j1]; exact j6, j7⟩
section O2
variable (h : AHp) (x y z : Int32) (K : Int32 → AHp → Prop) {P NQ NS D : Nat}
theorem c_X2_quire (hN : h 0 0 3 = nI NQ) (h20 : NQ ≤ 20) : Vi 16 h [some (.inr (0, 0)), some (.inl x), some (.inl y)] K ↔ if ((¬ x < 0 ∧ x < h 0 0 2) ∧ (¬ y < 0 ∧ y ≤ 65535)) ∧ NQ < 20 then K (nI NQ) (ah_up (ah_up (ah_up (ah_up (ah_up h 3 NQ 0 x) 3 NQ 1 y) 3 NQ 2 0) 3 NQ 3 (-1)) 0 0 3 (nI (NQ + 1))) else K (-1) h := by
  rw [Vi]
  have g7 : (20 : Int32) ≤ nI NQ ↔ 20 ≤ NQ := nI_leI (a := 20) (by omega) (by omega)
  have g8 : nI NQ < (20 : Int32) ↔ NQ < 20 := nI_ltI (b := 20) (by omega) (by omega)
  simp only [xr_16_0, xr_16_1, xr_16_2, xr_16_5, xr_16_8, xr_16_9, xr_16_12, xr_16_15, xr_16_16, xr_16_19, xr_16_21, xr_16_24, xr_16_25, xr_16_26, xr_16_27, xr_16_30, xr_16_31, xr_16_34_1, xr_16_34_2, xr_16_35, xr_16_36, xr_16_37, xr_16_40, xr_16_41, xr_16_42, xr_16_45, xr_16_46, xr_16_47, xr_16_50, xr_16_51, xr_16_54, xr_16_55, xr_16_56, c_X2_isPiece, c_X2_isBits, c_X0_begin, b01_z, b01_n, ex_some, hN, g7, g8]
  by_cases c1 : ¬ x < 0 ∧ x < h 0 0 2
  · by_cases c2 : ¬ y < 0 ∧ y ≤ 65535
    · by_cases c3 : NQ < 20
      · have v1 : vp_in (nI NQ) 20 := vp_in_nI c3 (by omega)
        have v2 : (nI NQ).toNatClampNeg = NQ := nI_clamp (by omega)
        have c4 : ¬ 20 ≤ NQ := by omega
        simp only [c1, c2, c3, c4, v1, v2, not_true, not_false_iff, true_imp_iff, false_imp_iff, true_and, and_true, if_true, and_self]
        have e0 : (ah_up (ah_up (ah_up (ah_up h 3 NQ 0 x) 3 NQ 1 y) 3 NQ 2 0) 3 NQ 3 (-1)) 0 0 3 = nI NQ := hN
        have e1 : ∀ v, (ah_up (ah_up (ah_up (ah_up (ah_up h 3 NQ 0 x) 3 NQ 1 y) 3 NQ 2 0) 3 NQ 3 (-1)) 0 0 3 v) 0 0 3 = v := fun v => rfl
        rw [e0, e1, nI_1, nI_sub1]
      · have c4 : 20 ≤ NQ := by omega
        simp only [c1, c2, c3, c4, not_true, not_false_iff, true_imp_iff, false_imp_iff, true_and, and_true, and_false, if_false]
    · simp only [c1, c2, not_true, not_false_iff, true_imp_iff, false_imp_iff, true_and, and_true, and_false, false_and, if_false]
  · simp only [c1, not_true, not_false_iff, true_imp_iff, false_imp_iff, true_and, and_true, and_false, false_and, if_false]
theorem c_X3_quire (hN : h 10 0 1 = nI NQ) (h20 : NQ ≤ 20) : Vi 63 h [some (.inr (10, 0)), some (.inl x), some (.inl y)] K ↔ if ((¬ x < 0 ∧ x < h 10 0 0) ∧ (¬ y < 0 ∧ y ≤ 65535)) ∧ NQ < 20 then K (nI NQ) (ah_up (ah_up (ah_up (ah_up (ah_up (ah_up h 10 0 20 0) 12 0 NQ x) 13 0 NQ y) 14 0 NQ 0) 15 0 NQ (-1)) 10 0 1 (nI (NQ + 1))) else K (-1) (ah_up h 10 0 20 0) := by
  rw [Vi]
  have g7 : nI NQ = (20 : Int32) ↔ NQ = 20 := nI_eq (b := 20) (by omega) (by omega)
  have d0 : (ah_up h 10 0 20 0) 10 0 1 = nI NQ := hN
  have d1 : (ah_up h 10 0 20 0) 10 0 0 = h 10 0 0 := rfl
  simp only [xr_63_0, xr_63_1, xr_63_2, xr_63_5, xr_63_6, xr_63_9, xr_63_11, xr_63_14, xr_63_15, xr_63_16, xr_63_19, xr_63_22, xr_63_23, xr_63_26, xr_63_29, xr_63_30, xr_63_31, xr_63_32, xr_63_35, xr_63_36, xr_63_39, xr_63_40, xr_63_41, xr_63_42, xr_63_45, xr_63_46, xr_63_49, xr_63_50, xr_63_51, xr_63_52, xr_63_55, xr_63_56, xr_63_59, xr_63_60, xr_63_61, xr_63_62, xr_63_65, xr_63_66, xr_63_69, xr_63_70, xr_63_71, xr_63_72, xr_63_73, xr_63_76, xr_63_77, xr_63_78, xr_63_81, xr_63_82, xr_63_85, xr_63_86, xr_63_87, c_X3_isPiece, c_X3_areBits, b01_z, b01_n, ex_some, d0, d1, g7, ix_i12, ix_i13, ix_i14, ix_i15]
  by_cases c3 : NQ < 20
  · have v1 : vp_in (nI NQ) 20 := vp_in_nI c3 (by omega)
    have v2 : (nI NQ).toNatClampNeg = NQ := nI_clamp (by omega)
    have c4 : ¬ NQ = 20 := by omega
    by_cases c1 : ¬ x < 0 ∧ x < h 10 0 0
    · by_cases c2 : ¬ y < 0 ∧ y ≤ 65535
      · have e0 : ∀ g : AHp, g 10 0 1 = nI NQ → ∀ k j v, k ≠ 10 → (ah_up g k 0 j v) 10 0 1 = nI NQ := fun g hg k j v hk => by rw [ah_rk (by omega)]; exact hg
        have f1 := e0 _ d0 12 NQ x (by omega)
        have f2 := e0 _ f1 13 NQ y (by omega)
        have f3 := e0 _ f2 14 NQ 0 (by omega)
        have f4 := e0 _ f3 15 NQ (-1) (by omega)
        have e1 : ∀ v, (ah_up (ah_up (ah_up (ah_up (ah_up (ah_up h 10 0 20 0) 12 0 NQ x) 13 0 NQ y) 14 0 NQ 0) 15 0 NQ (-1)) 10 0 1 v) 10 0 1 = v := fun v => rfl
        simp only [c1, c2, c3, c4, v1, v2, f1, f2, f3, f4, e1, nI_1, nI_sub1, not_true, not_false_iff, true_imp_iff, false_imp_iff, true_and, and_true, if_true, and_self]
      · simp only [c1, c2, c4, not_true, not_false_iff, true_imp_iff, false_imp_iff, true_and, and_true, and_false, false_and, if_false]
    · simp only [c1, c4, not_true, not_false_iff, true_imp_iff, false_imp_iff, true_and, and_true, and_false, false_and, if_false]
  · have c4 : NQ = 20 := by omega
    simp only [c3, c4, not_true, not_false_iff, true_imp_iff, false_imp_iff, true_and, and_true, and_false, false_and, if_false]
    simp
theorem op_quire (g : GG h) : Vi 16 h [some (.inr (0, 0)), some (.inl x), some (.inl y)] (fun r h1 => Vi 63 h1 [some (.inr (10, 0)), some (.inl x), some (.inl y)] (fun r2 h2 => r2 = r ∧ GG h2)) := by
  obtain ⟨P, NQ, NS, D, c, r⟩ := id g
  obtain ⟨⟨p1, p2, p3, p4, p5⟩, z2, z3, z4, z5, z6, z7⟩ := c.1
  obtain ⟨y0, y1, y2, y3, y4, y5⟩ := r.1
  rw [c_X2_quire h x y _ z3 p3]
  by_cases hc : ((¬ x < 0 ∧ x < h 0 0 2) ∧ (¬ y < 0 ∧ y ≤ 65535)) ∧ NQ < 20
  · rw [if_pos hc]
    rw [c_X3_quire (NQ := NQ) _ x y _ (by rw [ah_rk (by omega), ah_rk (by omega), ah_rk (by omega), ah_rk (by omega), ah_rk (by omega), y1, z3]) p3]
    rw [if_pos (by
      rw [ah_rk (by omega), ah_rk (by omega), ah_rk (by omega), ah_rk (by omega), ah_rk (by omega), y0]
      exact hc)]
    refine ⟨rfl, ?_⟩
    obtain ⟨⟨⟨hx0, hx1⟩, hy0, hy1⟩, hlt⟩ := hc
    rw [z2] at hx1
    obtain ⟨p, hp, rfl⟩ := in_nI (by omega) hx0 hx1
    obtain ⟨e, he, rfl⟩ := in_nIl (N := 65535) (by omega) hy0 hy1
    generalize hg : ah_up (ah_up (ah_up (ah_up (ah_up (ah_up (ah_up (ah_up (ah_up (ah_up (ah_up h 3 NQ 0 (nI p)) 3 NQ 1 (nI e)) 3 NQ 2 0) 3 NQ 3 (-1)) 0 0 3 (nI (NQ + 1))) 10 0 20 0) 12 0 NQ (nI p)) 13 0 NQ (nI e)) 14 0 NQ 0) 15 0 NQ (-1)) 10 0 1 (nI (NQ + 1)) = w
    have k0 : ∀ j, w 0 0 j = if j = 3 then nI (NQ + 1) else h 0 0 j := by intro j; rw [← hg]; simp [ah_rd]
    have k3 : ∀ q j, w 3 q j = if q = NQ ∧ j = 3 then -1 else if q = NQ ∧ j = 2 then 0 else if q = NQ ∧ j = 1 then nI e else if q = NQ ∧ j = 0 then nI p else h 3 q j := by intro q j; rw [← hg]; simp [ah_rd]
    have k10 : ∀ j, j < 20 → w 10 0 j = if j = 1 then nI (NQ + 1) else h 10 0 j := by intro j hj; rw [← hg]; simp [ah_rd, show ¬ j = 20 by omega]
    have k12 : ∀ q, w 12 0 q = if q = NQ then nI p else h 12 0 q := by intro q; rw [← hg]; simp [ah_rd]
    have k13 : ∀ q, w 13 0 q = if q = NQ then nI e else h 13 0 q := by intro q; rw [← hg]; simp [ah_rd]
    have k14 : ∀ q, w 14 0 q = if q = NQ then 0 else h 14 0 q := by intro q; rw [← hg]; simp [ah_rd]
    have k15 : ∀ q, w 15 0 q = if q = NQ then -1 else h 15 0 q := by intro q; rw [← hg]; simp [ah_rd]
    have ko : ∀ k, k ≠ 0 → k ≠ 3 → k ≠ 10 → k ≠ 12 → k ≠ 13 → k ≠ 14 → k ≠ 15 → w k = h k := by
      intro k h1 h2 h3 h4 h5 h6 h7; rw [← hg]; repeat rw [ah_rk (by omega)]
    clear hg
    obtain ⟨-, cq, cs⟩ := c
    obtain ⟨-, rq, rs⟩ := r
    refine ⟨P, NQ + 1, NS, D, ⟨⟨⟨p1, p2, by omega, p4, p5⟩, ?_, ?_, ?_, ?_, ?_, ?_⟩, fun q hq => ?_, fun t ht => ?_⟩, ⟨⟨?_, ?_, ?_, ?_, ?_, ?_⟩, fun q hq => ?_, fun t ht => ?_⟩⟩
    · rw [k0]; simp [z2]
    · rw [k0]; simp
    · rw [k0]; simp [z4]
    · rw [k0]; simp [z5]
    · rw [k0]; simpa using z6
    · rw [k0]; simpa using z7
    · unfold cI_q
      rw [k3, k3, k3, k3]
      by_cases hqq : q = NQ
      · subst hqq
        simp
        exact ⟨⟨p, hp, rfl⟩, ⟨e, by omega, rfl⟩, ⟨0, by omega, rfl⟩⟩
      · simp [hqq]
        exact cq q (by omega)
    · refine cI_s_grow (Nat.le_succ NQ) (by rw [ko 4 (by omega) (by omega) (by omega) (by omega) (by omega) (by omega) (by omega)]) (by rw [ko 5 (by omega) (by omega) (by omega) (by omega) (by omega) (by omega) (by omega)]) (by rw [ko 6 (by omega) (by omega) (by omega) (by omega) (by omega) (by omega) (by omega)]) (by rw [ko 7 (by omega) (by omega) (by omega) (by omega) (by omega) (by omega) (by omega)]) (fun q hq => ?_) (cs t ht)
      rw [k3]; simp [show ¬ q = NQ by omega]
    · rw [k0, k10 _ (by omega)]; simp [y0]
    · rw [k0, k10 _ (by omega)]; simp
    · rw [k0, k10 _ (by omega)]; simp [y2]
    · rw [k0, k10 _ (by omega)]; simp [y3]
    · rw [k0, k10 _ (by omega)]; simp [y4]
    · rw [k0, k10 _ (by omega)]; simp [y5]
    · unfold rI_q
      rw [k3, k3, k3, k3, k12, k13, k14, k15]
      by_cases hqq : q = NQ
      · subst hqq
        simp
      · simp [hqq]
        exact rq q (by omega)
    · have v := rs t ht
      unfold rI_s rI_p at v ⊢
      have kk : ∀ k, (4 ≤ k ∧ k ≤ 9) ∨ 17 ≤ k → w k = h k := fun k hk => ko k (by omega) (by omega) (by omega) (by omega) (by omega) (by omega) (by omega)
      have k02 : w 0 0 2 = h 0 0 2 := by rw [k0]; simp
      simp only [k02, kk 4 (by omega), kk 5 (by omega), kk 6 (by omega), kk 7 (by omega), kk 8 (by omega), kk 9 (by omega), kk 17 (by omega), kk 18 (by omega), kk 19 (by omega), kk 20 (by omega), kk 21 (by omega), kk 22 (by omega), kk 23 (by omega), kk 24 (by omega), kk 25 (by omega), kk 26 (by omega)]
      exact v
  · rw [if_neg hc, c_X3_quire (NQ := NQ) h x y _ (by rw [y1, z3]) p3, y0, if_neg hc]
    exact ⟨rfl, GG_thr g⟩
theorem c_X2_hasPage (hS : h 0 0 4 = nI NS) (h8 : NS ≤ 8) (hP : h 0 0 2 = nI P) (hP8 : P ≤ 8) : Vi 19 h [some (.inr (0, 0)), some (.inl x), some (.inl y)] K ↔ K (b01 ((¬ x < 0 ∧ x < nI NS) ∧ (¬ y < 0 ∧ y < nI P) ∧ ¬ h 7 x.toNatClampNeg y.toNatClampNeg = -1)) h := by
  rw [Vi]
  simp only [xr_19_0, xr_19_1, xr_19_2, xr_19_5, xr_19_8, xr_19_9, xr_19_10, xr_19_13, xr_19_16, xr_19_17, xr_19_20, xr_19_21_1, xr_19_21_2, xr_19_22, xr_19_23, xr_19_26, xr_19_29, xr_19_30, xr_19_33, xr_19_34, c_X2_isScribe, c_X2_isPiece, c_X1_has, b01_z, b01_n, ex_some, hS, hP, z_or, o_or, true_and]
  by_cases c1 : ¬ x < 0 ∧ x < nI NS
  · have v1 : vp_in x 8 := vp_of h8 (by omega) c1.1 c1.2
    by_cases c2 : ¬ y < 0 ∧ y < nI P
    · have v2 : vp_in y 8 := vp_of hP8 (by omega) c2.1 c2.2
      by_cases c3 : h 7 x.toNatClampNeg y.toNatClampNeg = -1
      · simp only [c1, c2, c3, v1, v2, b01, true_or, or_true, not_true, not_false_iff, true_imp_iff, false_imp_iff, true_and, and_true, and_false, and_self, if_false, if_true]
      · simp only [c1, c2, c3, v1, v2, b01, true_or, or_true, not_true, not_false_iff, true_imp_iff, false_imp_iff, true_and, and_true, and_false, and_self, if_false, if_true]
    · simp only [c1, c2, b01, true_or, or_true, not_true, not_false_iff, true_imp_iff, false_imp_iff, true_and, and_true, and_false, false_and, if_false]
  · simp only [c1, b01, true_or, or_true, not_true, not_false_iff, true_imp_iff, false_imp_iff, true_and, and_true, and_false, false_and, if_false]
theorem c_X3_isPage (hS : h 10 0 6 = nI NS) (h8 : NS ≤ 8) (hP : h 10 0 0 = nI P) (hP8 : P ≤ 8) : Vi 79 h [some (.inr (10, 0)), some (.inl x), some (.inl y)] K ↔ K (b01 ((¬ x < 0 ∧ x < nI NS) ∧ (¬ y < 0 ∧ y < nI P) ∧ ¬ h 22 0 (8 * x.toNatClampNeg + y.toNatClampNeg) = 0)) h := by
  rw [Vi]
  simp only [xr_79_0, xr_79_1, xr_79_2, xr_79_5, xr_79_8, xr_79_9, xr_79_10, xr_79_13, xr_79_16, xr_79_17, xr_79_20, xr_79_22, xr_79_23, xr_79_24, xr_79_25, xr_79_26, xr_79_27, xr_79_30, xr_79_31, xr_79_34, xr_79_35, c_X3_isScribe, c_X3_isPiece, b01_z, b01_n, ex_some, hS, hP, z_or, o_or, true_and, ix_z22]
  by_cases c1 : ¬ x < 0 ∧ x < nI NS
  · by_cases c2 : ¬ y < 0 ∧ y < nI P
    · obtain ⟨s, s1, rfl⟩ := in_nI (by omega) c1.1 c1.2
      obtain ⟨p, q1, rfl⟩ := in_nI (by omega) c2.1 c2.2
      obtain ⟨e1, e2⟩ := e_8i (show s < 8 by omega) (show p < 8 by omega)
      have e3 : (nI s).toNatClampNeg = s := nI_clamp (by omega)
      have e4 : (nI p).toNatClampNeg = p := nI_clamp (by omega)
      by_cases c3 : h 22 0 (8 * s + p) = 0
      · simp only [c1, c2, c3, e_8, e1, e2, e3, e4, b01, true_or, or_true, not_true, not_false_iff, true_imp_iff, false_imp_iff, true_and, and_true, and_false, and_self, if_false, if_true]
      · simp only [c1, c2, c3, e_8, e1, e2, e3, e4, b01, true_or, or_true, not_true, not_false_iff, true_imp_iff, false_imp_iff, true_and, and_true, and_false, and_self, if_false, if_true]
    · simp only [c1, c2, b01, true_or, or_true, not_true, not_false_iff, true_imp_iff, false_imp_iff, true_and, and_true, and_false, false_and, if_false]
  · simp only [c1, b01, true_or, or_true, not_true, not_false_iff, true_imp_iff, false_imp_iff, true_and, and_true, and_false, false_and, if_false]
end O2
