/-! ===== page, stock, count, met, look ===== -/
theorem sw_n {z : Int32} {n : Nat} (hn : n < 1000) : (∃ j, j ≤ n ∧ z = nI j) ∨ ((z.toInt < 0 ∨ (n : Int) < z.toInt) ∧ ∀ j, j ≤ n → ¬ z = nI j) := by
  by_cases h0 : z < 0
  · refine Or.inr ⟨Or.inl ?_, fun j hj e => ?_⟩
    · rw [Int32.lt_iff_toInt_lt] at h0
      have : (0 : Int32).toInt = 0 := by decide
      omega
    · rw [e] at h0; exact nI_pos (by omega) h0
  · obtain ⟨j, hj, rfl⟩ := nI_of h0
    by_cases hjn : j ≤ n
    · exact Or.inl ⟨j, hjn, rfl⟩
    · refine Or.inr ⟨Or.inr ?_, fun i hi e => ?_⟩
      · rw [nI_toInt hj]; omega
      · have := (nI_eq hj (by omega)).mp e; omega
section O6
variable (h : AHp) (x y z : Int32) (K : Int32 → AHp → Prop) {P NQ NS D : Nat}
theorem op_page (g : GG h) : Vi 44 h [some (.inr (0, 0)), some (.inl x), some (.inl y), some (.inl z), none] (fun r h1 => Vi 80 h1 [some (.inr (10, 0)), some (.inl x), some (.inl y), some (.inl z), none] (fun r2 h2 => r2 = r ∧ GG h2)) := by
  obtain ⟨P, NQ, NS, D, c, r⟩ := id g
  obtain ⟨⟨p1, p2, p3, p4, p5⟩, z2, z3, z4, z5, z6, z7⟩ := c.1
  obtain ⟨y0, y1, y2, y3, y4, y5⟩ := r.1
  have d0 : (ah_up h 10 0 20 0) 10 0 0 = nI P := by rw [← z2, ← y0]; rfl
  have d6 : (ah_up h 10 0 20 0) 10 0 6 = nI NS := by rw [← z4, ← y2]; rfl
  have cp := c_X2_hasPage (P := P) (NS := NS) h x y
  have cm := c_X3_isPage (P := P) (NS := NS) (ah_up h 10 0 20 0) x y
  by_cases c1 : (¬ x < 0 ∧ x < nI NS) ∧ (¬ y < 0 ∧ y < nI P)
  · obtain ⟨s, s1, rfl⟩ := in_nI (by omega) c1.1.1 c1.1.2
    obtain ⟨p, q1, rfl⟩ := in_nI (by omega) c1.2.1 c1.2.2
    have e3 : (nI s).toNatClampNeg = s := nI_clamp (by omega)
    have e4 : (nI p).toNatClampNeg = p := nI_clamp (by omega)
    have e5 : vp_in (nI s) 8 := vp_in_nI (by omega) (by omega)
    have e6 : vp_in (nI p) 8 := vp_in_nI (by omega) (by omega)
    obtain ⟨e1, e2⟩ := e_8i (show s < 8 by omega) (show p < 8 by omega)
    obtain ⟨u1, u2, u3, u4⟩ := (r.2.2 s s1).2.2.2.2 p (by omega)
    by_cases c3 : h 7 s p = -1
    · have c4 : h 22 0 (8 * s + p) = 0 := by rw [u2]; simp [c3]
      have c4' : (ah_up h 10 0 20 0) 22 0 (8 * s + p) = 0 := c4
      rw [Vi]
      simp only [xr_44_0, xr_44_1, xr_44_2, xr_44_3, xr_44_6, xr_44_9, xr_44_10, xr_44_11, xr_44_12, xr_44_15, xr_44_16_1, xr_44_16_2, xr_44_17, xr_44_19, xr_44_20_0, xr_44_20_1, xr_44_20_2, xr_44_20_3, xr_44_52, xr_44_54, xr_44_57, xr_44_58, xr_44_59, xr_44_60, xr_44_62, xr_44_65, xr_44_66, xr_44_67, xr_44_68, xr_44_70, xr_44_73, xr_44_74, xr_44_75, xr_44_76, xr_44_78, xr_44_81, xr_44_82, xr_44_83, xr_44_84, xr_44_85, cp _ z4 p4 z2 p2, e3, e4, c1, c3, b01_z, b01_n, ex_some, not_true, not_false_iff, true_imp_iff, false_imp_iff, true_and, and_true, and_false]
      rw [Vi]
      simp only [xr_80_0, xr_80_1, xr_80_2, xr_80_5, xr_80_6, xr_80_7, xr_80_8, xr_80_11, xr_80_14, xr_80_15, xr_80_16, xr_80_18, xr_80_19, xr_80_20, xr_80_21, xr_80_22, xr_80_24, xr_80_25, xr_80_28, xr_80_29, xr_80_32, xr_80_34, xr_80_35, xr_80_38, xr_80_39, xr_80_40, xr_80_43, xr_80_44, xr_80_47, xr_80_49, xr_80_50, xr_80_53, xr_80_54, xr_80_55, xr_80_58, xr_80_59, xr_80_62, xr_80_64, xr_80_65, xr_80_68, xr_80_69, xr_80_70, xr_80_73, xr_80_74, xr_80_77, xr_80_79, xr_80_80, xr_80_83, xr_80_84, cm _ d6 p4 d0 p2, e3, e4, c1, c4', b01_z, b01_n, ex_some, not_true, not_false_iff, true_imp_iff, false_imp_iff, true_and, and_true, and_false]
      exact GG_thr g
    · have c4' : ¬ (ah_up h 10 0 20 0) 22 0 (8 * s + p) = 0 := by
        show ¬ h 22 0 (8 * s + p) = 0
        rw [u2]; simp [c3]
      obtain ⟨w1, w2, w3, w4⟩ := u3 c3
      have a23 : (ah_up h 10 0 20 0) 23 0 (8 * s + p) = h 6 s p := w1
      have a24 : (ah_up h 10 0 20 0) 24 0 (8 * s + p) = h 7 s p := w2
      have a25 : (ah_up h 10 0 20 0) 25 0 (8 * s + p) = h 8 s p := w3
      have a26 : (ah_up h 10 0 20 0) 26 0 (8 * s + p) = h 9 s p := w4
      have n01 : ¬ (1 : Int32) = 0 := by decide
      have n02 : ¬ (2 : Int32) = 0 := by decide
      have n12 : ¬ (2 : Int32) = 1 := by decide
      have n03 : ¬ (3 : Int32) = 0 := by decide
      have n13 : ¬ (3 : Int32) = 1 := by decide
      have n23 : ¬ (3 : Int32) = 2 := by decide
      rcases sw_n (z := z) (n := 3) (by omega) with ⟨j, hj, rfl⟩ | ⟨ho, hne⟩
      · rcases (show j = 0 ∨ j = 1 ∨ j = 2 ∨ j = 3 by omega) with rfl | rfl | rfl | rfl
        · show Vi 44 h [some (.inr (0, 0)), some (.inl (nI s)), some (.inl (nI p)), some (.inl 0), none] _
          rw [Vi]
          simp only [xr_44_0, xr_44_1, xr_44_2, xr_44_3, xr_44_6, xr_44_9, xr_44_10, xr_44_11, xr_44_12, xr_44_15, xr_44_16_1, xr_44_16_2, xr_44_17, xr_44_19, xr_44_20_0, xr_44_20_1, xr_44_20_2, xr_44_20_3, xr_44_52, xr_44_54, xr_44_57, xr_44_58, xr_44_59, xr_44_60, xr_44_62, xr_44_65, xr_44_66, xr_44_67, xr_44_68, xr_44_70, xr_44_73, xr_44_74, xr_44_75, xr_44_76, xr_44_78, xr_44_81, xr_44_82, xr_44_83, xr_44_84, xr_44_85, cp _ z4 p4 z2 p2, e3, e4, e5, e6, c1, c3, ix_i6, ix_i7, ix_i8, ix_i9, b01_z, b01_n, ex_some, not_true, not_false_iff, true_imp_iff, false_imp_iff, true_and, and_true, and_self]
          show Vi 80 h [some (.inr (10, 0)), some (.inl (nI s)), some (.inl (nI p)), some (.inl 0), none] _
          rw [Vi]
          simp only [xr_80_0, xr_80_1, xr_80_2, xr_80_5, xr_80_6, xr_80_7, xr_80_8, xr_80_11, xr_80_14, xr_80_15, xr_80_16, xr_80_18, xr_80_19, xr_80_20, xr_80_21, xr_80_22, xr_80_24, xr_80_25, xr_80_28, xr_80_29, xr_80_32, xr_80_34, xr_80_35, xr_80_38, xr_80_39, xr_80_40, xr_80_43, xr_80_44, xr_80_47, xr_80_49, xr_80_50, xr_80_53, xr_80_54, xr_80_55, xr_80_58, xr_80_59, xr_80_62, xr_80_64, xr_80_65, xr_80_68, xr_80_69, xr_80_70, xr_80_73, xr_80_74, xr_80_77, xr_80_79, xr_80_80, xr_80_83, xr_80_84, cm _ d6 p4 d0 p2, e3, e4, e_8, e1, e2, c1, c4', a23, a24, a25, a26, ix_i23, ix_i24, ix_i25, ix_i26, b01_z, b01_n, ex_some, not_true, not_false_iff, true_imp_iff, false_imp_iff, true_and, and_true, and_self]
          exact GG_thr g
        · show Vi 44 h [some (.inr (0, 0)), some (.inl (nI s)), some (.inl (nI p)), some (.inl 1), none] _
          rw [Vi]
          simp only [xr_44_0, xr_44_1, xr_44_2, xr_44_3, xr_44_6, xr_44_9, xr_44_10, xr_44_11, xr_44_12, xr_44_15, xr_44_16_1, xr_44_16_2, xr_44_17, xr_44_19, xr_44_20_0, xr_44_20_1, xr_44_20_2, xr_44_20_3, xr_44_52, xr_44_54, xr_44_57, xr_44_58, xr_44_59, xr_44_60, xr_44_62, xr_44_65, xr_44_66, xr_44_67, xr_44_68, xr_44_70, xr_44_73, xr_44_74, xr_44_75, xr_44_76, xr_44_78, xr_44_81, xr_44_82, xr_44_83, xr_44_84, xr_44_85, cp _ z4 p4 z2 p2, e3, e4, e5, e6, c1, c3, ix_i6, ix_i7, ix_i8, ix_i9, b01_z, b01_n, ex_some, not_true, not_false_iff, true_imp_iff, false_imp_iff, true_and, and_true, and_self]
          show Vi 80 h [some (.inr (10, 0)), some (.inl (nI s)), some (.inl (nI p)), some (.inl 1), none] _
          rw [Vi]
          simp only [xr_80_0, xr_80_1, xr_80_2, xr_80_5, xr_80_6, xr_80_7, xr_80_8, xr_80_11, xr_80_14, xr_80_15, xr_80_16, xr_80_18, xr_80_19, xr_80_20, xr_80_21, xr_80_22, xr_80_24, xr_80_25, xr_80_28, xr_80_29, xr_80_32, xr_80_34, xr_80_35, xr_80_38, xr_80_39, xr_80_40, xr_80_43, xr_80_44, xr_80_47, xr_80_49, xr_80_50, xr_80_53, xr_80_54, xr_80_55, xr_80_58, xr_80_59, xr_80_62, xr_80_64, xr_80_65, xr_80_68, xr_80_69, xr_80_70, xr_80_73, xr_80_74, xr_80_77, xr_80_79, xr_80_80, xr_80_83, xr_80_84, cm _ d6 p4 d0 p2, e3, e4, e_8, e1, e2, c1, c4', a23, a24, a25, a26, n01, ix_i23, ix_i24, ix_i25, ix_i26, b01_z, b01_n, ex_some, not_true, not_false_iff, true_imp_iff, false_imp_iff, true_and, and_true, and_self]
          exact GG_thr g
        · show Vi 44 h [some (.inr (0, 0)), some (.inl (nI s)), some (.inl (nI p)), some (.inl 2), none] _
          rw [Vi]
          simp only [xr_44_0, xr_44_1, xr_44_2, xr_44_3, xr_44_6, xr_44_9, xr_44_10, xr_44_11, xr_44_12, xr_44_15, xr_44_16_1, xr_44_16_2, xr_44_17, xr_44_19, xr_44_20_0, xr_44_20_1, xr_44_20_2, xr_44_20_3, xr_44_52, xr_44_54, xr_44_57, xr_44_58, xr_44_59, xr_44_60, xr_44_62, xr_44_65, xr_44_66, xr_44_67, xr_44_68, xr_44_70, xr_44_73, xr_44_74, xr_44_75, xr_44_76, xr_44_78, xr_44_81, xr_44_82, xr_44_83, xr_44_84, xr_44_85, cp _ z4 p4 z2 p2, e3, e4, e5, e6, c1, c3, ix_i6, ix_i7, ix_i8, ix_i9, b01_z, b01_n, ex_some, not_true, not_false_iff, true_imp_iff, false_imp_iff, true_and, and_true, and_self]
          show Vi 80 h [some (.inr (10, 0)), some (.inl (nI s)), some (.inl (nI p)), some (.inl 2), none] _
          rw [Vi]
          simp only [xr_80_0, xr_80_1, xr_80_2, xr_80_5, xr_80_6, xr_80_7, xr_80_8, xr_80_11, xr_80_14, xr_80_15, xr_80_16, xr_80_18, xr_80_19, xr_80_20, xr_80_21, xr_80_22, xr_80_24, xr_80_25, xr_80_28, xr_80_29, xr_80_32, xr_80_34, xr_80_35, xr_80_38, xr_80_39, xr_80_40, xr_80_43, xr_80_44, xr_80_47, xr_80_49, xr_80_50, xr_80_53, xr_80_54, xr_80_55, xr_80_58, xr_80_59, xr_80_62, xr_80_64, xr_80_65, xr_80_68, xr_80_69, xr_80_70, xr_80_73, xr_80_74, xr_80_77, xr_80_79, xr_80_80, xr_80_83, xr_80_84, cm _ d6 p4 d0 p2, e3, e4, e_8, e1, e2, c1, c4', a23, a24, a25, a26, n02, n12, ix_i23, ix_i24, ix_i25, ix_i26, b01_z, b01_n, ex_some, not_true, not_false_iff, true_imp_iff, false_imp_iff, true_and, and_true, and_self]
          exact GG_thr g
        · show Vi 44 h [some (.inr (0, 0)), some (.inl (nI s)), some (.inl (nI p)), some (.inl 3), none] _
          rw [Vi]
          simp only [xr_44_0, xr_44_1, xr_44_2, xr_44_3, xr_44_6, xr_44_9, xr_44_10, xr_44_11, xr_44_12, xr_44_15, xr_44_16_1, xr_44_16_2, xr_44_17, xr_44_19, xr_44_20_0, xr_44_20_1, xr_44_20_2, xr_44_20_3, xr_44_52, xr_44_54, xr_44_57, xr_44_58, xr_44_59, xr_44_60, xr_44_62, xr_44_65, xr_44_66, xr_44_67, xr_44_68, xr_44_70, xr_44_73, xr_44_74, xr_44_75, xr_44_76, xr_44_78, xr_44_81, xr_44_82, xr_44_83, xr_44_84, xr_44_85, cp _ z4 p4 z2 p2, e3, e4, e5, e6, c1, c3, ix_i6, ix_i7, ix_i8, ix_i9, b01_z, b01_n, ex_some, not_true, not_false_iff, true_imp_iff, false_imp_iff, true_and, and_true, and_self]
          show Vi 80 h [some (.inr (10, 0)), some (.inl (nI s)), some (.inl (nI p)), some (.inl 3), none] _
          rw [Vi]
          simp only [xr_80_0, xr_80_1, xr_80_2, xr_80_5, xr_80_6, xr_80_7, xr_80_8, xr_80_11, xr_80_14, xr_80_15, xr_80_16, xr_80_18, xr_80_19, xr_80_20, xr_80_21, xr_80_22, xr_80_24, xr_80_25, xr_80_28, xr_80_29, xr_80_32, xr_80_34, xr_80_35, xr_80_38, xr_80_39, xr_80_40, xr_80_43, xr_80_44, xr_80_47, xr_80_49, xr_80_50, xr_80_53, xr_80_54, xr_80_55, xr_80_58, xr_80_59, xr_80_62, xr_80_64, xr_80_65, xr_80_68, xr_80_69, xr_80_70, xr_80_73, xr_80_74, xr_80_77, xr_80_79, xr_80_80, xr_80_83, xr_80_84, cm _ d6 p4 d0 p2, e3, e4, e_8, e1, e2, c1, c4', a23, a24, a25, a26, n03, n13, n23, ix_i23, ix_i24, ix_i25, ix_i26, b01_z, b01_n, ex_some, not_true, not_false_iff, true_imp_iff, false_imp_iff, true_and, and_true, and_self]
          exact GG_thr g
      · have m0 : ¬ z = 0 := hne 0 (by omega)
        have m1 : ¬ z = 1 := hne 1 (by omega)
        have m2 : ¬ z = 2 := hne 2 (by omega)
        have m3 : ¬ z = 3 := hne 3 (by omega)
        have sd := fun h Q l0 l1 l2 l3 l4 st => xr_44_20_d h Q l0 l1 l2 l3 l4 st z ho
        rw [Vi]
        simp only [xr_44_0, xr_44_1, xr_44_2, xr_44_3, xr_44_6, xr_44_9, xr_44_10, xr_44_11, xr_44_12, xr_44_15, xr_44_16_1, xr_44_16_2, xr_44_17, xr_44_19, xr_44_20_0, xr_44_20_1, xr_44_20_2, xr_44_20_3, xr_44_52, xr_44_54, xr_44_57, xr_44_58, xr_44_59, xr_44_60, xr_44_62, xr_44_65, xr_44_66, xr_44_67, xr_44_68, xr_44_70, xr_44_73, xr_44_74, xr_44_75, xr_44_76, xr_44_78, xr_44_81, xr_44_82, xr_44_83, xr_44_84, xr_44_85, sd, cp _ z4 p4 z2 p2, e3, e4, e5, c1, c3, b01_z, b01_n, ex_some, not_true, not_false_iff, true_imp_iff, false_imp_iff, true_and, and_true, and_self]
        rw [Vi]
        simp only [xr_80_0, xr_80_1, xr_80_2, xr_80_5, xr_80_6, xr_80_7, xr_80_8, xr_80_11, xr_80_14, xr_80_15, xr_80_16, xr_80_18, xr_80_19, xr_80_20, xr_80_21, xr_80_22, xr_80_24, xr_80_25, xr_80_28, xr_80_29, xr_80_32, xr_80_34, xr_80_35, xr_80_38, xr_80_39, xr_80_40, xr_80_43, xr_80_44, xr_80_47, xr_80_49, xr_80_50, xr_80_53, xr_80_54, xr_80_55, xr_80_58, xr_80_59, xr_80_62, xr_80_64, xr_80_65, xr_80_68, xr_80_69, xr_80_70, xr_80_73, xr_80_74, xr_80_77, xr_80_79, xr_80_80, xr_80_83, xr_80_84, cm _ d6 p4 d0 p2, e3, e4, e_8, c1, c4', m0, m1, m2, m3, b01_z, b01_n, ex_some, not_true, not_false_iff, true_imp_iff, false_imp_iff, true_and, and_true, and_self]
        exact GG_thr g
  · have c2 : ¬ ((¬ x < 0 ∧ x < nI NS) ∧ (¬ y < 0 ∧ y < nI P) ∧ ¬ h 7 x.toNatClampNeg y.toNatClampNeg = -1) := fun w => c1 ⟨w.1, w.2.1⟩
    have c3 : ¬ ((¬ x < 0 ∧ x < nI NS) ∧ (¬ y < 0 ∧ y < nI P) ∧ ¬ (ah_up h 10 0 20 0) 22 0 (8 * x.toNatClampNeg + y.toNatClampNeg) = 0) := fun w => c1 ⟨w.1, w.2.1⟩
    rw [Vi]
    simp only [xr_44_0, xr_44_1, xr_44_2, xr_44_3, xr_44_6, xr_44_9, xr_44_10, xr_44_11, xr_44_12, xr_44_15, xr_44_16_1, xr_44_16_2, xr_44_17, xr_44_19, xr_44_20_0, xr_44_20_1, xr_44_20_2, xr_44_20_3, xr_44_52, xr_44_54, xr_44_57, xr_44_58, xr_44_59, xr_44_60, xr_44_62, xr_44_65, xr_44_66, xr_44_67, xr_44_68, xr_44_70, xr_44_73, xr_44_74, xr_44_75, xr_44_76, xr_44_78, xr_44_81, xr_44_82, xr_44_83, xr_44_84, xr_44_85, cp _ z4 p4 z2 p2, c2, b01_z, b01_n, ex_some, not_true, not_false_iff, true_imp_iff, false_imp_iff, true_and, and_true]
    rw [Vi]
    simp only [xr_80_0, xr_80_1, xr_80_2, xr_80_5, xr_80_6, xr_80_7, xr_80_8, xr_80_11, xr_80_14, xr_80_15, xr_80_16, xr_80_18, xr_80_19, xr_80_20, xr_80_21, xr_80_22, xr_80_24, xr_80_25, xr_80_28, xr_80_29, xr_80_32, xr_80_34, xr_80_35, xr_80_38, xr_80_39, xr_80_40, xr_80_43, xr_80_44, xr_80_47, xr_80_49, xr_80_50, xr_80_53, xr_80_54, xr_80_55, xr_80_58, xr_80_59, xr_80_62, xr_80_64, xr_80_65, xr_80_68, xr_80_69, xr_80_70, xr_80_73, xr_80_74, xr_80_77, xr_80_79, xr_80_80, xr_80_83, xr_80_84, cm _ d6 p4 d0 p2, c3, b01_z, b01_n, ex_some, not_true, not_false_iff, true_imp_iff, false_imp_iff, true_and, and_true]
    exact GG_thr g
theorem op_stock (g : GG h) : Vi 53 h [some (.inr (0, 0)), some (.inl x), some (.inl y), none] (fun r h1 => Vi 88 h1 [some (.inr (10, 0)), some (.inl x), some (.inl y)] (fun r2 h2 => r2 = r ∧ GG h2)) := by
  obtain ⟨P, NQ, NS, D, c, r⟩ := id g
  obtain ⟨⟨p1, p2, p3, p4, p5⟩, z2, z3, z4, z5, z6, z7⟩ := c.1
  obtain ⟨y0, y1, y2, y3, y4, y5⟩ := r.1
  have d1 : (ah_up h 10 0 20 0) 10 0 1 = nI NQ := by rw [← z3, ← y1]; rfl
  by_cases c1 : ¬ x < 0 ∧ x < nI NQ
  · obtain ⟨q, hq, rfl⟩ := in_nI (by omega) c1.1 c1.2
    have e3 : (nI q).toNatClampNeg = q := nI_clamp (by omega)
    have e5 : vp_in (nI q) 20 := vp_in_nI (by omega) (by omega)
    obtain ⟨w1, w2, w3, w4⟩ := r.2.1 q hq
    have a12 : (ah_up h 10 0 20 0) 12 0 q = h 3 q 0 := w1
    have a13 : (ah_up h 10 0 20 0) 13 0 q = h 3 q 1 := w2
    have a14 : (ah_up h 10 0 20 0) 14 0 q = h 3 q 2 := w3
    have a15 : (ah_up h 10 0 20 0) 15 0 q = h 3 q 3 := w4
    have n01 : ¬ (1 : Int32) = 0 := by decide
    have n02 : ¬ (2 : Int32) = 0 := by decide
    have n12 : ¬ (2 : Int32) = 1 := by decide
    have n03 : ¬ (3 : Int32) = 0 := by decide
    have n13 : ¬ (3 : Int32) = 1 := by decide
    have n23 : ¬ (3 : Int32) = 2 := by decide
    rcases sw_n (z := y) (n := 3) (by omega) with ⟨j, hj, rfl⟩ | ⟨ho, hne⟩
    · rcases (show j = 0 ∨ j = 1 ∨ j = 2 ∨ j = 3 by omega) with rfl | rfl | rfl | rfl
      · show Vi 53 h [some (.inr (0, 0)), some (.inl (nI q)), some (.inl 0), none] _
        rw [Vi]
        simp only [xr_53_0, xr_53_1, xr_53_2, xr_53_5, xr_53_8, xr_53_9, xr_53_10, xr_53_11, xr_53_14, xr_53_15_1, xr_53_15_2, xr_53_16, xr_53_17, xr_53_18_0, xr_53_18_1, xr_53_18_2, xr_53_18_3, xr_53_48, xr_53_49, xr_53_52, xr_53_53, xr_53_54, xr_53_57, xr_53_58, xr_53_59, xr_53_62, xr_53_63, xr_53_64, xr_53_67, xr_53_68, xr_53_69, c_X2_isQuire, z3, e3, e5, c1, b01_z, b01_n, ex_some, not_true, not_false_iff, true_imp_iff, false_imp_iff, true_and, and_true]
        show Vi 88 h [some (.inr (10, 0)), some (.inl (nI q)), some (.inl 0)] _
        rw [Vi]
        simp only [xr_88_0, xr_88_1, xr_88_2, xr_88_5, xr_88_6, xr_88_7, xr_88_10, xr_88_13, xr_88_14, xr_88_15, xr_88_16, xr_88_19, xr_88_20, xr_88_23, xr_88_24, xr_88_25, xr_88_28, xr_88_29, xr_88_30, xr_88_33, xr_88_34, xr_88_37, xr_88_38, xr_88_39, xr_88_42, xr_88_43, xr_88_44, xr_88_47, xr_88_48, xr_88_51, xr_88_52, xr_88_53, xr_88_56, xr_88_57, xr_88_58, xr_88_61, xr_88_62, xr_88_65, xr_88_66, xr_88_67, xr_88_70, xr_88_71, c_X3_isQuire, d1, e3, e5, c1, a12, a13, a14, a15, ix_i12, ix_i13, ix_i14, ix_i15, b01_z, b01_n, ex_some, not_true, not_false_iff, true_imp_iff, false_imp_iff, true_and, and_true]
        exact GG_thr g
      · show Vi 53 h [some (.inr (0, 0)), some (.inl (nI q)), some (.inl 1), none] _
        rw [Vi]
        simp only [xr_53_0, xr_53_1, xr_53_2, xr_53_5, xr_53_8, xr_53_9, xr_53_10, xr_53_11, xr_53_14, xr_53_15_1, xr_53_15_2, xr_53_16, xr_53_17, xr_53_18_0, xr_53_18_1, xr_53_18_2, xr_53_18_3, xr_53_48, xr_53_49, xr_53_52, xr_53_53, xr_53_54, xr_53_57, xr_53_58, xr_53_59, xr_53_62, xr_53_63, xr_53_64, xr_53_67, xr_53_68, xr_53_69, c_X2_isQuire, z3, e3, e5, c1, b01_z, b01_n, ex_some, not_true, not_false_iff, true_imp_iff, false_imp_iff, true_and, and_true]
        show Vi 88 h [some (.inr (10, 0)), some (.inl (nI q)), some (.inl 1)] _
        rw [Vi]
        simp only [xr_88_0, xr_88_1, xr_88_2, xr_88_5, xr_88_6, xr_88_7, xr_88_10, xr_88_13, xr_88_14, xr_88_15, xr_88_16, xr_88_19, xr_88_20, xr_88_23, xr_88_24, xr_88_25, xr_88_28, xr_88_29, xr_88_30, xr_88_33, xr_88_34, xr_88_37, xr_88_38, xr_88_39, xr_88_42, xr_88_43, xr_88_44, xr_88_47, xr_88_48, xr_88_51, xr_88_52, xr_88_53, xr_88_56, xr_88_57, xr_88_58, xr_88_61, xr_88_62, xr_88_65, xr_88_66, xr_88_67, xr_88_70, xr_88_71, c_X3_isQuire, d1, e3, e5, c1, a12, a13, a14, a15, n01, ix_i12, ix_i13, ix_i14, ix_i15, b01_z, b01_n, ex_some, not_true, not_false_iff, true_imp_iff, false_imp_iff, true_and, and_true]
        exact GG_thr g
      · show Vi 53 h [some (.inr (0, 0)), some (.inl (nI q)), some (.inl 2), none] _
        rw [Vi]
        simp only [xr_53_0, xr_53_1, xr_53_2, xr_53_5, xr_53_8, xr_53_9, xr_53_10, xr_53_11, xr_53_14, xr_53_15_1, xr_53_15_2, xr_53_16, xr_53_17, xr_53_18_0, xr_53_18_1, xr_53_18_2, xr_53_18_3, xr_53_48, xr_53_49, xr_53_52, xr_53_53, xr_53_54, xr_53_57, xr_53_58, xr_53_59, xr_53_62, xr_53_63, xr_53_64, xr_53_67, xr_53_68, xr_53_69, c_X2_isQuire, z3, e3, e5, c1, b01_z, b01_n, ex_some, not_true, not_false_iff, true_imp_iff, false_imp_iff, true_and, and_true]
        show Vi 88 h [some (.inr (10, 0)), some (.inl (nI q)), some (.inl 2)] _
        rw [Vi]
        simp only [xr_88_0, xr_88_1, xr_88_2, xr_88_5, xr_88_6, xr_88_7, xr_88_10, xr_88_13, xr_88_14, xr_88_15, xr_88_16, xr_88_19, xr_88_20, xr_88_23, xr_88_24, xr_88_25, xr_88_28, xr_88_29, xr_88_30, xr_88_33, xr_88_34, xr_88_37, xr_88_38, xr_88_39, xr_88_42, xr_88_43, xr_88_44, xr_88_47, xr_88_48, xr_88_51, xr_88_52, xr_88_53, xr_88_56, xr_88_57, xr_88_58, xr_88_61, xr_88_62, xr_88_65, xr_88_66, xr_88_67, xr_88_70, xr_88_71, c_X3_isQuire, d1, e3, e5, c1, a12, a13, a14, a15, n02, n12, ix_i12, ix_i13, ix_i14, ix_i15, b01_z, b01_n, ex_some, not_true, not_false_iff, true_imp_iff, false_imp_iff, true_and, and_true]
        exact GG_thr g
      · show Vi 53 h [some (.inr (0, 0)), some (.inl (nI q)), some (.inl 3), none] _
        rw [Vi]
        simp only [xr_53_0, xr_53_1, xr_53_2, xr_53_5, xr_53_8, xr_53_9, xr_53_10, xr_53_11, xr_53_14, xr_53_15_1, xr_53_15_2, xr_53_16, xr_53_17, xr_53_18_0, xr_53_18_1, xr_53_18_2, xr_53_18_3, xr_53_48, xr_53_49, xr_53_52, xr_53_53, xr_53_54, xr_53_57, xr_53_58, xr_53_59, xr_53_62, xr_53_63, xr_53_64, xr_53_67, xr_53_68, xr_53_69, c_X2_isQuire, z3, e3, e5, c1, b01_z, b01_n, ex_some, not_true, not_false_iff, true_imp_iff, false_imp_iff, true_and, and_true]
        show Vi 88 h [some (.inr (10, 0)), some (.inl (nI q)), some (.inl 3)] _
        rw [Vi]
        simp only [xr_88_0, xr_88_1, xr_88_2, xr_88_5, xr_88_6, xr_88_7, xr_88_10, xr_88_13, xr_88_14, xr_88_15, xr_88_16, xr_88_19, xr_88_20, xr_88_23, xr_88_24, xr_88_25, xr_88_28, xr_88_29, xr_88_30, xr_88_33, xr_88_34, xr_88_37, xr_88_38, xr_88_39, xr_88_42, xr_88_43, xr_88_44, xr_88_47, xr_88_48, xr_88_51, xr_88_52, xr_88_53, xr_88_56, xr_88_57, xr_88_58, xr_88_61, xr_88_62, xr_88_65, xr_88_66, xr_88_67, xr_88_70, xr_88_71, c_X3_isQuire, d1, e3, e5, c1, a12, a13, a14, a15, n03, n13, n23, ix_i12, ix_i13, ix_i14, ix_i15, b01_z, b01_n, ex_some, not_true, not_false_iff, true_imp_iff, false_imp_iff, true_and, and_true]
        exact GG_thr g
    · have m0 : ¬ y = 0 := hne 0 (by omega)
      have m1 : ¬ y = 1 := hne 1 (by omega)
      have m2 : ¬ y = 2 := hne 2 (by omega)
      have m3 : ¬ y = 3 := hne 3 (by omega)
      have sd := fun h Q l0 l1 l2 l3 st => xr_53_18_d h Q l0 l1 l2 l3 st y ho
      rw [Vi]
      simp only [xr_53_0, xr_53_1, xr_53_2, xr_53_5, xr_53_8, xr_53_9, xr_53_10, xr_53_11, xr_53_14, xr_53_15_1, xr_53_15_2, xr_53_16, xr_53_17, xr_53_18_0, xr_53_18_1, xr_53_18_2, xr_53_18_3, xr_53_48, xr_53_49, xr_53_52, xr_53_53, xr_53_54, xr_53_57, xr_53_58, xr_53_59, xr_53_62, xr_53_63, xr_53_64, xr_53_67, xr_53_68, xr_53_69, sd, c_X2_isQuire, z3, e3, e5, c1, b01_z, b01_n, ex_some, not_true, not_false_iff, true_imp_iff, false_imp_iff, true_and, and_true]
      rw [Vi]
      simp only [xr_88_0, xr_88_1, xr_88_2, xr_88_5, xr_88_6, xr_88_7, xr_88_10, xr_88_13, xr_88_14, xr_88_15, xr_88_16, xr_88_19, xr_88_20, xr_88_23, xr_88_24, xr_88_25, xr_88_28, xr_88_29, xr_88_30, xr_88_33, xr_88_34, xr_88_37, xr_88_38, xr_88_39, xr_88_42, xr_88_43, xr_88_44, xr_88_47, xr_88_48, xr_88_51, xr_88_52, xr_88_53, xr_88_56, xr_88_57, xr_88_58, xr_88_61, xr_88_62, xr_88_65, xr_88_66, xr_88_67, xr_88_70, xr_88_71, c_X3_isQuire, d1, e3, e5, c1, m0, m1, m2, m3, b01_z, b01_n, ex_some, not_true, not_false_iff, true_imp_iff, false_imp_iff, true_and, and_true]
      exact GG_thr g
  · rw [Vi]
    simp only [xr_53_0, xr_53_1, xr_53_2, xr_53_5, xr_53_8, xr_53_9, xr_53_10, xr_53_11, xr_53_14, xr_53_15_1, xr_53_15_2, xr_53_16, xr_53_17, xr_53_18_0, xr_53_18_1, xr_53_18_2, xr_53_18_3, xr_53_48, xr_53_49, xr_53_52, xr_53_53, xr_53_54, xr_53_57, xr_53_58, xr_53_59, xr_53_62, xr_53_63, xr_53_64, xr_53_67, xr_53_68, xr_53_69, c_X2_isQuire, z3, c1, b01_z, b01_n, ex_some, not_true, not_false_iff, true_imp_iff, false_imp_iff, true_and, and_true]
    rw [Vi]
    simp only [xr_88_0, xr_88_1, xr_88_2, xr_88_5, xr_88_6, xr_88_7, xr_88_10, xr_88_13, xr_88_14, xr_88_15, xr_88_16, xr_88_19, xr_88_20, xr_88_23, xr_88_24, xr_88_25, xr_88_28, xr_88_29, xr_88_30, xr_88_33, xr_88_34, xr_88_37, xr_88_38, xr_88_39, xr_88_42, xr_88_43, xr_88_44, xr_88_47, xr_88_48, xr_88_51, xr_88_52, xr_88_53, xr_88_56, xr_88_57, xr_88_58, xr_88_61, xr_88_62, xr_88_65, xr_88_66, xr_88_67, xr_88_70, xr_88_71, c_X3_isQuire, d1, c1, b01_z, b01_n, ex_some, not_true, not_false_iff, true_imp_iff, false_imp_iff, true_and, and_true]
    exact GG_thr g
/-- how many BOOKS have ended, for class and reference -/
theorem ended_eq {P NQ NS D : Nat} {a b : AHp} (c : cI P NQ NS D (fun _ => D) a) (r : rI NQ NS a b) : ∀ n, n ≤ NS → sp_cnt (fun s => decide (sp_cnt (md_has b s) P = P)) n = sp_cnt (fun s => decide (a 0 0 2 ≤ a 4 s 6)) n := by
  intro n hn
  obtain ⟨⟨p1, p2, p3, p4, p5⟩, z2, -⟩ := c.1
  refine sp_cnt_congr (fun s hs => ?_)
  obtain ⟨-, i2, -⟩ := c.2.2 s (by omega)
  rw [rI_cnt p2 (r.2.2 s (by omega)), z2, i2]
  have hle := sp_cnt_le (fun p => decide (¬ a 7 s p = -1)) P
  have g7 : nI P ≤ nI (sp_cnt (fun p => decide (¬ a 7 s p = -1)) P) ↔ P ≤ sp_cnt (fun p => decide (¬ a 7 s p = -1)) P := nI_leI (by omega) (by omega)
  refine decide_eq_decide.mpr ?_
  rw [g7]
  omega
theorem op_count (g : GG h) : Vi 54 h [some (.inr (0, 0)), some (.inl x)] (fun r h1 => Vi 89 h1 [some (.inr (10, 0)), some (.inl x), none, none] (fun r2 h2 => r2 = r ∧ GG h2)) := by
  obtain ⟨P, NQ, NS, D, c, r⟩ := id g
  obtain ⟨⟨p1, p2, p3, p4, p5⟩, z2, z3, z4, z5, z6, z7⟩ := c.1
  obtain ⟨y0, y1, y2, y3, y4, y5⟩ := r.1
  have b0 : (ah_up h 10 0 20 0) 10 0 0 = h 0 0 2 := y0
  have b1 : (ah_up h 10 0 20 0) 10 0 1 = h 0 0 3 := y1
  have b6 : (ah_up h 10 0 20 0) 10 0 6 = h 0 0 4 := y2
  have b17 : (ah_up h 10 0 20 0) 10 0 17 = h 0 0 5 := y3
  rcases sw_n (z := x) (n := 4) (by omega) with ⟨j, hj, rfl⟩ | ⟨ho, hne⟩
  · rcases (show j = 0 ∨ j = 1 ∨ j = 2 ∨ j = 3 ∨ j = 4 by omega) with rfl | rfl | rfl | rfl | rfl
    · show Vi 54 h [some (.inr (0, 0)), some (.inl 0)] _
      rw [Vi]
      simp only [xr_54_0, xr_54_1_0, xr_54_1_1, xr_54_1_2, xr_54_1_3, xr_54_1_4, xr_54_36, xr_54_37, xr_54_40, xr_54_41, xr_54_42, xr_54_45, xr_54_46, xr_54_47, xr_54_50, xr_54_51, xr_54_52, xr_54_55, xr_54_56, xr_54_57, xr_54_60, xr_54_61, xr_54_62, ex_some]
      show Vi 89 h [some (.inr (10, 0)), some (.inl 0), none, none] _
      rw [Vi]
      simp only [xr_89_0, xr_89_1, xr_89_2, xr_89_5, xr_89_6, xr_89_7, xr_89_8_0, xr_89_8_1, xr_89_8_2, xr_89_8_3, xr_89_8_4, xr_89_44, xr_89_45, xr_89_48, xr_89_49, xr_89_50, xr_89_53, xr_89_54, xr_89_55, xr_89_58, xr_89_59, xr_89_60, xr_89_63, xr_89_64, xr_89_65, xr_89_67, xr_89_68, xr_89_71, xr_89_74, xr_89_75, xr_89_76, xr_89_77, xr_89_80, xr_89_81, xr_89_84, xr_89_87, xr_89_88, xr_89_91, xr_89_92, xr_89_93, xr_89_94, xr_89_97, xr_89_100, xr_89_101, xr_89_102, xr_89_103, b0, ex_some, true_and]
      exact GG_thr g
    · show Vi 54 h [some (.inr (0, 0)), some (.inl 1)] _
      rw [Vi]
      simp only [xr_54_0, xr_54_1_0, xr_54_1_1, xr_54_1_2, xr_54_1_3, xr_54_1_4, xr_54_36, xr_54_37, xr_54_40, xr_54_41, xr_54_42, xr_54_45, xr_54_46, xr_54_47, xr_54_50, xr_54_51, xr_54_52, xr_54_55, xr_54_56, xr_54_57, xr_54_60, xr_54_61, xr_54_62, ex_some]
      show Vi 89 h [some (.inr (10, 0)), some (.inl 1), none, none] _
      rw [Vi]
      simp only [xr_89_0, xr_89_1, xr_89_2, xr_89_5, xr_89_6, xr_89_7, xr_89_8_0, xr_89_8_1, xr_89_8_2, xr_89_8_3, xr_89_8_4, xr_89_44, xr_89_45, xr_89_48, xr_89_49, xr_89_50, xr_89_53, xr_89_54, xr_89_55, xr_89_58, xr_89_59, xr_89_60, xr_89_63, xr_89_64, xr_89_65, xr_89_67, xr_89_68, xr_89_71, xr_89_74, xr_89_75, xr_89_76, xr_89_77, xr_89_80, xr_89_81, xr_89_84, xr_89_87, xr_89_88, xr_89_91, xr_89_92, xr_89_93, xr_89_94, xr_89_97, xr_89_100, xr_89_101, xr_89_102, xr_89_103, b1, ex_some, true_and]
      exact GG_thr g
    · show Vi 54 h [some (.inr (0, 0)), some (.inl 2)] _
      rw [Vi]
      simp only [xr_54_0, xr_54_1_0, xr_54_1_1, xr_54_1_2, xr_54_1_3, xr_54_1_4, xr_54_36, xr_54_37, xr_54_40, xr_54_41, xr_54_42, xr_54_45, xr_54_46, xr_54_47, xr_54_50, xr_54_51, xr_54_52, xr_54_55, xr_54_56, xr_54_57, xr_54_60, xr_54_61, xr_54_62, ex_some]
      show Vi 89 h [some (.inr (10, 0)), some (.inl 2), none, none] _
      rw [Vi]
      simp only [xr_89_0, xr_89_1, xr_89_2, xr_89_5, xr_89_6, xr_89_7, xr_89_8_0, xr_89_8_1, xr_89_8_2, xr_89_8_3, xr_89_8_4, xr_89_44, xr_89_45, xr_89_48, xr_89_49, xr_89_50, xr_89_53, xr_89_54, xr_89_55, xr_89_58, xr_89_59, xr_89_60, xr_89_63, xr_89_64, xr_89_65, xr_89_67, xr_89_68, xr_89_71, xr_89_74, xr_89_75, xr_89_76, xr_89_77, xr_89_80, xr_89_81, xr_89_84, xr_89_87, xr_89_88, xr_89_91, xr_89_92, xr_89_93, xr_89_94, xr_89_97, xr_89_100, xr_89_101, xr_89_102, xr_89_103, b6, ex_some, true_and]
      exact GG_thr g
    · show Vi 54 h [some (.inr (0, 0)), some (.inl 3)] _
      rw [Vi]
      simp only [xr_54_0, xr_54_1_0, xr_54_1_1, xr_54_1_2, xr_54_1_3, xr_54_1_4, xr_54_36, xr_54_37, xr_54_40, xr_54_41, xr_54_42, xr_54_45, xr_54_46, xr_54_47, xr_54_50, xr_54_51, xr_54_52, xr_54_55, xr_54_56, xr_54_57, xr_54_60, xr_54_61, xr_54_62, ex_some]
      show Vi 89 h [some (.inr (10, 0)), some (.inl 3), none, none] _
      rw [Vi]
      simp only [xr_89_0, xr_89_1, xr_89_2, xr_89_5, xr_89_6, xr_89_7, xr_89_8_0, xr_89_8_1, xr_89_8_2, xr_89_8_3, xr_89_8_4, xr_89_44, xr_89_45, xr_89_48, xr_89_49, xr_89_50, xr_89_53, xr_89_54, xr_89_55, xr_89_58, xr_89_59, xr_89_60, xr_89_63, xr_89_64, xr_89_65, xr_89_67, xr_89_68, xr_89_71, xr_89_74, xr_89_75, xr_89_76, xr_89_77, xr_89_80, xr_89_81, xr_89_84, xr_89_87, xr_89_88, xr_89_91, xr_89_92, xr_89_93, xr_89_94, xr_89_97, xr_89_100, xr_89_101, xr_89_102, xr_89_103, b17, ex_some, true_and]
      exact GG_thr g
    · show Vi 54 h [some (.inr (0, 0)), some (.inl 4)] _
      rw [Vi]
      simp only [xr_54_0, xr_54_1_0, xr_54_1_1, xr_54_1_2, xr_54_1_3, xr_54_1_4, xr_54_36, xr_54_37, xr_54_40, xr_54_41, xr_54_42, xr_54_45, xr_54_46, xr_54_47, xr_54_50, xr_54_51, xr_54_52, xr_54_55, xr_54_56, xr_54_57, xr_54_60, xr_54_61, xr_54_62, c_X2_endedBooks h 0 NS _ z4 p4, ex_some]
      show Vi 89 h [some (.inr (10, 0)), some (.inl 4), none, none] _
      rw [Vi]
      simp only [xr_89_0, xr_89_1, xr_89_2, xr_89_5, xr_89_6, xr_89_7, xr_89_8_4, xr_89_64, xr_89_65]
      have rr : rI NQ NS h (ah_up h 10 0 20 0) := by
        obtain ⟨-, rq, rs⟩ := r
        exact ⟨⟨y0, y1, y2, y3, y4, y5⟩, rq, rs⟩
      have hgb : GG (ah_up h 10 0 20 0) := GG_thr g
      generalize ah_up h 10 0 20 0 = b at b0 b6 rr hgb ⊢
      have lp : ∀ Q, VV 89 b 66 [some (.inr (10, 0)), some (.inl 4), some (.inl 0), some (.inl 0)] [] Q ↔ Q (some (nI (sp_cnt (fun s => decide (sp_cnt (md_has b s) P = P)) NS))) b := by
        intro Q
        refine Iff.trans (it0 (V := fun i => VV 89 b 66 [some (.inr (10, 0)), some (.inl 4), some (.inl (nI (sp_cnt (fun s => decide (sp_cnt (md_has b s) P = P)) i))), some (.inl (nI i))] [] Q) NS ?_) ?_
        · intro i hi
          obtain ⟨f1, f2, f3, f4⟩ := lx hi p4 (by omega)
          have hle := sp_cnt_le (md_has b i) P
          have ge : nI (sp_cnt (md_has b i) P) = nI P ↔ sp_cnt (md_has b i) P = P := nI_eq (by omega) (by omega)
          rw [xr_89_66]
          simp only [xr_89_0, xr_89_1, xr_89_2, xr_89_5, xr_89_6, xr_89_7, xr_89_8_0, xr_89_8_1, xr_89_8_2, xr_89_8_3, xr_89_8_4, xr_89_44, xr_89_45, xr_89_48, xr_89_49, xr_89_50, xr_89_53, xr_89_54, xr_89_55, xr_89_58, xr_89_59, xr_89_60, xr_89_63, xr_89_64, xr_89_65, xr_89_67, xr_89_68, xr_89_71, xr_89_74, xr_89_75, xr_89_76, xr_89_77, xr_89_80, xr_89_81, xr_89_84, xr_89_87, xr_89_88, xr_89_91, xr_89_92, xr_89_93, xr_89_94, xr_89_97, xr_89_100, xr_89_101, xr_89_102, xr_89_103, b6, b0, z4, z2, c_X3_hasMany b P i _ (show i < 8 by omega) (by rw [b0, z2]) p2, ge, f1, f4, sp_cnt, not_true, not_false_iff, true_imp_iff, false_imp_iff, true_and]
          by_cases cc : sp_cnt (md_has b i) P = P <;> simp [cc, nI_1]
        · rw [xr_89_66]
          simp only [xr_89_0, xr_89_1, xr_89_2, xr_89_5, xr_89_6, xr_89_7, xr_89_8_0, xr_89_8_1, xr_89_8_2, xr_89_8_3, xr_89_8_4, xr_89_44, xr_89_45, xr_89_48, xr_89_49, xr_89_50, xr_89_53, xr_89_54, xr_89_55, xr_89_58, xr_89_59, xr_89_60, xr_89_63, xr_89_64, xr_89_65, xr_89_67, xr_89_68, xr_89_71, xr_89_74, xr_89_75, xr_89_76, xr_89_77, xr_89_80, xr_89_81, xr_89_84, xr_89_87, xr_89_88, xr_89_91, xr_89_92, xr_89_93, xr_89_94, xr_89_97, xr_89_100, xr_89_101, xr_89_102, xr_89_103, b6, z4, lxe, not_true, false_imp_iff, true_imp_iff, and_true]
      rw [lp]
      refine ⟨_, rfl, ?_, ?_⟩
      · rw [ended_eq c rr NS (Nat.le_refl NS)]
      · exact hgb
  · have sd := fun h Q l0 l1 st => xr_54_1_d h Q l0 l1 st x ho
    have sd2 := fun h Q l0 l1 l2 l3 st => xr_89_8_d h Q l0 l1 l2 l3 st x ho
    rw [Vi]
    simp only [xr_54_0, xr_54_1_0, xr_54_1_1, xr_54_1_2, xr_54_1_3, xr_54_1_4, xr_54_36, xr_54_37, xr_54_40, xr_54_41, xr_54_42, xr_54_45, xr_54_46, xr_54_47, xr_54_50, xr_54_51, xr_54_52, xr_54_55, xr_54_56, xr_54_57, xr_54_60, xr_54_61, xr_54_62, sd, ex_some]
    rw [Vi]
    simp only [xr_89_0, xr_89_1, xr_89_2, xr_89_5, xr_89_6, xr_89_7, xr_89_8_0, xr_89_8_1, xr_89_8_2, xr_89_8_3, xr_89_8_4, xr_89_44, xr_89_45, xr_89_48, xr_89_49, xr_89_50, xr_89_53, xr_89_54, xr_89_55, xr_89_58, xr_89_59, xr_89_60, xr_89_63, xr_89_64, xr_89_65, xr_89_67, xr_89_68, xr_89_71, xr_89_74, xr_89_75, xr_89_76, xr_89_77, xr_89_80, xr_89_81, xr_89_84, xr_89_87, xr_89_88, xr_89_91, xr_89_92, xr_89_93, xr_89_94, xr_89_97, xr_89_100, xr_89_101, xr_89_102, xr_89_103, sd2, ex_some, true_and]
    exact GG_thr g
end O6
