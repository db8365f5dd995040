/-! ===== met, look, finish ===== -/
def md_20 (g : AHp) : AHp := ah_up g 10 0 20 0
theorem rI_20 {NQ NS : Nat} {a b : AHp} (r : rI NQ NS a b) : rI NQ NS a (ah_up b 10 0 20 0) := ⟨⟨r.1.1, r.1.2.1, r.1.2.2.1, r.1.2.2.2.1, r.1.2.2.2.2.1, r.1.2.2.2.2.2⟩, r.2.1, r.2.2⟩
section O7
variable (h : AHp) (x y z : Int32) (K : Int32 → AHp → Prop) {P NQ NS D : Nat}
theorem op_met (g : GG h) : Vi 50 h [some (.inr (0, 0)), some (.inl x), some (.inl y), none, none] (fun r h1 => Vi 85 h1 [some (.inr (10, 0)), some (.inl x), some (.inl y), none, none] (fun r2 h2 => r2 = r ∧ GG h2)) := by
  obtain ⟨P, NQ, NS, D, c, r⟩ := id g
  obtain ⟨⟨p1, p2, p3, p4, p5⟩, z2, z3, z4, z5, z6, z7⟩ := c.1
  obtain ⟨y0, y1, y2, y3, y4, y5⟩ := r.1
  have d0 : (ah_up h 10 0 20 0) 10 0 0 = nI P := by rw [← z2, ← y0]; rfl
  have d6 : (ah_up h 10 0 20 0) 10 0 6 = nI NS := by rw [← z4, ← y2]; rfl
  have rr := rI_20 r
  have hgb : GG (ah_up h 10 0 20 0) := GG_thr g
  by_cases c1 : ¬ x < 0 ∧ x < nI NS
  · by_cases c2 : ¬ y < 0 ∧ y < nI NS
    · obtain ⟨s, s1, rfl⟩ := in_nI (by omega) c1.1 c1.2
      obtain ⟨t, t1, rfl⟩ := in_nI (by omega) c2.1 c2.2
      have e3 : (nI s).toNatClampNeg = s := nI_clamp (by omega)
      have e4 : (nI t).toNatClampNeg = t := nI_clamp (by omega)
      have e5 : vp_in (nI s) 8 := vp_in_nI (by omega) (by omega)
      have e6 : vp_in (nI t) 8 := vp_in_nI (by omega) (by omega)
      have lp : ∀ Q, VV 50 h 23 [some (.inr (0, 0)), some (.inl (nI s)), some (.inl (nI t)), some (.inl 0), some (.inl 0)] [] Q ↔ Q (some (nI (sp_cnt (fun p => decide (¬ h 7 s p = -1 ∧ h 7 s p = h 7 t p)) P))) h := by
        intro Q
        refine Iff.trans (it0 (V := fun i => VV 50 h 23 [some (.inr (0, 0)), some (.inl (nI s)), some (.inl (nI t)), some (.inl (nI (sp_cnt (fun p => decide (¬ h 7 s p = -1 ∧ h 7 s p = h 7 t p)) i))), some (.inl (nI i))] [] Q) P ?_) ?_
        · intro i hi
          obtain ⟨f1, f2, f3, f4⟩ := lx hi p2 (by omega)
          rw [xr_50_23]
          simp only [xr_50_0, xr_50_1, xr_50_2, xr_50_5, xr_50_8, xr_50_9, xr_50_10, xr_50_13, xr_50_16, xr_50_17, xr_50_18, xr_50_19, xr_50_20, xr_50_21, xr_50_25, xr_50_26, xr_50_29, xr_50_32, xr_50_33, xr_50_36, xr_50_37_1, xr_50_37_2, xr_50_38, xr_50_40, xr_50_43, xr_50_46, xr_50_47, xr_50_50, xr_50_51_1, xr_50_51_2, xr_50_52, xr_50_55, xr_50_57, xr_50_58, xr_50_59, xr_50_62, xr_50_63_1, xr_50_63_2, xr_50_64, xr_50_67, xr_50_69, xr_50_70, xr_50_73, xr_50_76, xr_50_79, xr_50_82, xr_50_83, z2, f1, f2, f3, f4, e3, e4, e5, e6, ix_i7, c_X1_has, b01_z, true_and, not_false_iff, true_imp_iff, false_imp_iff, sp_cnt, Classical.not_not]
          by_cases a1 : h 7 s i = -1
          · simp [a1]
          · by_cases a2 : h 7 s i = h 7 t i
            · have a3 : ¬ h 7 t i = -1 := by rw [← a2]; exact a1
              simp [a2, a3, nI_1]
            · simp [a1, a2]
        · rw [xr_50_23]
          simp only [xr_50_0, xr_50_1, xr_50_2, xr_50_5, xr_50_8, xr_50_9, xr_50_10, xr_50_13, xr_50_16, xr_50_17, xr_50_18, xr_50_19, xr_50_20, xr_50_21, xr_50_25, xr_50_26, xr_50_29, xr_50_32, xr_50_33, xr_50_36, xr_50_37_1, xr_50_37_2, xr_50_38, xr_50_40, xr_50_43, xr_50_46, xr_50_47, xr_50_50, xr_50_51_1, xr_50_51_2, xr_50_52, xr_50_55, xr_50_57, xr_50_58, xr_50_59, xr_50_62, xr_50_63_1, xr_50_63_2, xr_50_64, xr_50_67, xr_50_69, xr_50_70, xr_50_73, xr_50_76, xr_50_79, xr_50_82, xr_50_83, z2, lxe, not_true, false_imp_iff, true_imp_iff, and_true]
      rw [Vi]
      simp only [xr_50_0, xr_50_1, xr_50_2, xr_50_5, xr_50_8, xr_50_9, xr_50_10, xr_50_13, xr_50_16, xr_50_17, xr_50_18, xr_50_19, xr_50_20, xr_50_21, c_X2_isScribe, z4, c1, c2, b01_z, b01_n, ex_some, not_true, not_false_iff, true_imp_iff, false_imp_iff, true_and, and_true]
      rw [lp]
      refine ⟨_, rfl, ?_⟩
      rw [Vi]
      simp only [xr_85_0, xr_85_1, xr_85_2, xr_85_5, xr_85_6, xr_85_7, xr_85_10, xr_85_13, xr_85_14, xr_85_15, xr_85_18, xr_85_21, xr_85_22, xr_85_23, xr_85_24, xr_85_25, xr_85_26, c_X3_isScribe, d6, c1, c2, b01_z, b01_n, ex_some, not_true, not_false_iff, true_imp_iff, false_imp_iff, true_and, and_true]
      generalize ah_up h 10 0 20 0 = b at d0 d6 rr hgb ⊢
      have lm : ∀ Q, VV 85 b 28 [some (.inr (10, 0)), some (.inl (nI s)), some (.inl (nI t)), some (.inl 0), some (.inl 0)] [] Q ↔ Q (some (nI (sp_cnt (fun p => decide (¬ h 7 s p = -1 ∧ h 7 s p = h 7 t p)) P))) b := by
        intro Q
        refine Iff.trans (it0 (V := fun i => VV 85 b 28 [some (.inr (10, 0)), some (.inl (nI s)), some (.inl (nI t)), some (.inl (nI (sp_cnt (fun p => decide (¬ h 7 s p = -1 ∧ h 7 s p = h 7 t p)) i))), some (.inl (nI i))] [] Q) P ?_) ?_
        · intro i hi
          obtain ⟨f1, f2, f3, f4⟩ := lx hi p2 (by omega)
          obtain ⟨g1, g2⟩ := e_8i (show s < 8 by omega) (show i < 8 by omega)
          obtain ⟨g3, g4⟩ := e_8i (show t < 8 by omega) (show i < 8 by omega)
          obtain ⟨-, u2, u3, -⟩ := (rr.2.2 s s1).2.2.2.2 i (by omega)
          obtain ⟨-, v2, v3, -⟩ := (rr.2.2 t t1).2.2.2.2 i (by omega)
          rw [xr_85_28]
          simp only [xr_85_0, xr_85_1, xr_85_2, xr_85_5, xr_85_6, xr_85_7, xr_85_10, xr_85_13, xr_85_14, xr_85_15, xr_85_18, xr_85_21, xr_85_22, xr_85_23, xr_85_24, xr_85_25, xr_85_26, xr_85_30, xr_85_31, xr_85_34, xr_85_37, xr_85_38, xr_85_39, xr_85_42, xr_85_44, xr_85_45, xr_85_46, xr_85_48, xr_85_49, xr_85_50, xr_85_53, xr_85_54, xr_85_57, xr_85_59, xr_85_60, xr_85_61, xr_85_63, xr_85_64, xr_85_65, xr_85_68, xr_85_69, xr_85_72, xr_85_74, xr_85_75, xr_85_76, xr_85_78, xr_85_79, xr_85_80, xr_85_81, xr_85_84, xr_85_86, xr_85_87, xr_85_88, xr_85_90, xr_85_91, xr_85_92, xr_85_95, xr_85_96, xr_85_99, xr_85_100, xr_85_101, xr_85_102, xr_85_105, xr_85_108, xr_85_109, d0, f1, f4, e_8, g1, g2, g3, g4, ix_z22, ix_i24, true_and, not_false_iff, true_imp_iff, false_imp_iff, sp_cnt, Classical.not_not]
          by_cases a1 : h 7 s i = -1
          · rw [u2]; simp [a1]
          · by_cases a3 : h 7 t i = -1
            · have a4 : ¬ h 7 s i = h 7 t i := by rw [a3]; exact a1
              rw [u2, v2]; simp [a1, a3]
            · rw [u2, v2, (u3 a1).2.1, (v3 a3).2.1]
              by_cases a2 : h 7 s i = h 7 t i
              · simp [a3, a2, nI_1]
              · simp [a1, a3, a2]
        · rw [xr_85_28]
          simp only [xr_85_0, xr_85_1, xr_85_2, xr_85_5, xr_85_6, xr_85_7, xr_85_10, xr_85_13, xr_85_14, xr_85_15, xr_85_18, xr_85_21, xr_85_22, xr_85_23, xr_85_24, xr_85_25, xr_85_26, xr_85_30, xr_85_31, xr_85_34, xr_85_37, xr_85_38, xr_85_39, xr_85_42, xr_85_44, xr_85_45, xr_85_46, xr_85_48, xr_85_49, xr_85_50, xr_85_53, xr_85_54, xr_85_57, xr_85_59, xr_85_60, xr_85_61, xr_85_63, xr_85_64, xr_85_65, xr_85_68, xr_85_69, xr_85_72, xr_85_74, xr_85_75, xr_85_76, xr_85_78, xr_85_79, xr_85_80, xr_85_81, xr_85_84, xr_85_86, xr_85_87, xr_85_88, xr_85_90, xr_85_91, xr_85_92, xr_85_95, xr_85_96, xr_85_99, xr_85_100, xr_85_101, xr_85_102, xr_85_105, xr_85_108, xr_85_109, d0, lxe, not_true, false_imp_iff, true_imp_iff, and_true]
      rw [lm]
      exact ⟨_, rfl, rfl, hgb⟩
    · rw [Vi]
      simp only [xr_50_0, xr_50_1, xr_50_2, xr_50_5, xr_50_8, xr_50_9, xr_50_10, xr_50_13, xr_50_16, xr_50_17, c_X2_isScribe, z4, c1, c2, b01_z, b01_n, ex_some, not_true, not_false_iff, true_imp_iff, false_imp_iff, true_and, and_true]
      rw [Vi]
      simp only [xr_85_0, xr_85_1, xr_85_2, xr_85_5, xr_85_6, xr_85_7, xr_85_10, xr_85_13, xr_85_14, xr_85_15, xr_85_18, xr_85_21, xr_85_22, c_X3_isScribe, d6, c1, c2, b01_z, b01_n, ex_some, not_true, not_false_iff, true_imp_iff, false_imp_iff, true_and, and_true]
      exact hgb
  · rw [Vi]
    simp only [xr_50_0, xr_50_1, xr_50_2, xr_50_5, xr_50_16, xr_50_17, c_X2_isScribe, z4, c1, b01_z, b01_n, ex_some, not_true, not_false_iff, true_imp_iff, false_imp_iff, true_and, and_true]
    rw [Vi]
    simp only [xr_85_0, xr_85_1, xr_85_2, xr_85_5, xr_85_6, xr_85_7, xr_85_10, xr_85_21, xr_85_22, c_X3_isScribe, d6, c1, b01_z, b01_n, ex_some, not_true, not_false_iff, true_imp_iff, false_imp_iff, true_and, and_true]
    exact hgb
/-- look, where it answers: the class -/
def sp_look (h : AHp) (s j : Nat) : Int32 := match j with | 0 => h 4 s 5 | 1 => (if h 0 0 2 ≤ h 4 s 6 then 2 else if h 4 s 8 = -1 then 0 else 1) | 2 => h 4 s 8 | 3 => h 4 s 6 | _ => (if h 0 0 2 ≤ h 4 s 6 then h 4 s 7 else -1)
theorem c_X2_look {s j : Nat} (hs : s < NS) (hj : j ≤ 4) (h8 : NS ≤ 8) (hS : h 0 0 4 = nI NS) : Vi 52 h [some (.inr (0, 0)), some (.inl (nI s)), some (.inl (nI j)), none] K ↔ K (sp_look h s j) h := by
  have e3 : (nI s).toNatClampNeg = s := nI_clamp (by omega)
  have e5 : vp_in (nI s) 8 := vp_in_nI (by omega) (by omega)
  have c1 : ¬ nI s < 0 ∧ nI s < nI NS := ⟨nI_pos (by omega), nI_lt hs (by omega)⟩
  rcases (show j = 0 ∨ j = 1 ∨ j = 2 ∨ j = 3 ∨ j = 4 by omega) with rfl | rfl | rfl | rfl | rfl
  · show Vi 52 h [some (.inr (0, 0)), some (.inl (nI s)), some (.inl 0), none] K ↔ _
    rw [Vi]
    simp only [xr_52_0, xr_52_1, xr_52_2, xr_52_5, xr_52_18, xr_52_19, xr_52_22, xr_52_23_1, xr_52_23_2, xr_52_24, xr_52_25, xr_52_26_0, xr_52_26_1, xr_52_26_2, xr_52_26_3, xr_52_26_4, xr_52_60, xr_52_61, xr_52_64, xr_52_65, xr_52_66, xr_52_67, xr_52_70, xr_52_71, xr_52_72, xr_52_75, xr_52_76, xr_52_77, xr_52_80, xr_52_81, xr_52_82, xr_52_83, xr_52_86, xr_52_89, xr_52_90, xr_52_93, xr_52_96, xr_52_97, c_X2_isScribe, hS, c1, e3, e5, b01_n, b01_z, ex_some, not_true, not_false_iff, true_imp_iff, false_imp_iff, true_and, and_true, sp_look]
  · show Vi 52 h [some (.inr (0, 0)), some (.inl (nI s)), some (.inl 1), none] K ↔ _
    rw [Vi]
    simp only [xr_52_0, xr_52_1, xr_52_2, xr_52_5, xr_52_18, xr_52_19, xr_52_22, xr_52_23_1, xr_52_23_2, xr_52_24, xr_52_25, xr_52_26_0, xr_52_26_1, xr_52_26_2, xr_52_26_3, xr_52_26_4, xr_52_60, xr_52_61, xr_52_64, xr_52_65, xr_52_66, xr_52_67, xr_52_70, xr_52_71, xr_52_72, xr_52_75, xr_52_76, xr_52_77, xr_52_80, xr_52_81, xr_52_82, xr_52_83, xr_52_86, xr_52_89, xr_52_90, xr_52_93, xr_52_96, xr_52_97, c_X2_isScribe, c_X2_stateOf, hS, c1, e3, e5, b01_n, b01_z, ex_some, not_true, not_false_iff, true_imp_iff, false_imp_iff, true_and, and_true, sp_look]
  · show Vi 52 h [some (.inr (0, 0)), some (.inl (nI s)), some (.inl 2), none] K ↔ _
    rw [Vi]
    simp only [xr_52_0, xr_52_1, xr_52_2, xr_52_5, xr_52_18, xr_52_19, xr_52_22, xr_52_23_1, xr_52_23_2, xr_52_24, xr_52_25, xr_52_26_0, xr_52_26_1, xr_52_26_2, xr_52_26_3, xr_52_26_4, xr_52_60, xr_52_61, xr_52_64, xr_52_65, xr_52_66, xr_52_67, xr_52_70, xr_52_71, xr_52_72, xr_52_75, xr_52_76, xr_52_77, xr_52_80, xr_52_81, xr_52_82, xr_52_83, xr_52_86, xr_52_89, xr_52_90, xr_52_93, xr_52_96, xr_52_97, c_X2_isScribe, hS, c1, e3, e5, b01_n, b01_z, ex_some, not_true, not_false_iff, true_imp_iff, false_imp_iff, true_and, and_true, sp_look]
  · show Vi 52 h [some (.inr (0, 0)), some (.inl (nI s)), some (.inl 3), none] K ↔ _
    rw [Vi]
    simp only [xr_52_0, xr_52_1, xr_52_2, xr_52_5, xr_52_18, xr_52_19, xr_52_22, xr_52_23_1, xr_52_23_2, xr_52_24, xr_52_25, xr_52_26_0, xr_52_26_1, xr_52_26_2, xr_52_26_3, xr_52_26_4, xr_52_60, xr_52_61, xr_52_64, xr_52_65, xr_52_66, xr_52_67, xr_52_70, xr_52_71, xr_52_72, xr_52_75, xr_52_76, xr_52_77, xr_52_80, xr_52_81, xr_52_82, xr_52_83, xr_52_86, xr_52_89, xr_52_90, xr_52_93, xr_52_96, xr_52_97, c_X2_isScribe, hS, c1, e3, e5, b01_n, b01_z, ex_some, not_true, not_false_iff, true_imp_iff, false_imp_iff, true_and, and_true, sp_look]
  · show Vi 52 h [some (.inr (0, 0)), some (.inl (nI s)), some (.inl 4), none] K ↔ _
    rw [Vi]
    simp only [xr_52_0, xr_52_1, xr_52_2, xr_52_5, xr_52_18, xr_52_19, xr_52_22, xr_52_23_1, xr_52_23_2, xr_52_24, xr_52_25, xr_52_26_0, xr_52_26_1, xr_52_26_2, xr_52_26_3, xr_52_26_4, xr_52_60, xr_52_61, xr_52_64, xr_52_65, xr_52_66, xr_52_67, xr_52_70, xr_52_71, xr_52_72, xr_52_75, xr_52_76, xr_52_77, xr_52_80, xr_52_81, xr_52_82, xr_52_83, xr_52_86, xr_52_89, xr_52_90, xr_52_93, xr_52_96, xr_52_97, c_X2_isScribe, c_X2_hasEnded, hS, c1, e3, e5, b01_n, b01_z, ex_some, not_true, not_false_iff, true_imp_iff, false_imp_iff, true_and, and_true, sp_look]
    by_cases a1 : h 0 0 2 ≤ h 4 s 6 <;> simp [a1]
/-- look: the reference -/
theorem md_look (g : GG h) {a : AHp} {P NQ NS D : Nat} (c : cI P NQ NS D (fun _ => D) h) (r : rI NQ NS h h) (hK : ∀ (v : Int32) (tw : Nat), (tw = 0 → ∃ s j, s < NS ∧ j ≤ 4 ∧ x = nI s ∧ y = nI j ∧ v = sp_look h s j) → (tw = 1 → ¬ (¬ x < 0 ∧ x < nI NS)) → (tw = 2 → (¬ x < 0 ∧ x < nI NS) ∧ (y.toInt < 0 ∨ 4 < y.toInt)) → tw ≤ 2 → K v (ah_up h 10 0 20 (nI tw))) : Vi 87 h [some (.inr (10, 0)), some (.inl x), some (.inl y)] K := by
  obtain ⟨⟨p1, p2, p3, p4, p5⟩, z2, z3, z4, z5, z6, z7⟩ := c.1
  obtain ⟨y0, y1, y2, y3, y4, y5⟩ := r.1
  have d0 : (ah_up h 10 0 20 0) 10 0 0 = nI P := by rw [← z2, ← y0]; rfl
  have d6 : (ah_up h 10 0 20 0) 10 0 6 = nI NS := by rw [← z4, ← y2]; rfl
  have rr := rI_20 r
  by_cases c1 : ¬ x < 0 ∧ x < nI NS
  · obtain ⟨s, s1, rfl⟩ := in_nI (by omega) c1.1 c1.2
    have e3 : (nI s).toNatClampNeg = s := nI_clamp (by omega)
    have e5 : vp_in (nI s) 8 := vp_in_nI (by omega) (by omega)
    have cm : ∀ K, Vi 67 (ah_up h 10 0 20 0) [some (.inr (10, 0)), some (.inl (nI s)), none, none] K ↔ K (nI (sp_cnt (md_has (ah_up h 10 0 20 0) s) P)) (ah_up h 10 0 20 0) := fun K => c_X3_hasMany _ P s K (by omega) d0 p2
    obtain ⟨x1, x2, x3, x4, x5⟩ := rr.2.2 s s1
    obtain ⟨-, i2, -⟩ := c.2.2 s s1
    have hcnt := rI_cnt p2 (rr.2.2 s s1)
    have hle := sp_cnt_le (fun p => decide (¬ h 7 s p = -1)) P
    have ge : nI (sp_cnt (md_has (ah_up h 10 0 20 0) s) P) = nI P ↔ h 0 0 2 ≤ h 4 s 6 := by
      rw [hcnt, z2, i2, nI_eq (by omega) (by omega), nI_leI (by omega) (by omega)]
      omega
    have hh : nI (sp_cnt (md_has (ah_up h 10 0 20 0) s) P) = h 4 s 6 := by rw [hcnt, i2]
    have ok : ∀ j, j ≤ 4 → y = nI j → K (sp_look h s j) (ah_up h 10 0 20 0) := fun j hj e => hK _ 0 (fun _ => ⟨s, j, s1, hj, rfl, e, rfl⟩) (fun z => by omega) (fun z => by omega) (by omega)
    rcases sw_n (z := y) (n := 4) (by omega) with ⟨j, hj, rfl⟩ | ⟨ho, hne⟩
    · have okj := ok j hj rfl
      rcases (show j = 0 ∨ j = 1 ∨ j = 2 ∨ j = 3 ∨ j = 4 by omega) with rfl | rfl | rfl | rfl | rfl
      · show Vi 87 h [some (.inr (10, 0)), some (.inl (nI s)), some (.inl 0)] K
        rw [Vi]
        simp only [xr_87_0, xr_87_1, xr_87_2, xr_87_5, xr_87_6, xr_87_7, xr_87_10, xr_87_13, xr_87_14, xr_87_15, xr_87_18, xr_87_19, xr_87_20_0, xr_87_20_1, xr_87_20_2, xr_87_20_3, xr_87_20_4, xr_87_56, xr_87_57, xr_87_60, xr_87_61, xr_87_62, xr_87_63, xr_87_64, xr_87_65, xr_87_68, xr_87_69, xr_87_72, xr_87_75, xr_87_76, xr_87_79, xr_87_80, xr_87_83, xr_87_84, xr_87_85, xr_87_86, xr_87_89, xr_87_90, xr_87_93, xr_87_94, xr_87_95, xr_87_96, xr_87_99, xr_87_100, xr_87_101, xr_87_102, xr_87_103, xr_87_104, xr_87_107, xr_87_108, xr_87_109, xr_87_112, xr_87_113, xr_87_114, xr_87_115, xr_87_116, xr_87_117, xr_87_120, c_X3_isScribe, d6, c1, e3, e5, ix_i17, x1, b01_n, b01_z, ex_some, not_true, not_false_iff, true_imp_iff, false_imp_iff, true_and, and_true]
        exact okj
      · show Vi 87 h [some (.inr (10, 0)), some (.inl (nI s)), some (.inl 1)] K
        rw [Vi]
        simp only [xr_87_0, xr_87_1, xr_87_2, xr_87_5, xr_87_6, xr_87_7, xr_87_10, xr_87_13, xr_87_14, xr_87_15, xr_87_18, xr_87_19, xr_87_20_0, xr_87_20_1, xr_87_20_2, xr_87_20_3, xr_87_20_4, xr_87_56, xr_87_57, xr_87_60, xr_87_61, xr_87_62, xr_87_63, xr_87_64, xr_87_65, xr_87_68, xr_87_69, xr_87_72, xr_87_75, xr_87_76, xr_87_79, xr_87_80, xr_87_83, xr_87_84, xr_87_85, xr_87_86, xr_87_89, xr_87_90, xr_87_93, xr_87_94, xr_87_95, xr_87_96, xr_87_99, xr_87_100, xr_87_101, xr_87_102, xr_87_103, xr_87_104, xr_87_107, xr_87_108, xr_87_109, xr_87_112, xr_87_113, xr_87_114, xr_87_115, xr_87_116, xr_87_117, xr_87_120, c_X3_isScribe, cm, d0, d6, c1, e3, e5, ge, ix_i19, x3, b01_n, b01_z, ex_some, not_true, not_false_iff, true_imp_iff, false_imp_iff, true_and, and_true, Classical.not_not]
        simp only [sp_look] at okj
        by_cases a1 : h 0 0 2 ≤ h 4 s 6
        · simp only [a1, if_true] at okj ⊢
          simp [okj]
        · by_cases a2 : h 4 s 8 = -1
          · simp only [a1, a2, if_true, if_false] at okj ⊢
            simp [okj]
          · simp only [a1, a2, if_false] at okj ⊢
            simp [okj]
      · show Vi 87 h [some (.inr (10, 0)), some (.inl (nI s)), some (.inl 2)] K
        rw [Vi]
        simp only [xr_87_0, xr_87_1, xr_87_2, xr_87_5, xr_87_6, xr_87_7, xr_87_10, xr_87_13, xr_87_14, xr_87_15, xr_87_18, xr_87_19, xr_87_20_0, xr_87_20_1, xr_87_20_2, xr_87_20_3, xr_87_20_4, xr_87_56, xr_87_57, xr_87_60, xr_87_61, xr_87_62, xr_87_63, xr_87_64, xr_87_65, xr_87_68, xr_87_69, xr_87_72, xr_87_75, xr_87_76, xr_87_79, xr_87_80, xr_87_83, xr_87_84, xr_87_85, xr_87_86, xr_87_89, xr_87_90, xr_87_93, xr_87_94, xr_87_95, xr_87_96, xr_87_99, xr_87_100, xr_87_101, xr_87_102, xr_87_103, xr_87_104, xr_87_107, xr_87_108, xr_87_109, xr_87_112, xr_87_113, xr_87_114, xr_87_115, xr_87_116, xr_87_117, xr_87_120, c_X3_isScribe, d6, c1, e3, e5, ix_i19, x3, b01_n, b01_z, ex_some, not_true, not_false_iff, true_imp_iff, false_imp_iff, true_and, and_true]
        exact okj
      · show Vi 87 h [some (.inr (10, 0)), some (.inl (nI s)), some (.inl 3)] K
        rw [Vi]
        simp only [xr_87_0, xr_87_1, xr_87_2, xr_87_5, xr_87_6, xr_87_7, xr_87_10, xr_87_13, xr_87_14, xr_87_15, xr_87_18, xr_87_19, xr_87_20_0, xr_87_20_1, xr_87_20_2, xr_87_20_3, xr_87_20_4, xr_87_56, xr_87_57, xr_87_60, xr_87_61, xr_87_62, xr_87_63, xr_87_64, xr_87_65, xr_87_68, xr_87_69, xr_87_72, xr_87_75, xr_87_76, xr_87_79, xr_87_80, xr_87_83, xr_87_84, xr_87_85, xr_87_86, xr_87_89, xr_87_90, xr_87_93, xr_87_94, xr_87_95, xr_87_96, xr_87_99, xr_87_100, xr_87_101, xr_87_102, xr_87_103, xr_87_104, xr_87_107, xr_87_108, xr_87_109, xr_87_112, xr_87_113, xr_87_114, xr_87_115, xr_87_116, xr_87_117, xr_87_120, c_X3_isScribe, cm, d6, c1, e3, e5, hh, b01_n, b01_z, ex_some, not_true, not_false_iff, true_imp_iff, false_imp_iff, true_and, and_true]
        exact okj
      · show Vi 87 h [some (.inr (10, 0)), some (.inl (nI s)), some (.inl 4)] K
        rw [Vi]
        simp only [xr_87_0, xr_87_1, xr_87_2, xr_87_5, xr_87_6, xr_87_7, xr_87_10, xr_87_13, xr_87_14, xr_87_15, xr_87_18, xr_87_19, xr_87_20_0, xr_87_20_1, xr_87_20_2, xr_87_20_3, xr_87_20_4, xr_87_56, xr_87_57, xr_87_60, xr_87_61, xr_87_62, xr_87_63, xr_87_64, xr_87_65, xr_87_68, xr_87_69, xr_87_72, xr_87_75, xr_87_76, xr_87_79, xr_87_80, xr_87_83, xr_87_84, xr_87_85, xr_87_86, xr_87_89, xr_87_90, xr_87_93, xr_87_94, xr_87_95, xr_87_96, xr_87_99, xr_87_100, xr_87_101, xr_87_102, xr_87_103, xr_87_104, xr_87_107, xr_87_108, xr_87_109, xr_87_112, xr_87_113, xr_87_114, xr_87_115, xr_87_116, xr_87_117, xr_87_120, c_X3_isScribe, d6, c1, e3, e5, ix_i20, x4, b01_n, b01_z, ex_some, not_true, not_false_iff, true_imp_iff, false_imp_iff, true_and, and_true]
        exact okj
    · have sd := fun h Q l0 l1 l2 st => xr_87_20_d h Q l0 l1 l2 st y ho
      rw [Vi]
      simp only [xr_87_0, xr_87_1, xr_87_2, xr_87_5, xr_87_6, xr_87_7, xr_87_10, xr_87_13, xr_87_14, xr_87_15, xr_87_18, xr_87_19, xr_87_20_0, xr_87_20_1, xr_87_20_2, xr_87_20_3, xr_87_20_4, xr_87_56, xr_87_57, xr_87_60, xr_87_61, xr_87_62, xr_87_63, xr_87_64, xr_87_65, xr_87_68, xr_87_69, xr_87_72, xr_87_75, xr_87_76, xr_87_79, xr_87_80, xr_87_83, xr_87_84, xr_87_85, xr_87_86, xr_87_89, xr_87_90, xr_87_93, xr_87_94, xr_87_95, xr_87_96, xr_87_99, xr_87_100, xr_87_101, xr_87_102, xr_87_103, xr_87_104, xr_87_107, xr_87_108, xr_87_109, xr_87_112, xr_87_113, xr_87_114, xr_87_115, xr_87_116, xr_87_117, xr_87_120, sd, c_X3_isScribe, c_X3_fails, d6, c1, b01_n, b01_z, ex_some, not_true, not_false_iff, true_imp_iff, false_imp_iff, true_and, and_true, ah_up_up]
      exact hK 0 2 (fun z => by omega) (fun z => by omega) (fun _ => ⟨c1, ho⟩) (by omega)
  · rw [Vi]
    simp only [xr_87_0, xr_87_1, xr_87_2, xr_87_5, xr_87_6, xr_87_7, xr_87_10, xr_87_13, xr_87_14, xr_87_15, xr_87_18, xr_87_19, xr_87_20_0, xr_87_20_1, xr_87_20_2, xr_87_20_3, xr_87_20_4, xr_87_56, xr_87_57, xr_87_60, xr_87_61, xr_87_62, xr_87_63, xr_87_64, xr_87_65, xr_87_68, xr_87_69, xr_87_72, xr_87_75, xr_87_76, xr_87_79, xr_87_80, xr_87_83, xr_87_84, xr_87_85, xr_87_86, xr_87_89, xr_87_90, xr_87_93, xr_87_94, xr_87_95, xr_87_96, xr_87_99, xr_87_100, xr_87_101, xr_87_102, xr_87_103, xr_87_104, xr_87_107, xr_87_108, xr_87_109, xr_87_112, xr_87_113, xr_87_114, xr_87_115, xr_87_116, xr_87_117, xr_87_120, c_X3_isScribe, c_X3_fails, d6, c1, b01_n, b01_z, ex_some, not_true, not_false_iff, true_imp_iff, false_imp_iff, true_and, and_true, ah_up_up]
    exact hK 0 1 (fun z => by omega) (fun _ => c1) (fun z => by omega) (by omega)
end O7
