/-! ===== the reference: takes, oneDay ===== -/
section ME
variable (b : AHp) (N P NQ NS D s : Nat) (x : Int32) (K : Int32 → AHp → Prop) (J : AHp → Prop)
theorem c_X3_takes (hs : s < 8) (hN : b 10 0 1 = nI NQ) (h20 : NQ ≤ 20) (hP : b 10 0 0 = nI P) (h8 : P ≤ 8) (hru : b 10 0 18 = 0 ∨ b 10 0 18 = 1) : Vv 72 b [some (.inr (10, 0)), some (.inl (nI s)), none, none, none] J ↔ J (md_tk P NQ b s) := by
  rw [Vv]
  simp only [xr_72_0, xr_72_1, xr_72_2, xr_72_3]
  have un_lt : ∀ p, md_un b NQ p ≤ 20 := fun p => Nat.le_trans (sp_unw_le _ _ _ _ _) h20
  refine Iff.trans (it0 (V := fun i => VV 72 b 4 [some (.inr (10, 0)), some (.inl (nI s)), some (.inl (oI (sp_chs (md_has b s) (md_lu b NQ) (sp_rk (b 10 0 18) (md_un b NQ)) i))), some (.inl (nI i)), none] [] (fun r h' => r = none ∧ J h')) P ?_) ?_
  · intro i hi
    obtain ⟨f1, f2, f3, f4⟩ := lx hi h8 (by omega)
    obtain ⟨e1, e2⟩ := e_8i hs (show i < 8 by omega)
    have f5 : ¬ nI i < 0 := nI_pos (by omega)
    have c1 : ∀ (K : Int32 → AHp → Prop), Vi 70 b [some (.inr (10, 0)), some (.inl (nI i)), none] K ↔ K (b01 ((md_lu b NQ i).isSome = true)) b := fun K => c_X3_isOnShelf b NQ (nI i) K hN h20
    have c2 : ∀ (p : Nat) (K : Int32 → AHp → Prop), Vi 71 b [some (.inr (10, 0)), some (.inl (nI p)), none, none] K ↔ K (nI (md_un b NQ p)) b := fun p K => c_X3_sound b NQ (nI p) K hN h20
    have hh : b 22 0 (8 * s + i) = 0 ↔ md_has b s i = false := by unfold md_has; simp
    rw [xr_72_4]
    simp only [xr_72_0, xr_72_1, xr_72_2, xr_72_3, xr_72_5, xr_72_6, xr_72_9, xr_72_12, xr_72_13, xr_72_16, xr_72_18, xr_72_19, xr_72_20, xr_72_21, xr_72_22, xr_72_23, xr_72_26, xr_72_27, xr_72_28, xr_72_31, xr_72_34, xr_72_37, xr_72_38, xr_72_41, xr_72_42, xr_72_45, xr_72_46, xr_72_49, xr_72_50, xr_72_51, xr_72_54, xr_72_55, xr_72_56, xr_72_59, xr_72_62, xr_72_63, xr_72_64, xr_72_67, xr_72_70, xr_72_71, xr_72_74, xr_72_75, xr_72_76, xr_72_77, xr_72_78, xr_72_82, xr_72_83, xr_72_86, xr_72_89, xr_72_90, xr_72_93, xr_72_95, xr_72_96, xr_72_97, xr_72_100, xr_72_101, xr_72_103, xr_72_106, xr_72_109, xr_72_110, xr_72_113, xr_72_114, xr_72_117, xr_72_119, xr_72_120, xr_72_121, xr_72_124, xr_72_125, xr_72_126, xr_72_129, xr_72_131, xr_72_132, xr_72_135, xr_72_138, xr_72_139, xr_72_142, xr_72_143, xr_72_144, xr_72_145, xr_72_146, xr_72_147, xr_72_148, xr_72_149, xr_72_152, xr_72_153, xr_72_154, xr_72_155, xr_72_156, xr_72_159, xr_72_160, xr_72_161, xr_72_162, xr_72_163, xr_72_166, xr_72_168, xr_72_169, xr_72_170, xr_72_171, xr_72_172, xr_72_173, xr_72_176, xr_72_177, xr_72_178, xr_72_179, xr_72_180, xr_72_183, xr_72_185, xr_72_186, xr_72_187, xr_72_188, xr_72_189, xr_72_190, xr_72_191, xr_72_192, xr_72_195, xr_72_197, xr_72_198, xr_72_199, xr_72_200, xr_72_201, xr_72_202, xr_72_205, xr_72_206, hP, f1, f2, f3, f4, e_8, e1, e2, ix_z22, c1, b01_z, true_and, not_false_iff, true_imp_iff, false_imp_iff, sp_chs, hh, Classical.not_not]
    cases a : md_has b s i with
    | true => cases sp_chs (md_has b s) (md_lu b NQ) (sp_rk (b 10 0 18) (md_un b NQ)) i <;> simp
    | false =>
      by_cases l : (md_lu b NQ i).isSome = true
      · cases hc : sp_chs (md_has b s) (md_lu b NQ) (sp_rk (b 10 0 18) (md_un b NQ)) i with
        | none =>
          have : (-1 : Int32) < 0 := by decide
          simp [l, oI, this]
        | some bb =>
          obtain ⟨b1, b2, b3⟩ := sp_chs_ok hc
          have g1 : ¬ nI bb < 0 := nI_pos (by omega)
          have g7 : nI (md_un b NQ bb) ≤ nI (md_un b NQ i) ↔ md_un b NQ bb ≤ md_un b NQ i := nI_leI (by have := un_lt bb; omega) (by have := un_lt i; omega)
          have g9 : nI (md_un b NQ i) < nI (md_un b NQ bb) ↔ md_un b NQ i < md_un b NQ bb := nI_ltI (by have := un_lt i; omega) (by have := un_lt bb; omega)
          have u5 : ¬ (1 : Int32) = 0 := by decide
          have u6 : ¬ (0 : Int32) = 1 := by decide
          rcases hru with r0 | r1
          · have k1 : ¬ i < bb := by omega
            simp [l, oI, g1, r0, sp_rk, k1]
          · by_cases g8 : md_un b NQ bb ≤ md_un b NQ i
            · have k1 : ¬ md_un b NQ i < md_un b NQ bb := by omega
              simp [l, oI, g1, r1, sp_rk, k1, c2, g7, g8, g9]
            · have k1 : md_un b NQ i < md_un b NQ bb := by omega
              simp [l, oI, g1, r1, sp_rk, k1, c2, g7, g8, g9]
      · have l2 : (md_lu b NQ i).isSome = false := by simpa using l
        cases sp_chs (md_has b s) (md_lu b NQ) (sp_rk (b 10 0 18) (md_un b NQ)) i <;> simp [l2]
  · rw [xr_72_4]
    simp only [xr_72_0, xr_72_1, xr_72_2, xr_72_3, xr_72_5, xr_72_6, xr_72_9, xr_72_12, xr_72_13, xr_72_16, xr_72_18, xr_72_19, xr_72_20, xr_72_21, xr_72_22, xr_72_23, xr_72_26, xr_72_27, xr_72_28, xr_72_31, xr_72_34, xr_72_37, xr_72_38, xr_72_41, xr_72_42, xr_72_45, xr_72_46, xr_72_49, xr_72_50, xr_72_51, xr_72_54, xr_72_55, xr_72_56, xr_72_59, xr_72_62, xr_72_63, xr_72_64, xr_72_67, xr_72_70, xr_72_71, xr_72_74, xr_72_75, xr_72_76, xr_72_77, xr_72_78, xr_72_82, xr_72_83, xr_72_86, xr_72_89, xr_72_90, xr_72_93, xr_72_95, xr_72_96, xr_72_97, xr_72_100, xr_72_101, xr_72_103, xr_72_106, xr_72_109, xr_72_110, xr_72_113, xr_72_114, xr_72_117, xr_72_119, xr_72_120, xr_72_121, xr_72_124, xr_72_125, xr_72_126, xr_72_129, xr_72_131, xr_72_132, xr_72_135, xr_72_138, xr_72_139, xr_72_142, xr_72_143, xr_72_144, xr_72_145, xr_72_146, xr_72_147, xr_72_148, xr_72_149, xr_72_152, xr_72_153, xr_72_154, xr_72_155, xr_72_156, xr_72_159, xr_72_160, xr_72_161, xr_72_162, xr_72_163, xr_72_166, xr_72_168, xr_72_169, xr_72_170, xr_72_171, xr_72_172, xr_72_173, xr_72_176, xr_72_177, xr_72_178, xr_72_179, xr_72_180, xr_72_183, xr_72_185, xr_72_186, xr_72_187, xr_72_188, xr_72_189, xr_72_190, xr_72_191, xr_72_192, xr_72_195, xr_72_197, xr_72_198, xr_72_199, xr_72_200, xr_72_201, xr_72_202, xr_72_205, xr_72_206, hP, lxe, not_true, false_imp_iff, true_imp_iff, and_true, true_and]
    have hcd : sp_chs (md_has b s) (md_lu b NQ) (sp_rk (b 10 0 18) (md_un b NQ)) P = md_ch b P NQ s := rfl
    rw [hcd]
    cases hc : md_ch b P NQ s with
    | none =>
      have e1 : md_tk P NQ b s = b := by unfold md_tk; rw [hc]
      have : ¬ (0 : Int32) ≤ -1 := by decide
      simp [oI, this, e1]
    | some p =>
      obtain ⟨p1, p2, p3⟩ := sp_chs_ok hc
      obtain ⟨qf, hqf⟩ := Option.isSome_iff_exists.mp p3
      have g1 : (0 : Int32) ≤ nI p := nI_pos' (by omega)
      simp only [oI_some, g1, not_true, false_imp_iff, true_imp_iff, and_true]
      have hql : qf < NQ := (sp_lus_ok hqf).1
      have hqf' : sp_lus (b 12 0) (b 14 0) (b 15 0) (b 10 0 19) (nI p) NQ = some qf := hqf
      refine Iff.trans (it0 (V := fun i => VV 72 b 80 [some (.inr (10, 0)), some (.inl (nI s)), some (.inl (nI p)), some (.inl (oI (sp_lus (b 12 0) (b 14 0) (b 15 0) (b 10 0 19) (nI p) i))), some (.inl (nI i))] [] (fun r h' => r = none ∧ J h')) NQ ?_) ?_
      · intro i hi
        obtain ⟨f1, f2, f3, f4⟩ := lx hi h20 (by omega)
        rw [xr_72_80]
        simp only [xr_72_0, xr_72_1, xr_72_2, xr_72_3, xr_72_5, xr_72_6, xr_72_9, xr_72_12, xr_72_13, xr_72_16, xr_72_18, xr_72_19, xr_72_20, xr_72_21, xr_72_22, xr_72_23, xr_72_26, xr_72_27, xr_72_28, xr_72_31, xr_72_34, xr_72_37, xr_72_38, xr_72_41, xr_72_42, xr_72_45, xr_72_46, xr_72_49, xr_72_50, xr_72_51, xr_72_54, xr_72_55, xr_72_56, xr_72_59, xr_72_62, xr_72_63, xr_72_64, xr_72_67, xr_72_70, xr_72_71, xr_72_74, xr_72_75, xr_72_76, xr_72_77, xr_72_78, xr_72_82, xr_72_83, xr_72_86, xr_72_89, xr_72_90, xr_72_93, xr_72_95, xr_72_96, xr_72_97, xr_72_100, xr_72_101, xr_72_103, xr_72_106, xr_72_109, xr_72_110, xr_72_113, xr_72_114, xr_72_117, xr_72_119, xr_72_120, xr_72_121, xr_72_124, xr_72_125, xr_72_126, xr_72_129, xr_72_131, xr_72_132, xr_72_135, xr_72_138, xr_72_139, xr_72_142, xr_72_143, xr_72_144, xr_72_145, xr_72_146, xr_72_147, xr_72_148, xr_72_149, xr_72_152, xr_72_153, xr_72_154, xr_72_155, xr_72_156, xr_72_159, xr_72_160, xr_72_161, xr_72_162, xr_72_163, xr_72_166, xr_72_168, xr_72_169, xr_72_170, xr_72_171, xr_72_172, xr_72_173, xr_72_176, xr_72_177, xr_72_178, xr_72_179, xr_72_180, xr_72_183, xr_72_185, xr_72_186, xr_72_187, xr_72_188, xr_72_189, xr_72_190, xr_72_191, xr_72_192, xr_72_195, xr_72_197, xr_72_198, xr_72_199, xr_72_200, xr_72_201, xr_72_202, xr_72_205, xr_72_206, hN, f1, f2, f3, f4, ix_i12, ix_i14, c_X3_isThere, b01_z, true_and, not_false_iff, true_imp_iff, false_imp_iff, sp_lus, Classical.not_not]
        cases eb : sp_lus (b 12 0) (b 14 0) (b 15 0) (b 10 0 19) (nI p) i with
        | none =>
          have m1 : (-1 : Int32) < 0 := by decide
          by_cases a : b 12 0 i = nI p <;> by_cases c : b 15 0 i = -1 <;> rcases i32_c (b 14 0 i) (b 10 0 19) with ⟨b1, b2⟩ | ⟨b1, b2⟩ <;> simp [a, c, b1, b2, oI, m1]
        | some b' =>
          obtain ⟨g1, g2⟩ := sp_lus_ok eb
          have g3 : vp_in (nI b') 20 := vp_in_nI (by omega) (by omega)
          have g4 : (nI b').toNatClampNeg = b' := nI_clamp (by omega)
          have g5 : ¬ nI b' < 0 := nI_pos (by omega)
          by_cases a : b 12 0 i = nI p <;> by_cases c : b 15 0 i = -1 <;> rcases i32_c (b 14 0 i) (b 10 0 19) with ⟨b1, b2⟩ | ⟨b1, b2⟩ <;> rcases i32_c (b 14 0 i) (b 14 0 b') with ⟨d1, d2⟩ | ⟨d1, d2⟩ <;> simp [a, c, b1, b2, oI, g3, g4, g5, d1, d2]
      · obtain ⟨v1, v2, v3, v4⟩ := lx hql h20 (by omega)
        obtain ⟨e1, e2⟩ := e_8i hs (show p < 8 by omega)
        have s1 : vp_in (nI s) 8 := vp_in_nI hs (by omega)
        have s2 : (nI s).toNatClampNeg = s := nI_clamp (by omega)
        have d0 : ∀ (h : AHp) (k i j k' i' j' : Nat) (v : Int32), k' ≠ k → ah_up h k i j v k' i' j' = h k' i' j' := fun h k i j k' i' j' v z => by rw [ah_rk z]
        have e3 : md_tk P NQ b s = md_tq b s p qf := by unfold md_tk; rw [hc]; simp only [hqf]
        rw [xr_72_80, hqf', e3]
        simp only [xr_72_0, xr_72_1, xr_72_2, xr_72_3, xr_72_5, xr_72_6, xr_72_9, xr_72_12, xr_72_13, xr_72_16, xr_72_18, xr_72_19, xr_72_20, xr_72_21, xr_72_22, xr_72_23, xr_72_26, xr_72_27, xr_72_28, xr_72_31, xr_72_34, xr_72_37, xr_72_38, xr_72_41, xr_72_42, xr_72_45, xr_72_46, xr_72_49, xr_72_50, xr_72_51, xr_72_54, xr_72_55, xr_72_56, xr_72_59, xr_72_62, xr_72_63, xr_72_64, xr_72_67, xr_72_70, xr_72_71, xr_72_74, xr_72_75, xr_72_76, xr_72_77, xr_72_78, xr_72_82, xr_72_83, xr_72_86, xr_72_89, xr_72_90, xr_72_93, xr_72_95, xr_72_96, xr_72_97, xr_72_100, xr_72_101, xr_72_103, xr_72_106, xr_72_109, xr_72_110, xr_72_113, xr_72_114, xr_72_117, xr_72_119, xr_72_120, xr_72_121, xr_72_124, xr_72_125, xr_72_126, xr_72_129, xr_72_131, xr_72_132, xr_72_135, xr_72_138, xr_72_139, xr_72_142, xr_72_143, xr_72_144, xr_72_145, xr_72_146, xr_72_147, xr_72_148, xr_72_149, xr_72_152, xr_72_153, xr_72_154, xr_72_155, xr_72_156, xr_72_159, xr_72_160, xr_72_161, xr_72_162, xr_72_163, xr_72_166, xr_72_168, xr_72_169, xr_72_170, xr_72_171, xr_72_172, xr_72_173, xr_72_176, xr_72_177, xr_72_178, xr_72_179, xr_72_180, xr_72_183, xr_72_185, xr_72_186, xr_72_187, xr_72_188, xr_72_189, xr_72_190, xr_72_191, xr_72_192, xr_72_195, xr_72_197, xr_72_198, xr_72_199, xr_72_200, xr_72_201, xr_72_202, xr_72_205, xr_72_206, hN, lxe, oI_some, v2, v3, s1, s2, e_8, e1, e2, ix_i12, ix_i13, ix_i14, ix_i15, ix_i19, ix_i23, ix_i24, ix_i25, true_and, not_true, false_imp_iff, true_imp_iff, and_true, d0 _ 14 _ _ 13 _ _ _ (by decide), d0 _ 15 _ _ 13 _ _ _ (by decide), d0 _ 19 _ _ 13 _ _ _ (by decide), d0 _ 14 _ _ 10 _ _ _ (by decide), d0 _ 15 _ _ 10 _ _ _ (by decide), d0 _ 19 _ _ 10 _ _ _ (by decide), d0 _ 23 _ _ 10 _ _ _ (by decide), d0 _ 24 _ _ 10 _ _ _ (by decide), md_tq]
theorem c_X3_oneDay (h20 : NQ ≤ 20) (hP8 : P ≤ 8) (h8 : NS ≤ 8) (hD : D < 10000) (g6 : b 10 0 6 = nI NS) (g1 : b 10 0 1 = nI NQ) (g0 : b 10 0 0 = nI P) (g17 : b 10 0 17 = nI D) (hru : b 10 0 18 = 0 ∨ b 10 0 18 = 1)
    (hf : ∀ i, i < NS → ¬ (sp_fo (md_hin P) b i) 19 0 i = -1 → ∃ q p, q < 20 ∧ p < 8 ∧ (sp_fo (md_hin P) b i) 19 0 i = nI q ∧ b 12 0 q = nI p) : Vv 74 b [some (.inr (10, 0)), none, none] J ↔ J (md_day P NQ NS D b) := by
  rw [Vv]
  simp only [xr_74_0, xr_74_1]
  have hk1 : ∀ i, (sp_fo (md_hin P) b i) 10 = b 10 := fun i => sp_fo_k (fun _ _ => md_hin_k (by omega)) b i
  have hk2 : ∀ i, (sp_fo (md_hin P) b i) 12 = b 12 := fun i => sp_fo_k (fun _ _ => md_hin_k (by omega)) b i
  refine Iff.trans (it0 (V := fun i => VV 74 (sp_fo (md_hin P) b i) 2 [some (.inr (10, 0)), some (.inl (nI i)), none] [] (fun r h' => r = none ∧ J h')) NS ?_) ?_
  · intro i hi
    obtain ⟨f1, f2, f3, f4⟩ := lx hi h8 (by omega)
    have hfi := hf i hi
    have k1 := hk1 i
    have k2 := hk2 i
    rw [sp_fo]
    generalize sp_fo (md_hin P) b i = g at hfi k1 k2 ⊢
    have g6' : g 10 0 6 = nI NS := by rw [k1]; exact g6
    have g0' : g 10 0 0 = nI P := by rw [k1]; exact g0
    rw [xr_74_2]
    by_cases a : g 19 0 i = -1
    · have e1 : md_hin P i g = g := by unfold md_hin; rw [if_neg (fun z => z.1 a)]
      simp only [xr_74_0, xr_74_1, xr_74_3, xr_74_4, xr_74_7, xr_74_10, xr_74_11, xr_74_14, xr_74_15, xr_74_16, xr_74_17, xr_74_20, xr_74_21, xr_74_22, xr_74_25, xr_74_26, xr_74_29, xr_74_32, xr_74_33, xr_74_34, xr_74_37, xr_74_40, xr_74_43, xr_74_44, xr_74_46, xr_74_47, xr_74_50, xr_74_53, xr_74_54, xr_74_56, xr_74_57, xr_74_60, xr_74_63, xr_74_64, xr_74_67, xr_74_68, xr_74_69, xr_74_70, xr_74_73, xr_74_74, xr_74_77, xr_74_78, xr_74_79, xr_74_80, xr_74_83, xr_74_84, xr_74_85, xr_74_88, xr_74_89, xr_74_92, xr_74_95, xr_74_96, xr_74_97, xr_74_100, xr_74_103, xr_74_106, xr_74_109, xr_74_112, xr_74_113, xr_74_114, xr_74_117, xr_74_118, xr_74_119, xr_74_122, g6', f1, f2, f3, f4, ix_i19, a, e1, true_and, not_true, not_false_iff, true_imp_iff, false_imp_iff, and_true]
    · obtain ⟨q, p, q1, p1, hq, hp⟩ := hfi a
      have hp' : g 12 0 q = nI p := by rw [k2]; exact hp
      have hqc : (nI q).toNatClampNeg = q := nI_clamp (by omega)
      have hpc : (nI p).toNatClampNeg = p := nI_clamp (by omega)
      have mq : md_q g i = q := by unfold md_q; rw [hq, hqc]
      have mp : md_p g i = p := by unfold md_p; rw [mq, hp', hpc]
      obtain ⟨e1, e2⟩ := e_8i (show i < 8 by omega) p1
      have q2 : vp_in (nI q) 20 := vp_in_nI q1 (by omega)
      have ce : ∀ K, Vi 73 g [some (.inr (10, 0)), some (.inl (nI i))] K ↔ K (g 25 0 (8 * i + p) + g 17 0 i) g := by
        intro K
        rw [c_X3_ends g 0 (nI i) K]
        simp only [f2, f3, hq, hqc, hp', e_8, e1, e2, q2, true_and]
      have ch : ∀ J, Vv 68 g [some (.inr (10, 0)), some (.inl (nI i)), none, none] J ↔ J (md_hi P g i q p) := fun J => c_X3_handsIn g P i J q p (by omega) hq q1 hp' p1 g0' hP8
      have m1 : ¬ nI q = -1 := nI_m1 (by omega)
      simp only [xr_74_0, xr_74_1, xr_74_3, xr_74_4, xr_74_7, xr_74_10, xr_74_11, xr_74_14, xr_74_15, xr_74_16, xr_74_17, xr_74_20, xr_74_21, xr_74_22, xr_74_25, xr_74_26, xr_74_29, xr_74_32, xr_74_33, xr_74_34, xr_74_37, xr_74_40, xr_74_43, xr_74_44, xr_74_46, xr_74_47, xr_74_50, xr_74_53, xr_74_54, xr_74_56, xr_74_57, xr_74_60, xr_74_63, xr_74_64, xr_74_67, xr_74_68, xr_74_69, xr_74_70, xr_74_73, xr_74_74, xr_74_77, xr_74_78, xr_74_79, xr_74_80, xr_74_83, xr_74_84, xr_74_85, xr_74_88, xr_74_89, xr_74_92, xr_74_95, xr_74_96, xr_74_97, xr_74_100, xr_74_103, xr_74_106, xr_74_109, xr_74_112, xr_74_113, xr_74_114, xr_74_117, xr_74_118, xr_74_119, xr_74_122, g6', f1, f2, f3, f4, ix_i19, hq, m1, ce, ch, true_and, not_true, not_false_iff, true_imp_iff, false_imp_iff, and_true]
      unfold md_hin
      rw [mq, mp]
      by_cases c : g 25 0 (8 * i + p) + g 17 0 i = g 10 0 17
      · simp [a, c]
      · simp [a, c]
  · rw [xr_74_2]
    have k1 := hk1 NS
    unfold md_day
    generalize sp_fo (md_hin P) b NS = g at k1 ⊢
    have g6' : g 10 0 6 = nI NS := by rw [k1]; exact g6
    simp only [xr_74_0, xr_74_1, xr_74_3, xr_74_4, xr_74_7, xr_74_10, xr_74_11, xr_74_14, xr_74_15, xr_74_16, xr_74_17, xr_74_20, xr_74_21, xr_74_22, xr_74_25, xr_74_26, xr_74_29, xr_74_32, xr_74_33, xr_74_34, xr_74_37, xr_74_40, xr_74_43, xr_74_44, xr_74_46, xr_74_47, xr_74_50, xr_74_53, xr_74_54, xr_74_56, xr_74_57, xr_74_60, xr_74_63, xr_74_64, xr_74_67, xr_74_68, xr_74_69, xr_74_70, xr_74_73, xr_74_74, xr_74_77, xr_74_78, xr_74_79, xr_74_80, xr_74_83, xr_74_84, xr_74_85, xr_74_88, xr_74_89, xr_74_92, xr_74_95, xr_74_96, xr_74_97, xr_74_100, xr_74_103, xr_74_106, xr_74_109, xr_74_112, xr_74_113, xr_74_114, xr_74_117, xr_74_118, xr_74_119, xr_74_122, g6', lxe, not_true, false_imp_iff, true_imp_iff, and_true, true_and]
    obtain ⟨t', e⟩ := it1 (V := fun d t => VV 74 (sp_fo (md_row P NQ NS) g d) 45 [some (.inr (10, 0)), some (.inl (nI d)), t] [] (fun r h' => r = none ∧ J h')) (D + 1) (by
      intro d t hd
      have kk : (sp_fo (md_row P NQ NS) g d) 10 = g 10 := sp_fo_k (fun _ _ => md_row_k (by omega)) g d
      rw [sp_fo]
      generalize sp_fo (md_row P NQ NS) g d = g2 at kk ⊢
      have g17' : g2 10 0 17 = nI D := by rw [kk, k1]; exact g17
      have n1 : ¬ nI D < nI d := nI_nlt (by omega) (by omega)
      refine ⟨some (.inl (nI NS)), ?_⟩
      rw [xr_74_45]
      simp only [xr_74_46, xr_74_47, xr_74_50, xr_74_53, xr_74_54, g17', n1, not_false_iff, true_imp_iff, false_imp_iff, true_and]
      refine Iff.trans (it0 (V := fun i => VV 74 (sp_fo (md_vis P NQ d) g2 i) 55 [some (.inr (10, 0)), some (.inl (nI d)), some (.inl (nI i))] [] (fun r h' => r = none ∧ J h')) NS ?_) ?_
      · intro i hi
        obtain ⟨f1, f2, f3, f4⟩ := lx hi h8 (by omega)
        have kv : (sp_fo (md_vis P NQ d) g2 i) 10 = g2 10 := sp_fo_k (fun _ _ => md_vis_k (by omega)) g2 i
        rw [sp_fo]
        generalize sp_fo (md_vis P NQ d) g2 i = g3 at kv ⊢
        have w6 : g3 10 0 6 = nI NS := by rw [kv, kk]; exact g6'
        have w0 : g3 10 0 0 = nI P := by rw [kv, kk, k1]; exact g0
        have w1 : g3 10 0 1 = nI NQ := by rw [kv, kk, k1]; exact g1
        have wr : g3 10 0 18 = 0 ∨ g3 10 0 18 = 1 := by rw [kv, kk, k1]; exact hru
        have cm : ∀ K, Vi 67 g3 [some (.inr (10, 0)), some (.inl (nI i)), none, none] K ↔ K (nI (sp_cnt (md_has g3 i) P)) g3 := fun K => c_X3_hasMany g3 P i K (by omega) w0 hP8
        have ct : ∀ J, Vv 72 g3 [some (.inr (10, 0)), some (.inl (nI i)), none, none, none] J ↔ J (md_tk P NQ g3 i) := fun J => c_X3_takes g3 P NQ i J (by omega) w1 h20 w0 hP8 wr
        have hle := sp_cnt_le (md_has g3 i) P
        have hc : nI P ≤ nI (sp_cnt (md_has g3 i) P) ↔ P ≤ sp_cnt (md_has g3 i) P := nI_leI (by omega) (by omega)
        rw [xr_74_55]
        simp only [xr_74_0, xr_74_1, xr_74_3, xr_74_4, xr_74_7, xr_74_10, xr_74_11, xr_74_14, xr_74_15, xr_74_16, xr_74_17, xr_74_20, xr_74_21, xr_74_22, xr_74_25, xr_74_26, xr_74_29, xr_74_32, xr_74_33, xr_74_34, xr_74_37, xr_74_40, xr_74_43, xr_74_44, xr_74_46, xr_74_47, xr_74_50, xr_74_53, xr_74_54, xr_74_56, xr_74_57, xr_74_60, xr_74_63, xr_74_64, xr_74_67, xr_74_68, xr_74_69, xr_74_70, xr_74_73, xr_74_74, xr_74_77, xr_74_78, xr_74_79, xr_74_80, xr_74_83, xr_74_84, xr_74_85, xr_74_88, xr_74_89, xr_74_92, xr_74_95, xr_74_96, xr_74_97, xr_74_100, xr_74_103, xr_74_106, xr_74_109, xr_74_112, xr_74_113, xr_74_114, xr_74_117, xr_74_118, xr_74_119, xr_74_122, w6, w0, f1, f2, f3, f4, ix_i19, ix_i18, cm, ct, hc, true_and, not_true, not_false_iff, true_imp_iff, false_imp_iff, and_true, Classical.not_not]
        unfold md_vis
        by_cases a : g3 19 0 i = -1
        · by_cases c : g3 18 0 i = nI d
          · by_cases e9 : P ≤ sp_cnt (md_has g3 i) P
            · simp [a, c, e9, Nat.not_lt.mpr e9]
            · simp [a, c, e9, Nat.lt_of_not_le e9]
          · simp [a, c]
        · simp [a]
      · rw [xr_74_55]
        have kv : (sp_fo (md_vis P NQ d) g2 NS) 10 = g2 10 := sp_fo_k (fun _ _ => md_vis_k (by omega)) g2 NS
        have w6 : (sp_fo (md_vis P NQ d) g2 NS) 10 0 6 = nI NS := by rw [kv, kk]; exact g6'
        simp only [xr_74_0, xr_74_1, xr_74_3, xr_74_4, xr_74_7, xr_74_10, xr_74_11, xr_74_14, xr_74_15, xr_74_16, xr_74_17, xr_74_20, xr_74_21, xr_74_22, xr_74_25, xr_74_26, xr_74_29, xr_74_32, xr_74_33, xr_74_34, xr_74_37, xr_74_40, xr_74_43, xr_74_44, xr_74_46, xr_74_47, xr_74_50, xr_74_53, xr_74_54, xr_74_56, xr_74_57, xr_74_60, xr_74_63, xr_74_64, xr_74_67, xr_74_68, xr_74_69, xr_74_70, xr_74_73, xr_74_74, xr_74_77, xr_74_78, xr_74_79, xr_74_80, xr_74_83, xr_74_84, xr_74_85, xr_74_88, xr_74_89, xr_74_92, xr_74_95, xr_74_96, xr_74_97, xr_74_100, xr_74_103, xr_74_106, xr_74_109, xr_74_112, xr_74_113, xr_74_114, xr_74_117, xr_74_118, xr_74_119, xr_74_122, w6, lxe, nI_1, not_true, false_imp_iff, true_imp_iff, and_true, true_and]
        exact Iff.rfl) none
    refine Iff.trans e ?_
    have kk : (sp_fo (md_row P NQ NS) g (D + 1)) 10 = g 10 := sp_fo_k (fun _ _ => md_row_k (by omega)) g (D + 1)
    have g17' : (sp_fo (md_row P NQ NS) g (D + 1)) 10 0 17 = nI D := by rw [kk, k1]; exact g17
    have n1 : nI D < nI (D + 1) := nI_lt (by omega) (by omega)
    rw [xr_74_45]
    simp only [xr_74_0, xr_74_1, xr_74_3, xr_74_4, xr_74_7, xr_74_10, xr_74_11, xr_74_14, xr_74_15, xr_74_16, xr_74_17, xr_74_20, xr_74_21, xr_74_22, xr_74_25, xr_74_26, xr_74_29, xr_74_32, xr_74_33, xr_74_34, xr_74_37, xr_74_40, xr_74_43, xr_74_44, xr_74_46, xr_74_47, xr_74_50, xr_74_53, xr_74_54, xr_74_56, xr_74_57, xr_74_60, xr_74_63, xr_74_64, xr_74_67, xr_74_68, xr_74_69, xr_74_70, xr_74_73, xr_74_74, xr_74_77, xr_74_78, xr_74_79, xr_74_80, xr_74_83, xr_74_84, xr_74_85, xr_74_88, xr_74_89, xr_74_92, xr_74_95, xr_74_96, xr_74_97, xr_74_100, xr_74_103, xr_74_106, xr_74_109, xr_74_112, xr_74_113, xr_74_114, xr_74_117, xr_74_118, xr_74_119, xr_74_122, g17', n1, not_true, false_imp_iff, true_imp_iff, and_true, true_and]
end ME
