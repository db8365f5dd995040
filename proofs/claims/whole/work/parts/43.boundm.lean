/-! ===== bound: the reference ===== -/
def sp_wn (a : AHp) (p : Nat) : Nat → Bool
  | 0 => false
  | n + 1 => sp_wn a p n || (decide (a 7 n p = -1) && ! decide (¬ a 4 n 8 = -1 ∧ a 4 n 9 = nI p))
section BM
variable {P NQ NS D : Nat} {a b : AHp} {s p : Nat}
/-- the reference's numbers of one SCRIBE -/
theorem bm_s (c : cI P NQ NS D (fun _ => D) a) (r : rI NQ NS a b) (hs : s < NS) : b 19 0 s = a 4 s 8 ∧ b 17 0 s = nI (sp_pa a s) ∧ sp_cnt (md_has b s) P = sp_ct P a s ∧ (∀ p, p < P → b 22 0 (8 * s + p) = if a 7 s p = -1 then 0 else 1) ∧ (¬ a 4 s 8 = -1 → (∃ q, q < 20 ∧ a 4 s 8 = nI q ∧ b 12 0 q = a 4 s 9) ∧ ∀ K, Vi 73 b [some (.inr (10, 0)), some (.inl (nI s))] K ↔ K (nI (sp_hd a s + sp_pa a s)) b) := by
  obtain ⟨h1, h2, h3, h4, h5, h6⟩ := bd_s c hs
  obtain ⟨⟨p1, p2, p3, p4, p5⟩, -⟩ := c.1
  have rs := r.2.2 s hs
  have e19 : b 19 0 s = a 4 s 8 := rs.2.2.1
  have e17 : b 17 0 s = nI (sp_pa a s) := rs.1.trans h1
  refine ⟨e19, e17, rI_cnt p2 rs, fun p hp => (rs.2.2.2.2 p (by omega)).2.1, fun hne => ?_⟩
  obtain ⟨k1, k2, k3, k4, q, p, hq, hp, k5, k6, k7, k8⟩ := h6 hne
  have e12 : b 12 0 q = nI p := (r.2.1 q hq).1.trans k7
  refine ⟨⟨q, by omega, k5, by rw [e12, k6]⟩, fun K => ?_⟩
  have e25 : b 25 0 (8 * s + p) = nI (sp_hd a s) := ((rs.2.2.2.2 p (by omega)).2.2.2 hne k6).2.2.trans k1
  have s1 : vp_in (nI s) 8 := vp_in_nI (by omega) (by omega)
  have s2 : (nI s).toNatClampNeg = s := nI_clamp (by omega)
  have q1 : vp_in (nI q) 20 := vp_in_nI (by omega) (by omega)
  have q2 : (nI q).toNatClampNeg = q := nI_clamp (by omega)
  obtain ⟨e1, e2⟩ := e_8i (show s < 8 by omega) (show p < 8 by omega)
  have k5' : b 19 0 s = nI q := e19.trans k5
  rw [c_X3_ends b 0 (nI s) K]
  simp only [s1, s2, k5', q1, q2, e12, e_8, e1, e2, e25, e17, nI_add, true_and]
theorem bm_wn (c : cI P NQ NS D (fun _ => D) a) (hp : p < P) (h0 : sp_cp NQ a p = 0) (n : Nat) (hn : n ≤ NS) : sp_wn a p n = true ↔ 0 < sp_wk D a p n := by
  induction n with
  | zero => simp [sp_wn, sp_wk]
  | succ n ih =>
    obtain ⟨h1, h2, h3, h4, h5, h6⟩ := bd_s c (show n < NS by omega)
    have ih := ih (by omega)
    have nz : ¬ (¬ a 4 n 8 = -1 ∧ a 4 n 9 = nI p) := by
      intro z
      obtain ⟨k1, k2, k3, k4, q, p', hq, hp', k5, k6, k7, k8⟩ := h6 z.1
      have : 0 < sp_cp NQ a p := sp_cop_pos (pc := fun q => a 3 q 0) (q := q) hq (by show a 3 q 0 = nI p; rw [k7, ← k6, z.2])
      omega
    rw [sp_wn, sp_wk, sp_ws, if_neg nz, Bool.or_eq_true, ih]
    by_cases c2 : a 7 n p = -1
    · rw [if_pos c2]
      simp only [c2, nz, decide_true, decide_false, Bool.not_false, Bool.and_self, or_true, true_iff]
      omega
    · rw [if_neg c2]
      simp only [c2, decide_false, Bool.false_and, Bool.false_eq_true, or_false, Nat.add_zero]
theorem bm_l1 (c : cI P NQ NS D (fun _ => D) a) (r : rI NQ NS a b) (Q : Option Int32 → AHp → Prop) : ∃ t3 t4 t5, (VV 78 b 28 [some (.inr (10, 0)), some (.inl (nI D)), some (.inl (nI 0)), none, none, none, none] [] Q ↔ VV 78 b 128 [some (.inr (10, 0)), some (.inl (nI (sp_b1 P D a NS))), some (.inl (nI 0)), t3, t4, t5, none] [] Q) := by
  obtain ⟨⟨p1, p2, p3, p4, p5⟩, z2, z3, z4, z5, z6, z7⟩ := c.1
  obtain ⟨y0, y1, y2, y3, y4, y5⟩ := r.1
  have b0 : b 10 0 0 = nI P := y0.trans z2
  have b6 : b 10 0 6 = nI NS := y2.trans z4
  have b17 : b 10 0 17 = nI D := y3.trans z5
  obtain ⟨t', e⟩ := it1 (V := fun i (t : Option AV × Option AV × Option AV) => VV 78 b 28 [some (.inr (10, 0)), some (.inl (nI (sp_b1 P D a i))), some (.inl (nI i)), t.1, t.2.1, t.2.2, none] [] Q) NS (by
    intro i t hi
    obtain ⟨f1, f2, f3, f4⟩ := lx hi p4 (by omega)
    obtain ⟨h1, h2, h3, h4, h5, h6⟩ := bd_s c hi
    obtain ⟨m1, m2, m3, m4, m5⟩ := bm_s c r hi
    have hb1 := bd_b1 c i (by omega)
    have hse := bd_se c hi
    have e1 : nI P - nI (sp_ct P a i) = nI (P - sp_ct P a i) := pk_sub h5
    have g0 : nI (P - sp_ct P a i) = 0 ↔ P - sp_ct P a i = 0 := nI_eq (b := 0) (by omega) (by omega)
    have g2 : nI (sp_se P D a i) ≤ nI (sp_b1 P D a i) ↔ sp_se P D a i ≤ sp_b1 P D a i := nI_leI (by omega) (by omega)
    rw [xr_78_28]
    by_cases c1 : sp_ct P a i = P
    · have c1' : P - sp_ct P a i = 0 := by omega
      refine ⟨(some (.inl (nI (P - sp_ct P a i))), t.2.1, t.2.2), ?_⟩
      have e3 : sp_b1 P D a (i + 1) = sp_b1 P D a i := by
        rw [sp_b1]
        have : sp_se P D a i = D := by unfold sp_se; rw [if_pos c1]
        rw [if_neg (by omega)]
      simp only [xr_78_0, xr_78_1, xr_78_2, xr_78_5, xr_78_6, xr_78_9, xr_78_12, xr_78_13, xr_78_16, xr_78_19, xr_78_20, xr_78_21, xr_78_22, xr_78_25, xr_78_26, xr_78_27, xr_78_29, xr_78_30, xr_78_33, xr_78_36, xr_78_37, xr_78_40, xr_78_41, xr_78_42, xr_78_45, xr_78_46, xr_78_47, xr_78_48, xr_78_51, xr_78_54, xr_78_55, xr_78_58, xr_78_59, xr_78_60, xr_78_61, xr_78_64, xr_78_65, xr_78_68, xr_78_71, xr_78_72, xr_78_73, xr_78_76, xr_78_78, xr_78_80, xr_78_81, xr_78_84, xr_78_85, xr_78_86, xr_78_87, xr_78_88, xr_78_91, xr_78_92, xr_78_93, xr_78_94, xr_78_97, xr_78_98, xr_78_101, xr_78_102, xr_78_103, xr_78_104, xr_78_105, xr_78_107, xr_78_109, xr_78_110, xr_78_113, xr_78_115, xr_78_118, xr_78_119, xr_78_120, xr_78_123, xr_78_126, xr_78_127, xr_78_129, xr_78_130, xr_78_133, xr_78_136, xr_78_137, xr_78_138, xr_78_139, xr_78_141, xr_78_142, xr_78_146, xr_78_147, xr_78_150, xr_78_153, xr_78_154, xr_78_157, xr_78_159, xr_78_161, xr_78_162, xr_78_163, xr_78_164, xr_78_165, xr_78_168, xr_78_171, xr_78_172, xr_78_175, xr_78_177, xr_78_178, xr_78_179, xr_78_182, xr_78_183, xr_78_186, xr_78_187, xr_78_190, xr_78_192, xr_78_193, xr_78_194, xr_78_195, xr_78_198, xr_78_199, xr_78_202, xr_78_203, xr_78_205, xr_78_206, xr_78_208, xr_78_211, xr_78_212, xr_78_214, xr_78_217, xr_78_218, xr_78_221, xr_78_222, xr_78_225, xr_78_226, xr_78_229, xr_78_231, xr_78_232, xr_78_233, xr_78_234, xr_78_236, xr_78_239, xr_78_241, xr_78_244, xr_78_245, xr_78_248, xr_78_249, xr_78_251, xr_78_254, xr_78_257, xr_78_258, xr_78_260, xr_78_261, xr_78_265, xr_78_266, xr_78_269, xr_78_272, xr_78_274, xr_78_275, xr_78_278, xr_78_280, xr_78_281, xr_78_282, xr_78_285, xr_78_286, xr_78_289, xr_78_290, xr_78_291, xr_78_293, xr_78_296, xr_78_299, xr_78_301, xr_78_304, xr_78_306, xr_78_309, xr_78_310, xr_78_311, xr_78_312, xr_78_315, xr_78_318, xr_78_319, xr_78_322, xr_78_323, xr_78_325, xr_78_326, xr_78_327, xr_78_328, xr_78_330, xr_78_331, xr_78_332, xr_78_334, xr_78_336, xr_78_337, xr_78_340, xr_78_342, xr_78_345, xr_78_346, xr_78_347, xr_78_350, xr_78_353, xr_78_354, b0, b6, f1, f4, c_X3_hasMany b P i _ (show i < 8 by omega) b0 p2, m3, e1, iff_true_intro (g0.mpr c1'), e3, not_true, not_false_iff, true_imp_iff, false_imp_iff, true_and, and_true]
    · have c1' : ¬ P - sp_ct P a i = 0 := by omega
      by_cases c2 : a 4 i 8 = -1
      · refine ⟨(some (.inl (nI (P - sp_ct P a i))), some (.inl (nI D)), some (.inl (nI (sp_se P D a i)))), ?_⟩
        have es : sp_se P D a i = D + sp_pa a i * (P - sp_ct P a i) := by unfold sp_se; rw [if_neg c1, if_pos c2]
        have es' : nI D + nI (sp_pa a i) * (nI (P - sp_ct P a i) - 0) = nI (sp_se P D a i) := by rw [es, show nI (P - sp_ct P a i) - 0 = nI (P - sp_ct P a i - 0) from pk_sub (b := 0) (by omega), Nat.sub_zero, pk_mul, nI_add]
        simp only [xr_78_0, xr_78_1, xr_78_2, xr_78_5, xr_78_6, xr_78_9, xr_78_12, xr_78_13, xr_78_16, xr_78_19, xr_78_20, xr_78_21, xr_78_22, xr_78_25, xr_78_26, xr_78_27, xr_78_29, xr_78_30, xr_78_33, xr_78_36, xr_78_37, xr_78_40, xr_78_41, xr_78_42, xr_78_45, xr_78_46, xr_78_47, xr_78_48, xr_78_51, xr_78_54, xr_78_55, xr_78_58, xr_78_59, xr_78_60, xr_78_61, xr_78_64, xr_78_65, xr_78_68, xr_78_71, xr_78_72, xr_78_73, xr_78_76, xr_78_78, xr_78_80, xr_78_81, xr_78_84, xr_78_85, xr_78_86, xr_78_87, xr_78_88, xr_78_91, xr_78_92, xr_78_93, xr_78_94, xr_78_97, xr_78_98, xr_78_101, xr_78_102, xr_78_103, xr_78_104, xr_78_105, xr_78_107, xr_78_109, xr_78_110, xr_78_113, xr_78_115, xr_78_118, xr_78_119, xr_78_120, xr_78_123, xr_78_126, xr_78_127, xr_78_129, xr_78_130, xr_78_133, xr_78_136, xr_78_137, xr_78_138, xr_78_139, xr_78_141, xr_78_142, xr_78_146, xr_78_147, xr_78_150, xr_78_153, xr_78_154, xr_78_157, xr_78_159, xr_78_161, xr_78_162, xr_78_163, xr_78_164, xr_78_165, xr_78_168, xr_78_171, xr_78_172, xr_78_175, xr_78_177, xr_78_178, xr_78_179, xr_78_182, xr_78_183, xr_78_186, xr_78_187, xr_78_190, xr_78_192, xr_78_193, xr_78_194, xr_78_195, xr_78_198, xr_78_199, xr_78_202, xr_78_203, xr_78_205, xr_78_206, xr_78_208, xr_78_211, xr_78_212, xr_78_214, xr_78_217, xr_78_218, xr_78_221, xr_78_222, xr_78_225, xr_78_226, xr_78_229, xr_78_231, xr_78_232, xr_78_233, xr_78_234, xr_78_236, xr_78_239, xr_78_241, xr_78_244, xr_78_245, xr_78_248, xr_78_249, xr_78_251, xr_78_254, xr_78_257, xr_78_258, xr_78_260, xr_78_261, xr_78_265, xr_78_266, xr_78_269, xr_78_272, xr_78_274, xr_78_275, xr_78_278, xr_78_280, xr_78_281, xr_78_282, xr_78_285, xr_78_286, xr_78_289, xr_78_290, xr_78_291, xr_78_293, xr_78_296, xr_78_299, xr_78_301, xr_78_304, xr_78_306, xr_78_309, xr_78_310, xr_78_311, xr_78_312, xr_78_315, xr_78_318, xr_78_319, xr_78_322, xr_78_323, xr_78_325, xr_78_326, xr_78_327, xr_78_328, xr_78_330, xr_78_331, xr_78_332, xr_78_334, xr_78_336, xr_78_337, xr_78_340, xr_78_342, xr_78_345, xr_78_346, xr_78_347, xr_78_350, xr_78_353, xr_78_354, b0, b6, b17, f1, f2, f3, f4, c_X3_hasMany b P i _ (show i < 8 by omega) b0 p2, m1, m2, m3, c2, e1, g0, c1', es', g2, ix_i19, ix_i17, not_true, not_false_iff, true_imp_iff, false_imp_iff, true_and, and_true, sp_b1]
        by_cases c3 : sp_b1 P D a i < sp_se P D a i
        · have c3' : ¬ sp_se P D a i ≤ sp_b1 P D a i := by omega
          simp only [c3, c3', not_true, not_false_iff, true_imp_iff, false_imp_iff, true_and, and_true, if_true]
        · have c3' : sp_se P D a i ≤ sp_b1 P D a i := by omega
          simp only [c3, c3', not_true, not_false_iff, true_imp_iff, false_imp_iff, true_and, and_true, if_false]
      · obtain ⟨-, ce⟩ := m5 c2
        refine ⟨(some (.inl (nI (P - sp_ct P a i))), some (.inl (nI (sp_hd a i + sp_pa a i))), some (.inl (nI (sp_se P D a i)))), ?_⟩
        have es : sp_se P D a i = sp_hd a i + sp_pa a i + sp_pa a i * (P - sp_ct P a i - 1) := by unfold sp_se; rw [if_neg c1, if_neg c2]
        have es' : nI (sp_hd a i + sp_pa a i) + nI (sp_pa a i) * (nI (P - sp_ct P a i) - 1) = nI (sp_se P D a i) := by rw [es, show nI (P - sp_ct P a i) - 1 = nI (P - sp_ct P a i - 1) from pk_sub (b := 1) (by omega), pk_mul, nI_add]
        simp only [xr_78_0, xr_78_1, xr_78_2, xr_78_5, xr_78_6, xr_78_9, xr_78_12, xr_78_13, xr_78_16, xr_78_19, xr_78_20, xr_78_21, xr_78_22, xr_78_25, xr_78_26, xr_78_27, xr_78_29, xr_78_30, xr_78_33, xr_78_36, xr_78_37, xr_78_40, xr_78_41, xr_78_42, xr_78_45, xr_78_46, xr_78_47, xr_78_48, xr_78_51, xr_78_54, xr_78_55, xr_78_58, xr_78_59, xr_78_60, xr_78_61, xr_78_64, xr_78_65, xr_78_68, xr_78_71, xr_78_72, xr_78_73, xr_78_76, xr_78_78, xr_78_80, xr_78_81, xr_78_84, xr_78_85, xr_78_86, xr_78_87, xr_78_88, xr_78_91, xr_78_92, xr_78_93, xr_78_94, xr_78_97, xr_78_98, xr_78_101, xr_78_102, xr_78_103, xr_78_104, xr_78_105, xr_78_107, xr_78_109, xr_78_110, xr_78_113, xr_78_115, xr_78_118, xr_78_119, xr_78_120, xr_78_123, xr_78_126, xr_78_127, xr_78_129, xr_78_130, xr_78_133, xr_78_136, xr_78_137, xr_78_138, xr_78_139, xr_78_141, xr_78_142, xr_78_146, xr_78_147, xr_78_150, xr_78_153, xr_78_154, xr_78_157, xr_78_159, xr_78_161, xr_78_162, xr_78_163, xr_78_164, xr_78_165, xr_78_168, xr_78_171, xr_78_172, xr_78_175, xr_78_177, xr_78_178, xr_78_179, xr_78_182, xr_78_183, xr_78_186, xr_78_187, xr_78_190, xr_78_192, xr_78_193, xr_78_194, xr_78_195, xr_78_198, xr_78_199, xr_78_202, xr_78_203, xr_78_205, xr_78_206, xr_78_208, xr_78_211, xr_78_212, xr_78_214, xr_78_217, xr_78_218, xr_78_221, xr_78_222, xr_78_225, xr_78_226, xr_78_229, xr_78_231, xr_78_232, xr_78_233, xr_78_234, xr_78_236, xr_78_239, xr_78_241, xr_78_244, xr_78_245, xr_78_248, xr_78_249, xr_78_251, xr_78_254, xr_78_257, xr_78_258, xr_78_260, xr_78_261, xr_78_265, xr_78_266, xr_78_269, xr_78_272, xr_78_274, xr_78_275, xr_78_278, xr_78_280, xr_78_281, xr_78_282, xr_78_285, xr_78_286, xr_78_289, xr_78_290, xr_78_291, xr_78_293, xr_78_296, xr_78_299, xr_78_301, xr_78_304, xr_78_306, xr_78_309, xr_78_310, xr_78_311, xr_78_312, xr_78_315, xr_78_318, xr_78_319, xr_78_322, xr_78_323, xr_78_325, xr_78_326, xr_78_327, xr_78_328, xr_78_330, xr_78_331, xr_78_332, xr_78_334, xr_78_336, xr_78_337, xr_78_340, xr_78_342, xr_78_345, xr_78_346, xr_78_347, xr_78_350, xr_78_353, xr_78_354, b0, b6, b17, f1, f2, f3, f4, c_X3_hasMany b P i _ (show i < 8 by omega) b0 p2, m1, m2, m3, c2, ce, e1, g0, c1', es', g2, ix_i19, ix_i17, not_true, not_false_iff, true_imp_iff, false_imp_iff, true_and, and_true, sp_b1]
        by_cases c3 : sp_b1 P D a i < sp_se P D a i
        · have c3' : ¬ sp_se P D a i ≤ sp_b1 P D a i := by omega
          simp only [c3, c3', not_true, not_false_iff, true_imp_iff, false_imp_iff, true_and, and_true, if_true]
        · have c3' : sp_se P D a i ≤ sp_b1 P D a i := by omega
          simp only [c3, c3', not_true, not_false_iff, true_imp_iff, false_imp_iff, true_and, and_true, if_false]) (none, none, none)
  refine ⟨t'.1, t'.2.1, t'.2.2, Iff.trans e ?_⟩
  rw [xr_78_28]
  simp only [xr_78_29, xr_78_30, xr_78_33, xr_78_126, xr_78_127, b6, lxe, not_true, false_imp_iff, true_imp_iff, and_true]
  exact Iff.rfl
theorem bm_l2 (c : cI P NQ NS D (fun _ => D) a) (r : rI NQ NS a b) (hp : p < P) (l : Option AV) (t6 : Option AV) (Q : Option Int32 → AHp → Prop) : ∃ t6', (VV 78 b 144 [some (.inr (10, 0)), l, some (.inl (nI p)), some (.inl (nI 0)), some (.inl 0), some (.inl (nI 0)), t6] [] Q ↔ VV 78 b 144 [some (.inr (10, 0)), l, some (.inl (nI p)), some (.inl (nI (sp_wk D a p NS))), some (.inl (b01 (sp_wn a p NS = true))), some (.inl (nI NS)), t6'] [] Q) := by
  obtain ⟨⟨p1, p2, p3, p4, p5⟩, z2, z3, z4, z5, z6, z7⟩ := c.1
  obtain ⟨y0, y1, y2, y3, y4, y5⟩ := r.1
  have b6 : b 10 0 6 = nI NS := y2.trans z4
  have b17 : b 10 0 17 = nI D := y3.trans z5
  have key := it1 (V := fun i (t : Option AV) => VV 78 b 144 [some (.inr (10, 0)), l, some (.inl (nI p)), some (.inl (nI (sp_wk D a p i))), some (.inl (b01 (sp_wn a p i = true))), some (.inl (nI i)), t] [] Q) NS (by
    intro i t hi
    obtain ⟨f1, f2, f3, f4⟩ := lx hi p4 (by omega)
    obtain ⟨h1, h2, h3, h4, h5, h6⟩ := bd_s c hi
    obtain ⟨m1, m2, m3, m4, m5⟩ := bm_s c r hi
    obtain ⟨e1, e2⟩ := e_8i (show i < 8 by omega) (show p < 8 by omega)
    have m4p := m4 p hp
    rw [xr_78_144, sp_wk, sp_wn]
    by_cases c2 : a 7 i p = -1
    · rw [if_pos c2] at m4p
      by_cases c1 : ¬ a 4 i 8 = -1 ∧ a 4 i 9 = nI p
      · obtain ⟨⟨q, hq, k5, k6⟩, ce⟩ := m5 c1.1
        obtain ⟨k1, k2, k3, -⟩ := h6 c1.1
        have q1 : vp_in (nI q) 20 := vp_in_nI (by omega) (by omega)
        have q2 : (nI q).toNatClampNeg = q := nI_clamp (by omega)
        have q3 : ¬ nI q = -1 := nI_m1 (by omega)
        have k6' : b 12 0 q = nI p := k6.trans c1.2
        have m1' : b 19 0 i = nI q := m1.trans k5
        have ew : sp_ws D a p i = sp_hd a i + sp_pa a i - D := by unfold sp_ws; rw [if_pos c1]
        have ed : nI (sp_hd a i + sp_pa a i) - nI D = nI (sp_hd a i + sp_pa a i - D) := pk_sub (by omega)
        refine ⟨some (.inl 1), ?_⟩
        have ewn : (sp_wn a p i || (decide (a 7 i p = -1) && ! decide (¬ a 4 i 8 = -1 ∧ a 4 i 9 = nI p))) = sp_wn a p i := by simp [c1]
        have n10 : ¬ (1 : Int32) = 0 := by decide
        rw [ewn, ew]
        simp only [xr_78_0, xr_78_1, xr_78_2, xr_78_5, xr_78_6, xr_78_9, xr_78_12, xr_78_13, xr_78_16, xr_78_19, xr_78_20, xr_78_21, xr_78_22, xr_78_25, xr_78_26, xr_78_27, xr_78_29, xr_78_30, xr_78_33, xr_78_36, xr_78_37, xr_78_40, xr_78_41, xr_78_42, xr_78_45, xr_78_46, xr_78_47, xr_78_48, xr_78_51, xr_78_54, xr_78_55, xr_78_58, xr_78_59, xr_78_60, xr_78_61, xr_78_64, xr_78_65, xr_78_68, xr_78_71, xr_78_72, xr_78_73, xr_78_76, xr_78_78, xr_78_80, xr_78_81, xr_78_84, xr_78_85, xr_78_86, xr_78_87, xr_78_88, xr_78_91, xr_78_92, xr_78_93, xr_78_94, xr_78_97, xr_78_98, xr_78_101, xr_78_102, xr_78_103, xr_78_104, xr_78_105, xr_78_107, xr_78_109, xr_78_110, xr_78_113, xr_78_115, xr_78_118, xr_78_119, xr_78_120, xr_78_123, xr_78_126, xr_78_127, xr_78_129, xr_78_130, xr_78_133, xr_78_136, xr_78_137, xr_78_138, xr_78_139, xr_78_141, xr_78_142, xr_78_146, xr_78_147, xr_78_150, xr_78_153, xr_78_154, xr_78_157, xr_78_159, xr_78_161, xr_78_162, xr_78_163, xr_78_164, xr_78_165, xr_78_168, xr_78_171, xr_78_172, xr_78_175, xr_78_177, xr_78_178, xr_78_179, xr_78_182, xr_78_183, xr_78_186, xr_78_187, xr_78_190, xr_78_192, xr_78_193, xr_78_194, xr_78_195, xr_78_198, xr_78_199, xr_78_202, xr_78_203, xr_78_205, xr_78_206, xr_78_208, xr_78_211, xr_78_212, xr_78_214, xr_78_217, xr_78_218, xr_78_221, xr_78_222, xr_78_225, xr_78_226, xr_78_229, xr_78_231, xr_78_232, xr_78_233, xr_78_234, xr_78_236, xr_78_239, xr_78_241, xr_78_244, xr_78_245, xr_78_248, xr_78_249, xr_78_251, xr_78_254, xr_78_257, xr_78_258, xr_78_260, xr_78_261, xr_78_265, xr_78_266, xr_78_269, xr_78_272, xr_78_274, xr_78_275, xr_78_278, xr_78_280, xr_78_281, xr_78_282, xr_78_285, xr_78_286, xr_78_289, xr_78_290, xr_78_291, xr_78_293, xr_78_296, xr_78_299, xr_78_301, xr_78_304, xr_78_306, xr_78_309, xr_78_310, xr_78_311, xr_78_312, xr_78_315, xr_78_318, xr_78_319, xr_78_322, xr_78_323, xr_78_325, xr_78_326, xr_78_327, xr_78_328, xr_78_330, xr_78_331, xr_78_332, xr_78_334, xr_78_336, xr_78_337, xr_78_340, xr_78_342, xr_78_345, xr_78_346, xr_78_347, xr_78_350, xr_78_353, xr_78_354, b6, b17, f1, f2, f3, f4, e_8, e1, e2, m4p, m1', q1, q2, q3, k6', ce, ed, nI_add, n10, ix_z22, ix_i19, ix_i12, not_true, not_false_iff, true_imp_iff, false_imp_iff, true_and, and_true]
        by_cases cw : sp_wn a p i = true
        · simp only [cw, b01, if_true, n10, not_true, not_false_iff, true_imp_iff, false_imp_iff, true_and, and_true]
        · simp only [cw, b01, Bool.false_eq_true, if_false, n10, not_true, not_false_iff, true_imp_iff, false_imp_iff, true_and, and_true]
      · have ew : sp_ws D a p i = sp_pa a i := by unfold sp_ws; rw [if_neg c1, if_pos c2]
        have ewn : (sp_wn a p i || (decide (a 7 i p = -1) && ! decide (¬ a 4 i 8 = -1 ∧ a 4 i 9 = nI p))) = true := by
          rw [decide_eq_true c2, decide_eq_false c1]; simp
        have n10 : ¬ (1 : Int32) = 0 := by decide
        refine ⟨some (.inl 0), ?_⟩
        rw [ewn, ew]
        by_cases c3 : a 4 i 8 = -1
        · simp only [xr_78_0, xr_78_1, xr_78_2, xr_78_5, xr_78_6, xr_78_9, xr_78_12, xr_78_13, xr_78_16, xr_78_19, xr_78_20, xr_78_21, xr_78_22, xr_78_25, xr_78_26, xr_78_27, xr_78_29, xr_78_30, xr_78_33, xr_78_36, xr_78_37, xr_78_40, xr_78_41, xr_78_42, xr_78_45, xr_78_46, xr_78_47, xr_78_48, xr_78_51, xr_78_54, xr_78_55, xr_78_58, xr_78_59, xr_78_60, xr_78_61, xr_78_64, xr_78_65, xr_78_68, xr_78_71, xr_78_72, xr_78_73, xr_78_76, xr_78_78, xr_78_80, xr_78_81, xr_78_84, xr_78_85, xr_78_86, xr_78_87, xr_78_88, xr_78_91, xr_78_92, xr_78_93, xr_78_94, xr_78_97, xr_78_98, xr_78_101, xr_78_102, xr_78_103, xr_78_104, xr_78_105, xr_78_107, xr_78_109, xr_78_110, xr_78_113, xr_78_115, xr_78_118, xr_78_119, xr_78_120, xr_78_123, xr_78_126, xr_78_127, xr_78_129, xr_78_130, xr_78_133, xr_78_136, xr_78_137, xr_78_138, xr_78_139, xr_78_141, xr_78_142, xr_78_146, xr_78_147, xr_78_150, xr_78_153, xr_78_154, xr_78_157, xr_78_159, xr_78_161, xr_78_162, xr_78_163, xr_78_164, xr_78_165, xr_78_168, xr_78_171, xr_78_172, xr_78_175, xr_78_177, xr_78_178, xr_78_179, xr_78_182, xr_78_183, xr_78_186, xr_78_187, xr_78_190, xr_78_192, xr_78_193, xr_78_194, xr_78_195, xr_78_198, xr_78_199, xr_78_202, xr_78_203, xr_78_205, xr_78_206, xr_78_208, xr_78_211, xr_78_212, xr_78_214, xr_78_217, xr_78_218, xr_78_221, xr_78_222, xr_78_225, xr_78_226, xr_78_229, xr_78_231, xr_78_232, xr_78_233, xr_78_234, xr_78_236, xr_78_239, xr_78_241, xr_78_244, xr_78_245, xr_78_248, xr_78_249, xr_78_251, xr_78_254, xr_78_257, xr_78_258, xr_78_260, xr_78_261, xr_78_265, xr_78_266, xr_78_269, xr_78_272, xr_78_274, xr_78_275, xr_78_278, xr_78_280, xr_78_281, xr_78_282, xr_78_285, xr_78_286, xr_78_289, xr_78_290, xr_78_291, xr_78_293, xr_78_296, xr_78_299, xr_78_301, xr_78_304, xr_78_306, xr_78_309, xr_78_310, xr_78_311, xr_78_312, xr_78_315, xr_78_318, xr_78_319, xr_78_322, xr_78_323, xr_78_325, xr_78_326, xr_78_327, xr_78_328, xr_78_330, xr_78_331, xr_78_332, xr_78_334, xr_78_336, xr_78_337, xr_78_340, xr_78_342, xr_78_345, xr_78_346, xr_78_347, xr_78_350, xr_78_353, xr_78_354, b6, b17, f1, f2, f3, f4, e_8, e1, e2, m4p, m1, m2, c3, nI_add, n10, ix_z22, ix_i19, ix_i12, ix_i17, not_true, not_false_iff, true_imp_iff, false_imp_iff, true_and, and_true]
          by_cases cw : sp_wn a p i = true
          · simp only [cw, b01, if_true, n10, not_true, not_false_iff, true_imp_iff, false_imp_iff, true_and, and_true]
          · simp only [cw, b01, Bool.false_eq_true, if_true, if_false, n10, not_true, not_false_iff, true_imp_iff, false_imp_iff, true_and, and_true]
        · obtain ⟨⟨q, hq, k5, k6⟩, -⟩ := m5 c3
          have q1 : vp_in (nI q) 20 := vp_in_nI (by omega) (by omega)
          have q2 : (nI q).toNatClampNeg = q := nI_clamp (by omega)
          have q3 : ¬ nI q = -1 := nI_m1 (by omega)
          have k6' : ¬ b 12 0 q = nI p := fun z => c1 ⟨c3, k6.symm.trans z⟩
          have m1' : b 19 0 i = nI q := m1.trans k5
          simp only [xr_78_0, xr_78_1, xr_78_2, xr_78_5, xr_78_6, xr_78_9, xr_78_12, xr_78_13, xr_78_16, xr_78_19, xr_78_20, xr_78_21, xr_78_22, xr_78_25, xr_78_26, xr_78_27, xr_78_29, xr_78_30, xr_78_33, xr_78_36, xr_78_37, xr_78_40, xr_78_41, xr_78_42, xr_78_45, xr_78_46, xr_78_47, xr_78_48, xr_78_51, xr_78_54, xr_78_55, xr_78_58, xr_78_59, xr_78_60, xr_78_61, xr_78_64, xr_78_65, xr_78_68, xr_78_71, xr_78_72, xr_78_73, xr_78_76, xr_78_78, xr_78_80, xr_78_81, xr_78_84, xr_78_85, xr_78_86, xr_78_87, xr_78_88, xr_78_91, xr_78_92, xr_78_93, xr_78_94, xr_78_97, xr_78_98, xr_78_101, xr_78_102, xr_78_103, xr_78_104, xr_78_105, xr_78_107, xr_78_109, xr_78_110, xr_78_113, xr_78_115, xr_78_118, xr_78_119, xr_78_120, xr_78_123, xr_78_126, xr_78_127, xr_78_129, xr_78_130, xr_78_133, xr_78_136, xr_78_137, xr_78_138, xr_78_139, xr_78_141, xr_78_142, xr_78_146, xr_78_147, xr_78_150, xr_78_153, xr_78_154, xr_78_157, xr_78_159, xr_78_161, xr_78_162, xr_78_163, xr_78_164, xr_78_165, xr_78_168, xr_78_171, xr_78_172, xr_78_175, xr_78_177, xr_78_178, xr_78_179, xr_78_182, xr_78_183, xr_78_186, xr_78_187, xr_78_190, xr_78_192, xr_78_193, xr_78_194, xr_78_195, xr_78_198, xr_78_199, xr_78_202, xr_78_203, xr_78_205, xr_78_206, xr_78_208, xr_78_211, xr_78_212, xr_78_214, xr_78_217, xr_78_218, xr_78_221, xr_78_222, xr_78_225, xr_78_226, xr_78_229, xr_78_231, xr_78_232, xr_78_233, xr_78_234, xr_78_236, xr_78_239, xr_78_241, xr_78_244, xr_78_245, xr_78_248, xr_78_249, xr_78_251, xr_78_254, xr_78_257, xr_78_258, xr_78_260, xr_78_261, xr_78_265, xr_78_266, xr_78_269, xr_78_272, xr_78_274, xr_78_275, xr_78_278, xr_78_280, xr_78_281, xr_78_282, xr_78_285, xr_78_286, xr_78_289, xr_78_290, xr_78_291, xr_78_293, xr_78_296, xr_78_299, xr_78_301, xr_78_304, xr_78_306, xr_78_309, xr_78_310, xr_78_311, xr_78_312, xr_78_315, xr_78_318, xr_78_319, xr_78_322, xr_78_323, xr_78_325, xr_78_326, xr_78_327, xr_78_328, xr_78_330, xr_78_331, xr_78_332, xr_78_334, xr_78_336, xr_78_337, xr_78_340, xr_78_342, xr_78_345, xr_78_346, xr_78_347, xr_78_350, xr_78_353, xr_78_354, b6, b17, f1, f2, f3, f4, e_8, e1, e2, m4p, m1', m2, q1, q2, q3, k6', nI_add, n10, ix_z22, ix_i19, ix_i12, ix_i17, not_true, not_false_iff, true_imp_iff, false_imp_iff, true_and, and_true]
          by_cases cw : sp_wn a p i = true
          · simp only [cw, b01, if_true, n10, not_true, not_false_iff, true_imp_iff, false_imp_iff, true_and, and_true]
          · simp only [cw, b01, Bool.false_eq_true, if_true, if_false, n10, not_true, not_false_iff, true_imp_iff, false_imp_iff, true_and, and_true]
    · rw [if_neg c2] at m4p
      have c1 : ¬ (¬ a 4 i 8 = -1 ∧ a 4 i 9 = nI p) := by
        intro z
        obtain ⟨k1, k2, k3, k4, q, p', hq, hp', k5, k6, k7, k8⟩ := h6 z.1
        have : p' = p := (nI_eq (by omega) (by omega)).mp (k6.symm.trans z.2)
        exact c2 (this ▸ k8)
      have ew : sp_ws D a p i = 0 := by unfold sp_ws; rw [if_neg c1, if_neg c2]
      have ewn : (sp_wn a p i || (decide (a 7 i p = -1) && ! decide (¬ a 4 i 8 = -1 ∧ a 4 i 9 = nI p))) = sp_wn a p i := by
        rw [decide_eq_false c2]; simp
      have n10 : ¬ (1 : Int32) = 0 := by decide
      refine ⟨t, ?_⟩
      rw [ewn, ew]
      simp only [xr_78_0, xr_78_1, xr_78_2, xr_78_5, xr_78_6, xr_78_9, xr_78_12, xr_78_13, xr_78_16, xr_78_19, xr_78_20, xr_78_21, xr_78_22, xr_78_25, xr_78_26, xr_78_27, xr_78_29, xr_78_30, xr_78_33, xr_78_36, xr_78_37, xr_78_40, xr_78_41, xr_78_42, xr_78_45, xr_78_46, xr_78_47, xr_78_48, xr_78_51, xr_78_54, xr_78_55, xr_78_58, xr_78_59, xr_78_60, xr_78_61, xr_78_64, xr_78_65, xr_78_68, xr_78_71, xr_78_72, xr_78_73, xr_78_76, xr_78_78, xr_78_80, xr_78_81, xr_78_84, xr_78_85, xr_78_86, xr_78_87, xr_78_88, xr_78_91, xr_78_92, xr_78_93, xr_78_94, xr_78_97, xr_78_98, xr_78_101, xr_78_102, xr_78_103, xr_78_104, xr_78_105, xr_78_107, xr_78_109, xr_78_110, xr_78_113, xr_78_115, xr_78_118, xr_78_119, xr_78_120, xr_78_123, xr_78_126, xr_78_127, xr_78_129, xr_78_130, xr_78_133, xr_78_136, xr_78_137, xr_78_138, xr_78_139, xr_78_141, xr_78_142, xr_78_146, xr_78_147, xr_78_150, xr_78_153, xr_78_154, xr_78_157, xr_78_159, xr_78_161, xr_78_162, xr_78_163, xr_78_164, xr_78_165, xr_78_168, xr_78_171, xr_78_172, xr_78_175, xr_78_177, xr_78_178, xr_78_179, xr_78_182, xr_78_183, xr_78_186, xr_78_187, xr_78_190, xr_78_192, xr_78_193, xr_78_194, xr_78_195, xr_78_198, xr_78_199, xr_78_202, xr_78_203, xr_78_205, xr_78_206, xr_78_208, xr_78_211, xr_78_212, xr_78_214, xr_78_217, xr_78_218, xr_78_221, xr_78_222, xr_78_225, xr_78_226, xr_78_229, xr_78_231, xr_78_232, xr_78_233, xr_78_234, xr_78_236, xr_78_239, xr_78_241, xr_78_244, xr_78_245, xr_78_248, xr_78_249, xr_78_251, xr_78_254, xr_78_257, xr_78_258, xr_78_260, xr_78_261, xr_78_265, xr_78_266, xr_78_269, xr_78_272, xr_78_274, xr_78_275, xr_78_278, xr_78_280, xr_78_281, xr_78_282, xr_78_285, xr_78_286, xr_78_289, xr_78_290, xr_78_291, xr_78_293, xr_78_296, xr_78_299, xr_78_301, xr_78_304, xr_78_306, xr_78_309, xr_78_310, xr_78_311, xr_78_312, xr_78_315, xr_78_318, xr_78_319, xr_78_322, xr_78_323, xr_78_325, xr_78_326, xr_78_327, xr_78_328, xr_78_330, xr_78_331, xr_78_332, xr_78_334, xr_78_336, xr_78_337, xr_78_340, xr_78_342, xr_78_345, xr_78_346, xr_78_347, xr_78_350, xr_78_353, xr_78_354, b6, f1, f4, e_8, e1, e2, m4p, n10, ix_z22, not_true, not_false_iff, true_imp_iff, false_imp_iff, true_and, and_true, Nat.add_zero]) t6
  exact key
theorem bm_l3 (c : cI P NQ NS D (fun _ => D) a) (r : rI NQ NS a b) (l t3 t4 : Option AV) (Q : Option Int32 → AHp → Prop) : VV 78 b 263 [some (.inr (10, 0)), l, some (.inl (nI p)), t3, t4, some (.inl (nI 0)), some (.inl (nI 0))] [] Q ↔ VV 78 b 299 [some (.inr (10, 0)), l, some (.inl (nI p)), t3, t4, some (.inl (nI (sp_cp NQ a p))), some (.inl (nI NQ))] [] Q := by
  obtain ⟨⟨p1, p2, p3, p4, p5⟩, z2, z3, z4, z5, z6, z7⟩ := c.1
  obtain ⟨y0, y1, y2, y3, y4, y5⟩ := r.1
  have b1 : b 10 0 1 = nI NQ := y1.trans z3
  refine Iff.trans (it0 (V := fun i => VV 78 b 263 [some (.inr (10, 0)), l, some (.inl (nI p)), t3, t4, some (.inl (nI (sp_cop (fun q => a 3 q 0) (nI p) i))), some (.inl (nI i))] [] Q) NQ ?_) ?_
  · intro i hi
    obtain ⟨f1, f2, f3, f4⟩ := lx hi p3 (by omega)
    have w1 : b 12 0 i = a 3 i 0 := (r.2.1 i hi).1
    rw [xr_78_263, sp_cop]
    by_cases c1 : a 3 i 0 = nI p
    · simp only [xr_78_0, xr_78_1, xr_78_2, xr_78_5, xr_78_6, xr_78_9, xr_78_12, xr_78_13, xr_78_16, xr_78_19, xr_78_20, xr_78_21, xr_78_22, xr_78_25, xr_78_26, xr_78_27, xr_78_29, xr_78_30, xr_78_33, xr_78_36, xr_78_37, xr_78_40, xr_78_41, xr_78_42, xr_78_45, xr_78_46, xr_78_47, xr_78_48, xr_78_51, xr_78_54, xr_78_55, xr_78_58, xr_78_59, xr_78_60, xr_78_61, xr_78_64, xr_78_65, xr_78_68, xr_78_71, xr_78_72, xr_78_73, xr_78_76, xr_78_78, xr_78_80, xr_78_81, xr_78_84, xr_78_85, xr_78_86, xr_78_87, xr_78_88, xr_78_91, xr_78_92, xr_78_93, xr_78_94, xr_78_97, xr_78_98, xr_78_101, xr_78_102, xr_78_103, xr_78_104, xr_78_105, xr_78_107, xr_78_109, xr_78_110, xr_78_113, xr_78_115, xr_78_118, xr_78_119, xr_78_120, xr_78_123, xr_78_126, xr_78_127, xr_78_129, xr_78_130, xr_78_133, xr_78_136, xr_78_137, xr_78_138, xr_78_139, xr_78_141, xr_78_142, xr_78_146, xr_78_147, xr_78_150, xr_78_153, xr_78_154, xr_78_157, xr_78_159, xr_78_161, xr_78_162, xr_78_163, xr_78_164, xr_78_165, xr_78_168, xr_78_171, xr_78_172, xr_78_175, xr_78_177, xr_78_178, xr_78_179, xr_78_182, xr_78_183, xr_78_186, xr_78_187, xr_78_190, xr_78_192, xr_78_193, xr_78_194, xr_78_195, xr_78_198, xr_78_199, xr_78_202, xr_78_203, xr_78_205, xr_78_206, xr_78_208, xr_78_211, xr_78_212, xr_78_214, xr_78_217, xr_78_218, xr_78_221, xr_78_222, xr_78_225, xr_78_226, xr_78_229, xr_78_231, xr_78_232, xr_78_233, xr_78_234, xr_78_236, xr_78_239, xr_78_241, xr_78_244, xr_78_245, xr_78_248, xr_78_249, xr_78_251, xr_78_254, xr_78_257, xr_78_258, xr_78_260, xr_78_261, xr_78_265, xr_78_266, xr_78_269, xr_78_272, xr_78_274, xr_78_275, xr_78_278, xr_78_280, xr_78_281, xr_78_282, xr_78_285, xr_78_286, xr_78_289, xr_78_290, xr_78_291, xr_78_293, xr_78_296, xr_78_299, xr_78_301, xr_78_304, xr_78_306, xr_78_309, xr_78_310, xr_78_311, xr_78_312, xr_78_315, xr_78_318, xr_78_319, xr_78_322, xr_78_323, xr_78_325, xr_78_326, xr_78_327, xr_78_328, xr_78_330, xr_78_331, xr_78_332, xr_78_334, xr_78_336, xr_78_337, xr_78_340, xr_78_342, xr_78_345, xr_78_346, xr_78_347, xr_78_350, xr_78_353, xr_78_354, b1, w1, f1, f2, f3, f4, c1, ix_i12, nI_1, not_true, not_false_iff, true_imp_iff, false_imp_iff, true_and, and_true, if_true]
    · simp only [xr_78_0, xr_78_1, xr_78_2, xr_78_5, xr_78_6, xr_78_9, xr_78_12, xr_78_13, xr_78_16, xr_78_19, xr_78_20, xr_78_21, xr_78_22, xr_78_25, xr_78_26, xr_78_27, xr_78_29, xr_78_30, xr_78_33, xr_78_36, xr_78_37, xr_78_40, xr_78_41, xr_78_42, xr_78_45, xr_78_46, xr_78_47, xr_78_48, xr_78_51, xr_78_54, xr_78_55, xr_78_58, xr_78_59, xr_78_60, xr_78_61, xr_78_64, xr_78_65, xr_78_68, xr_78_71, xr_78_72, xr_78_73, xr_78_76, xr_78_78, xr_78_80, xr_78_81, xr_78_84, xr_78_85, xr_78_86, xr_78_87, xr_78_88, xr_78_91, xr_78_92, xr_78_93, xr_78_94, xr_78_97, xr_78_98, xr_78_101, xr_78_102, xr_78_103, xr_78_104, xr_78_105, xr_78_107, xr_78_109, xr_78_110, xr_78_113, xr_78_115, xr_78_118, xr_78_119, xr_78_120, xr_78_123, xr_78_126, xr_78_127, xr_78_129, xr_78_130, xr_78_133, xr_78_136, xr_78_137, xr_78_138, xr_78_139, xr_78_141, xr_78_142, xr_78_146, xr_78_147, xr_78_150, xr_78_153, xr_78_154, xr_78_157, xr_78_159, xr_78_161, xr_78_162, xr_78_163, xr_78_164, xr_78_165, xr_78_168, xr_78_171, xr_78_172, xr_78_175, xr_78_177, xr_78_178, xr_78_179, xr_78_182, xr_78_183, xr_78_186, xr_78_187, xr_78_190, xr_78_192, xr_78_193, xr_78_194, xr_78_195, xr_78_198, xr_78_199, xr_78_202, xr_78_203, xr_78_205, xr_78_206, xr_78_208, xr_78_211, xr_78_212, xr_78_214, xr_78_217, xr_78_218, xr_78_221, xr_78_222, xr_78_225, xr_78_226, xr_78_229, xr_78_231, xr_78_232, xr_78_233, xr_78_234, xr_78_236, xr_78_239, xr_78_241, xr_78_244, xr_78_245, xr_78_248, xr_78_249, xr_78_251, xr_78_254, xr_78_257, xr_78_258, xr_78_260, xr_78_261, xr_78_265, xr_78_266, xr_78_269, xr_78_272, xr_78_274, xr_78_275, xr_78_278, xr_78_280, xr_78_281, xr_78_282, xr_78_285, xr_78_286, xr_78_289, xr_78_290, xr_78_291, xr_78_293, xr_78_296, xr_78_299, xr_78_301, xr_78_304, xr_78_306, xr_78_309, xr_78_310, xr_78_311, xr_78_312, xr_78_315, xr_78_318, xr_78_319, xr_78_322, xr_78_323, xr_78_325, xr_78_326, xr_78_327, xr_78_328, xr_78_330, xr_78_331, xr_78_332, xr_78_334, xr_78_336, xr_78_337, xr_78_340, xr_78_342, xr_78_345, xr_78_346, xr_78_347, xr_78_350, xr_78_353, xr_78_354, b1, w1, f1, f2, f3, f4, c1, ix_i12, not_true, not_false_iff, true_imp_iff, false_imp_iff, true_and, and_true, if_false, Int32.add_zero, Nat.add_zero]
  · rw [xr_78_263]
    simp only [xr_78_265, xr_78_266, xr_78_269, b1, lxe, not_true, false_imp_iff, true_imp_iff, and_true]
    exact Iff.rfl
theorem bm_l4 (c : cI P NQ NS D (fun _ => D) a) (r : rI NQ NS a b) : ∀ (k p l : Nat) (t3 t4 t5 t6 : Option AV), p + k = P → l ≤ 20000 → D ≤ l → ∀ Q, (VV 78 b 128 [some (.inr (10, 0)), some (.inl (nI l)), some (.inl (nI p)), t3, t4, t5, t6] [] Q ↔ Q (some (sp_b3 NQ NS D a k p l)) b) := by
  obtain ⟨⟨p1, p2, p3, p4, p5⟩, z2, z3, z4, z5, z6, z7⟩ := c.1
  obtain ⟨y0, y1, y2, y3, y4, y5⟩ := r.1
  have b0 : b 10 0 0 = nI P := y0.trans z2
  have b6 : b 10 0 6 = nI NS := y2.trans z4
  have b17 : b 10 0 17 = nI D := y3.trans z5
  intro k
  induction k with
  | zero =>
    intro p l t3 t4 t5 t6 hp hl hD Q
    rw [show p = P by omega, xr_78_128]
    simp only [xr_78_129, xr_78_130, xr_78_133, xr_78_353, xr_78_354, b0, lxe, not_true, false_imp_iff, true_imp_iff, and_true, sp_b3]
  | succ k ih =>
    intro p l t3 t4 t5 t6 hp hl hD Q
    obtain ⟨f1, f2, f3, f4⟩ := lx (show p < P by omega) p2 (by omega)
    have hw := bd_wk (p := p) c NS (Nat.le_refl NS)
    have hc : sp_cp NQ a p ≤ NQ := sp_cop_le _ _ _
    rw [xr_78_128, sp_b3]
    simp only [xr_78_129, xr_78_130, xr_78_133, xr_78_136, xr_78_137, xr_78_138, xr_78_139, xr_78_141, xr_78_142, b0, f1, not_true, not_false_iff, false_imp_iff, true_imp_iff, true_and, and_true]
    obtain ⟨t6', e2⟩ := bm_l2 c r (show p < P by omega) (some (.inl (nI l))) t6 Q
    refine Iff.trans e2 ?_
    rw [xr_78_144]
    simp only [xr_78_146, xr_78_147, xr_78_150, xr_78_257, xr_78_258, xr_78_260, xr_78_261, b6, lxe, not_true, false_imp_iff, true_imp_iff, and_true]
    refine Iff.trans (bm_l3 c r _ _ _ Q) ?_
    have g0 : nI (sp_cp NQ a p) = 0 ↔ sp_cp NQ a p = 0 := nI_eq (b := 0) (by omega) (by omega)
    have g1 : nI (sp_wk D a p NS) = 0 ↔ sp_wk D a p NS = 0 := nI_eq (b := 0) (by omega) (by omega)
    by_cases c1 : 0 < sp_cp NQ a p
    · have c1' : ¬ sp_cp NQ a p = 0 := by omega
      rw [if_pos c1]
      by_cases c2 : sp_wk D a p NS = 0
      · have ez : (sp_wk D a p NS + sp_cp NQ a p - 1) / sp_cp NQ a p = 0 := by rw [c2]; exact Nat.div_eq_of_lt (by omega)
        rw [ez, if_neg (show ¬ l < D + 0 by omega)]
        have c2' : nI (sp_wk D a p NS) = 0 := g1.mpr c2
        simp only [xr_78_0, xr_78_1, xr_78_2, xr_78_5, xr_78_6, xr_78_9, xr_78_12, xr_78_13, xr_78_16, xr_78_19, xr_78_20, xr_78_21, xr_78_22, xr_78_25, xr_78_26, xr_78_27, xr_78_29, xr_78_30, xr_78_33, xr_78_36, xr_78_37, xr_78_40, xr_78_41, xr_78_42, xr_78_45, xr_78_46, xr_78_47, xr_78_48, xr_78_51, xr_78_54, xr_78_55, xr_78_58, xr_78_59, xr_78_60, xr_78_61, xr_78_64, xr_78_65, xr_78_68, xr_78_71, xr_78_72, xr_78_73, xr_78_76, xr_78_78, xr_78_80, xr_78_81, xr_78_84, xr_78_85, xr_78_86, xr_78_87, xr_78_88, xr_78_91, xr_78_92, xr_78_93, xr_78_94, xr_78_97, xr_78_98, xr_78_101, xr_78_102, xr_78_103, xr_78_104, xr_78_105, xr_78_107, xr_78_109, xr_78_110, xr_78_113, xr_78_115, xr_78_118, xr_78_119, xr_78_120, xr_78_123, xr_78_126, xr_78_127, xr_78_129, xr_78_130, xr_78_133, xr_78_136, xr_78_137, xr_78_138, xr_78_139, xr_78_141, xr_78_142, xr_78_146, xr_78_147, xr_78_150, xr_78_153, xr_78_154, xr_78_157, xr_78_159, xr_78_161, xr_78_162, xr_78_163, xr_78_164, xr_78_165, xr_78_168, xr_78_171, xr_78_172, xr_78_175, xr_78_177, xr_78_178, xr_78_179, xr_78_182, xr_78_183, xr_78_186, xr_78_187, xr_78_190, xr_78_192, xr_78_193, xr_78_194, xr_78_195, xr_78_198, xr_78_199, xr_78_202, xr_78_203, xr_78_205, xr_78_206, xr_78_208, xr_78_211, xr_78_212, xr_78_214, xr_78_217, xr_78_218, xr_78_221, xr_78_222, xr_78_225, xr_78_226, xr_78_229, xr_78_231, xr_78_232, xr_78_233, xr_78_234, xr_78_236, xr_78_239, xr_78_241, xr_78_244, xr_78_245, xr_78_248, xr_78_249, xr_78_251, xr_78_254, xr_78_257, xr_78_258, xr_78_260, xr_78_261, xr_78_265, xr_78_266, xr_78_269, xr_78_272, xr_78_274, xr_78_275, xr_78_278, xr_78_280, xr_78_281, xr_78_282, xr_78_285, xr_78_286, xr_78_289, xr_78_290, xr_78_291, xr_78_293, xr_78_296, xr_78_299, xr_78_301, xr_78_304, xr_78_306, xr_78_309, xr_78_310, xr_78_311, xr_78_312, xr_78_315, xr_78_318, xr_78_319, xr_78_322, xr_78_323, xr_78_325, xr_78_326, xr_78_327, xr_78_328, xr_78_330, xr_78_331, xr_78_332, xr_78_334, xr_78_336, xr_78_337, xr_78_340, xr_78_342, xr_78_345, xr_78_346, xr_78_347, xr_78_350, xr_78_353, xr_78_354, g0, c1', iff_true_intro c2', f4, not_true, not_false_iff, true_imp_iff, false_imp_iff, true_and, and_true]
        exact ih (p + 1) l _ _ _ _ (by omega) hl hD Q
      · have e1 : nI (sp_wk D a p NS + sp_cp NQ a p) - 1 = nI (sp_wk D a p NS + sp_cp NQ a p - 1) := pk_sub (b := 1) (by omega)
        have e2 : nI (sp_wk D a p NS + sp_cp NQ a p - 1) / nI (sp_cp NQ a p) = nI ((sp_wk D a p NS + sp_cp NQ a p - 1) / sp_cp NQ a p) := pk_div (by omega) c1 (by omega)
        have e3 : ¬ nI (sp_cp NQ a p) = 0 := nI_ne0 c1 (by omega)
        have hq : (sp_wk D a p NS + sp_cp NQ a p - 1) / sp_cp NQ a p ≤ 100 := Nat.le_trans (Nat.div_le_self _ _) (by omega)
        have g2 : nI (D + (sp_wk D a p NS + sp_cp NQ a p - 1) / sp_cp NQ a p) ≤ nI l ↔ D + (sp_wk D a p NS + sp_cp NQ a p - 1) / sp_cp NQ a p ≤ l := nI_leI (by omega) (by omega)
        simp only [xr_78_0, xr_78_1, xr_78_2, xr_78_5, xr_78_6, xr_78_9, xr_78_12, xr_78_13, xr_78_16, xr_78_19, xr_78_20, xr_78_21, xr_78_22, xr_78_25, xr_78_26, xr_78_27, xr_78_29, xr_78_30, xr_78_33, xr_78_36, xr_78_37, xr_78_40, xr_78_41, xr_78_42, xr_78_45, xr_78_46, xr_78_47, xr_78_48, xr_78_51, xr_78_54, xr_78_55, xr_78_58, xr_78_59, xr_78_60, xr_78_61, xr_78_64, xr_78_65, xr_78_68, xr_78_71, xr_78_72, xr_78_73, xr_78_76, xr_78_78, xr_78_80, xr_78_81, xr_78_84, xr_78_85, xr_78_86, xr_78_87, xr_78_88, xr_78_91, xr_78_92, xr_78_93, xr_78_94, xr_78_97, xr_78_98, xr_78_101, xr_78_102, xr_78_103, xr_78_104, xr_78_105, xr_78_107, xr_78_109, xr_78_110, xr_78_113, xr_78_115, xr_78_118, xr_78_119, xr_78_120, xr_78_123, xr_78_126, xr_78_127, xr_78_129, xr_78_130, xr_78_133, xr_78_136, xr_78_137, xr_78_138, xr_78_139, xr_78_141, xr_78_142, xr_78_146, xr_78_147, xr_78_150, xr_78_153, xr_78_154, xr_78_157, xr_78_159, xr_78_161, xr_78_162, xr_78_163, xr_78_164, xr_78_165, xr_78_168, xr_78_171, xr_78_172, xr_78_175, xr_78_177, xr_78_178, xr_78_179, xr_78_182, xr_78_183, xr_78_186, xr_78_187, xr_78_190, xr_78_192, xr_78_193, xr_78_194, xr_78_195, xr_78_198, xr_78_199, xr_78_202, xr_78_203, xr_78_205, xr_78_206, xr_78_208, xr_78_211, xr_78_212, xr_78_214, xr_78_217, xr_78_218, xr_78_221, xr_78_222, xr_78_225, xr_78_226, xr_78_229, xr_78_231, xr_78_232, xr_78_233, xr_78_234, xr_78_236, xr_78_239, xr_78_241, xr_78_244, xr_78_245, xr_78_248, xr_78_249, xr_78_251, xr_78_254, xr_78_257, xr_78_258, xr_78_260, xr_78_261, xr_78_265, xr_78_266, xr_78_269, xr_78_272, xr_78_274, xr_78_275, xr_78_278, xr_78_280, xr_78_281, xr_78_282, xr_78_285, xr_78_286, xr_78_289, xr_78_290, xr_78_291, xr_78_293, xr_78_296, xr_78_299, xr_78_301, xr_78_304, xr_78_306, xr_78_309, xr_78_310, xr_78_311, xr_78_312, xr_78_315, xr_78_318, xr_78_319, xr_78_322, xr_78_323, xr_78_325, xr_78_326, xr_78_327, xr_78_328, xr_78_330, xr_78_331, xr_78_332, xr_78_334, xr_78_336, xr_78_337, xr_78_340, xr_78_342, xr_78_345, xr_78_346, xr_78_347, xr_78_350, xr_78_353, xr_78_354, b17, g0, g1, c1', c2, e1, e2, nI_add, g2, f4, not_true, not_false_iff, true_imp_iff, false_imp_iff, true_and, and_true]
        by_cases c3 : l < D + (sp_wk D a p NS + sp_cp NQ a p - 1) / sp_cp NQ a p
        · have c3' : ¬ D + (sp_wk D a p NS + sp_cp NQ a p - 1) / sp_cp NQ a p ≤ l := by omega
          rw [if_pos c3]
          simp only [c3', not_true, not_false_iff, true_imp_iff, false_imp_iff, true_and, and_true]
          exact ih (p + 1) _ _ _ _ _ (by omega) (by omega) (by omega) Q
        · have c3' : D + (sp_wk D a p NS + sp_cp NQ a p - 1) / sp_cp NQ a p ≤ l := by omega
          rw [if_neg c3]
          simp only [c3', not_true, not_false_iff, true_imp_iff, false_imp_iff, true_and, and_true]
          exact ih (p + 1) _ _ _ _ _ (by omega) (by omega) (by omega) Q
    · have c1' : sp_cp NQ a p = 0 := by omega
      have wn := bm_wn c (show p < P by omega) c1' NS (Nat.le_refl NS)
      rw [if_neg c1]
      by_cases c2 : 0 < sp_wk D a p NS
      · have wt : sp_wn a p NS = true := wn.mpr c2
        have n10 : ¬ (1 : Int32) = 0 := by decide
        rw [if_pos c2]
        simp only [xr_78_0, xr_78_1, xr_78_2, xr_78_5, xr_78_6, xr_78_9, xr_78_12, xr_78_13, xr_78_16, xr_78_19, xr_78_20, xr_78_21, xr_78_22, xr_78_25, xr_78_26, xr_78_27, xr_78_29, xr_78_30, xr_78_33, xr_78_36, xr_78_37, xr_78_40, xr_78_41, xr_78_42, xr_78_45, xr_78_46, xr_78_47, xr_78_48, xr_78_51, xr_78_54, xr_78_55, xr_78_58, xr_78_59, xr_78_60, xr_78_61, xr_78_64, xr_78_65, xr_78_68, xr_78_71, xr_78_72, xr_78_73, xr_78_76, xr_78_78, xr_78_80, xr_78_81, xr_78_84, xr_78_85, xr_78_86, xr_78_87, xr_78_88, xr_78_91, xr_78_92, xr_78_93, xr_78_94, xr_78_97, xr_78_98, xr_78_101, xr_78_102, xr_78_103, xr_78_104, xr_78_105, xr_78_107, xr_78_109, xr_78_110, xr_78_113, xr_78_115, xr_78_118, xr_78_119, xr_78_120, xr_78_123, xr_78_126, xr_78_127, xr_78_129, xr_78_130, xr_78_133, xr_78_136, xr_78_137, xr_78_138, xr_78_139, xr_78_141, xr_78_142, xr_78_146, xr_78_147, xr_78_150, xr_78_153, xr_78_154, xr_78_157, xr_78_159, xr_78_161, xr_78_162, xr_78_163, xr_78_164, xr_78_165, xr_78_168, xr_78_171, xr_78_172, xr_78_175, xr_78_177, xr_78_178, xr_78_179, xr_78_182, xr_78_183, xr_78_186, xr_78_187, xr_78_190, xr_78_192, xr_78_193, xr_78_194, xr_78_195, xr_78_198, xr_78_199, xr_78_202, xr_78_203, xr_78_205, xr_78_206, xr_78_208, xr_78_211, xr_78_212, xr_78_214, xr_78_217, xr_78_218, xr_78_221, xr_78_222, xr_78_225, xr_78_226, xr_78_229, xr_78_231, xr_78_232, xr_78_233, xr_78_234, xr_78_236, xr_78_239, xr_78_241, xr_78_244, xr_78_245, xr_78_248, xr_78_249, xr_78_251, xr_78_254, xr_78_257, xr_78_258, xr_78_260, xr_78_261, xr_78_265, xr_78_266, xr_78_269, xr_78_272, xr_78_274, xr_78_275, xr_78_278, xr_78_280, xr_78_281, xr_78_282, xr_78_285, xr_78_286, xr_78_289, xr_78_290, xr_78_291, xr_78_293, xr_78_296, xr_78_299, xr_78_301, xr_78_304, xr_78_306, xr_78_309, xr_78_310, xr_78_311, xr_78_312, xr_78_315, xr_78_318, xr_78_319, xr_78_322, xr_78_323, xr_78_325, xr_78_326, xr_78_327, xr_78_328, xr_78_330, xr_78_331, xr_78_332, xr_78_334, xr_78_336, xr_78_337, xr_78_340, xr_78_342, xr_78_345, xr_78_346, xr_78_347, xr_78_350, xr_78_353, xr_78_354, iff_true_intro (g0.mpr c1'), wt, b01, if_true, n10, not_true, not_false_iff, true_imp_iff, false_imp_iff, true_and, and_true]
      · have c2' : sp_wk D a p NS = 0 := by omega
        have wt : ¬ sp_wn a p NS = true := fun z => c2 (wn.mp z)
        rw [if_neg c2]
        simp only [xr_78_0, xr_78_1, xr_78_2, xr_78_5, xr_78_6, xr_78_9, xr_78_12, xr_78_13, xr_78_16, xr_78_19, xr_78_20, xr_78_21, xr_78_22, xr_78_25, xr_78_26, xr_78_27, xr_78_29, xr_78_30, xr_78_33, xr_78_36, xr_78_37, xr_78_40, xr_78_41, xr_78_42, xr_78_45, xr_78_46, xr_78_47, xr_78_48, xr_78_51, xr_78_54, xr_78_55, xr_78_58, xr_78_59, xr_78_60, xr_78_61, xr_78_64, xr_78_65, xr_78_68, xr_78_71, xr_78_72, xr_78_73, xr_78_76, xr_78_78, xr_78_80, xr_78_81, xr_78_84, xr_78_85, xr_78_86, xr_78_87, xr_78_88, xr_78_91, xr_78_92, xr_78_93, xr_78_94, xr_78_97, xr_78_98, xr_78_101, xr_78_102, xr_78_103, xr_78_104, xr_78_105, xr_78_107, xr_78_109, xr_78_110, xr_78_113, xr_78_115, xr_78_118, xr_78_119, xr_78_120, xr_78_123, xr_78_126, xr_78_127, xr_78_129, xr_78_130, xr_78_133, xr_78_136, xr_78_137, xr_78_138, xr_78_139, xr_78_141, xr_78_142, xr_78_146, xr_78_147, xr_78_150, xr_78_153, xr_78_154, xr_78_157, xr_78_159, xr_78_161, xr_78_162, xr_78_163, xr_78_164, xr_78_165, xr_78_168, xr_78_171, xr_78_172, xr_78_175, xr_78_177, xr_78_178, xr_78_179, xr_78_182, xr_78_183, xr_78_186, xr_78_187, xr_78_190, xr_78_192, xr_78_193, xr_78_194, xr_78_195, xr_78_198, xr_78_199, xr_78_202, xr_78_203, xr_78_205, xr_78_206, xr_78_208, xr_78_211, xr_78_212, xr_78_214, xr_78_217, xr_78_218, xr_78_221, xr_78_222, xr_78_225, xr_78_226, xr_78_229, xr_78_231, xr_78_232, xr_78_233, xr_78_234, xr_78_236, xr_78_239, xr_78_241, xr_78_244, xr_78_245, xr_78_248, xr_78_249, xr_78_251, xr_78_254, xr_78_257, xr_78_258, xr_78_260, xr_78_261, xr_78_265, xr_78_266, xr_78_269, xr_78_272, xr_78_274, xr_78_275, xr_78_278, xr_78_280, xr_78_281, xr_78_282, xr_78_285, xr_78_286, xr_78_289, xr_78_290, xr_78_291, xr_78_293, xr_78_296, xr_78_299, xr_78_301, xr_78_304, xr_78_306, xr_78_309, xr_78_310, xr_78_311, xr_78_312, xr_78_315, xr_78_318, xr_78_319, xr_78_322, xr_78_323, xr_78_325, xr_78_326, xr_78_327, xr_78_328, xr_78_330, xr_78_331, xr_78_332, xr_78_334, xr_78_336, xr_78_337, xr_78_340, xr_78_342, xr_78_345, xr_78_346, xr_78_347, xr_78_350, xr_78_353, xr_78_354, iff_true_intro (g0.mpr c1'), iff_true_intro (g1.mpr c2'), wt, b01, Bool.false_eq_true, if_false, f4, not_true, not_false_iff, true_imp_iff, false_imp_iff, true_and, and_true]
        exact ih (p + 1) _ _ _ _ _ (by omega) hl hD Q
end BM
theorem op_bound (h : AHp) (g : GG h) : Vi 43 h [some (.inr (0, 0)), none, none, none, none] (fun r h1 => Vi 78 h1 [some (.inr (10, 0)), none, none, none, none, none, none] (fun r2 h2 => r2 = r ∧ GG h2)) := by
  obtain ⟨P, NQ, NS, D, c, r⟩ := id g
  obtain ⟨⟨p1, p2, p3, p4, p5⟩, z2, z3, z4, z5, z6, z7⟩ := c.1
  obtain ⟨y0, y1, y2, y3, y4, y5⟩ := r.1
  have rr : rI NQ NS h (ah_up h 10 0 20 0) := ⟨⟨y0, y1, y2, y3, y4, y5⟩, r.2.1, r.2.2⟩
  have hgb : GG (ah_up h 10 0 20 0) := GG_thr g
  have b0 : (ah_up h 10 0 20 0) 10 0 0 = nI P := y0.trans z2
  have b6 : (ah_up h 10 0 20 0) 10 0 6 = nI NS := y2.trans z4
  have b17 : (ah_up h 10 0 20 0) 10 0 17 = nI D := y3.trans z5
  have hem := eM_iff c rr
  have gN : nI NS = 0 ↔ NS = 0 := nI_eq (b := 0) (by omega) (by omega)
  have ca : ∀ K, Vi 76 (ah_up h 10 0 20 0) [some (.inr (10, 0)), none] K ↔ K (b01 (sp_cnt (fun s => decide (sp_cnt (md_has (ah_up h 10 0 20 0) s) P = P)) NS = NS)) (ah_up h 10 0 20 0) := fun K => c_X3_allEnded b6 p4 b0 p2 K (inferInstanceAs (Decidable (sp_cnt (fun s => decide (sp_cnt (md_has (ah_up h 10 0 20 0) s) P = P)) NS = NS)))
  by_cases hE : sp_eA NS h
  · have hE' : sp_cnt (fun s => decide (h 0 0 2 ≤ h 4 s 6)) NS = NS := hE
    have hE2 : sp_cnt (fun s => decide (sp_cnt (md_has (ah_up h 10 0 20 0) s) P = P)) NS = NS := hem.mpr hE
    rw [Vi]
    simp only [xr_43_0, xr_43_1, xr_43_4, xr_43_7, xr_43_8, c_X2_allEnded h 0 NS _ z4 p4, hE', b01_z, not_true, not_false_iff, true_imp_iff, false_imp_iff, true_and, and_true, ex_some]
    rw [Vi]
    simp only [xr_78_0, xr_78_1, xr_78_2, xr_78_5, xr_78_6, xr_78_9, xr_78_12, xr_78_13, xr_78_16, xr_78_19, xr_78_20, b6, ca, hE2, gN, b01_z, not_true, not_false_iff, true_imp_iff, false_imp_iff, true_and, and_true, ex_some]
    exact ⟨fun _ => hgb, fun _ => hgb⟩
  · have hE2 : ¬ sp_cnt (fun s => decide (sp_cnt (md_has (ah_up h 10 0 20 0) s) P = P)) NS = NS := fun z => hE (hem.mp z)
    have hN : ¬ NS = 0 := by
      intro z
      subst z
      exact hE rfl
    rw [c_X2_bound c hE]
    rw [Vi]
    simp only [xr_78_0, xr_78_1, xr_78_2, xr_78_5, xr_78_6, xr_78_9, xr_78_12, xr_78_13, xr_78_16, xr_78_21, xr_78_22, xr_78_25, xr_78_26, xr_78_27, b6, b17, ca, hE2, gN, hN, b01_z, not_true, not_false_iff, true_imp_iff, false_imp_iff, true_and, and_true]
    generalize ah_up h 10 0 20 0 = b at rr hgb ⊢
    have hb := bd_b1 c NS (Nat.le_refl NS)
    obtain ⟨t3, t4, t5, e⟩ := bm_l1 (b := b) c rr (fun r h' => ∃ x, r = some x ∧ x = sp_b3 NQ NS D h P 0 (sp_b1 P D h NS) ∧ GG h')
    refine e.mpr ?_
    rw [bm_l4 c rr P 0 (sp_b1 P D h NS) t3 t4 t5 none (by omega) (by omega) (by omega)]
    exact ⟨_, rfl, rfl, hgb⟩
