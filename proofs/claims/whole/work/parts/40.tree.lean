/-! ===== parent, changes ===== -/
theorem rI_21 {NQ NS : Nat} {a b : AHp} (r : rI NQ NS a b) (v : Int32) : rI NQ NS a (ah_up b 10 0 21 v) := ⟨⟨r.1.1, r.1.2.1, r.1.2.2.1, r.1.2.2.2.1, r.1.2.2.2.2.1, r.1.2.2.2.2.2⟩, r.2.1, r.2.2⟩
def sp_chg (a : AHp) (NQ NS p : Nat) : Nat → Nat
  | 0 => 0
  | s + 1 => sp_chg a NQ NS p s + if ¬ a 7 s p = -1 then sp_f 0 (sp_np a NQ NS s p) else 0
section TR
variable {P NQ NS D : Nat} {a b : AHp} {s p : Nat}
set_option maxHeartbeats 4000000 in
theorem c_X3_parentOf (c : cI P NQ NS D (fun _ => D) a) (r : rI NQ NS a b) (hs : s < NS) (hp : p < P) (h7 : ¬ a 7 s p = -1) (K : Int32 → AHp → Prop) : Vi 82 b [some (.inr (10, 0)), some (.inl (nI s)), some (.inl (nI p)), none, none, none] K ↔ K (sp_w (sp_np a NQ NS s p)) (ah_up b 10 0 21 (nI (sp_f 99 (sp_np a NQ NS s p)))) := by
  obtain ⟨⟨p1, p2, p3, p4, p5⟩, z2, z3, z4, z5, z6, z7⟩ := c.1
  obtain ⟨y0, y1, y2, y3, y4, y5⟩ := r.1
  obtain ⟨v, hv, ev⟩ := (c.2.2 s hs).2.2.2.2.1 p hp h7
  have ev2 : (nI v).toNatClampNeg = v := nI_clamp (by omega)
  obtain ⟨e1, e2⟩ := e_8i (show s < 8 by omega) (show p < 8 by omega)
  have d1 : ∀ f, (ah_up b 10 0 21 f) 10 0 1 = nI NQ := fun f => by rw [← z3, ← y1]; rfl
  have d6 : ∀ f, (ah_up b 10 0 21 f) 10 0 6 = nI NS := fun f => by rw [← z4, ← y2]; rfl
  have d21 : ∀ f, (ah_up b 10 0 21 f) 10 0 21 = f := fun f => rfl
  have dk : ∀ (f : Int32) (k i j : Nat), k ≠ 10 → (ah_up b 10 0 21 f) k i j = b k i j := fun f k i j hk => by rw [ah_rk hk]
  obtain ⟨-, u2, u3, -⟩ := (r.2.2 s hs).2.2.2.2 p (by omega)
  obtain ⟨w23, -, w25, -⟩ := u3 h7
  have pg : b 23 0 (8 * s + p) = nI v := by rw [w23, ev]
  rw [Vi]
  simp only [xr_82_0, xr_82_1, xr_82_2, xr_82_3, xr_82_5, xr_82_8, xr_82_9]
  unfold sp_np
  rw [ev, ev2]
  refine Iff.trans (it0 (V := fun i => VV 82 (ah_up b 10 0 21 (nI (sp_f 99 (sp_nq (fun q => a 3 q 0) (fun q => a 3 q 1) (nI p) v i)))) 11 [some (.inr (10, 0)), some (.inl (nI s)), some (.inl (nI p)), some (.inl (sp_w (sp_nq (fun q => a 3 q 0) (fun q => a 3 q 1) (nI p) v i))), some (.inl (nI i)), none] [] (fun r h' => ∃ x, r = some x ∧ K x h')) NQ ?_) ?_
  · intro i hi
    obtain ⟨f1, f2, f3, f4⟩ := lx hi p3 (by omega)
    obtain ⟨er, er1, er2⟩ := (c.2.1 i hi).2.1
    have ec : (nI er).toNatClampNeg = er := nI_clamp (by omega)
    obtain ⟨w12, w13, -⟩ := r.2.1 i hi
    have hpl := sp_pop_le (v ^^^ er) 16
    have hle := sp_nq_le (pc := fun q => a 3 q 0) (er := fun q => a 3 q 1) (p := nI p) (v := v) i
    have cu : ∀ (g : AHp) K, Vi 81 g [some (.inl (nI er)), some (.inl (nI v)), none, none] K ↔ K (nI (sp_pop (v ^^^ er) 16)) g := fun g K => c_X3_unlike g (nx_xor_lt hv er1) (by rw [nx_xor, Nat.xor_comm]) K
    rw [xr_82_11]
    simp only [xr_82_0, xr_82_1, xr_82_2, xr_82_3, xr_82_5, xr_82_8, xr_82_9, xr_82_13, xr_82_14, xr_82_17, xr_82_20, xr_82_21, xr_82_24, xr_82_26, xr_82_27, xr_82_28, xr_82_31, xr_82_32, xr_82_35, xr_82_37, xr_82_38, xr_82_39, xr_82_42, xr_82_44, xr_82_45, xr_82_46, xr_82_47, xr_82_48, xr_82_49, xr_82_52, xr_82_53, xr_82_56, xr_82_59, xr_82_62, xr_82_63, xr_82_64, xr_82_67, xr_82_69, xr_82_70, xr_82_71, xr_82_74, xr_82_76, xr_82_77, xr_82_78, xr_82_79, xr_82_80, xr_82_81, xr_82_84, xr_82_87, xr_82_89, xr_82_90, xr_82_93, xr_82_96, xr_82_97, xr_82_101, xr_82_102, xr_82_105, xr_82_108, xr_82_110, xr_82_112, xr_82_113, xr_82_114, xr_82_115, xr_82_117, xr_82_119, xr_82_120, xr_82_123, xr_82_124, xr_82_127, xr_82_129, xr_82_130, xr_82_133, xr_82_134, xr_82_137, xr_82_139, xr_82_140, xr_82_141, xr_82_144, xr_82_146, xr_82_147, xr_82_148, xr_82_149, xr_82_150, xr_82_151, xr_82_154, xr_82_155, xr_82_158, xr_82_160, xr_82_161, xr_82_162, xr_82_165, xr_82_167, xr_82_168, xr_82_169, xr_82_170, xr_82_171, xr_82_172, xr_82_175, xr_82_176, xr_82_179, xr_82_182, xr_82_185, xr_82_186, xr_82_187, xr_82_190, xr_82_192, xr_82_193, xr_82_194, xr_82_197, xr_82_199, xr_82_200, xr_82_201, xr_82_202, xr_82_203, xr_82_204, xr_82_207, xr_82_210, xr_82_212, xr_82_214, xr_82_215, xr_82_216, xr_82_219, xr_82_222, xr_82_223, d1, d21, dk _ 12 _ _ (by omega), dk _ 13 _ _ (by omega), dk _ 23 _ _ (by omega), f1, f2, f3, f4, w12, w13, er2, ec, pg, e_8, e1, e2, cu, ix_i12, ix_i13, ix_i23, ah_up_up, true_and, not_false_iff, true_imp_iff, false_imp_iff, sp_nq]
    generalize sp_nq (fun q => a 3 q 0) (fun q => a 3 q 1) (nI p) v i = st at hle ⊢
    by_cases a1 : a 3 i 0 = nI p
    · cases st with
      | none =>
        have g1 : nI (sp_pop (v ^^^ er) 16) < nI 99 := nI_lt (by omega) (by omega)
        simp [a1, sp_nst, sp_w, sp_f, g1]
      | some u =>
        have hu := hle u rfl
        have g1 : nI (sp_pop (v ^^^ er) 16) < nI u.2 ↔ sp_pop (v ^^^ er) 16 < u.2 := nI_ltI (by omega) (by omega)
        by_cases g2 : sp_pop (v ^^^ er) 16 < u.2
        · simp only [a1, sp_nst, sp_w, sp_f, g1, g2, not_true, not_false_iff, true_imp_iff, false_imp_iff, true_and, and_true, and_self, if_true, decide_true]
        · simp only [a1, sp_nst, sp_w, sp_f, g1, g2, not_true, not_false_iff, true_imp_iff, false_imp_iff, true_and, and_true, and_false, if_false, decide_true]
    · cases st <;> simp [a1, sp_nst, sp_w, sp_f]
  · have hle1 := sp_nq_le (pc := fun q => a 3 q 0) (er := fun q => a 3 q 1) (p := nI p) (v := v) NQ
    generalize sp_nq (fun q => a 3 q 0) (fun q => a 3 q 1) (nI p) v NQ = st0 at hle1 ⊢
    rw [xr_82_11]
    simp only [xr_82_0, xr_82_1, xr_82_2, xr_82_3, xr_82_5, xr_82_8, xr_82_9, xr_82_13, xr_82_14, xr_82_17, xr_82_20, xr_82_21, xr_82_24, xr_82_26, xr_82_27, xr_82_28, xr_82_31, xr_82_32, xr_82_35, xr_82_37, xr_82_38, xr_82_39, xr_82_42, xr_82_44, xr_82_45, xr_82_46, xr_82_47, xr_82_48, xr_82_49, xr_82_52, xr_82_53, xr_82_56, xr_82_59, xr_82_62, xr_82_63, xr_82_64, xr_82_67, xr_82_69, xr_82_70, xr_82_71, xr_82_74, xr_82_76, xr_82_77, xr_82_78, xr_82_79, xr_82_80, xr_82_81, xr_82_84, xr_82_87, xr_82_89, xr_82_90, xr_82_93, xr_82_96, xr_82_97, xr_82_101, xr_82_102, xr_82_105, xr_82_108, xr_82_110, xr_82_112, xr_82_113, xr_82_114, xr_82_115, xr_82_117, xr_82_119, xr_82_120, xr_82_123, xr_82_124, xr_82_127, xr_82_129, xr_82_130, xr_82_133, xr_82_134, xr_82_137, xr_82_139, xr_82_140, xr_82_141, xr_82_144, xr_82_146, xr_82_147, xr_82_148, xr_82_149, xr_82_150, xr_82_151, xr_82_154, xr_82_155, xr_82_158, xr_82_160, xr_82_161, xr_82_162, xr_82_165, xr_82_167, xr_82_168, xr_82_169, xr_82_170, xr_82_171, xr_82_172, xr_82_175, xr_82_176, xr_82_179, xr_82_182, xr_82_185, xr_82_186, xr_82_187, xr_82_190, xr_82_192, xr_82_193, xr_82_194, xr_82_197, xr_82_199, xr_82_200, xr_82_201, xr_82_202, xr_82_203, xr_82_204, xr_82_207, xr_82_210, xr_82_212, xr_82_214, xr_82_215, xr_82_216, xr_82_219, xr_82_222, xr_82_223, d1, lxe, not_true, false_imp_iff, true_imp_iff, and_true]
    obtain ⟨t2, e3⟩ := it1 (V := fun i t => VV 82 (ah_up b 10 0 21 (nI (sp_f 99 (sp_nb (sp_cb a s p) (fun b => a 6 b p) v st0 i)))) 99 [some (.inr (10, 0)), some (.inl (nI s)), some (.inl (nI p)), some (.inl (sp_w (sp_nb (sp_cb a s p) (fun b => a 6 b p) v st0 i))), some (.inl (nI i)), t] [] (fun r h' => ∃ x, r = some x ∧ K x h')) NS (by
      intro i t hi
      obtain ⟨f1, f2, f3, f4⟩ := lx hi p4 (by omega)
      have hle := sp_nb_le (cb := sp_cb a s p) (pg := fun b => a 6 b p) (v := v) hle1 i
      have gis : nI i = nI s ↔ i = s := nI_eq (by omega) (by omega)
      obtain ⟨e5, e6⟩ := e_8i (show i < 8 by omega) (show p < 8 by omega)
      obtain ⟨-, x2, x3, -⟩ := (r.2.2 i hi).2.2.2.2 p (by omega)
      refine ⟨some (.inl (nI (8 * i + p))), ?_⟩
      rw [xr_82_99]
      by_cases b2 : a 7 i p = -1
      · have hz : b 22 0 (8 * i + p) = 0 := by rw [x2]; simp [b2]
        have hcf : sp_cb a s p i = false := by simp [sp_cb, b2]
        simp only [xr_82_0, xr_82_1, xr_82_2, xr_82_3, xr_82_5, xr_82_8, xr_82_9, xr_82_13, xr_82_14, xr_82_17, xr_82_20, xr_82_21, xr_82_24, xr_82_26, xr_82_27, xr_82_28, xr_82_31, xr_82_32, xr_82_35, xr_82_37, xr_82_38, xr_82_39, xr_82_42, xr_82_44, xr_82_45, xr_82_46, xr_82_47, xr_82_48, xr_82_49, xr_82_52, xr_82_53, xr_82_56, xr_82_59, xr_82_62, xr_82_63, xr_82_64, xr_82_67, xr_82_69, xr_82_70, xr_82_71, xr_82_74, xr_82_76, xr_82_77, xr_82_78, xr_82_79, xr_82_80, xr_82_81, xr_82_84, xr_82_87, xr_82_89, xr_82_90, xr_82_93, xr_82_96, xr_82_97, xr_82_101, xr_82_102, xr_82_105, xr_82_108, xr_82_110, xr_82_112, xr_82_113, xr_82_114, xr_82_115, xr_82_117, xr_82_119, xr_82_120, xr_82_123, xr_82_124, xr_82_127, xr_82_129, xr_82_130, xr_82_133, xr_82_134, xr_82_137, xr_82_139, xr_82_140, xr_82_141, xr_82_144, xr_82_146, xr_82_147, xr_82_148, xr_82_149, xr_82_150, xr_82_151, xr_82_154, xr_82_155, xr_82_158, xr_82_160, xr_82_161, xr_82_162, xr_82_165, xr_82_167, xr_82_168, xr_82_169, xr_82_170, xr_82_171, xr_82_172, xr_82_175, xr_82_176, xr_82_179, xr_82_182, xr_82_185, xr_82_186, xr_82_187, xr_82_190, xr_82_192, xr_82_193, xr_82_194, xr_82_197, xr_82_199, xr_82_200, xr_82_201, xr_82_202, xr_82_203, xr_82_204, xr_82_207, xr_82_210, xr_82_212, xr_82_214, xr_82_215, xr_82_216, xr_82_219, xr_82_222, xr_82_223, d6, dk _ 22 _ _ (by omega), f1, f4, gis, e_8, e5, e6, hz, ix_z22, true_and, not_true, not_false_iff, true_imp_iff, false_imp_iff, and_true, sp_nb, hcf]
        generalize sp_nb (sp_cb a s p) (fun b => a 6 b p) v st0 i = st
        cases st <;> by_cases b1 : i = s <;> simp [b1, sp_nst, sp_w, sp_f]
      · have hz : ¬ b 22 0 (8 * i + p) = 0 := by rw [x2]; simp [b2]
        obtain ⟨v23, -, -, v26⟩ := x3 b2
        obtain ⟨er, er1, er2⟩ := (c.2.2 i hi).2.2.2.2.1 p hp b2
        have ec : (nI er).toNatClampNeg = er := nI_clamp (by omega)
        have hpl := sp_pop_le (v ^^^ er) 16
        have cu : ∀ (g : AHp) K, Vi 81 g [some (.inl (nI er)), some (.inl (nI v)), none, none] K ↔ K (nI (sp_pop (v ^^^ er) 16)) g := fun g K => c_X3_unlike g (nx_xor_lt hv er1) (by rw [nx_xor, Nat.xor_comm]) K
        simp only [xr_82_0, xr_82_1, xr_82_2, xr_82_3, xr_82_5, xr_82_8, xr_82_9, xr_82_13, xr_82_14, xr_82_17, xr_82_20, xr_82_21, xr_82_24, xr_82_26, xr_82_27, xr_82_28, xr_82_31, xr_82_32, xr_82_35, xr_82_37, xr_82_38, xr_82_39, xr_82_42, xr_82_44, xr_82_45, xr_82_46, xr_82_47, xr_82_48, xr_82_49, xr_82_52, xr_82_53, xr_82_56, xr_82_59, xr_82_62, xr_82_63, xr_82_64, xr_82_67, xr_82_69, xr_82_70, xr_82_71, xr_82_74, xr_82_76, xr_82_77, xr_82_78, xr_82_79, xr_82_80, xr_82_81, xr_82_84, xr_82_87, xr_82_89, xr_82_90, xr_82_93, xr_82_96, xr_82_97, xr_82_101, xr_82_102, xr_82_105, xr_82_108, xr_82_110, xr_82_112, xr_82_113, xr_82_114, xr_82_115, xr_82_117, xr_82_119, xr_82_120, xr_82_123, xr_82_124, xr_82_127, xr_82_129, xr_82_130, xr_82_133, xr_82_134, xr_82_137, xr_82_139, xr_82_140, xr_82_141, xr_82_144, xr_82_146, xr_82_147, xr_82_148, xr_82_149, xr_82_150, xr_82_151, xr_82_154, xr_82_155, xr_82_158, xr_82_160, xr_82_161, xr_82_162, xr_82_165, xr_82_167, xr_82_168, xr_82_169, xr_82_170, xr_82_171, xr_82_172, xr_82_175, xr_82_176, xr_82_179, xr_82_182, xr_82_185, xr_82_186, xr_82_187, xr_82_190, xr_82_192, xr_82_193, xr_82_194, xr_82_197, xr_82_199, xr_82_200, xr_82_201, xr_82_202, xr_82_203, xr_82_204, xr_82_207, xr_82_210, xr_82_212, xr_82_214, xr_82_215, xr_82_216, xr_82_219, xr_82_222, xr_82_223, d6, d21, dk _ 22 _ _ (by omega), dk _ 23 _ _ (by omega), dk _ 25 _ _ (by omega), dk _ 26 _ _ (by omega), f1, f4, gis, e_8, e1, e2, e5, e6, hz, v23, v26, w25, er2, ec, pg, cu, ix_z22, ix_i23, ix_i25, ix_i26, ah_up_up, true_and, not_true, not_false_iff, true_imp_iff, false_imp_iff, and_true, sp_nb]
        generalize sp_nb (sp_cb a s p) (fun b => a 6 b p) v st0 i = st at hle ⊢
        by_cases b1 : i = s
        · have hcf : sp_cb a s p i = false := by simp [sp_cb, b1]
          rw [hcf]
          cases st <;> simp [b1, sp_nst, sp_w, sp_f]
        · rcases i32_c (a 8 s p) (a 9 i p) with ⟨b3, b4⟩ | ⟨b3, b4⟩
          · have hcf : sp_cb a s p i = false := by simp [sp_cb, b4]
            rw [hcf]
            cases st <;> simp [b1, b3, sp_nst, sp_w, sp_f]
          · have hcb : sp_cb a s p i = true := by simp [sp_cb, b1, b2, b3]
            rw [hcb]
            cases st with
            | none =>
              have g1 : nI (sp_pop (v ^^^ er) 16) < nI 99 := nI_lt (by omega) (by omega)
              simp [b1, b4, sp_nst, sp_w, sp_f, g1]
            | some u =>
              have hu := hle u rfl
              have g1 : nI (sp_pop (v ^^^ er) 16) < nI u.2 ↔ sp_pop (v ^^^ er) 16 < u.2 := nI_ltI (by omega) (by omega)
              by_cases g2 : sp_pop (v ^^^ er) 16 < u.2
              · simp only [b1, b4, sp_nst, sp_w, sp_f, g1, g2, not_true, not_false_iff, true_imp_iff, false_imp_iff, true_and, and_true, and_self, if_true]
              · simp only [b1, b4, sp_nst, sp_w, sp_f, g1, g2, not_true, not_false_iff, true_imp_iff, false_imp_iff, true_and, and_true, and_false, if_false]) none
    refine Iff.trans e3 ?_
    rw [xr_82_99]
    simp only [xr_82_0, xr_82_1, xr_82_2, xr_82_3, xr_82_5, xr_82_8, xr_82_9, xr_82_13, xr_82_14, xr_82_17, xr_82_20, xr_82_21, xr_82_24, xr_82_26, xr_82_27, xr_82_28, xr_82_31, xr_82_32, xr_82_35, xr_82_37, xr_82_38, xr_82_39, xr_82_42, xr_82_44, xr_82_45, xr_82_46, xr_82_47, xr_82_48, xr_82_49, xr_82_52, xr_82_53, xr_82_56, xr_82_59, xr_82_62, xr_82_63, xr_82_64, xr_82_67, xr_82_69, xr_82_70, xr_82_71, xr_82_74, xr_82_76, xr_82_77, xr_82_78, xr_82_79, xr_82_80, xr_82_81, xr_82_84, xr_82_87, xr_82_89, xr_82_90, xr_82_93, xr_82_96, xr_82_97, xr_82_101, xr_82_102, xr_82_105, xr_82_108, xr_82_110, xr_82_112, xr_82_113, xr_82_114, xr_82_115, xr_82_117, xr_82_119, xr_82_120, xr_82_123, xr_82_124, xr_82_127, xr_82_129, xr_82_130, xr_82_133, xr_82_134, xr_82_137, xr_82_139, xr_82_140, xr_82_141, xr_82_144, xr_82_146, xr_82_147, xr_82_148, xr_82_149, xr_82_150, xr_82_151, xr_82_154, xr_82_155, xr_82_158, xr_82_160, xr_82_161, xr_82_162, xr_82_165, xr_82_167, xr_82_168, xr_82_169, xr_82_170, xr_82_171, xr_82_172, xr_82_175, xr_82_176, xr_82_179, xr_82_182, xr_82_185, xr_82_186, xr_82_187, xr_82_190, xr_82_192, xr_82_193, xr_82_194, xr_82_197, xr_82_199, xr_82_200, xr_82_201, xr_82_202, xr_82_203, xr_82_204, xr_82_207, xr_82_210, xr_82_212, xr_82_214, xr_82_215, xr_82_216, xr_82_219, xr_82_222, xr_82_223, d6, lxe, not_true, false_imp_iff, true_imp_iff, and_true, ex_some]
end TR
