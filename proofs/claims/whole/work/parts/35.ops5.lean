/-! ===== anew ===== -/
def md_me (b : AHp) (NQ NS p : Nat) (y : Int32) : Option Int32 := if y < 0 then (if (-1 - y) < nI NS ∧ ¬ b 22 0 (8 * (-1 - y).toNatClampNeg + p) = 0 then some (b 23 0 (8 * (-1 - y).toNatClampNeg + p)) else none) else (if y < nI NQ ∧ b 12 0 y.toNatClampNeg = nI p then some (b 13 0 y.toNatClampNeg) else none)
section O5
variable (h : AHp) (x y z : Int32) (K : Int32 → AHp → Prop) {P NQ NS D : Nat}
theorem c_X3_anew {q p : Nat} (b : AHp) (hq : q < NQ) (hQ : b 10 0 1 = nI NQ) (h20 : NQ ≤ 20) (hS : b 10 0 6 = nI NS) (h8 : NS ≤ 8) (hp : b 12 0 q = nI p) (hp8 : p < 8) (hz : ¬ z < 0 ∧ z ≤ 65535) : Vi 64 b [some (.inr (10, 0)), some (.inl (nI q)), some (.inl y), some (.inl z), none, none] K ↔ if b 15 0 q = -1 then (match md_me b NQ NS p y with | none => K (-1) (ah_up b 10 0 20 0) | some v => K (v ^^^ z) (ah_up (ah_up (ah_up b 10 0 20 0) 13 0 q (v ^^^ z)) 14 0 q 0)) else K (-1) (ah_up b 10 0 20 0) := by
  rw [Vi]
  have q0 : ¬ nI q < 0 := nI_pos (by omega)
  have q1 : nI q < nI NQ := nI_lt hq (by omega)
  have q2 : (nI q).toNatClampNeg = q := nI_clamp (by omega)
  have q3 : vp_in (nI q) 20 := vp_in_nI (by omega) (by omega)
  have d1 : (ah_up b 10 0 20 0) 10 0 1 = nI NQ := hQ
  have d6 : (ah_up b 10 0 20 0) 10 0 6 = nI NS := hS
  have d12 : ∀ j, (ah_up b 10 0 20 0) 12 0 j = b 12 0 j := fun _ => rfl
  have d13 : ∀ j, (ah_up b 10 0 20 0) 13 0 j = b 13 0 j := fun _ => rfl
  have d15 : ∀ j, (ah_up b 10 0 20 0) 15 0 j = b 15 0 j := fun _ => rfl
  have d22 : ∀ j, (ah_up b 10 0 20 0) 22 0 j = b 22 0 j := fun _ => rfl
  have d23 : ∀ j, (ah_up b 10 0 20 0) 23 0 j = b 23 0 j := fun _ => rfl
  have e13 : ∀ v, (ah_up (ah_up (ah_up b 10 0 20 0) 13 0 q v) 14 0 q 0) 13 0 q = v := fun v => by rw [ah_rk (by omega), ah_rd, if_pos (by simp)]
  simp only [xr_64_0, xr_64_1, xr_64_2, xr_64_5, xr_64_6, xr_64_7, xr_64_10, xr_64_13, xr_64_14, xr_64_17, xr_64_18, xr_64_19, xr_64_20, xr_64_23, xr_64_24, xr_64_27, xr_64_30, xr_64_31, xr_64_32, xr_64_33, xr_64_35, xr_64_36, xr_64_39, xr_64_40, xr_64_41, xr_64_44, xr_64_47, xr_64_48, xr_64_51, xr_64_52, xr_64_53, xr_64_54, xr_64_57, xr_64_58, xr_64_59, xr_64_62, xr_64_63, xr_64_64, xr_64_65, xr_64_68, xr_64_69, xr_64_70, xr_64_72, xr_64_75, xr_64_76, xr_64_77, xr_64_78, xr_64_80, xr_64_81, xr_64_83, xr_64_86, xr_64_89, xr_64_90, xr_64_93, xr_64_95, xr_64_97, xr_64_98, xr_64_99, xr_64_102, xr_64_103, xr_64_104, xr_64_105, xr_64_106, xr_64_109, xr_64_110, xr_64_111, xr_64_112, xr_64_115, xr_64_117, xr_64_119, xr_64_120, xr_64_121, xr_64_124, xr_64_125, xr_64_126, xr_64_127, xr_64_128, xr_64_130, xr_64_131, xr_64_134, xr_64_135, xr_64_137, xr_64_138, xr_64_139, xr_64_140, xr_64_141, xr_64_144, xr_64_145, xr_64_146, xr_64_147, xr_64_148, xr_64_151, xr_64_152, xr_64_153, c_X3_isQuire, c_X3_isScribe, c_X3_areBits, b01_z, b01_n, ex_some, d1, d6, d12, d13, d15, d22, d23, e13, ix_i12, ix_i13, ix_i14, ix_i15, ix_z22, ix_i23, q0, q1, q2, q3, hp, hz, not_true, not_false_iff, true_imp_iff, false_imp_iff, true_and, and_true]
  by_cases c0 : b 15 0 q = -1
  · unfold md_me
    by_cases c1 : y < 0
    · have c2 : ¬ (-1 - y) < 0 := m1_sub y c1
      by_cases c3 : (-1 - y) < nI NS
      · obtain ⟨s, s1, s2⟩ := in_nI (by omega) c2 c3
        have s3 : (nI s).toNatClampNeg = s := nI_clamp (by omega)
        have s4 : ¬ nI s < 0 := nI_pos (by omega)
        have s5 : nI s < nI NS := nI_lt s1 (by omega)
        obtain ⟨e1, e2⟩ := e_8i (show s < 8 by omega) hp8
        by_cases c4 : b 22 0 (8 * s + p) = 0
        · simp only [c0, c1, s2, s3, s4, s5, e_8, e1, e2, c4, not_true, not_false_iff, true_imp_iff, false_imp_iff, true_and, and_true, and_false, if_true, if_false]
        · simp only [c0, c1, s2, s3, s4, s5, e_8, e1, e2, c4, not_true, not_false_iff, true_imp_iff, false_imp_iff, true_and, and_true, and_self, if_true, if_false]
      · simp only [c0, c1, c2, c3, not_true, not_false_iff, true_imp_iff, false_imp_iff, true_and, and_true, and_false, false_and, if_true, if_false]
    · by_cases c3 : y < nI NQ
      · have v1 : vp_in y 20 := vp_of h20 (by omega) c1 c3
        by_cases c4 : b 12 0 y.toNatClampNeg = nI p
        · simp only [c0, c1, c3, c4, v1, not_true, not_false_iff, true_imp_iff, false_imp_iff, true_and, and_true, and_self, if_true, if_false]
        · simp only [c0, c1, c3, c4, v1, not_true, not_false_iff, true_imp_iff, false_imp_iff, true_and, and_true, and_false, if_true, if_false]
      · simp only [c0, c1, c3, not_true, not_false_iff, true_imp_iff, false_imp_iff, true_and, and_true, and_false, false_and, if_true, if_false]
  · simp only [c0, not_true, not_false_iff, true_imp_iff, false_imp_iff, true_and, and_true, if_false]
theorem me_eq {P NQ NS D p : Nat} {a b : AHp} (c : cI P NQ NS D (fun _ => D) a) (r : rI NQ NS a b) (hp : p < P) : md_me b NQ NS p y = if sp_me a NQ NS p y = -1 then none else some (sp_me a NQ NS p y) := by
  obtain ⟨⟨p1, p2, p3, p4, p5⟩, -⟩ := c.1
  unfold md_me sp_me
  by_cases c1 : y < 0
  · rw [if_pos c1, if_pos c1]
    have c2 : ¬ (-1 - y) < 0 := m1_sub y c1
    by_cases c3 : (-1 - y) < nI NS
    · obtain ⟨s, s1, s2⟩ := in_nI (by omega) c2 c3
      have s3 : (nI s).toNatClampNeg = s := nI_clamp (by omega)
      have s4 : ¬ nI s < 0 := nI_pos (by omega)
      have s5 : nI s < nI NS := nI_lt s1 (by omega)
      obtain ⟨u1, u2, u3, u4⟩ := (r.2.2 s s1).2.2.2.2 p (by omega)
      rw [s2, s3]
      by_cases c4 : a 7 s p = -1
      · rw [u2]; simp [c4]
      · obtain ⟨v, v1, v2⟩ := (c.2.2 s s1).2.2.2.2.1 p hp c4
        have n1 : ¬ nI v = -1 := nI_m1 (by omega)
        rw [u2, (u3 c4).1]
        simp [c4, s4, s5, v2, n1]
    · simp [c3]
  · rw [if_neg c1, if_neg c1]
    by_cases c3 : y < nI NQ
    · obtain ⟨q, q1, q2⟩ := in_nI (by omega) c1 c3
      have q3 : (nI q).toNatClampNeg = q := nI_clamp (by omega)
      have q4 : nI q < nI NQ := nI_lt q1 (by omega)
      obtain ⟨w1, w2, -⟩ := r.2.1 q q1
      obtain ⟨e, e1, e2⟩ := (c.2.1 q q1).2.1
      have n1 : ¬ nI e = -1 := nI_m1 (by omega)
      rw [q2, q3, w1, w2]
      by_cases c4 : a 3 q 0 = nI p
      · simp [c4, q4, e2, n1]
      · simp [c4]
    · simp [c3]
theorem op_anew (g : GG h) : Vi 21 h [some (.inr (0, 0)), some (.inl x), some (.inl y), some (.inl z), none, none] (fun r h1 => Vi 64 h1 [some (.inr (10, 0)), some (.inl x), some (.inl y), some (.inl z), none, none] (fun r2 h2 => r2 = r ∧ GG h2)) := by
  obtain ⟨P, NQ, NS, D, c, r⟩ := id g
  obtain ⟨⟨p1, p2, p3, p4, p5⟩, z2, z3, z4, z5, z6, z7⟩ := c.1
  obtain ⟨y0, y1, y2, y3, y4, y5⟩ := r.1
  have fin : True ∧ GG (ah_up h 10 0 20 0) := ⟨trivial, GG_thr g⟩
  have d1 : (ah_up h 10 0 20 0) 10 0 1 = nI NQ := by rw [← z3, ← y1]; rfl
  by_cases c1 : ¬ x < 0 ∧ x < nI NQ
  · obtain ⟨q, hq, rfl⟩ := in_nI (by omega) c1.1 c1.2
    obtain ⟨⟨p, hp, hp0⟩, -, -, -⟩ := c.2.1 q hq
    have q2 : (nI q).toNatClampNeg = q := nI_clamp (by omega)
    have q3 : vp_in (nI q) 20 := vp_in_nI (by omega) (by omega)
    by_cases c2 : ¬ z < 0 ∧ z ≤ 65535
    · have cm : ∀ (K : Int32 → AHp → Prop), Vi 20 h [some (.inr (0, 0)), some (.inl (nI p)), some (.inl y), none] K ↔ K (sp_me h NQ NS p y) h := fun K => c_X2_modelErrors (P := P) (NQ := NQ) (NS := NS) h y K hp z3 p3 z4 p4 z2 p2
      have p8 : p < 8 := by omega
      rw [Vi]
      simp only [xr_21_0, xr_21_1, xr_21_2, xr_21_5, xr_21_8, xr_21_9, xr_21_12, xr_21_15, xr_21_16, xr_21_17, xr_21_18, xr_21_21, xr_21_22_1, xr_21_22_2, xr_21_23, xr_21_25, xr_21_26, xr_21_28, xr_21_31, xr_21_32, xr_21_35, xr_21_37, xr_21_39, xr_21_42, xr_21_45, xr_21_47, xr_21_48, xr_21_51, xr_21_52, xr_21_53, xr_21_55, xr_21_57, xr_21_60, xr_21_62, xr_21_63, xr_21_64, xr_21_67, xr_21_69, xr_21_72, c_X2_isQuire, c_X2_isBits, c_X0_isOnShelf, c_X0_begin, b01_z, b01_n, ex_some, z3, c1, c2, q2, q3, hp0, not_true, not_false_iff, true_imp_iff, false_imp_iff, true_and, and_true]
      rw [cm]
      have hm12 : h 12 0 q = nI p := by rw [(r.2.1 q hq).1, hp0]
      have hm15 : h 15 0 q = h 3 q 3 := (r.2.1 q hq).2.2.2
      have hme := me_eq y c r hp
      by_cases c3 : h 3 q 3 = -1
      · by_cases c4 : sp_me h NQ NS p y = -1
        · simp only [c3, c4, not_true, not_false_iff, true_imp_iff, false_imp_iff, true_and, and_true]
          rw [c_X3_anew (NQ := NQ) (NS := NS) y z _ h hq (by rw [y1, z3]) p3 (by rw [y2, z4]) p4 hm12 p8 c2, hm15, if_pos c3, hme, if_pos c4]
          exact ⟨rfl, GG_thr g⟩
        · simp only [c3, c4, not_true, not_false_iff, true_imp_iff, false_imp_iff, true_and, and_true]
          rw [hp0]
          generalize hv : sp_me h NQ NS p y = v at c4 hme ⊢
          have hb : ∀ k, k ≠ 3 → (ah_up (ah_up (ah_up (ah_up h 3 q 0 (nI p)) 3 q 1 (v ^^^ z)) 3 q 2 0) 3 q 3 (-1)) k = h k := fun k hk => by rw [ah_rk hk, ah_rk hk, ah_rk hk, ah_rk hk]
          have e1 : (ah_up (ah_up (ah_up (ah_up h 3 q 0 (nI p)) 3 q 1 (v ^^^ z)) 3 q 2 0) 3 q 3 (-1)) 3 q 1 = v ^^^ z := by simp [ah_rd]
          rw [c_X3_anew (NQ := NQ) (NS := NS) y z _ _ hq (by rw [hb 10 (by omega), y1, z3]) p3 (by rw [hb 10 (by omega), y2, z4]) p4 (by rw [hb 12 (by omega)]; exact hm12) p8 c2, hb 15 (by omega), hm15, if_pos c3]
          have hme2 : md_me (ah_up (ah_up (ah_up (ah_up h 3 q 0 (nI p)) 3 q 1 (v ^^^ z)) 3 q 2 0) 3 q 3 (-1)) NQ NS p y = some v := by
            have : md_me (ah_up (ah_up (ah_up (ah_up h 3 q 0 (nI p)) 3 q 1 (v ^^^ z)) 3 q 2 0) 3 q 3 (-1)) NQ NS p y = md_me h NQ NS p y := by
              unfold md_me
              simp only [hb 22 (by omega), hb 23 (by omega), hb 12 (by omega), hb 13 (by omega)]
            rw [this, hme, if_neg c4]
          rw [hme2]
          show v ^^^ z = _ ∧ GG _
          rw [e1]
          refine ⟨rfl, ?_⟩
          rcases sp_me_ok y c hp with hn | ⟨e, he, hen⟩
          · rw [hv] at hn; exact absurd hn c4
          · rw [hv] at hen
            obtain ⟨zb, hzb, rfl⟩ := in_nIl (N := 65535) (by omega) c2.1 c2.2
            have hx : v ^^^ nI zb = nI (e ^^^ zb) := by rw [hen, nx_xor]
            have hxl : e ^^^ zb < 65536 := nx_xor_lt he (by omega)
            rw [hx]
            generalize hg : ah_up (ah_up (ah_up (ah_up (ah_up (ah_up (ah_up h 3 q 0 (nI p)) 3 q 1 (nI (e ^^^ zb))) 3 q 2 0) 3 q 3 (-1)) 10 0 20 0) 13 0 q (nI (e ^^^ zb))) 14 0 q 0 = w
            have k3 : ∀ q' j, w 3 q' j = if q' = q ∧ j = 3 then -1 else if q' = q ∧ j = 2 then 0 else if q' = q ∧ j = 1 then nI (e ^^^ zb) else if q' = q ∧ j = 0 then nI p else h 3 q' j := by intro q' j; rw [← hg]; simp [ah_rd]
            have k13 : ∀ j, w 13 0 j = if j = q then nI (e ^^^ zb) else h 13 0 j := by intro j; rw [← hg]; simp [ah_rd]
            have k14 : ∀ j, w 14 0 j = if j = q then 0 else h 14 0 j := by intro j; rw [← hg]; simp [ah_rd]
            have k10 : ∀ j, j < 20 → w 10 0 j = h 10 0 j := by intro j hj; rw [← hg]; simp [ah_rd, show ¬ j = 20 by omega]
            have ko : ∀ k, k ≠ 3 → k ≠ 10 → k ≠ 13 → k ≠ 14 → w k = h k := by intro k h1 h2 h3 h4; rw [← hg]; repeat rw [ah_rk (by omega)]
            clear hg
            obtain ⟨c0, cq, cs⟩ := c
            obtain ⟨-, rq, rs⟩ := r
            have kk : ∀ k, (k ≠ 3 ∧ k < 10) ∨ k = 12 ∨ 15 ≤ k → w k = h k := fun k hk => ko k (by omega) (by omega) (by omega) (by omega)
            refine ⟨P, NQ, NS, D, ⟨?_, fun q' hq' => ?_, fun t ht => ?_⟩, ⟨⟨?_, ?_, ?_, ?_, ?_, ?_⟩, fun q' hq' => ?_, fun t ht => ?_⟩⟩
            · unfold cI_0; rw [kk 0 (by omega)]; exact c0
            · unfold cI_q
              rw [k3, k3, k3, k3]
              by_cases hqq : q' = q
              · subst hqq
                simp
                exact ⟨⟨p, hp, rfl⟩, ⟨_, hxl, rfl⟩, ⟨0, by omega, rfl⟩⟩
              · simp [hqq]
                exact cq q' hq'
            · refine cI_s_congr (by rw [kk 4 (by omega)]) (by rw [kk 5 (by omega)]) (by rw [kk 6 (by omega)]) (by rw [kk 7 (by omega)]) (fun q' _ => ?_) (cs t ht)
              rw [k3]
              by_cases hqq : q' = q
              · subst hqq; simp [hp0]
              · simp [hqq]
            · rw [k10 _ (by omega), kk 0 (by omega)]; exact y0
            · rw [k10 _ (by omega), kk 0 (by omega)]; exact y1
            · rw [k10 _ (by omega), kk 0 (by omega)]; exact y2
            · rw [k10 _ (by omega), kk 0 (by omega)]; exact y3
            · rw [k10 _ (by omega), kk 0 (by omega)]; exact y4
            · rw [k10 _ (by omega), kk 0 (by omega)]; exact y5
            · obtain ⟨w1, w2, w3, w4⟩ := rq q' hq'
              unfold rI_q
              rw [k3, k3, k3, k3, kk 12 (by omega), k13, k14, kk 15 (by omega)]
              by_cases hqq : q' = q
              · subst hqq
                simp
                exact ⟨hm12, by rw [hm15]; exact c3⟩
              · simp [hqq]
                exact ⟨w1, w2, w3, w4⟩
            · have v9 := rs t ht
              unfold rI_s rI_p at v9 ⊢
              simp only [kk 0 (by omega), kk 4 (by omega), kk 5 (by omega), kk 6 (by omega), kk 7 (by omega), kk 8 (by omega), kk 9 (by omega), kk 17 (by omega), kk 18 (by omega), kk 19 (by omega), kk 20 (by omega), kk 21 (by omega), kk 22 (by omega), kk 23 (by omega), kk 24 (by omega), kk 25 (by omega), kk 26 (by omega)]
              exact v9
      · simp only [c3, not_true, not_false_iff, true_imp_iff, false_imp_iff, true_and, and_true]
        rw [c_X3_anew (NQ := NQ) (NS := NS) y z _ h hq (by rw [y1, z3]) p3 (by rw [y2, z4]) p4 hm12 p8 c2, hm15, if_neg c3]
        exact ⟨rfl, GG_thr g⟩
    · rw [Vi]
      simp only [xr_21_0, xr_21_1, xr_21_2, xr_21_5, xr_21_8, xr_21_9, xr_21_12, xr_21_15, xr_21_16, xr_21_17, xr_21_18, xr_21_21, xr_21_22_1, xr_21_22_2, xr_21_23, xr_21_25, xr_21_26, xr_21_28, xr_21_31, xr_21_32, xr_21_35, xr_21_37, xr_21_39, xr_21_42, xr_21_45, xr_21_47, xr_21_48, xr_21_51, xr_21_52, xr_21_53, xr_21_55, xr_21_57, xr_21_60, xr_21_62, xr_21_63, xr_21_64, xr_21_67, xr_21_69, xr_21_72, c_X2_isQuire, c_X2_isBits, b01_z, b01_n, ex_some, z3, c1, c2, not_true, not_false_iff, true_imp_iff, false_imp_iff, true_and, and_true]
      rw [Vi]
      simp only [xr_64_0, xr_64_1, xr_64_2, xr_64_5, xr_64_6, xr_64_7, xr_64_10, xr_64_13, xr_64_14, xr_64_17, xr_64_18, xr_64_19, xr_64_20, xr_64_23, xr_64_24, xr_64_27, xr_64_30, xr_64_31, c_X3_isQuire, c_X3_areBits, b01_z, b01_n, ex_some, d1, c1, c2, q2, q3, ix_i15, not_true, not_false_iff, true_imp_iff, false_imp_iff, true_and, and_true]
      exact ⟨fun _ => fin.2, fun _ => fin.2⟩
  · rw [Vi]
    simp only [xr_21_0, xr_21_1, xr_21_2, xr_21_5, xr_21_8, xr_21_9, xr_21_12, xr_21_15, xr_21_16, xr_21_17, xr_21_18, xr_21_21, xr_21_22_1, xr_21_22_2, xr_21_23, xr_21_25, xr_21_26, xr_21_28, xr_21_31, xr_21_32, xr_21_35, xr_21_37, xr_21_39, xr_21_42, xr_21_45, xr_21_47, xr_21_48, xr_21_51, xr_21_52, xr_21_53, xr_21_55, xr_21_57, xr_21_60, xr_21_62, xr_21_63, xr_21_64, xr_21_67, xr_21_69, xr_21_72, c_X2_isQuire, b01_z, b01_n, ex_some, z3, c1, not_true, not_false_iff, true_imp_iff, false_imp_iff, true_and, and_true]
    rw [Vi]
    simp only [xr_64_0, xr_64_1, xr_64_2, xr_64_5, xr_64_6, xr_64_7, xr_64_10, xr_64_30, xr_64_31, c_X3_isQuire, b01_z, b01_n, ex_some, d1, c1, not_true, not_false_iff, true_imp_iff, false_imp_iff, true_and, and_true]
    exact fin.2
end O5
