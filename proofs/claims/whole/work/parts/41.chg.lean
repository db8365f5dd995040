/-! ===== parent, changes: the calls ===== -/
section CH
variable {P NQ NS D : Nat} {a b : AHp} {s p : Nat}
theorem op_parent (h : AHp) (x y : Int32) (g : GG h) : Vi 47 h [some (.inr (0, 0)), some (.inl x), some (.inl y)] (fun r h1 => Vi 83 h1 [some (.inr (10, 0)), some (.inl x), some (.inl y)] (fun r2 h2 => r2 = r ∧ GG h2)) := by
  obtain ⟨P, NQ, NS, D, c, r⟩ := id g
  obtain ⟨⟨p1, p2, p3, p4, p5⟩, z2, z3, z4, z5, z6, z7⟩ := c.1
  obtain ⟨y0, y1, y2, y3, y4, y5⟩ := r.1
  have d0 : (ah_up h 10 0 20 0) 10 0 0 = nI P := by rw [← z2, ← y0]; rfl
  have d6 : (ah_up h 10 0 20 0) 10 0 6 = nI NS := by rw [← z4, ← y2]; rfl
  have cp := c_X2_hasPage (P := P) (NS := NS) h x y
  have cm := c_X3_isPage (P := P) (NS := NS) (ah_up h 10 0 20 0) x y
  by_cases c1 : (¬ x < 0 ∧ x < nI NS) ∧ (¬ y < 0 ∧ y < nI P)
  · obtain ⟨s, s1, rfl⟩ := in_nI (by omega) c1.1.1 c1.1.2
    obtain ⟨p, q1, rfl⟩ := in_nI (by omega) c1.2.1 c1.2.2
    have e3 : (nI s).toNatClampNeg = s := nI_clamp (by omega)
    have e4 : (nI p).toNatClampNeg = p := nI_clamp (by omega)
    obtain ⟨u1, u2, u3, u4⟩ := (r.2.2 s s1).2.2.2.2 p (by omega)
    by_cases c3 : h 7 s p = -1
    · have c4' : (ah_up h 10 0 20 0) 22 0 (8 * s + p) = 0 := by
        show h 22 0 (8 * s + p) = 0
        rw [u2]; simp [c3]
      rw [Vi]
      simp only [xr_47_0, xr_47_1, xr_47_2, xr_47_3, xr_47_6, xr_47_9, xr_47_10, xr_47_11, xr_47_12, xr_47_15, xr_47_18, xr_47_19, cp _ z4 p4 z2 p2, e3, e4, c1, c3, b01_z, b01_n, ex_some, not_true, not_false_iff, true_imp_iff, false_imp_iff, true_and, and_true, and_false]
      rw [Vi]
      simp only [xr_83_0, xr_83_1, xr_83_2, xr_83_5, xr_83_6, xr_83_7, xr_83_8, xr_83_11, xr_83_14, xr_83_15, xr_83_16, xr_83_17, xr_83_20, xr_83_23, xr_83_24, cm _ d6 p4 d0 p2, e3, e4, c1, c4', b01_z, b01_n, ex_some, not_true, not_false_iff, true_imp_iff, false_imp_iff, true_and, and_true, and_false]
      exact GG_thr g
    · have c4' : ¬ (ah_up h 10 0 20 0) 22 0 (8 * s + p) = 0 := by
        show ¬ h 22 0 (8 * s + p) = 0
        rw [u2]; simp [c3]
      have rr := rI_20 r
      rw [Vi]
      simp only [xr_47_0, xr_47_1, xr_47_2, xr_47_3, xr_47_6, xr_47_9, xr_47_10, xr_47_11, xr_47_12, xr_47_15, xr_47_18, xr_47_19, cp _ z4 p4 z2 p2, c_X2_nearest c s1 q1 c3, e3, e4, c1, c3, b01_z, b01_n, ex_some, not_true, not_false_iff, true_imp_iff, false_imp_iff, true_and, and_true]
      rw [Vi]
      simp only [xr_83_0, xr_83_1, xr_83_2, xr_83_5, xr_83_6, xr_83_7, xr_83_8, xr_83_11, xr_83_14, xr_83_15, xr_83_16, xr_83_17, xr_83_20, xr_83_23, xr_83_24, cm _ d6 p4 d0 p2, c_X3_parentOf c rr s1 q1 c3, e3, e4, c1, c4', b01_z, b01_n, ex_some, not_true, not_false_iff, true_imp_iff, false_imp_iff, true_and, and_true]
      exact GG_far (GG_thr g)
  · have c2 : ¬ ((¬ x < 0 ∧ x < nI NS) ∧ (¬ y < 0 ∧ y < nI P) ∧ ¬ h 7 x.toNatClampNeg y.toNatClampNeg = -1) := fun w => c1 ⟨w.1, w.2.1⟩
    have c3 : ¬ ((¬ x < 0 ∧ x < nI NS) ∧ (¬ y < 0 ∧ y < nI P) ∧ ¬ (ah_up h 10 0 20 0) 22 0 (8 * x.toNatClampNeg + y.toNatClampNeg) = 0) := fun w => c1 ⟨w.1, w.2.1⟩
    rw [Vi]
    simp only [xr_47_0, xr_47_1, xr_47_2, xr_47_3, xr_47_6, xr_47_9, xr_47_10, xr_47_11, xr_47_12, xr_47_15, xr_47_18, xr_47_19, cp _ z4 p4 z2 p2, c2, b01_z, b01_n, ex_some, not_true, not_false_iff, true_imp_iff, false_imp_iff, true_and, and_true]
    rw [Vi]
    simp only [xr_83_0, xr_83_1, xr_83_2, xr_83_5, xr_83_6, xr_83_7, xr_83_8, xr_83_11, xr_83_14, xr_83_15, xr_83_16, xr_83_17, xr_83_20, xr_83_23, xr_83_24, cm _ d6 p4 d0 p2, c3, b01_z, b01_n, ex_some, not_true, not_false_iff, true_imp_iff, false_imp_iff, true_and, and_true]
    exact GG_thr g
theorem m2_facts {n : Nat} (hn : n < 1000) : ¬ (-2 - nI n) = -1 ∧ (-2 - nI n) < 0 ∧ (-2 - nI n) + 1 < 0 ∧ -1 - ((-2 - nI n) + 1) = nI n := by
  have h2 : (-2 : Int32).toInt = -2 := by decide
  have h1 : (-1 : Int32).toInt = -1 := by decide
  have h0 : (0 : Int32).toInt = 0 := by decide
  have h3 : (1 : Int32).toInt = 1 := by decide
  have e : (-2 - nI n).toInt = -2 - (n : Int) := by
    rw [Int32.toInt_sub, h2, nI_toInt (by omega), Int.bmod_eq_of_le (by omega) (by omega)]
  have e2 : ((-2 - nI n) + 1).toInt = -1 - (n : Int) := by
    rw [Int32.toInt_add, e, h3, Int.bmod_eq_of_le (by omega) (by omega)]
    omega
  refine ⟨fun z => ?_, ?_, ?_, ?_⟩
  · have := congrArg Int32.toInt z
    rw [e, h1] at this
    omega
  · rw [Int32.lt_iff_toInt_lt, e, h0]; omega
  · rw [Int32.lt_iff_toInt_lt, e2, h0]; omega
  · apply Int32.toInt_inj.1
    rw [Int32.toInt_sub, h1, e2, nI_toInt (by omega), Int.bmod_eq_of_le (by omega) (by omega)]
    omega
theorem c_X2_unlikePlaces (c : cI P NQ NS D (fun _ => D) a) (hs : s < NS) (hp : p < P) (h7 : ¬ a 7 s p = -1) (K : Int32 → AHp → Prop) : Vi 48 a [some (.inr (0, 0)), some (.inl (nI s)), some (.inl (nI p)), some (.inl (sp_w (sp_np a NQ NS s p))), none] K ↔ K (nI (sp_f 0 (sp_np a NQ NS s p))) a := by
  obtain ⟨⟨p1, p2, p3, p4, p5⟩, z2, z3, z4, z5, z6, z7⟩ := c.1
  have s1 : vp_in (nI s) 8 := vp_in_nI (by omega) (by omega)
  have s2 : (nI s).toNatClampNeg = s := nI_clamp (by omega)
  have q1 : vp_in (nI p) 8 := vp_in_nI (by omega) (by omega)
  have q2 : (nI p).toNatClampNeg = p := nI_clamp (by omega)
  obtain ⟨v, hv, ev⟩ := (c.2.2 s hs).2.2.2.2.1 p hp h7
  have ev2 : (nI v).toNatClampNeg = v := nI_clamp (by omega)
  have cme : ∀ y K, Vi 20 a [some (.inr (0, 0)), some (.inl (nI p)), some (.inl y), none] K ↔ K (sp_me a NQ NS p y) a := fun y K => c_X2_modelErrors a y K hp z3 p3 z4 p4 z2 p2
  rw [Vi]
  cases hn : sp_np a NQ NS s p with
  | none =>
    simp only [xr_48_0, xr_48_1, xr_48_2, xr_48_5, xr_48_6, xr_48_7, xr_48_8, xr_48_9, xr_48_10, xr_48_13, xr_48_14, xr_48_17, xr_48_18, xr_48_19, xr_48_20, xr_48_23, xr_48_25, xr_48_26, xr_48_29, xr_48_30_1, xr_48_30_2, xr_48_31, xr_48_34, xr_48_35, xr_48_36, xr_48_38, xr_48_39, xr_48_42, sp_w, sp_f, ex_some, not_true, not_false_iff, true_imp_iff, false_imp_iff, true_and, and_true]
    exact Iff.rfl
  | some u =>
    have hu : ∃ er, er < 65536 ∧ ¬ u.1 = -1 ∧ (if u.1 < 0 then sp_me a NQ NS p (u.1 + 1) else sp_me a NQ NS p u.1) = nI er ∧ u.2 = sp_pop (v ^^^ er) 16 := by
      unfold sp_np at hn
      rw [ev, ev2] at hn
      rcases sp_nb_ok hn with hq | ⟨t, t1, t2, t3, t4⟩
      · obtain ⟨q, g1, g2, g3, g4⟩ := sp_nq_ok hq
        obtain ⟨er, er1, er2⟩ := (c.2.1 q g1).2.1
        have ec : (nI er).toNatClampNeg = er := nI_clamp (by omega)
        have qc : (nI q).toNatClampNeg = q := nI_clamp (by omega)
        have n0 : ¬ nI q < 0 := nI_pos (by omega)
        have n1 : nI q < nI NQ := nI_lt g1 (by omega)
        refine ⟨er, er1, by rw [g2]; exact nI_m1 (by omega), ?_, ?_⟩
        · rw [g2, if_neg n0]
          unfold sp_me
          rw [if_neg n0, qc, if_pos ⟨n1, g3⟩, er2]
        · rw [g4, er2, ec]
      · have t3' : ¬ t = s ∧ ¬ a 7 t p = -1 ∧ a 9 t p ≤ a 8 s p := by simpa [sp_cb] using t3
        obtain ⟨er, er1, er2⟩ := (c.2.2 t t1).2.2.2.2.1 p hp t3'.2.1
        have ec : (nI er).toNatClampNeg = er := nI_clamp (by omega)
        have tc : (nI t).toNatClampNeg = t := nI_clamp (by omega)
        obtain ⟨m1, m2, m3, m4⟩ := m2_facts (n := t) (by omega)
        refine ⟨er, er1, by rw [t2]; exact m1, ?_, ?_⟩
        · rw [t2, if_pos m2]
          unfold sp_me
          rw [if_pos m3, m4, tc, if_pos ⟨nI_pos (by omega), nI_lt t1 (by omega), t3'.2.1⟩, er2]
        · rw [t4, er2, ec]
    obtain ⟨er, er1, n1, e1, e2⟩ := hu
    have hb : bcI (nI v ^^^ nI er) = nI (sp_pop (v ^^^ er) 16) := by rw [nx_xor]; exact bcI_ok (nx_xor_lt hv er1)
    by_cases c0 : u.1 < 0
    · rw [if_pos c0] at e1
      simp only [xr_48_0, xr_48_1, xr_48_2, xr_48_5, xr_48_6, xr_48_7, xr_48_8, xr_48_9, xr_48_10, xr_48_13, xr_48_14, xr_48_17, xr_48_18, xr_48_19, xr_48_20, xr_48_23, xr_48_25, xr_48_26, xr_48_29, xr_48_30_1, xr_48_30_2, xr_48_31, xr_48_34, xr_48_35, xr_48_36, xr_48_38, xr_48_39, xr_48_42, cme, c_J6_bitCount, sp_w, sp_f, n1, c0, e1, e2, s1, s2, q1, q2, ev, hb, ix_i6, ex_some, not_true, not_false_iff, true_imp_iff, false_imp_iff, true_and, and_true]
    · rw [if_neg c0] at e1
      simp only [xr_48_0, xr_48_1, xr_48_2, xr_48_5, xr_48_6, xr_48_7, xr_48_8, xr_48_9, xr_48_10, xr_48_13, xr_48_14, xr_48_17, xr_48_18, xr_48_19, xr_48_20, xr_48_23, xr_48_25, xr_48_26, xr_48_29, xr_48_30_1, xr_48_30_2, xr_48_31, xr_48_34, xr_48_35, xr_48_36, xr_48_38, xr_48_39, xr_48_42, cme, c_J6_bitCount, sp_w, sp_f, n1, c0, e1, e2, s1, s2, q1, q2, ev, hb, ix_i6, ex_some, not_true, not_false_iff, true_imp_iff, false_imp_iff, true_and, and_true]
theorem op_changes (h : AHp) (x : Int32) (g : GG h) : Vi 49 h [some (.inr (0, 0)), some (.inl x), none, none] (fun r h1 => Vi 84 h1 [some (.inr (10, 0)), some (.inl x), none, none] (fun r2 h2 => r2 = r ∧ GG h2)) := by
  obtain ⟨P, NQ, NS, D, c, r⟩ := id g
  obtain ⟨⟨p1, p2, p3, p4, p5⟩, z2, z3, z4, z5, z6, z7⟩ := c.1
  obtain ⟨y0, y1, y2, y3, y4, y5⟩ := r.1
  have d0 : (ah_up h 10 0 20 0) 10 0 0 = nI P := by rw [← z2, ← y0]; rfl
  have d6 : (ah_up h 10 0 20 0) 10 0 6 = nI NS := by rw [← z4, ← y2]; rfl
  have rr := rI_20 r
  have hgb : GG (ah_up h 10 0 20 0) := GG_thr g
  by_cases c1 : ¬ x < 0 ∧ x < nI P
  · obtain ⟨p, hp, rfl⟩ := in_nI (by omega) c1.1 c1.2
    have q1 : vp_in (nI p) 8 := vp_in_nI (by omega) (by omega)
    have q2 : (nI p).toNatClampNeg = p := nI_clamp (by omega)
    have lp : ∀ Q, VV 49 h 14 [some (.inr (0, 0)), some (.inl (nI p)), some (.inl 0), some (.inl 0)] [] Q ↔ Q (some (nI (sp_chg h NQ NS p NS))) h := by
      intro Q
      refine Iff.trans (it0 (V := fun i => VV 49 h 14 [some (.inr (0, 0)), some (.inl (nI p)), some (.inl (nI (sp_chg h NQ NS p i))), some (.inl (nI i))] [] Q) NS ?_) ?_
      · intro i hi
        obtain ⟨f1, f2, f3, f4⟩ := lx hi p4 (by omega)
        rw [xr_49_14]
        by_cases a1 : h 7 i p = -1
        · simp only [xr_49_0, xr_49_1, xr_49_2, xr_49_5, xr_49_8, xr_49_9, xr_49_10, xr_49_11, xr_49_12, xr_49_13, xr_49_15, xr_49_16, xr_49_19, xr_49_22, xr_49_23, xr_49_26, xr_49_27_1, xr_49_27_2, xr_49_28, xr_49_29, xr_49_32, xr_49_35, xr_49_36, xr_49_37, xr_49_38, xr_49_39, xr_49_40, xr_49_41, xr_49_42, xr_49_45, xr_49_48, xr_49_49, xr_49_50, xr_49_53, xr_49_56, xr_49_57, z4, f1, f2, f3, f4, q1, q2, a1, c_X1_has, b01_z, true_and, not_true, not_false_iff, true_imp_iff, false_imp_iff, and_true, sp_chg, if_false, Nat.add_zero]
        · simp only [xr_49_0, xr_49_1, xr_49_2, xr_49_5, xr_49_8, xr_49_9, xr_49_10, xr_49_11, xr_49_12, xr_49_13, xr_49_15, xr_49_16, xr_49_19, xr_49_22, xr_49_23, xr_49_26, xr_49_27_1, xr_49_27_2, xr_49_28, xr_49_29, xr_49_32, xr_49_35, xr_49_36, xr_49_37, xr_49_38, xr_49_39, xr_49_40, xr_49_41, xr_49_42, xr_49_45, xr_49_48, xr_49_49, xr_49_50, xr_49_53, xr_49_56, xr_49_57, z4, f1, f2, f3, f4, q1, q2, a1, c_X1_has, c_X2_nearest c hi hp a1, c_X2_unlikePlaces c hi hp a1, b01_z, nI_add, true_and, not_true, not_false_iff, true_imp_iff, false_imp_iff, and_true, sp_chg, if_true]
      · rw [xr_49_14]
        simp only [xr_49_0, xr_49_1, xr_49_2, xr_49_5, xr_49_8, xr_49_9, xr_49_10, xr_49_11, xr_49_12, xr_49_13, xr_49_15, xr_49_16, xr_49_19, xr_49_22, xr_49_23, xr_49_26, xr_49_27_1, xr_49_27_2, xr_49_28, xr_49_29, xr_49_32, xr_49_35, xr_49_36, xr_49_37, xr_49_38, xr_49_39, xr_49_40, xr_49_41, xr_49_42, xr_49_45, xr_49_48, xr_49_49, xr_49_50, xr_49_53, xr_49_56, xr_49_57, z4, lxe, not_true, false_imp_iff, true_imp_iff, and_true]
    rw [Vi]
    simp only [xr_49_0, xr_49_1, xr_49_2, xr_49_5, xr_49_8, xr_49_9, xr_49_10, xr_49_11, xr_49_12, xr_49_13, c_X2_isPiece, z2, c1, b01_z, b01_n, ex_some, not_true, not_false_iff, true_imp_iff, false_imp_iff, true_and, and_true]
    rw [lp]
    refine ⟨_, rfl, ?_⟩
    rw [Vi]
    simp only [xr_84_0, xr_84_1, xr_84_2, xr_84_5, xr_84_6, xr_84_7, xr_84_10, xr_84_13, xr_84_14, xr_84_15, xr_84_16, xr_84_17, xr_84_18, c_X3_isPiece, d0, c1, b01_z, b01_n, ex_some, not_true, not_false_iff, true_imp_iff, false_imp_iff, true_and, and_true]
    generalize ah_up h 10 0 20 0 = b at d0 d6 rr hgb ⊢
    have lm : ∀ Q, (∀ f, Q (some (nI (sp_chg h NQ NS p NS))) (ah_up b 10 0 21 f)) → VV 84 b 19 [some (.inr (10, 0)), some (.inl (nI p)), some (.inl 0), some (.inl 0)] [] Q := by
      intro Q hQ
      have e6 : ∀ f, (ah_up b 10 0 21 f) 10 0 6 = nI NS := fun f => d6
      have e22 : ∀ f j, (ah_up b 10 0 21 f) 22 0 j = b 22 0 j := fun _ _ => rfl
      have e21 : ∀ f, (ah_up b 10 0 21 f) 10 0 21 = f := fun _ => rfl
      obtain ⟨t', e⟩ := it1 (V := fun i (t : Int32) => VV 84 (ah_up b 10 0 21 t) 19 [some (.inr (10, 0)), some (.inl (nI p)), some (.inl (nI (sp_chg h NQ NS p i))), some (.inl (nI i))] [] Q) NS (by
        intro i t hi
        obtain ⟨f1, f2, f3, f4⟩ := lx hi p4 (by omega)
        obtain ⟨g1, g2⟩ := e_8i (show i < 8 by omega) (show p < 8 by omega)
        obtain ⟨-, u2, -⟩ := (rr.2.2 i hi).2.2.2.2 p (by omega)
        by_cases a1 : h 7 i p = -1
        · have hz : b 22 0 (8 * i + p) = 0 := by rw [u2]; simp [a1]
          refine ⟨t, ?_⟩
          rw [xr_84_19]
          simp only [xr_84_0, xr_84_1, xr_84_2, xr_84_5, xr_84_6, xr_84_7, xr_84_10, xr_84_13, xr_84_14, xr_84_15, xr_84_16, xr_84_17, xr_84_18, xr_84_20, xr_84_21, xr_84_24, xr_84_27, xr_84_28, xr_84_31, xr_84_33, xr_84_34, xr_84_35, xr_84_36, xr_84_37, xr_84_38, xr_84_41, xr_84_44, xr_84_45, xr_84_46, xr_84_47, xr_84_50, xr_84_51, xr_84_54, xr_84_55, xr_84_56, xr_84_59, xr_84_60, xr_84_61, xr_84_64, xr_84_67, xr_84_68, e6, e22, f1, f4, e_8, g1, g2, hz, a1, ix_z22, true_and, not_true, not_false_iff, true_imp_iff, false_imp_iff, and_true, sp_chg, if_false, Nat.add_zero]
        · have hz : ¬ b 22 0 (8 * i + p) = 0 := by rw [u2]; simp [a1]
          have cpo := c_X3_parentOf c (rI_21 rr t) hi hp a1
          cases hn : sp_np h NQ NS i p with
          | none =>
            refine ⟨nI 99, ?_⟩
            rw [hn] at cpo
            simp only [sp_w, sp_f, ah_up_up] at cpo
            rw [xr_84_19]
            simp only [xr_84_0, xr_84_1, xr_84_2, xr_84_5, xr_84_6, xr_84_7, xr_84_10, xr_84_13, xr_84_14, xr_84_15, xr_84_16, xr_84_17, xr_84_18, xr_84_20, xr_84_21, xr_84_24, xr_84_27, xr_84_28, xr_84_31, xr_84_33, xr_84_34, xr_84_35, xr_84_36, xr_84_37, xr_84_38, xr_84_41, xr_84_44, xr_84_45, xr_84_46, xr_84_47, xr_84_50, xr_84_51, xr_84_54, xr_84_55, xr_84_56, xr_84_59, xr_84_60, xr_84_61, xr_84_64, xr_84_67, xr_84_68, e6, e22, f1, f4, e_8, g1, g2, hz, a1, hn, cpo, ix_z22, true_and, not_true, not_false_iff, true_imp_iff, false_imp_iff, and_true, sp_chg, sp_f, if_true, Nat.add_zero]
          | some u =>
            refine ⟨nI u.2, ?_⟩
            rw [hn] at cpo
            simp only [sp_w, sp_f, ah_up_up] at cpo
            have n1 : ¬ u.1 = -1 := by
              unfold sp_np at hn
              rcases sp_nb_ok hn with hq | ⟨t9, t1, t2, t3, t4⟩
              · obtain ⟨q, k1, k2, -⟩ := sp_nq_ok hq
                rw [k2]; exact nI_m1 (by omega)
              · rw [t2]; exact (m2_facts (n := t9) (by omega)).1
            rw [xr_84_19]
            simp only [xr_84_0, xr_84_1, xr_84_2, xr_84_5, xr_84_6, xr_84_7, xr_84_10, xr_84_13, xr_84_14, xr_84_15, xr_84_16, xr_84_17, xr_84_18, xr_84_20, xr_84_21, xr_84_24, xr_84_27, xr_84_28, xr_84_31, xr_84_33, xr_84_34, xr_84_35, xr_84_36, xr_84_37, xr_84_38, xr_84_41, xr_84_44, xr_84_45, xr_84_46, xr_84_47, xr_84_50, xr_84_51, xr_84_54, xr_84_55, xr_84_56, xr_84_59, xr_84_60, xr_84_61, xr_84_64, xr_84_67, xr_84_68, e6, e22, e21, f1, f4, e_8, g1, g2, hz, a1, hn, n1, cpo, nI_add, ix_z22, true_and, not_true, not_false_iff, true_imp_iff, false_imp_iff, and_true, sp_chg, sp_f, if_true]) (b 10 0 21)
      have e' : VV 84 b 19 [some (.inr (10, 0)), some (.inl (nI p)), some (.inl 0), some (.inl 0)] [] Q ↔ VV 84 (ah_up b 10 0 21 t') 19 [some (.inr (10, 0)), some (.inl (nI p)), some (.inl (nI (sp_chg h NQ NS p NS))), some (.inl (nI NS))] [] Q := by
        refine Iff.trans (Iff.of_eq (congrArg (fun g => VV 84 g 19 [some (.inr (10, 0)), some (.inl (nI p)), some (.inl 0), some (.inl 0)] [] Q) (ah_up_id (rfl : b 10 0 21 = b 10 0 21)).symm)) e
      rw [e', xr_84_19]
      simp only [xr_84_0, xr_84_1, xr_84_2, xr_84_5, xr_84_6, xr_84_7, xr_84_10, xr_84_13, xr_84_14, xr_84_15, xr_84_16, xr_84_17, xr_84_18, xr_84_20, xr_84_21, xr_84_24, xr_84_27, xr_84_28, xr_84_31, xr_84_33, xr_84_34, xr_84_35, xr_84_36, xr_84_37, xr_84_38, xr_84_41, xr_84_44, xr_84_45, xr_84_46, xr_84_47, xr_84_50, xr_84_51, xr_84_54, xr_84_55, xr_84_56, xr_84_59, xr_84_60, xr_84_61, xr_84_64, xr_84_67, xr_84_68, e6, lxe, not_true, false_imp_iff, true_imp_iff, and_true]
      exact hQ t'
    exact lm _ (fun f => ⟨_, rfl, rfl, GG_far hgb⟩)
  · rw [Vi]
    simp only [xr_49_0, xr_49_1, xr_49_2, xr_49_5, xr_49_8, xr_49_9, c_X2_isPiece, z2, c1, b01_z, b01_n, ex_some, not_true, not_false_iff, true_imp_iff, false_imp_iff, true_and, and_true]
    rw [Vi]
    simp only [xr_84_0, xr_84_1, xr_84_2, xr_84_5, xr_84_6, xr_84_7, xr_84_10, xr_84_13, xr_84_14, c_X3_isPiece, d0, c1, b01_z, b01_n, ex_some, not_true, not_false_iff, true_imp_iff, false_imp_iff, true_and, and_true]
    exact hgb
end CH
