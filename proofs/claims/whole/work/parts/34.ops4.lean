/-! ===== scribe, anew ===== -/
section O4
variable (h : AHp) (x y z : Int32) (K : Int32 → AHp → Prop) {P NQ NS D : Nat}
theorem op_scribe (g : GG h) : Vi 22 h [some (.inr (0, 0)), some (.inl x)] (fun r h1 => Vi 65 h1 [some (.inr (10, 0)), some (.inl x), none] (fun r2 h2 => r2 = r ∧ GG h2)) := by
  obtain ⟨P, NQ, NS, D, c, r⟩ := id g
  obtain ⟨⟨p1, p2, p3, p4, p5⟩, z2, z3, z4, z5, z6, z7⟩ := c.1
  obtain ⟨y0, y1, y2, y3, y4, y5⟩ := r.1
  rw [c_X2_scribe h x _ z4 p4]
  by_cases hc : (¬ x < 1 ∧ ¬ 9 < x) ∧ NS < 8
  · rw [if_pos hc]
    have hb10 : (ah_up (sp_beg h NS x (h 0 0 5)) 0 0 4 (nI (NS + 1))) 10 = h 10 := by
      rw [ah_rk (by omega)]
      unfold sp_beg
      rw [ah_rk (by omega), ah_rk (by omega), ah_rk (by omega), ah_rk (by omega)]
      funext i j
      simp [ah_fill]
    rw [c_X3_scribe (NS := NS) _ x _ (by rw [hb10, y2, z4]) p4, if_pos hc]
    refine ⟨rfl, ?_⟩
    obtain ⟨⟨hx0, hx1⟩, hlt⟩ := hc
    obtain ⟨pa, pa1, pa2, rfl⟩ := in_rng (lo := 1) (N := 9) (by omega) (by omega) hx0 hx1
    generalize hg : ah_up (md_clr (md_beg (ah_up (sp_beg h NS (nI pa) (h 0 0 5)) 0 0 4 (nI (NS + 1))) NS (nI pa)) NS 8) 10 0 6 (nI (NS + 1)) = w
    have t17 : (ah_up (sp_beg h NS (nI pa) (h 0 0 5)) 0 0 4 (nI (NS + 1))) 10 0 17 = nI D := by rw [hb10, y3, z5]
    have k0 : ∀ j, w 0 0 j = if j = 4 then nI (NS + 1) else h 0 0 j := by
      intro j; rw [← hg, ah_rk (by omega), md_clr_k (by omega)]
      unfold md_beg
      rw [ah_rk (by omega), ah_rk (by omega), ah_rk (by omega), ah_rk (by omega), ah_rk (by omega), ah_rd]
      unfold sp_beg
      rw [ah_rk (by omega), ah_rk (by omega), ah_rk (by omega), ah_rk (by omega)]
      simp [ah_fill]
    have kc : ∀ k, 1 ≤ k → k < 10 → w k = sp_beg h NS (nI pa) (nI D) k := by
      intro k h1 h2
      rw [← hg, ah_rk (by omega), md_clr_k (by omega)]
      unfold md_beg
      rw [ah_rk (by omega), ah_rk (by omega), ah_rk (by omega), ah_rk (by omega), ah_rk (by omega), ah_rk (by omega), z5]
    have k3 : w 3 = h 3 := by
      rw [kc 3 (by omega) (by omega)]
      unfold sp_beg
      rw [ah_rk (by omega), ah_rk (by omega), ah_rk (by omega), ah_rk (by omega)]
      funext i j; simp [ah_fill]
    have ko : ∀ k t, 4 ≤ k → k < 10 → t ≠ NS → w k t = h k t := by
      intro k t h1 h2 h3
      rw [kc k (by omega) h2]
      funext j
      unfold sp_beg
      simp [ah_rd, ah_fill, h3]
    have k4 : ∀ j, w 4 NS j = if j = 8 then -1 else if j = 7 then nI D else if j = 6 then 0 else if j = 5 then nI pa else h 4 NS j := by
      intro j
      rw [kc 4 (by omega) (by omega)]
      unfold sp_beg
      simp [ah_rd, ah_fill]
    have k5 : ∀ j, j < 8 → w 5 NS j = 0 := by
      intro j hj
      rw [kc 5 (by omega) (by omega)]
      unfold sp_beg
      simp [ah_rd, ah_fill, hj]
    have k7 : ∀ j, j < 8 → w 7 NS j = -1 := by
      intro j hj
      rw [kc 7 (by omega) (by omega)]
      unfold sp_beg
      simp [ah_rd, ah_fill, hj]
    have hold : ∀ k, 10 < k → (ah_up (sp_beg h NS (nI pa) (h 0 0 5)) 0 0 4 (nI (NS + 1))) k = h k := by
      intro k hk
      rw [ah_rk (by omega)]
      unfold sp_beg
      rw [ah_rk (by omega), ah_rk (by omega), ah_rk (by omega), ah_rk (by omega)]
      funext i j
      simp [ah_fill, show ¬ k = 7 by omega, show ¬ k = 5 by omega]
    have m10 : ∀ j, j < 20 → w 10 0 j = if j = 6 then nI (NS + 1) else h 10 0 j := by
      intro j hj
      rw [← hg, ah_rd, md_clr_k (by omega)]
      unfold md_beg
      rw [ah_rk (by omega), ah_rk (by omega), ah_rk (by omega), ah_rk (by omega), ah_rd, hb10]
      simp [show ¬ j = 20 by omega]
    have m17 : ∀ t, w 17 0 t = if t = NS then nI pa else h 17 0 t := by
      intro t
      rw [← hg, ah_rk (by omega), md_clr_k (by omega)]
      unfold md_beg
      rw [ah_rk (by omega), ah_rk (by omega), ah_rk (by omega), ah_rd, ah_rk (by omega), hold 17 (by omega)]
      simp
    have m18 : ∀ t, w 18 0 t = if t = NS then nI D else h 18 0 t := by
      intro t
      rw [← hg, ah_rk (by omega), md_clr_k (by omega)]
      unfold md_beg
      rw [ah_rk (by omega), ah_rk (by omega), ah_rd, t17, ah_rk (by omega), ah_rk (by omega), hold 18 (by omega)]
      simp
    have m19 : ∀ t, w 19 0 t = if t = NS then -1 else h 19 0 t := by
      intro t
      rw [← hg, ah_rk (by omega), md_clr_k (by omega)]
      unfold md_beg
      rw [ah_rk (by omega), ah_rd, ah_rk (by omega), ah_rk (by omega), ah_rk (by omega), hold 19 (by omega)]
      simp
    have m20 : ∀ t, w 20 0 t = if t = NS then -1 else h 20 0 t := by
      intro t
      rw [← hg, ah_rk (by omega), md_clr_k (by omega)]
      unfold md_beg
      rw [ah_rd, ah_rk (by omega), ah_rk (by omega), ah_rk (by omega), ah_rk (by omega), hold 20 (by omega)]
      simp
    have mb : ∀ k, 20 < k → (md_beg (ah_up (sp_beg h NS (nI pa) (h 0 0 5)) 0 0 4 (nI (NS + 1))) NS (nI pa)) k = h k := by
      intro k hk
      unfold md_beg
      rw [ah_rk (by omega), ah_rk (by omega), ah_rk (by omega), ah_rk (by omega), ah_rk (by omega), hold k (by omega)]
    have m21 : ∀ k j, (k = 21 ∨ k = 22) → w k 0 j = if 8 * NS ≤ j ∧ j < 8 * NS + 8 then 0 else h k 0 j := by
      intro k j hk
      rw [← hg, ah_rk (by omega)]
      unfold md_clr
      rw [mb k (by omega)]
      simp only [hk, true_and]
    have mo : ∀ k, (11 ≤ k ∧ k ≤ 16) ∨ 22 < k → w k = h k := by
      intro k hk
      rw [← hg, ah_rk (by omega), md_clr_k (by omega)]
      unfold md_beg
      rw [ah_rk (by omega), ah_rk (by omega), ah_rk (by omega), ah_rk (by omega), ah_rk (by omega), hold k (by omega)]
    clear hg
    obtain ⟨-, cq, cs⟩ := c
    obtain ⟨-, rq, rs⟩ := r
    refine ⟨P, NQ, NS + 1, D, ⟨⟨⟨p1, p2, p3, by omega, p5⟩, ?_, ?_, ?_, ?_, ?_, ?_⟩, fun q hq => ?_, fun t ht => ?_⟩, ⟨⟨?_, ?_, ?_, ?_, ?_, ?_⟩, fun q hq => ?_, fun t ht => ?_⟩⟩
    · rw [k0]; simp [z2]
    · rw [k0]; simp [z3]
    · rw [k0]; simp
    · rw [k0]; simp [z5]
    · rw [k0]; simpa using z6
    · rw [k0]; simpa using z7
    · obtain ⟨x1, x2, x3, x4⟩ := cq q hq
      unfold cI_q
      rw [k3]
      refine ⟨x1, x2, x3, ?_⟩
      rcases x4 with x4 | ⟨s', s1, s2⟩
      · exact Or.inl x4
      · exact Or.inr ⟨s', by omega, s2⟩
    · by_cases htn : t = NS
      · subst htn
        unfold cI_s
        have hz : sp_cnt (fun p => decide (¬ w 7 t p = -1)) P = 0 := by
          have e : sp_cnt (fun p => decide (¬ w 7 t p = -1)) P = sp_cnt (fun _ => false) P := sp_cnt_congr (fun p hp => by simp [k7 p (by omega)])
          rw [e]
          have : ∀ n, sp_cnt (fun _ => false) n = 0 := by
            intro n
            induction n with
            | zero => rfl
            | succ n ih => rw [sp_cnt, ih]; simp
          exact this P
        rw [k4 5, k4 6, k4 7, k4 8, hz]
        simp
        refine ⟨⟨pa, pa1, pa2, rfl⟩, rfl, ⟨D, Nat.le_refl D, rfl⟩, fun p hp => ⟨0, by omega, ?_⟩, fun p hp hne => ?_⟩
        · rw [k5 p hp]; rfl
        · exact absurd (k7 p (by omega)) hne
      · exact cI_s_congr (ko 4 t (by omega) (by omega) htn) (ko 5 t (by omega) (by omega) htn) (ko 6 t (by omega) (by omega) htn) (ko 7 t (by omega) (by omega) htn) (fun q _ => by rw [k3]) (cs t (by omega))
    · rw [k0, m10 _ (by omega)]; simp [y0]
    · rw [k0, m10 _ (by omega)]; simp [y1]
    · rw [k0, m10 _ (by omega)]; simp
    · rw [k0, m10 _ (by omega)]; simp [y3]
    · rw [k0, m10 _ (by omega)]; simp [y4]
    · rw [k0, m10 _ (by omega)]; simp [y5]
    · unfold rI_q
      rw [k3, mo 12 (by omega), mo 13 (by omega), mo 14 (by omega), mo 15 (by omega)]
      exact rq q hq
    · have k02 : w 0 0 2 = nI P := by rw [k0]; simp [z2]
      by_cases htn : t = NS
      · subst htn
        unfold rI_s
        rw [m17, m18, m19, m20, k4 5, k4 6, k4 7, k4 8, k02]
        have n0 : ¬ nI P ≤ 0 := nI_nle (by omega) (by omega)
        simp [n0]
        intro p hp
        unfold rI_p
        rw [m21 21 _ (by omega), m21 22 _ (by omega), k7 p hp, k5 p hp, k4 8, if_pos (by omega), if_pos (by omega)]
        simp
      · obtain ⟨v1, v2, v3, v4, v5⟩ := rs t (by omega)
        unfold rI_s
        rw [m17, m18, m19, m20, ko 4 t (by omega) (by omega) htn, k02, if_neg htn, if_neg htn, if_neg htn, if_neg htn]
        rw [z2] at v4
        refine ⟨v1, v2, v3, v4, fun p hp => ?_⟩
        have u := v5 p hp
        unfold rI_p at u ⊢
        rw [m21 21 _ (by omega), m21 22 _ (by omega), if_neg (by omega), if_neg (by omega), mo 23 (by omega), mo 24 (by omega), mo 25 (by omega), mo 26 (by omega), ko 4 t (by omega) (by omega) htn, ko 5 t (by omega) (by omega) htn, ko 6 t (by omega) (by omega) htn, ko 7 t (by omega) (by omega) htn, ko 8 t (by omega) (by omega) htn, ko 9 t (by omega) (by omega) htn]
        exact u
  · rw [if_neg hc, c_X3_scribe (NS := NS) h x _ (by rw [y2, z4]) p4, if_neg hc]
    exact ⟨rfl, GG_thr g⟩
/-- what a QUIRE would be copied from -/
def sp_me (h : AHp) (NQ NS p : Nat) (y : Int32) : Int32 := if y < 0 then (if ¬ (-1 - y) < 0 ∧ (-1 - y) < nI NS ∧ ¬ h 7 (-1 - y).toNatClampNeg p = -1 then h 6 (-1 - y).toNatClampNeg p else -1) else (if y < nI NQ ∧ h 3 y.toNatClampNeg 0 = nI p then h 3 y.toNatClampNeg 1 else -1)
theorem c_X2_modelErrors {p : Nat} (hp : p < P) (hQ : h 0 0 3 = nI NQ) (h20 : NQ ≤ 20) (hS : h 0 0 4 = nI NS) (h8 : NS ≤ 8) (hP : h 0 0 2 = nI P) (hP8 : P ≤ 8) : Vi 20 h [some (.inr (0, 0)), some (.inl (nI p)), some (.inl y), none] K ↔ K (sp_me h NQ NS p y) h := by
  rw [Vi]
  have p0 : ¬ nI p < 0 := nI_pos (by omega)
  have p1 : nI p < nI P := nI_lt hp (by omega)
  have p2 : (nI p).toNatClampNeg = p := nI_clamp (by omega)
  have p3 : vp_in (nI p) 8 := vp_in_nI (by omega) (by omega)
  simp only [xr_20_0, xr_20_1, xr_20_4, xr_20_5, xr_20_6, xr_20_9, xr_20_12, xr_20_13, xr_20_16, xr_20_17_1, xr_20_17_2, xr_20_18, xr_20_21, xr_20_22, xr_20_25, xr_20_26, xr_20_29, xr_20_30_1, xr_20_30_2, xr_20_31, xr_20_34, xr_20_37, xr_20_38, xr_20_39, xr_20_40, xr_20_41, xr_20_42, xr_20_43, xr_20_44, xr_20_45, xr_20_46, xr_20_49, xr_20_52, xr_20_53, xr_20_56, xr_20_57_1, xr_20_57_2, xr_20_58, xr_20_61, xr_20_62, xr_20_63, xr_20_66, xr_20_67, c_X2_isQuire, c_X2_hasPage (P := P) (NS := NS) h _ _ _ hS h8 hP hP8, b01_z, b01_n, ex_some, hQ, ix_i6, p0, p1, p2, p3, not_false_iff, true_and]
  unfold sp_me
  by_cases c1 : y < 0
  · by_cases c2 : ¬ (-1 - y) < 0 ∧ (-1 - y) < nI NS
    · have v1 : vp_in (-1 - y) 8 := vp_of h8 (by omega) c2.1 c2.2
      by_cases c3 : h 7 (-1 - y).toNatClampNeg p = -1
      · simp only [c1, c2, c3, not_true, not_false_iff, true_imp_iff, false_imp_iff, true_and, and_true, and_false, if_true, if_false]
      · simp only [c1, c2, c3, v1, not_true, not_false_iff, true_imp_iff, false_imp_iff, true_and, and_true, and_self, if_true, if_false]
    · have c2' : ¬ (¬ (-1 - y) < 0 ∧ (-1 - y) < nI NS ∧ ¬ h 7 (-1 - y).toNatClampNeg p = -1) := fun z => c2 ⟨z.1, z.2.1⟩
      simp only [c1, c2, c2', not_true, not_false_iff, true_imp_iff, false_imp_iff, true_and, and_true, and_false, false_and, if_true, if_false]
  · by_cases c2 : y < nI NQ
    · have v1 : vp_in y 20 := vp_of h20 (by omega) c1 c2
      by_cases c3 : h 3 y.toNatClampNeg 0 = nI p
      · simp only [c1, c2, c3, v1, not_true, not_false_iff, true_imp_iff, false_imp_iff, true_and, and_true, and_self, if_true, if_false]
      · simp only [c1, c2, c3, v1, not_true, not_false_iff, true_imp_iff, false_imp_iff, true_and, and_true, and_false, if_true, if_false]
    · simp only [c1, c2, not_true, not_false_iff, true_imp_iff, false_imp_iff, true_and, and_true, and_false, false_and, if_true, if_false]
theorem m1_sub (y : Int32) (hy : y < 0) : ¬ (-1 - y) < 0 := by
  rw [Int32.lt_iff_toInt_lt] at hy ⊢
  have h0 : (0 : Int32).toInt = 0 := by decide
  have h1 : (-1 : Int32).toInt = -1 := by decide
  have h2 := Int32.le_toInt y
  rw [h0] at hy ⊢
  rw [Int32.toInt_sub, h1, Int.bmod_eq_of_le (by omega) (by omega)]
  omega
/-- what is copied from is one thing for class and reference -/
theorem sp_me_ok {P NQ NS D p : Nat} {a : AHp} (c : cI P NQ NS D (fun _ => D) a) (hp : p < P) : sp_me a NQ NS p y = -1 ∨ ∃ e, e < 65536 ∧ sp_me a NQ NS p y = nI e := by
  obtain ⟨⟨p1, p2, p3, p4, p5⟩, -⟩ := c.1
  unfold sp_me
  by_cases c1 : y < 0
  · rw [if_pos c1]
    by_cases c2 : ¬ (-1 - y) < 0 ∧ (-1 - y) < nI NS ∧ ¬ a 7 (-1 - y).toNatClampNeg p = -1
    · rw [if_pos c2]
      obtain ⟨s, s1, s2⟩ := in_nI (by omega) c2.1 c2.2.1
      have s3 : (nI s).toNatClampNeg = s := nI_clamp (by omega)
      have c3 := c2.2.2
      rw [s2, s3] at c3 ⊢
      obtain ⟨b, b1, b2⟩ := (c.2.2 s s1).2.2.2.2.1 p hp c3
      exact Or.inr ⟨b, b1, b2⟩
    · rw [if_neg c2]; exact Or.inl rfl
  · rw [if_neg c1]
    by_cases c2 : y < nI NQ ∧ a 3 y.toNatClampNeg 0 = nI p
    · rw [if_pos c2]
      obtain ⟨q, q1, q2⟩ := in_nI (by omega) c1 c2.1
      have q3 : (nI q).toNatClampNeg = q := nI_clamp (by omega)
      rw [q2, q3]
      obtain ⟨e, e1, e2⟩ := (c.2.1 q q1).2.1
      exact Or.inr ⟨e, e1, e2⟩
    · rw [if_neg c2]; exact Or.inl rfl
end O4
