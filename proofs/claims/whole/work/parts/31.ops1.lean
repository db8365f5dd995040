/-! ===== the calls, class and reference one behind the other ===== -/
def GG (h : AHp) : Prop := ∃ P NQ NS D, cI P NQ NS D (fun _ => D) h ∧ rI NQ NS h h
theorem in_nI {x : Int32} {N : Nat} (hN : N < 2 ^ 31) (h0 : ¬ x < 0) (h1 : x < nI N) : ∃ p, p < N ∧ x = nI p := by
  obtain ⟨j, hj, rfl⟩ := nI_of h0
  exact ⟨j, (nI_ltI hj hN).mp h1, rfl⟩
theorem in_nIl {x : Int32} {N : Nat} (hN : N < 2 ^ 31) (h0 : ¬ x < 0) (h1 : x ≤ nI N) : ∃ p, p ≤ N ∧ x = nI p := by
  obtain ⟨j, hj, rfl⟩ := nI_of h0
  exact ⟨j, (nI_leI hj hN).mp h1, rfl⟩
theorem in_rng {x : Int32} {lo N : Nat} (hN : N < 2 ^ 31) (hl : lo ≤ N) (h0 : ¬ x < nI lo) (h1 : ¬ nI N < x) : ∃ p, lo ≤ p ∧ p ≤ N ∧ x = nI p := by
  have hx : nI lo ≤ x := i32_nlt.mp h0
  have hy : x ≤ nI N := i32_nlt.mp h1
  have hneg : ¬ x < 0 := by
    intro z
    rw [Int32.le_iff_toInt_le, nI_toInt (by omega)] at hx
    rw [Int32.lt_iff_toInt_lt] at z
    have : (0 : Int32).toInt = 0 := by decide
    omega
  obtain ⟨p, p1, rfl⟩ := in_nIl hN hneg hy
  exact ⟨p, (nI_leI (by omega) (by omega)).mp hx, p1, rfl⟩
theorem GG_of {P NQ NS D : Nat} {h h' : AHp} (c : cI P NQ NS D (fun _ => D) h) (r : rI NQ NS h h) (ha : ∀ k, k < 10 → h' k = h k) (hb : ∀ k, 10 < k → h' k = h k) (hs : ∀ j, j < 20 → h' 10 0 j = h 10 0 j) : GG h' := by
  refine ⟨P, NQ, NS, D, cI_congr c ha, ?_⟩
  obtain ⟨⟨y0, y1, y2, y3, y4, y5⟩, rq, rs⟩ := r
  unfold rI rI_0 rI_q rI_s rI_p at *
  simp only [hs 0 (by omega), hs 1 (by omega), hs 6 (by omega), hs 17 (by omega), hs 18 (by omega), hs 19 (by omega), ha 0 (by omega), ha 3 (by omega), ha 4 (by omega), ha 5 (by omega), ha 6 (by omega), ha 7 (by omega), ha 8 (by omega), ha 9 (by omega), hb 12 (by omega), hb 13 (by omega), hb 14 (by omega), hb 15 (by omega), hb 17 (by omega), hb 18 (by omega), hb 19 (by omega), hb 20 (by omega), hb 21 (by omega), hb 22 (by omega), hb 23 (by omega), hb 24 (by omega), hb 25 (by omega), hb 26 (by omega)]
  exact ⟨⟨y0, y1, y2, y3, y4, y5⟩, rq, rs⟩
theorem GG_thr {h : AHp} {v : Int32} (g : GG h) : GG (ah_up h 10 0 20 v) := by
  obtain ⟨P, NQ, NS, D, c, r⟩ := g
  exact GG_of c r (fun k hk => ah_rk (by omega)) (fun k hk => ah_rk (by omega)) (fun j hj => by rw [ah_rd, if_neg (by omega)])
theorem GG_far {h : AHp} {v : Int32} (g : GG h) : GG (ah_up h 10 0 21 v) := by
  obtain ⟨P, NQ, NS, D, c, r⟩ := g
  exact GG_of c r (fun k hk => ah_rk (by omega)) (fun k hk => ah_rk (by omega)) (fun j hj => by rw [ah_rd, if_neg (by omega)])
section O1
variable (h : AHp) (x y z : Int32) (K : Int32 → AHp → Prop)
theorem c_X2_text : Vi 11 h [some (.inr (0, 0)), some (.inl x)] K ↔ if ¬ x < 1 ∧ ¬ 8 < x then K 1 (ah_up (ah_up (ah_up (ah_up h 0 0 2 x) 0 0 3 0) 0 0 4 0) 0 0 5 0) else K 0 h := by
  rw [Vi]
  simp only [xr_11_0, xr_11_1, xr_11_2, xr_11_5, xr_11_6, xr_11_8, xr_11_11, xr_11_12, xr_11_13, xr_11_14, xr_11_15, xr_11_18, xr_11_19, xr_11_20, xr_11_23, xr_11_24, xr_11_25, xr_11_28, xr_11_29, xr_11_30, xr_11_33, xr_11_34, ex_some, z_or, o_or, true_and]
  rcases i32_c x 1 with ⟨a1, a2⟩ | ⟨a1, a2⟩ <;> rcases i32_c 8 x with ⟨b1, b2⟩ | ⟨b1, b2⟩ <;> simp [a1, a2, b1, b2]
theorem c_X3_text : Vi 56 h [some (.inr (10, 0)), some (.inl x)] K ↔ if ¬ x < 1 ∧ ¬ 8 < x then K 1 (ah_up (ah_up (ah_up (ah_up (ah_up h 10 0 20 0) 10 0 0 x) 10 0 1 0) 10 0 6 0) 10 0 17 0) else K 0 (ah_up h 10 0 20 0) := by
  rw [Vi]
  simp only [xr_56_0, xr_56_1, xr_56_2, xr_56_5, xr_56_6, xr_56_7, xr_56_10, xr_56_11, xr_56_13, xr_56_16, xr_56_17, xr_56_18, xr_56_19, xr_56_20, xr_56_23, xr_56_24, xr_56_25, xr_56_28, xr_56_29, xr_56_30, xr_56_33, xr_56_34, xr_56_35, xr_56_38, xr_56_39, ex_some, z_or, o_or, true_and]
  rcases i32_c x 1 with ⟨a1, a2⟩ | ⟨a1, a2⟩ <;> rcases i32_c 8 x with ⟨b1, b2⟩ | ⟨b1, b2⟩ <;> simp [a1, a2, b1, b2]
theorem op_text (g : GG h) : Vi 11 h [some (.inr (0, 0)), some (.inl x)] (fun r h1 => Vi 56 h1 [some (.inr (10, 0)), some (.inl x)] (fun r2 h2 => r2 = r ∧ GG h2)) := by
  rw [c_X2_text, c_X3_text, c_X3_text]
  by_cases hc : ¬ x < 1 ∧ ¬ 8 < x
  · rw [if_pos hc, if_pos hc]
    refine ⟨rfl, ?_⟩
    obtain ⟨P, NQ, NS, D, c, r⟩ := g
    obtain ⟨p, p1, p2, rfl⟩ := in_rng (lo := 1) (N := 8) (by omega) (by omega) hc.1 hc.2
    obtain ⟨⟨-, z2, z3, z4, z5, z6, z7⟩, -, -⟩ := c
    obtain ⟨⟨-, -, -, -, y4, y5⟩, -, -⟩ := r
    refine ⟨p, 0, 0, 0, ⟨⟨⟨p1, p2, by omega, by omega, by omega⟩, rfl, rfl, rfl, rfl, z6, z7⟩, fun q hq => by omega, fun s hs => by omega⟩, ⟨⟨rfl, rfl, rfl, rfl, y4, y5⟩, fun q hq => by omega, fun s hs => by omega⟩⟩
  · rw [if_neg hc, if_neg hc]
    exact ⟨rfl, GG_thr g⟩
theorem c_X2_rule : Vi 12 h [some (.inr (0, 0)), some (.inl x)] K ↔ if ¬ x < 0 ∧ ¬ 1 < x then K 1 (ah_up h 0 0 6 x) else K 0 h := by
  rw [Vi]
  simp only [xr_12_0, xr_12_1, xr_12_4, xr_12_5, xr_12_6, xr_12_9, xr_12_10, xr_12_11, xr_12_12, xr_12_13, xr_12_16, xr_12_17, ex_some, z_or, o_or, true_and]
  rcases i32_c x 0 with ⟨a1, a2⟩ | ⟨a1, a2⟩ <;> rcases i32_c 1 x with ⟨b1, b2⟩ | ⟨b1, b2⟩ <;> simp [a1, a2, b1, b2]
theorem c_X3_rule : Vi 57 h [some (.inr (10, 0)), some (.inl x)] K ↔ if ¬ x < 0 ∧ ¬ 1 < x then K 1 (ah_up (ah_up h 10 0 20 0) 10 0 18 x) else K 0 (ah_up h 10 0 20 0) := by
  rw [Vi]
  simp only [xr_57_0, xr_57_1, xr_57_2, xr_57_5, xr_57_6, xr_57_9, xr_57_10, xr_57_11, xr_57_14, xr_57_15, xr_57_16, xr_57_17, xr_57_18, xr_57_21, xr_57_22, ex_some, z_or, o_or, true_and]
  rcases i32_c x 0 with ⟨a1, a2⟩ | ⟨a1, a2⟩ <;> rcases i32_c 1 x with ⟨b1, b2⟩ | ⟨b1, b2⟩ <;> simp [a1, a2, b1, b2]
theorem scal_rI {P NQ NS D : Nat} {g : AHp} (c : cI P NQ NS D (fun _ => D) g) (r : rI NQ NS g g) (j i : Nat) (v : Int32) (hj : (j = 6 ∧ i = 18 ∧ (v = 0 ∨ v = 1)) ∨ (j = 7 ∧ i = 19 ∧ ∃ w, 1 ≤ w ∧ w ≤ 99 ∧ v = nI w)) : GG (ah_up (ah_up (ah_up g 0 0 j v) 10 0 20 0) 10 0 i v) := by
  generalize he : ah_up (ah_up (ah_up g 0 0 j v) 10 0 20 0) 10 0 i v = g'
  have ha : ∀ k, k ≠ 0 → k ≠ 10 → g' k = g k := by intro k h1 h2; rw [← he, ah_rk h2, ah_rk h2, ah_rk h1]
  have h0 : ∀ t, g' 0 0 t = if t = j then v else g 0 0 t := by intro t; rw [← he]; simp [ah_rd]
  have h10 : ∀ t, t < 20 → g' 10 0 t = if t = i then v else g 10 0 t := by
    intro t ht; rw [← he]; simp [ah_rd]
    by_cases e : t = i
    · simp [e]
    · simp [e, show ¬ t = 20 by omega]
  obtain ⟨⟨p0, z2, z3, z4, z5, z6, z7⟩, cq, cs⟩ := c
  obtain ⟨⟨y0, y1, y2, y3, y4, y5⟩, rq, rs⟩ := r
  refine ⟨P, NQ, NS, D, ⟨⟨p0, ?_, ?_, ?_, ?_, ?_, ?_⟩, fun q hq => cI_q_congr (by rw [ha 3 (by omega) (by omega)]) (cq q hq), fun t ht => cI_s_congr (by rw [ha 4 (by omega) (by omega)]) (by rw [ha 5 (by omega) (by omega)]) (by rw [ha 6 (by omega) (by omega)]) (by rw [ha 7 (by omega) (by omega)]) (fun q _ => by rw [ha 3 (by omega) (by omega)]) (cs t ht)⟩, ⟨⟨?_, ?_, ?_, ?_, ?_, ?_⟩, fun q hq => ?_, fun t ht => ?_⟩⟩
  · rw [h0, if_neg (by omega)]; exact z2
  · rw [h0, if_neg (by omega)]; exact z3
  · rw [h0, if_neg (by omega)]; exact z4
  · rw [h0, if_neg (by omega)]; exact z5
  · rw [h0]
    rcases hj with ⟨rfl, rfl, hv⟩ | ⟨rfl, rfl, hv⟩
    · rw [if_pos rfl]; exact hv
    · rw [if_neg (by omega)]; exact z6
  · rw [h0]
    rcases hj with ⟨rfl, rfl, hv⟩ | ⟨rfl, rfl, hv⟩
    · rw [if_neg (by omega)]; exact z7
    · rw [if_pos rfl]; exact hv
  · rw [h0, h10 _ (by omega), if_neg (by omega), if_neg (by omega)]; exact y0
  · rw [h0, h10 _ (by omega), if_neg (by omega), if_neg (by omega)]; exact y1
  · rw [h0, h10 _ (by omega), if_neg (by omega), if_neg (by omega)]; exact y2
  · rw [h0, h10 _ (by omega), if_neg (by omega), if_neg (by omega)]; exact y3
  · rw [h0, h10 _ (by omega)]
    rcases hj with ⟨rfl, rfl, hv⟩ | ⟨rfl, rfl, hv⟩
    · rw [if_pos rfl, if_pos rfl]
    · rw [if_neg (by omega), if_neg (by omega)]; exact y4
  · rw [h0, h10 _ (by omega)]
    rcases hj with ⟨rfl, rfl, hv⟩ | ⟨rfl, rfl, hv⟩
    · rw [if_neg (by omega), if_neg (by omega)]; exact y5
    · rw [if_pos rfl, if_pos rfl]
  · unfold rI_q
    rw [ha 3 (by omega) (by omega), ha 12 (by omega) (by omega), ha 13 (by omega) (by omega), ha 14 (by omega) (by omega), ha 15 (by omega) (by omega)]
    exact rq q hq
  · have w := rs t ht
    unfold rI_s rI_p at w ⊢
    simp only [h0, if_neg (show ¬ 2 = j by omega), ha 4 (by omega) (by omega), ha 5 (by omega) (by omega), ha 6 (by omega) (by omega), ha 7 (by omega) (by omega), ha 8 (by omega) (by omega), ha 9 (by omega) (by omega), ha 17 (by omega) (by omega), ha 18 (by omega) (by omega), ha 19 (by omega) (by omega), ha 20 (by omega) (by omega), ha 21 (by omega) (by omega), ha 22 (by omega) (by omega), ha 23 (by omega) (by omega), ha 24 (by omega) (by omega), ha 25 (by omega) (by omega), ha 26 (by omega) (by omega)]
    exact w
theorem op_rule (g : GG h) : Vi 12 h [some (.inr (0, 0)), some (.inl x)] (fun r h1 => Vi 57 h1 [some (.inr (10, 0)), some (.inl x)] (fun r2 h2 => r2 = r ∧ GG h2)) := by
  rw [c_X2_rule, c_X3_rule, c_X3_rule]
  by_cases hc : ¬ x < 0 ∧ ¬ 1 < x
  · rw [if_pos hc, if_pos hc]
    refine ⟨rfl, ?_⟩
    obtain ⟨P, NQ, NS, D, c, r⟩ := g
    obtain ⟨p, p1, p2, rfl⟩ := in_rng (lo := 0) (N := 1) (by omega) (by omega) hc.1 hc.2
    refine scal_rI c r 6 18 (nI p) (Or.inl ⟨rfl, rfl, ?_⟩)
    rcases (show p = 0 ∨ p = 1 by omega) with rfl | rfl
    · exact Or.inl rfl
    · exact Or.inr rfl
  · rw [if_neg hc, if_neg hc]
    exact ⟨rfl, GG_thr g⟩
theorem c_X2_wear : Vi 13 h [some (.inr (0, 0)), some (.inl x)] K ↔ if ¬ x < 1 ∧ ¬ 99 < x then K 1 (ah_up h 0 0 7 x) else K 0 h := by
  rw [Vi]
  simp only [xr_13_0, xr_13_1, xr_13_2, xr_13_5, xr_13_6, xr_13_8, xr_13_11, xr_13_12, xr_13_13, xr_13_14, xr_13_15, xr_13_18, xr_13_19, ex_some, z_or, o_or, true_and]
  rcases i32_c x 1 with ⟨a1, a2⟩ | ⟨a1, a2⟩ <;> rcases i32_c 99 x with ⟨b1, b2⟩ | ⟨b1, b2⟩ <;> simp [a1, a2, b1, b2]
theorem c_X3_wear : Vi 58 h [some (.inr (10, 0)), some (.inl x)] K ↔ if ¬ x < 1 ∧ ¬ 99 < x then K 1 (ah_up (ah_up h 10 0 20 0) 10 0 19 x) else K 0 (ah_up h 10 0 20 0) := by
  rw [Vi]
  simp only [xr_58_0, xr_58_1, xr_58_2, xr_58_5, xr_58_6, xr_58_7, xr_58_10, xr_58_11, xr_58_13, xr_58_16, xr_58_17, xr_58_18, xr_58_19, xr_58_20, xr_58_23, xr_58_24, ex_some, z_or, o_or, true_and]
  rcases i32_c x 1 with ⟨a1, a2⟩ | ⟨a1, a2⟩ <;> rcases i32_c 99 x with ⟨b1, b2⟩ | ⟨b1, b2⟩ <;> simp [a1, a2, b1, b2]
theorem op_wear (g : GG h) : Vi 13 h [some (.inr (0, 0)), some (.inl x)] (fun r h1 => Vi 58 h1 [some (.inr (10, 0)), some (.inl x)] (fun r2 h2 => r2 = r ∧ GG h2)) := by
  rw [c_X2_wear, c_X3_wear, c_X3_wear]
  by_cases hc : ¬ x < 1 ∧ ¬ 99 < x
  · rw [if_pos hc, if_pos hc]
    refine ⟨rfl, ?_⟩
    obtain ⟨P, NQ, NS, D, c, r⟩ := g
    obtain ⟨p, p1, p2, rfl⟩ := in_rng (lo := 1) (N := 99) (by omega) (by omega) hc.1 hc.2
    exact scal_rI c r 7 19 (nI p) (Or.inr ⟨rfl, rfl, p, p1, p2, rfl⟩)
  · rw [if_neg hc, if_neg hc]
    exact ⟨rfl, GG_thr g⟩
theorem op_days (g : GG h) : Vi 36 h [some (.inr (0, 0)), some (.inl x), none, none] (fun r h1 => Vi 75 h1 [some (.inr (10, 0)), some (.inl x), none] (fun r2 h2 => r2 = r ∧ GG h2)) := by
  obtain ⟨P, NQ, NS, D, c, r⟩ := id g
  obtain ⟨⟨p1, p2, p3, p4, p5⟩, z2, z3, z4, z5, z6, z7⟩ := c.1
  obtain ⟨y0, y1, y2, y3, y4, y5⟩ := r.1
  by_cases hc : 1 ≤ x ∧ x ≤ 99 ∧ h 0 0 5 + x ≤ 9999
  · obtain ⟨n, n1, n2, rfl⟩ := in_rng (x := x) (lo := 1) (N := 99) (by omega) (by omega) (i32_nlt.mpr hc.1) (i32_nlt.mpr hc.2.1)
    have hdn : D + n ≤ 9999 := by
      have := hc.2.2
      rw [z5, nI_add] at this
      exact (nI_leI (by omega) (by omega)).mp this
    have q3 : nI (D + n) ≤ 9999 := by have := hc.2.2; rw [z5, nI_add] at this; exact this
    rw [Vi]
    simp only [q3, xr_36_0, xr_36_1, xr_36_2, xr_36_4, xr_36_7, xr_36_10, xr_36_11, xr_36_12, xr_36_13, xr_36_16, xr_36_17, xr_36_18, xr_36_19, xr_36_20, c_X2_mayPass, b01_n, hc, true_imp_iff, not_true, false_imp_iff, and_true, and_self, z5, nI_add]
    refine days_cls (m := D + n) (n := n) hdn (by omega) n h D 0 c (by omega) (by omega) (by omega) _ (fun a' h1 h2 h3 => ⟨nI (D + n), rfl, ?_⟩)
    have hthr : GG (ah_up h 10 0 20 0) := GG_thr g
    have rb : rI NQ NS h (ah_up a' 10 0 20 0) := by
      obtain ⟨-, rq, rs⟩ := r
      have hk : ∀ k, 10 < k → (ah_up a' 10 0 20 0) k = h k := fun k hk => by rw [ah_rk (by omega), h3 k (by omega)]
      refine ⟨⟨?_, ?_, ?_, ?_, ?_, ?_⟩, fun q hq => ?_, fun t ht => ?_⟩
      · rw [ah_rd, if_neg (by omega), h3 10 (by omega)]; exact y0
      · rw [ah_rd, if_neg (by omega), h3 10 (by omega)]; exact y1
      · rw [ah_rd, if_neg (by omega), h3 10 (by omega)]; exact y2
      · rw [ah_rd, if_neg (by omega), h3 10 (by omega)]; exact y3
      · rw [ah_rd, if_neg (by omega), h3 10 (by omega)]; exact y4
      · rw [ah_rd, if_neg (by omega), h3 10 (by omega)]; exact y5
      · unfold rI_q
        rw [hk 12 (by omega), hk 13 (by omega), hk 14 (by omega), hk 15 (by omega)]
        exact rq q hq
      · have w := rs t ht
        unfold rI_s rI_p at w ⊢
        simp only [hk 17 (by omega), hk 18 (by omega), hk 19 (by omega), hk 20 (by omega), hk 21 (by omega), hk 22 (by omega), hk 23 (by omega), hk 24 (by omega), hk 25 (by omega), hk 26 (by omega)]
        exact w
    have t17 : (ah_up a' 10 0 20 0) 10 0 17 = nI D := by rw [rb.1.2.2.2.1, z5]
    have q1 : ¬ nI n < 1 := i32_nlt.mpr hc.1
    have q2 : ¬ 99 < nI n := i32_nlt.mpr hc.2.1
    rw [Vi]
    simp only [xr_75_0, xr_75_1, xr_75_2, xr_75_5, xr_75_6, xr_75_7, xr_75_10, xr_75_11, xr_75_13, xr_75_16, xr_75_17, xr_75_20, xr_75_21, xr_75_22, xr_75_25, xr_75_28, xr_75_29, xr_75_30, xr_75_31, t17, q1, q2, nI_add, q3, not_true, not_false_iff, true_imp_iff, false_imp_iff, and_true, true_and]
    refine (days_mod (by omega) c rb hdn _).mpr ⟨_, rfl, rfl, P, NQ, NS, D + n, ?_, ?_⟩
    · exact cI_congr h1 (fun k hk => by rw [md_its_k hk, ah_rk (by omega)])
    · have h4 := h2 _ rb
      rw [show D + n - D = n by omega] at h4
      exact rI_congr h4 (fun k hk => by rw [md_its_k hk, ah_rk (by omega)]) (fun _ _ => rfl)
  · rw [Vi]
    simp only [xr_36_0, xr_36_1, xr_36_2, xr_36_4, xr_36_7, xr_36_10, xr_36_11, c_X2_mayPass, b01_n, b01_z, hc, true_imp_iff, not_true, not_false_iff, false_imp_iff, and_true, true_and, ex_some]
    rw [Vi]
    have t17 : (ah_up h 10 0 20 0) 10 0 17 = h 0 0 5 := by rw [ah_rd, if_neg (by omega), y3]
    simp only [xr_75_0, xr_75_1, xr_75_2, xr_75_5, xr_75_6, xr_75_7, xr_75_10, xr_75_11, xr_75_13, xr_75_16, xr_75_17, xr_75_20, xr_75_21, xr_75_22, xr_75_25, xr_75_28, xr_75_29, t17, ex_some]
    have fin : True ∧ GG (ah_up h 10 0 20 0) := ⟨trivial, GG_thr g⟩
    refine ⟨fun _ => fin, fun e1 => ⟨fun _ => fin, fun e2 => ⟨fun e3 => ?_, fun _ => fin⟩⟩⟩
    exact absurd ⟨i32_nlt.mp e1, i32_nlt.mp e2, e3⟩ hc
end O1
