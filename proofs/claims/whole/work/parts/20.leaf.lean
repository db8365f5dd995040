/-! ===== contracts of the small methods ===== -/
def b01 (c : Prop) [Decidable c] : Int32 := if c then 1 else 0
theorem b01_z {c : Prop} [Decidable c] : b01 c = 0 ↔ ¬ c := by unfold b01; split <;> simp [*]
theorem b01_n {c : Prop} [Decidable c] : ¬ b01 c = 0 ↔ c := by unfold b01; split <;> simp [*]
theorem b01_o {c : Prop} [Decidable c] : b01 c = 0 ∨ b01 c = 1 := by unfold b01; split <;> simp
theorem b01_c {c d : Prop} [Decidable c] [Decidable d] (h : c ↔ d) : b01 c = b01 d := by unfold b01; by_cases hc : c <;> simp [hc, ← h]
theorem i32_nle {a b : Int32} : ¬ a ≤ b ↔ b < a := by rw [Int32.not_le]
theorem i32_nlt {a b : Int32} : ¬ a < b ↔ b ≤ a := by rw [Int32.not_lt]
theorem ex_some {z : Int32} {K : Int32 → Prop} : (∃ x, some z = some x ∧ K x) ↔ K z := by simp
theorem z_or : ((0 : Int32) = 0 ∨ (0 : Int32) = 1) = True := by simp
theorem o_or : ((1 : Int32) = 0 ∨ (1 : Int32) = 1) = True := by simp
theorem i32_c (x n : Int32) : (x < n ∧ ¬ n ≤ x) ∨ (n ≤ x ∧ ¬ x < n) := by
  by_cases a : x < n
  · exact Or.inl ⟨a, i32_nle.mpr a⟩
  · exact Or.inr ⟨i32_nlt.mp a, a⟩
section LEAF
variable (h : AHp) (q s n : Nat) (x y z : Int32) (K : Int32 → AHp → Prop) (J : AHp → Prop)
theorem c_X0_begin : Vv 0 h [some (.inr (3, q)), some (.inl x), some (.inl y)] J ↔ J (ah_up (ah_up (ah_up (ah_up h 3 q 0 x) 3 q 1 y) 3 q 2 0) 3 q 3 (-1)) := by
  rw [Vv]
  simp only [xr_0_0, xr_0_1, xr_0_2, xr_0_5, xr_0_6, xr_0_7, xr_0_10, xr_0_11, xr_0_12, xr_0_15, xr_0_16, xr_0_17, xr_0_20, true_and]
theorem c_X0_isOnShelf : Vi 1 h [some (.inr (3, q))] K ↔ K (b01 (h 3 q 3 = -1)) h := by
  rw [Vi]
  simp only [xr_1_0, xr_1_1, xr_1_4, xr_1_5, xr_1_8, xr_1_9, xr_1_12, xr_1_13, ex_some, z_or, o_or, true_and]
  by_cases a : h 3 q 3 = -1 <;> simp [a, b01]
theorem c_X1_isIdle : Vi 4 h [some (.inr (4, s))] K ↔ K (b01 (h 4 s 8 = -1)) h := by
  rw [Vi]
  simp only [xr_4_0, xr_4_1, xr_4_4, xr_4_5, xr_4_8, xr_4_9, xr_4_12, xr_4_13, ex_some, z_or, o_or, true_and]
  by_cases a : h 4 s 8 = -1 <;> simp [a, b01]
theorem c_X1_has : Vi 5 h [some (.inr (4, s)), some (.inl x)] K ↔ vp_in x 8 ∧ K (b01 (¬ h 7 s x.toNatClampNeg = -1)) h := by
  rw [Vi]
  simp only [xr_5_0, xr_5_1, xr_5_4, xr_5_5, xr_5_6, xr_5_7, xr_5_10, xr_5_11, xr_5_14, xr_5_15, ex_some, z_or, o_or, true_and, ix_i7]
  by_cases a : h 7 s x.toNatClampNeg = -1 <;> simp [a, b01]
theorem c_X1_hadBy : Vi 6 h [some (.inr (4, s)), some (.inl x), some (.inl y)] K ↔ vp_in x 8 ∧ K (b01 (¬ h 7 s x.toNatClampNeg = -1 ∧ h 9 s x.toNatClampNeg ≤ y)) h := by
  rw [Vi]
  simp only [xr_6_0, xr_6_1, xr_6_2, xr_6_5, xr_6_8, xr_6_9, xr_6_12, xr_6_13, xr_6_14, xr_6_15, xr_6_18, xr_6_19, xr_6_22, xr_6_23, ex_some, z_or, o_or, true_and, ix_i9, c_X1_has, b01_z]
  by_cases a : h 7 s x.toNatClampNeg = -1 <;> by_cases b : vp_in x 8 <;> by_cases c : h 9 s x.toNatClampNeg ≤ y <;> simp [a, b, c, b01, i32_nlt, ← i32_nle]
theorem c_X1_isWriting : Vi 7 h [some (.inr (4, s)), some (.inl x)] K ↔ K (b01 (¬ h 4 s 8 = -1 ∧ h 4 s 9 = x)) h := by
  rw [Vi]
  simp only [xr_7_0, xr_7_1, xr_7_4, xr_7_7, xr_7_8, xr_7_11, xr_7_12, xr_7_15, xr_7_16, xr_7_19, xr_7_20, ex_some, z_or, o_or, true_and, c_X1_isIdle, b01_z]
  by_cases a : h 4 s 8 = -1 <;> by_cases c : h 4 s 9 = x <;> simp [a, c, b01]
theorem c_X1_endDay : Vi 8 h [some (.inr (4, s))] K ↔ K (h 4 s 11 + h 4 s 5) h := by
  rw [Vi]
  simp only [xr_8_0, xr_8_1, xr_8_4, xr_8_5, xr_8_8, xr_8_9, ex_some]
theorem c_X1_take : Vv 9 h [some (.inr (4, s)), some (.inl x), some (.inr (3, q)), some (.inl y)] J ↔ J (ah_up (ah_up (ah_up (ah_up h 4 s 8 x) 4 s 9 (h 3 q 0)) 4 s 10 (h 3 q 1)) 4 s 11 y) := by
  rw [Vv]
  simp only [xr_9_0, xr_9_1, xr_9_2, xr_9_5, xr_9_6, xr_9_7, xr_9_10, xr_9_13, xr_9_14, xr_9_15, xr_9_18, xr_9_21, xr_9_22, xr_9_23, xr_9_26, true_and, ah_up]
  simp
theorem c_X2_isPiece : Vi 14 h [some (.inr (0, n)), some (.inl x)] K ↔ K (b01 (¬ x < 0 ∧ x < h 0 n 2)) h := by
  rw [Vi]
  simp only [xr_14_0, xr_14_1, xr_14_4, xr_14_5, xr_14_6, xr_14_9, xr_14_12, xr_14_13, xr_14_16, xr_14_17, ex_some, z_or, o_or, true_and]
  by_cases a : x < 0 <;> rcases i32_c x (h 0 n 2) with ⟨b1, b2⟩ | ⟨b1, b2⟩ <;> simp [a, b1, b2, b01]
theorem c_X2_isQuire : Vi 17 h [some (.inr (0, n)), some (.inl x)] K ↔ K (b01 (¬ x < 0 ∧ x < h 0 n 3)) h := by
  rw [Vi]
  simp only [xr_17_0, xr_17_1, xr_17_4, xr_17_5, xr_17_6, xr_17_9, xr_17_12, xr_17_13, xr_17_16, xr_17_17, ex_some, z_or, o_or, true_and]
  by_cases a : x < 0 <;> rcases i32_c x (h 0 n 3) with ⟨b1, b2⟩ | ⟨b1, b2⟩ <;> simp [a, b1, b2, b01]
theorem c_X2_isScribe : Vi 18 h [some (.inr (0, n)), some (.inl x)] K ↔ K (b01 (¬ x < 0 ∧ x < h 0 n 4)) h := by
  rw [Vi]
  simp only [xr_18_0, xr_18_1, xr_18_4, xr_18_5, xr_18_6, xr_18_9, xr_18_12, xr_18_13, xr_18_16, xr_18_17, ex_some, z_or, o_or, true_and]
  by_cases a : x < 0 <;> rcases i32_c x (h 0 n 4) with ⟨b1, b2⟩ | ⟨b1, b2⟩ <;> simp [a, b1, b2, b01]
theorem c_X2_isBits : Vi 15 h [some (.inl x)] K ↔ K (b01 (¬ x < 0 ∧ x ≤ 65535)) h := by
  rw [Vi]
  simp only [xr_15_0, xr_15_1, xr_15_4, xr_15_5, xr_15_7, xr_15_10, xr_15_11, xr_15_14, xr_15_15, ex_some, z_or, o_or, true_and]
  by_cases a : x < 0 <;> by_cases b : x ≤ 65535 <;> simp [a, b, b01, i32_nlt, ← i32_nle]
theorem c_X2_mayPass : Vi 24 h [some (.inr (0, n)), some (.inl x), some (.inl y)] K ↔ K (b01 (1 ≤ x ∧ x ≤ y ∧ h 0 n 5 + x ≤ 9999)) h := by
  rw [Vi]
  simp only [xr_24_0, xr_24_1, xr_24_2, xr_24_5, xr_24_6, xr_24_7, xr_24_10, xr_24_11, xr_24_14, xr_24_15, xr_24_16, xr_24_19, xr_24_22, xr_24_23, xr_24_26, xr_24_27, ex_some, z_or, o_or, true_and]
  by_cases a : 1 ≤ x <;> by_cases b : x ≤ y <;> by_cases c : h 0 n 5 + x ≤ 9999 <;> simp [a, b, c, b01, i32_nlt, ← i32_nle]
theorem c_X2_hasEnded : Vi 26 h [some (.inr (0, n)), some (.inr (4, s))] K ↔ K (b01 (h 0 n 2 ≤ h 4 s 6)) h := by
  rw [Vi]
  simp only [xr_26_0, xr_26_1, xr_26_4, xr_26_5, xr_26_8, xr_26_11, xr_26_12, xr_26_15, xr_26_16, ex_some, z_or, o_or, true_and]
  by_cases a : h 0 n 2 ≤ h 4 s 6 <;> simp [a, b01, i32_nlt, ← i32_nle]
theorem c_X2_stateOf : Vi 51 h [some (.inr (0, n)), some (.inr (4, s))] K ↔ K (if h 0 n 2 ≤ h 4 s 6 then 2 else if h 4 s 8 = -1 then 0 else 1) h := by
  rw [Vi]
  simp only [xr_51_0, xr_51_1, xr_51_2, xr_51_5, xr_51_8, xr_51_9, xr_51_10, xr_51_11, xr_51_14, xr_51_17, xr_51_18, xr_51_21, xr_51_22, ex_some, c_X2_hasEnded, c_X1_isIdle, b01_z]
  by_cases a : h 0 n 2 ≤ h 4 s 6 <;> by_cases b : h 4 s 8 = -1 <;> simp [a, b]
theorem c_X2_isWorn : Vi 29 h [some (.inr (0, n)), some (.inr (3, q))] K ↔ K (b01 (h 0 n 7 ≤ h 3 q 2)) h := by
  rw [Vi]
  simp only [xr_29_0, xr_29_1, xr_29_4, xr_29_5, xr_29_8, xr_29_11, xr_29_12, xr_29_15, xr_29_16, ex_some, z_or, o_or, true_and]
  by_cases a : h 0 n 7 ≤ h 3 q 2 <;> simp [a, b01, i32_nlt, ← i32_nle]
theorem c_X2_lineKey : Vi 27 h [some (.inr (0, n)), some (.inl x)] K ↔ vp_in x 8 ∧ K (h 4 x.toNatClampNeg 7 * 8 + x) h := by
  rw [Vi]
  simp only [xr_27_0, xr_27_1, xr_27_4, xr_27_5_1, xr_27_5_2, xr_27_6, xr_27_9, xr_27_11, xr_27_12, xr_27_13, xr_27_14, ex_some]
theorem c_J9_max : Vi 90 h [some (.inl x), some (.inl y)] K ↔ K (if x < y then y else x) h := by
  rw [Vi]
  simp only [xr_90_0, xr_90_1, xr_90_2, xr_90_5, xr_90_6, xr_90_9, xr_90_10, ex_some]
  by_cases a : x < y <;> simp [a]
theorem c_J9_min : Vi 91 h [some (.inl x), some (.inl y)] K ↔ K (if y < x then y else x) h := by
  rw [Vi]
  simp only [xr_91_0, xr_91_1, xr_91_2, xr_91_5, xr_91_6, xr_91_9, xr_91_10, ex_some]
  by_cases a : y < x <;> simp [a]
theorem c_X3_areBits : Vi 59 h [some (.inl x)] K ↔ K (b01 (¬ x < 0 ∧ x ≤ 65535)) h := by
  rw [Vi]
  simp only [xr_59_0, xr_59_1, xr_59_4, xr_59_5, xr_59_7, xr_59_10, xr_59_11, xr_59_14, xr_59_15, ex_some, z_or, o_or, true_and]
  by_cases a : x < 0 <;> by_cases b : x ≤ 65535 <;> simp [a, b, b01, i32_nlt, ← i32_nle]
theorem c_X3_isQuire : Vi 60 h [some (.inr (10, n)), some (.inl x)] K ↔ K (b01 (¬ x < 0 ∧ x < h 10 n 1)) h := by
  rw [Vi]
  simp only [xr_60_0, xr_60_1, xr_60_4, xr_60_5, xr_60_6, xr_60_9, xr_60_12, xr_60_13, xr_60_16, xr_60_17, ex_some, z_or, o_or, true_and]
  by_cases a : x < 0 <;> rcases i32_c x (h 10 n 1) with ⟨b1, b2⟩ | ⟨b1, b2⟩ <;> simp [a, b1, b2, b01]
theorem c_X3_isScribe : Vi 61 h [some (.inr (10, n)), some (.inl x)] K ↔ K (b01 (¬ x < 0 ∧ x < h 10 n 6)) h := by
  rw [Vi]
  simp only [xr_61_0, xr_61_1, xr_61_4, xr_61_5, xr_61_6, xr_61_9, xr_61_12, xr_61_13, xr_61_16, xr_61_17, ex_some, z_or, o_or, true_and]
  by_cases a : x < 0 <;> rcases i32_c x (h 10 n 6) with ⟨b1, b2⟩ | ⟨b1, b2⟩ <;> simp [a, b1, b2, b01]
theorem c_X3_isPiece : Vi 62 h [some (.inr (10, n)), some (.inl x)] K ↔ K (b01 (¬ x < 0 ∧ x < h 10 n 0)) h := by
  rw [Vi]
  simp only [xr_62_0, xr_62_1, xr_62_4, xr_62_5, xr_62_6, xr_62_9, xr_62_12, xr_62_13, xr_62_16, xr_62_17, ex_some, z_or, o_or, true_and]
  by_cases a : x < 0 <;> rcases i32_c x (h 10 n 0) with ⟨b1, b2⟩ | ⟨b1, b2⟩ <;> simp [a, b1, b2, b01]
theorem c_X3_isThere : Vi 69 h [some (.inr (10, n)), some (.inl x)] K ↔ vp_in x 20 ∧ K (b01 (h 15 n x.toNatClampNeg = -1 ∧ h 14 n x.toNatClampNeg < h 10 n 19)) h := by
  rw [Vi]
  simp only [xr_69_0, xr_69_1, xr_69_4, xr_69_5, xr_69_6, xr_69_7, xr_69_10, xr_69_11, xr_69_14, xr_69_15, xr_69_16, xr_69_17, xr_69_20, xr_69_23, xr_69_24, xr_69_27, xr_69_28, ex_some, z_or, o_or, true_and, ix_i15, ix_i14]
  by_cases a : vp_in x 20 <;> by_cases b : h 15 n x.toNatClampNeg = -1 <;> rcases i32_c (h 14 n x.toNatClampNeg) (h 10 n 19) with ⟨b1, b2⟩ | ⟨b1, b2⟩ <;> simp [a, b, b1, b2, b01]
theorem c_X3_fails : Vi 86 h [some (.inr (10, n)), some (.inl x)] K ↔ K 0 (ah_up h 10 n 20 x) := by
  rw [Vi]
  simp only [xr_86_0, xr_86_1, xr_86_2, xr_86_5, xr_86_6, ex_some]
theorem c_X3_thrown : Vi 55 h [some (.inr (10, n))] K ↔ K (h 10 n 20) h := by
  rw [Vi]
  simp only [xr_55_0, xr_55_1, xr_55_4, ex_some]
theorem c_X3_ends : Vi 73 h [some (.inr (10, n)), some (.inl x)] K ↔ vp_in x 8 ∧ vp_in (h 19 n x.toNatClampNeg) 20 ∧ vp_in (8 * x + h 12 n (h 19 n x.toNatClampNeg).toNatClampNeg) 64 ∧ K (h 25 n (8 * x + h 12 n (h 19 n x.toNatClampNeg).toNatClampNeg).toNatClampNeg + h 17 n x.toNatClampNeg) h := by
  rw [Vi]
  simp only [xr_73_0, xr_73_1, xr_73_4, xr_73_6, xr_73_7, xr_73_8, xr_73_9, xr_73_12, xr_73_13, xr_73_16, xr_73_17, xr_73_18, xr_73_19, xr_73_20, xr_73_21, xr_73_22, xr_73_25, xr_73_26, xr_73_27, xr_73_28, ex_some, ix_i19, ix_i12, ix_i25, ix_i17]
  by_cases a : vp_in x 8 <;> simp [a]
end LEAF
