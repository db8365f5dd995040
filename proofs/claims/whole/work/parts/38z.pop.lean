/-! ===== counting bits: the class's way and one by one, by the kernel ===== -/
def sp_pop (v : Nat) : Nat → Nat
  | 0 => 0
  | k + 1 => sp_pop v k + v / 2 ^ k % 2
theorem sp_pop_le (v : Nat) : ∀ k, sp_pop v k ≤ k
  | 0 => Nat.le_refl _
  | k + 1 => by have := sp_pop_le v k; rw [sp_pop]; omega
def bcN (v : Nat) : Nat :=
  let a := v - (v / 2 &&& 1431655765)
  let b := (a &&& 858993459) + (a / 4 &&& 858993459)
  let c := (b + b / 16) &&& 252645135
  let d := c + c / 256
  (d + d / 65536) &&& 63
theorem bcN_0 : ∀ a, a < 4 → ∀ b, b < 256 → bcN (256 * (0 + a) + b) = sp_pop (256 * (0 + a) + b) 16 := by decide +kernel
theorem bcN_1 : ∀ a, a < 4 → ∀ b, b < 256 → bcN (256 * (4 + a) + b) = sp_pop (256 * (4 + a) + b) 16 := by decide +kernel
theorem bcN_2 : ∀ a, a < 4 → ∀ b, b < 256 → bcN (256 * (8 + a) + b) = sp_pop (256 * (8 + a) + b) 16 := by decide +kernel
theorem bcN_3 : ∀ a, a < 4 → ∀ b, b < 256 → bcN (256 * (12 + a) + b) = sp_pop (256 * (12 + a) + b) 16 := by decide +kernel
theorem bcN_4 : ∀ a, a < 4 → ∀ b, b < 256 → bcN (256 * (16 + a) + b) = sp_pop (256 * (16 + a) + b) 16 := by decide +kernel
theorem bcN_5 : ∀ a, a < 4 → ∀ b, b < 256 → bcN (256 * (20 + a) + b) = sp_pop (256 * (20 + a) + b) 16 := by decide +kernel
theorem bcN_6 : ∀ a, a < 4 → ∀ b, b < 256 → bcN (256 * (24 + a) + b) = sp_pop (256 * (24 + a) + b) 16 := by decide +kernel
theorem bcN_7 : ∀ a, a < 4 → ∀ b, b < 256 → bcN (256 * (28 + a) + b) = sp_pop (256 * (28 + a) + b) 16 := by decide +kernel
theorem bcN_8 : ∀ a, a < 4 → ∀ b, b < 256 → bcN (256 * (32 + a) + b) = sp_pop (256 * (32 + a) + b) 16 := by decide +kernel
theorem bcN_9 : ∀ a, a < 4 → ∀ b, b < 256 → bcN (256 * (36 + a) + b) = sp_pop (256 * (36 + a) + b) 16 := by decide +kernel
theorem bcN_10 : ∀ a, a < 4 → ∀ b, b < 256 → bcN (256 * (40 + a) + b) = sp_pop (256 * (40 + a) + b) 16 := by decide +kernel
theorem bcN_11 : ∀ a, a < 4 → ∀ b, b < 256 → bcN (256 * (44 + a) + b) = sp_pop (256 * (44 + a) + b) 16 := by decide +kernel
theorem bcN_12 : ∀ a, a < 4 → ∀ b, b < 256 → bcN (256 * (48 + a) + b) = sp_pop (256 * (48 + a) + b) 16 := by decide +kernel
theorem bcN_13 : ∀ a, a < 4 → ∀ b, b < 256 → bcN (256 * (52 + a) + b) = sp_pop (256 * (52 + a) + b) 16 := by decide +kernel
theorem bcN_14 : ∀ a, a < 4 → ∀ b, b < 256 → bcN (256 * (56 + a) + b) = sp_pop (256 * (56 + a) + b) 16 := by decide +kernel
theorem bcN_15 : ∀ a, a < 4 → ∀ b, b < 256 → bcN (256 * (60 + a) + b) = sp_pop (256 * (60 + a) + b) 16 := by decide +kernel
theorem bcN_16 : ∀ a, a < 4 → ∀ b, b < 256 → bcN (256 * (64 + a) + b) = sp_pop (256 * (64 + a) + b) 16 := by decide +kernel
theorem bcN_17 : ∀ a, a < 4 → ∀ b, b < 256 → bcN (256 * (68 + a) + b) = sp_pop (256 * (68 + a) + b) 16 := by decide +kernel
theorem bcN_18 : ∀ a, a < 4 → ∀ b, b < 256 → bcN (256 * (72 + a) + b) = sp_pop (256 * (72 + a) + b) 16 := by decide +kernel
theorem bcN_19 : ∀ a, a < 4 → ∀ b, b < 256 → bcN (256 * (76 + a) + b) = sp_pop (256 * (76 + a) + b) 16 := by decide +kernel
theorem bcN_20 : ∀ a, a < 4 → ∀ b, b < 256 → bcN (256 * (80 + a) + b) = sp_pop (256 * (80 + a) + b) 16 := by decide +kernel
theorem bcN_21 : ∀ a, a < 4 → ∀ b, b < 256 → bcN (256 * (84 + a) + b) = sp_pop (256 * (84 + a) + b) 16 := by decide +kernel
theorem bcN_22 : ∀ a, a < 4 → ∀ b, b < 256 → bcN (256 * (88 + a) + b) = sp_pop (256 * (88 + a) + b) 16 := by decide +kernel
theorem bcN_23 : ∀ a, a < 4 → ∀ b, b < 256 → bcN (256 * (92 + a) + b) = sp_pop (256 * (92 + a) + b) 16 := by decide +kernel
theorem bcN_24 : ∀ a, a < 4 → ∀ b, b < 256 → bcN (256 * (96 + a) + b) = sp_pop (256 * (96 + a) + b) 16 := by decide +kernel
theorem bcN_25 : ∀ a, a < 4 → ∀ b, b < 256 → bcN (256 * (100 + a) + b) = sp_pop (256 * (100 + a) + b) 16 := by decide +kernel
theorem bcN_26 : ∀ a, a < 4 → ∀ b, b < 256 → bcN (256 * (104 + a) + b) = sp_pop (256 * (104 + a) + b) 16 := by decide +kernel
theorem bcN_27 : ∀ a, a < 4 → ∀ b, b < 256 → bcN (256 * (108 + a) + b) = sp_pop (256 * (108 + a) + b) 16 := by decide +kernel
theorem bcN_28 : ∀ a, a < 4 → ∀ b, b < 256 → bcN (256 * (112 + a) + b) = sp_pop (256 * (112 + a) + b) 16 := by decide +kernel
theorem bcN_29 : ∀ a, a < 4 → ∀ b, b < 256 → bcN (256 * (116 + a) + b) = sp_pop (256 * (116 + a) + b) 16 := by decide +kernel
theorem bcN_30 : ∀ a, a < 4 → ∀ b, b < 256 → bcN (256 * (120 + a) + b) = sp_pop (256 * (120 + a) + b) 16 := by decide +kernel
theorem bcN_31 : ∀ a, a < 4 → ∀ b, b < 256 → bcN (256 * (124 + a) + b) = sp_pop (256 * (124 + a) + b) 16 := by decide +kernel
theorem bcN_32 : ∀ a, a < 4 → ∀ b, b < 256 → bcN (256 * (128 + a) + b) = sp_pop (256 * (128 + a) + b) 16 := by decide +kernel
theorem bcN_33 : ∀ a, a < 4 → ∀ b, b < 256 → bcN (256 * (132 + a) + b) = sp_pop (256 * (132 + a) + b) 16 := by decide +kernel
theorem bcN_34 : ∀ a, a < 4 → ∀ b, b < 256 → bcN (256 * (136 + a) + b) = sp_pop (256 * (136 + a) + b) 16 := by decide +kernel
theorem bcN_35 : ∀ a, a < 4 → ∀ b, b < 256 → bcN (256 * (140 + a) + b) = sp_pop (256 * (140 + a) + b) 16 := by decide +kernel
theorem bcN_36 : ∀ a, a < 4 → ∀ b, b < 256 → bcN (256 * (144 + a) + b) = sp_pop (256 * (144 + a) + b) 16 := by decide +kernel
theorem bcN_37 : ∀ a, a < 4 → ∀ b, b < 256 → bcN (256 * (148 + a) + b) = sp_pop (256 * (148 + a) + b) 16 := by decide +kernel
theorem bcN_38 : ∀ a, a < 4 → ∀ b, b < 256 → bcN (256 * (152 + a) + b) = sp_pop (256 * (152 + a) + b) 16 := by decide +kernel
theorem bcN_39 : ∀ a, a < 4 → ∀ b, b < 256 → bcN (256 * (156 + a) + b) = sp_pop (256 * (156 + a) + b) 16 := by decide +kernel
theorem bcN_40 : ∀ a, a < 4 → ∀ b, b < 256 → bcN (256 * (160 + a) + b) = sp_pop (256 * (160 + a) + b) 16 := by decide +kernel
theorem bcN_41 : ∀ a, a < 4 → ∀ b, b < 256 → bcN (256 * (164 + a) + b) = sp_pop (256 * (164 + a) + b) 16 := by decide +kernel
theorem bcN_42 : ∀ a, a < 4 → ∀ b, b < 256 → bcN (256 * (168 + a) + b) = sp_pop (256 * (168 + a) + b) 16 := by decide +kernel
theorem bcN_43 : ∀ a, a < 4 → ∀ b, b < 256 → bcN (256 * (172 + a) + b) = sp_pop (256 * (172 + a) + b) 16 := by decide +kernel
theorem bcN_44 : ∀ a, a < 4 → ∀ b, b < 256 → bcN (256 * (176 + a) + b) = sp_pop (256 * (176 + a) + b) 16 := by decide +kernel
theorem bcN_45 : ∀ a, a < 4 → ∀ b, b < 256 → bcN (256 * (180 + a) + b) = sp_pop (256 * (180 + a) + b) 16 := by decide +kernel
theorem bcN_46 : ∀ a, a < 4 → ∀ b, b < 256 → bcN (256 * (184 + a) + b) = sp_pop (256 * (184 + a) + b) 16 := by decide +kernel
theorem bcN_47 : ∀ a, a < 4 → ∀ b, b < 256 → bcN (256 * (188 + a) + b) = sp_pop (256 * (188 + a) + b) 16 := by decide +kernel
theorem bcN_48 : ∀ a, a < 4 → ∀ b, b < 256 → bcN (256 * (192 + a) + b) = sp_pop (256 * (192 + a) + b) 16 := by decide +kernel
theorem bcN_49 : ∀ a, a < 4 → ∀ b, b < 256 → bcN (256 * (196 + a) + b) = sp_pop (256 * (196 + a) + b) 16 := by decide +kernel
theorem bcN_50 : ∀ a, a < 4 → ∀ b, b < 256 → bcN (256 * (200 + a) + b) = sp_pop (256 * (200 + a) + b) 16 := by decide +kernel
theorem bcN_51 : ∀ a, a < 4 → ∀ b, b < 256 → bcN (256 * (204 + a) + b) = sp_pop (256 * (204 + a) + b) 16 := by decide +kernel
theorem bcN_52 : ∀ a, a < 4 → ∀ b, b < 256 → bcN (256 * (208 + a) + b) = sp_pop (256 * (208 + a) + b) 16 := by decide +kernel
theorem bcN_53 : ∀ a, a < 4 → ∀ b, b < 256 → bcN (256 * (212 + a) + b) = sp_pop (256 * (212 + a) + b) 16 := by decide +kernel
theorem bcN_54 : ∀ a, a < 4 → ∀ b, b < 256 → bcN (256 * (216 + a) + b) = sp_pop (256 * (216 + a) + b) 16 := by decide +kernel
theorem bcN_55 : ∀ a, a < 4 → ∀ b, b < 256 → bcN (256 * (220 + a) + b) = sp_pop (256 * (220 + a) + b) 16 := by decide +kernel
theorem bcN_56 : ∀ a, a < 4 → ∀ b, b < 256 → bcN (256 * (224 + a) + b) = sp_pop (256 * (224 + a) + b) 16 := by decide +kernel
theorem bcN_57 : ∀ a, a < 4 → ∀ b, b < 256 → bcN (256 * (228 + a) + b) = sp_pop (256 * (228 + a) + b) 16 := by decide +kernel
theorem bcN_58 : ∀ a, a < 4 → ∀ b, b < 256 → bcN (256 * (232 + a) + b) = sp_pop (256 * (232 + a) + b) 16 := by decide +kernel
theorem bcN_59 : ∀ a, a < 4 → ∀ b, b < 256 → bcN (256 * (236 + a) + b) = sp_pop (256 * (236 + a) + b) 16 := by decide +kernel
theorem bcN_60 : ∀ a, a < 4 → ∀ b, b < 256 → bcN (256 * (240 + a) + b) = sp_pop (256 * (240 + a) + b) 16 := by decide +kernel
theorem bcN_61 : ∀ a, a < 4 → ∀ b, b < 256 → bcN (256 * (244 + a) + b) = sp_pop (256 * (244 + a) + b) 16 := by decide +kernel
theorem bcN_62 : ∀ a, a < 4 → ∀ b, b < 256 → bcN (256 * (248 + a) + b) = sp_pop (256 * (248 + a) + b) 16 := by decide +kernel
theorem bcN_63 : ∀ a, a < 4 → ∀ b, b < 256 → bcN (256 * (252 + a) + b) = sp_pop (256 * (252 + a) + b) 16 := by decide +kernel
theorem bcN_all : ∀ k, k < 64 → ∀ a, a < 4 → ∀ b, b < 256 → bcN (256 * (4 * k + a) + b) = sp_pop (256 * (4 * k + a) + b) 16 := by
  intro k hk
  match k, hk with
  | 0, _ => exact bcN_0
  | 1, _ => exact bcN_1
  | 2, _ => exact bcN_2
  | 3, _ => exact bcN_3
  | 4, _ => exact bcN_4
  | 5, _ => exact bcN_5
  | 6, _ => exact bcN_6
  | 7, _ => exact bcN_7
  | 8, _ => exact bcN_8
  | 9, _ => exact bcN_9
  | 10, _ => exact bcN_10
  | 11, _ => exact bcN_11
  | 12, _ => exact bcN_12
  | 13, _ => exact bcN_13
  | 14, _ => exact bcN_14
  | 15, _ => exact bcN_15
  | 16, _ => exact bcN_16
  | 17, _ => exact bcN_17
  | 18, _ => exact bcN_18
  | 19, _ => exact bcN_19
  | 20, _ => exact bcN_20
  | 21, _ => exact bcN_21
  | 22, _ => exact bcN_22
  | 23, _ => exact bcN_23
  | 24, _ => exact bcN_24
  | 25, _ => exact bcN_25
  | 26, _ => exact bcN_26
  | 27, _ => exact bcN_27
  | 28, _ => exact bcN_28
  | 29, _ => exact bcN_29
  | 30, _ => exact bcN_30
  | 31, _ => exact bcN_31
  | 32, _ => exact bcN_32
  | 33, _ => exact bcN_33
  | 34, _ => exact bcN_34
  | 35, _ => exact bcN_35
  | 36, _ => exact bcN_36
  | 37, _ => exact bcN_37
  | 38, _ => exact bcN_38
  | 39, _ => exact bcN_39
  | 40, _ => exact bcN_40
  | 41, _ => exact bcN_41
  | 42, _ => exact bcN_42
  | 43, _ => exact bcN_43
  | 44, _ => exact bcN_44
  | 45, _ => exact bcN_45
  | 46, _ => exact bcN_46
  | 47, _ => exact bcN_47
  | 48, _ => exact bcN_48
  | 49, _ => exact bcN_49
  | 50, _ => exact bcN_50
  | 51, _ => exact bcN_51
  | 52, _ => exact bcN_52
  | 53, _ => exact bcN_53
  | 54, _ => exact bcN_54
  | 55, _ => exact bcN_55
  | 56, _ => exact bcN_56
  | 57, _ => exact bcN_57
  | 58, _ => exact bcN_58
  | 59, _ => exact bcN_59
  | 60, _ => exact bcN_60
  | 61, _ => exact bcN_61
  | 62, _ => exact bcN_62
  | 63, _ => exact bcN_63
  | n + 64, h => exact absurd h (by omega)
theorem bcN_ok : ∀ a, a < 256 → ∀ b, b < 256 → bcN (256 * a + b) = sp_pop (256 * a + b) 16 := by
  intro a ha b hb
  have := bcN_all (a / 4) (by omega) (a % 4) (by omega) b hb
  rw [show 4 * (a / 4) + a % 4 = a by omega] at this
  exact this
