/-! ===== what holds of the class's cells; the two parts of a day ===== -/
theorem nx_xor (a b : Nat) : nI a ^^^ nI b = nI (a ^^^ b) := by
  apply Int32.toBitVec_inj.1
  show BitVec.ofNat 32 a ^^^ BitVec.ofNat 32 b = BitVec.ofNat 32 (a ^^^ b)
  apply BitVec.eq_of_getLsbD_eq
  intro i hi
  simp [hi]
theorem nx_xor_lt {a b : Nat} (ha : a < 65536) (hb : b < 65536) : a ^^^ b < 65536 := Nat.xor_lt_two_pow (n := 16) ha hb
theorem sp_cnt_congr {p q : Nat → Bool} : ∀ {n : Nat}, (∀ k, k < n → p k = q k) → sp_cnt p n = sp_cnt q n
  | 0, _ => rfl
  | n + 1, h => by rw [sp_cnt, sp_cnt, sp_cnt_congr (fun k hk => h k (by omega)), h n (by omega)]
theorem sp_cnt_set {p q : Nat → Bool} {k : Nat} : ∀ {n : Nat}, k < n → (∀ j, j < n → j ≠ k → p j = q j) → q k = false → p k = true → sp_cnt p n = sp_cnt q n + 1
  | 0, h, _, _, _ => by omega
  | n + 1, h, e, h1, h2 => by
    rw [sp_cnt, sp_cnt]
    by_cases hk : k = n
    · subst hk
      rw [sp_cnt_congr (p := p) (q := q) (fun j hj => e j (by omega) (by omega)), h1, h2]
      simp
    · rw [sp_cnt_set (by omega) (fun j hj => e j (by omega)) h1 h2, e n (by omega) (fun z => hk z.symm)]
      omega
theorem sp_cnt_all {p : Nat → Bool} : ∀ {n : Nat}, sp_cnt p n = n ↔ ∀ k, k < n → p k = true
  | 0 => by simp [sp_cnt]
  | n + 1 => by
    have hl := sp_cnt_le p n
    have ih := sp_cnt_all (p := p) (n := n)
    rw [sp_cnt]
    constructor
    · intro h k hk
      by_cases hp : p n = true
      · rw [if_pos hp] at h
        by_cases hkn : k = n
        · rw [hkn]; exact hp
        · exact ih.mp (by omega) k (by omega)
      · rw [if_neg hp] at h; omega
    · intro h
      rw [if_pos (h n (by omega)), ih.mpr (fun k hk => h k (by omega))]
theorem sp_cnt_lt {p : Nat → Bool} {n k : Nat} (hk : k < n) (hp : p k = false) : sp_cnt p n < n := by
  have := sp_cnt_le p n
  rcases Nat.lt_or_ge (sp_cnt p n) n with h | h
  · exact h
  · have := sp_cnt_all.mp (show sp_cnt p n = n by omega) k hk
    rw [hp] at this
    cases this
def cI_q (P NS : Nat) (h : AHp) (q : Nat) : Prop := (∃ p, p < P ∧ h 3 q 0 = nI p) ∧ (∃ e, e < 65536 ∧ h 3 q 1 = nI e) ∧ (∃ u, u < 100 ∧ h 3 q 2 = nI u) ∧ (h 3 q 3 = -1 ∨ ∃ s, s < NS ∧ h 3 q 3 = nI s)
def cI_b (P NQ D e : Nat) (h : AHp) (s : Nat) : Prop := ∃ q p er d a, q < NQ ∧ p < P ∧ er < 65536 ∧ h 4 s 8 = nI q ∧ h 4 s 9 = nI p ∧ h 3 q 0 = nI p ∧ h 4 s 10 = nI er ∧ h 4 s 11 = nI d ∧ h 4 s 5 = nI a ∧ d ≤ D ∧ 1 ≤ a ∧ a ≤ 9 ∧ e ≤ d + a ∧ h 7 s p = -1
def cI_s (P NQ D e : Nat) (h : AHp) (s : Nat) : Prop := (∃ a, 1 ≤ a ∧ a ≤ 9 ∧ h 4 s 5 = nI a) ∧ h 4 s 6 = nI (sp_cnt (fun p => decide (¬ h 7 s p = -1)) P) ∧ (∃ d, d ≤ D ∧ h 4 s 7 = nI d) ∧ (∀ p, p < 8 → ∃ b, b < 65536 ∧ h 5 s p = nI b) ∧ (∀ p, p < P → ¬ h 7 s p = -1 → ∃ b, b < 65536 ∧ h 6 s p = nI b) ∧ (h 4 s 8 = -1 ∨ cI_b P NQ D e h s)
def cI_0 (P NQ NS D : Nat) (h : AHp) : Prop := (1 ≤ P ∧ P ≤ 8 ∧ NQ ≤ 20 ∧ NS ≤ 8 ∧ D ≤ 9999) ∧ h 0 0 2 = nI P ∧ h 0 0 3 = nI NQ ∧ h 0 0 4 = nI NS ∧ h 0 0 5 = nI D ∧ (h 0 0 6 = 0 ∨ h 0 0 6 = 1) ∧ ∃ w, 1 ≤ w ∧ w ≤ 99 ∧ h 0 0 7 = nI w
def cI (P NQ NS D : Nat) (E : Nat → Nat) (h : AHp) : Prop := cI_0 P NQ NS D h ∧ (∀ q, q < NQ → cI_q P NS h q) ∧ ∀ s, s < NS → cI_s P NQ D (E s) h s
theorem cI_q_congr {P NS q : Nat} {h h' : AHp} (e : h' 3 q = h 3 q) (i : cI_q P NS h q) : cI_q P NS h' q := by
  unfold cI_q at i ⊢
  rw [e]
  exact i
theorem cI_s_congr {P NQ D e s : Nat} {h h' : AHp} (e4 : h' 4 s = h 4 s) (e5 : h' 5 s = h 5 s) (e6 : h' 6 s = h 6 s) (e7 : h' 7 s = h 7 s) (e3 : ∀ q, q < NQ → h' 3 q 0 = h 3 q 0) (i : cI_s P NQ D e h s) : cI_s P NQ D e h' s := by
  unfold cI_s cI_b at i ⊢
  rw [e4, e5, e6, e7]
  obtain ⟨i1, i2, i3, i4, i5, i6⟩ := i
  refine ⟨i1, i2, i3, i4, i5, ?_⟩
  rcases i6 with i6 | ⟨q, p, er, d, a, j1, j2, j3, j4, j5, j6, j7⟩
  · exact Or.inl i6
  · exact Or.inr ⟨q, p, er, d, a, j1, j2, j3, j4, j5, by rw [e3 q j1]; exact j6, j7⟩
/-- the first part: those who end hand in -/
def sp_hin (s : Nat) (h : AHp) : AHp := if ¬ h 4 s 8 = -1 ∧ h 4 s 11 + h 4 s 5 = h 0 0 5 then sp_hi (if ¬ h 4 s 8 < 0 ∧ h 4 s 8 < h 0 0 3 then ah_up h 3 (h 4 s 8).toNatClampNeg 3 (-1) else h) s (h 0 0 5) else h
def sp_fo (f : Nat → AHp → AHp) (h : AHp) : Nat → AHp
  | 0 => h
  | n + 1 => f n (sp_fo f h n)
/-- the second part: one SCRIBE takes -/
def sp_lu (h : AHp) (NQ p : Nat) : Option Nat := sp_lus (fun q => h 3 q 0) (fun q => h 3 q 2) (fun q => h 3 q 3) (h 0 0 7) (nI p) NQ
def sp_un (h : AHp) (NQ p : Nat) : Nat := sp_unw (fun q => h 3 q 0) (fun q => h 3 q 2) (h 0 0 7) (nI p) NQ
def sp_ch (h : AHp) (P NQ s : Nat) : Option Nat := sp_chs (fun p => decide (¬ h 7 s p = -1)) (sp_lu h NQ) (sp_rk (h 0 0 6) (sp_un h NQ)) P
def sp_tq (h : AHp) (s q : Nat) : AHp := ah_up (ah_up (ah_up (ah_up (ah_up (ah_up h 3 q 3 (nI s)) 3 q 2 (h 3 q 2 + 1)) 4 s 8 (nI q)) 4 s 9 (h 3 q 0)) 4 s 10 (h 3 q 1)) 4 s 11 (h 0 0 5)
def sp_tk (P NQ : Nat) (h : AHp) (s : Nat) : AHp := match (sp_ch h P NQ s).bind (sp_lu h NQ) with
  | none => h
  | some q => sp_tq h s q
def sp_wt (h : AHp) (s : Nat) : Bool := decide (h 4 s 8 = -1 ∧ ¬ h 0 0 2 ≤ h 4 s 6)
def sp_ky (h : AHp) (s : Nat) : Int32 := h 4 s 7 * 8 + nI s
def sp_lend (P NQ NS : Nat) : Nat → AHp → Int32 → AHp
  | 0, g, _ => g
  | k + 1, g, la => match sp_nxt (sp_wt g) (sp_ky g) la NS with
    | none => g
    | some b => sp_lend P NQ NS k (sp_tk P NQ g b) (sp_ky g b)
def sp_pass (P NQ NS : Nat) (h : AHp) : AHp := ah_up (sp_lend P NQ NS NS (sp_fo sp_hin h NS) (-1)) 0 0 5 (sp_lend P NQ NS NS (sp_fo sp_hin h NS) (-1) 0 0 5 + 1)
theorem sp_hin_k {s : Nat} {h : AHp} {k : Nat} (hk : k < 3 ∨ 9 < k) : sp_hin s h k = h k := by
  unfold sp_hin
  split
  · unfold sp_hi
    split
    all_goals (repeat rw [ah_rk (by omega)])
  · rfl
theorem sp_tk_k {P NQ s : Nat} {h : AHp} {k : Nat} (hk : k < 3 ∨ 4 < k) : sp_tk P NQ h s k = h k := by
  unfold sp_tk
  cases (sp_ch h P NQ s).bind (sp_lu h NQ) with
  | none => rfl
  | some q =>
    show sp_tq h s q k = h k
    unfold sp_tq
    repeat rw [ah_rk (by omega)]
theorem sp_lend_k {P NQ NS : Nat} {k : Nat} (hk : k < 3 ∨ 4 < k) : ∀ (n : Nat) (g : AHp) (la : Int32), sp_lend P NQ NS n g la k = g k
  | 0, g, la => rfl
  | n + 1, g, la => by
    rw [sp_lend]
    cases sp_nxt (sp_wt g) (sp_ky g) la NS with
    | none => rfl
    | some b =>
      show sp_lend P NQ NS n (sp_tk P NQ g b) (sp_ky g b) k = g k
      rw [sp_lend_k hk n, sp_tk_k hk]
theorem sp_fo_hin_k {h : AHp} {k : Nat} (hk : k < 3 ∨ 9 < k) : ∀ n, sp_fo sp_hin h n k = h k
  | 0 => rfl
  | n + 1 => by rw [sp_fo, sp_hin_k hk, sp_fo_hin_k hk n]
section CD
variable (h : AHp) (N P NQ : Nat) (x : Int32) (K : Int32 → AHp → Prop) (J : AHp → Prop)
theorem c_X2_handInPages (hN : h 0 0 4 = nI N) (h8 : N ≤ 8) (hf : ∀ i, i < N → ¬ (sp_fo sp_hin h i) 4 i 8 = -1 → vp_in ((sp_fo sp_hin h i) 4 i 9) 8 ∧ (¬ (sp_fo sp_hin h i) 4 i 8 < 0 → (sp_fo sp_hin h i) 4 i 8 < (sp_fo sp_hin h i) 0 0 3 → vp_in ((sp_fo sp_hin h i) 4 i 8) 20)) : Vv 25 h [some (.inr (0, 0)), none, none] J ↔ J (sp_fo sp_hin h N) := by
  rw [Vv]
  simp only [xr_25_0, xr_25_1]
  obtain ⟨t', e⟩ := it1 (V := fun i t => VV 25 (sp_fo sp_hin h i) 2 [some (.inr (0, 0)), some (.inl (nI i)), t] [] (fun r h' => r = none ∧ J h')) N (by
    intro i t hi
    obtain ⟨f1, f2, f3, f4⟩ := lx hi h8 (by omega)
    have hN' : (sp_fo sp_hin h i) 0 0 4 = nI N := by rw [sp_fo_hin_k (by omega)]; exact hN
    have hfi := hf i hi
    rw [sp_fo]
    generalize sp_fo sp_hin h i = g at hN' hfi ⊢
    refine ⟨some (.inr (4, i)), ?_⟩
    rw [xr_25_2]
    simp only [xr_25_0, xr_25_1, xr_25_3, xr_25_4, xr_25_7, xr_25_10, xr_25_11, xr_25_14, xr_25_15_1, xr_25_15_2, xr_25_16, xr_25_17, xr_25_18, xr_25_21, xr_25_24, xr_25_25, xr_25_28, xr_25_29, xr_25_32, xr_25_35, xr_25_36, xr_25_37, xr_25_40, xr_25_43, xr_25_46, xr_25_47, xr_25_50, xr_25_51, xr_25_54_1, xr_25_54_2, xr_25_55, xr_25_56, xr_25_59, xr_25_60, xr_25_61, xr_25_64, xr_25_67, xr_25_70, xr_25_73, hN', f1, f2, f3, f4, c_X1_isIdle, c_X1_endDay, c_X2_isQuire, b01_z, true_and, not_false_iff, true_imp_iff, false_imp_iff, Classical.not_not]
    unfold sp_hin
    by_cases a : g 4 i 8 = -1
    · simp [a]
    · obtain ⟨q1, q2⟩ := hfi a
      by_cases b : g 4 i 11 + g 4 i 5 = g 0 0 5
      · by_cases c : ¬ g 4 i 8 < 0 ∧ g 4 i 8 < g 0 0 3
        · have q3 := q2 c.1 c.2
          have q4 : vp_in ((ah_up g 3 (g 4 i 8).toNatClampNeg 3 (-1)) 4 i 9) 8 := q1
          have q5 : ∀ J, Vv 10 (ah_up g 3 (g 4 i 8).toNatClampNeg 3 (-1)) [some (.inr (4, i)), some (.inl (g 0 0 5))] J ↔ J (sp_hi (ah_up g 3 (g 4 i 8).toNatClampNeg 3 (-1)) i (g 0 0 5)) := fun J => c_X1_handIn _ _ _ J q4
          have q6 : (ah_up g 3 (g 4 i 8).toNatClampNeg 3 (-1)) 0 0 5 = g 0 0 5 := rfl
          simp only [a, b, c, q3, q5, q6, not_false_iff, true_imp_iff, false_imp_iff, not_true, and_true, true_and, if_true]
        · have q5 : ∀ J, Vv 10 g [some (.inr (4, i)), some (.inl (g 0 0 5))] J ↔ J (sp_hi g i (g 0 0 5)) := fun J => c_X1_handIn _ _ _ J q1
          simp only [a, b, c, q5, not_false_iff, true_imp_iff, false_imp_iff, not_true, and_true, true_and, if_true, if_false]
      · simp [a, b]) none
  refine Iff.trans e ?_
  have hN' : (sp_fo sp_hin h N) 0 0 4 = nI N := by rw [sp_fo_hin_k (by omega)]; exact hN
  rw [xr_25_2]
  simp only [xr_25_0, xr_25_1, xr_25_3, xr_25_4, xr_25_7, xr_25_10, xr_25_11, xr_25_14, xr_25_15_1, xr_25_15_2, xr_25_16, xr_25_17, xr_25_18, xr_25_21, xr_25_24, xr_25_25, xr_25_28, xr_25_29, xr_25_32, xr_25_35, xr_25_36, xr_25_37, xr_25_40, xr_25_43, xr_25_46, xr_25_47, xr_25_50, xr_25_51, xr_25_54_1, xr_25_54_2, xr_25_55, xr_25_56, xr_25_59, xr_25_60, xr_25_61, xr_25_64, xr_25_67, xr_25_70, xr_25_73, hN', lxe, not_true, false_imp_iff, true_imp_iff, and_true, true_and]
theorem c_X2_lendLoop (h20 : NQ ≤ 20) (hP8 : P ≤ 8) (h8 : N ≤ 8) : ∀ (k : Nat) (g : AHp) (la : Int32) (t3 t4 : Option AV), k ≤ N → g 0 0 4 = nI N → g 0 0 3 = nI NQ → g 0 0 2 = nI P → (VV 33 g 4 [some (.inr (0, 0)), some (.inl la), some (.inl (nI (N - k))), t3, t4] [] (fun r h' => r = none ∧ J h') ↔ J (sp_lend P NQ N k g la)) := by
  intro k
  induction k with
  | zero =>
    intro g la t3 t4 hk g4 g3 g2
    rw [xr_33_4]
    simp only [xr_33_0, xr_33_1, xr_33_2, xr_33_3, xr_33_5, xr_33_6, xr_33_9, xr_33_12, xr_33_13, xr_33_14, xr_33_17, xr_33_18, xr_33_19, xr_33_20, xr_33_23, xr_33_24, xr_33_25, xr_33_26, xr_33_29, xr_33_30, xr_33_31, xr_33_32, xr_33_35, xr_33_36_1, xr_33_36_2, xr_33_37, xr_33_40, xr_33_42, xr_33_44, xr_33_45, xr_33_48, xr_33_49, xr_33_52, xr_33_54_1, xr_33_54_2, xr_33_55, xr_33_56, xr_33_59, xr_33_60, xr_33_63, xr_33_65_1, xr_33_65_2, xr_33_66, xr_33_67, xr_33_70, xr_33_71, xr_33_72, xr_33_75, xr_33_76, xr_33_79, xr_33_80_1, xr_33_80_2, xr_33_81, xr_33_83, xr_33_84, xr_33_87, xr_33_89_1, xr_33_89_2, xr_33_90, xr_33_91, xr_33_94, xr_33_97, xr_33_100, xr_33_103, g4, Nat.sub_zero, lxe, not_true, false_imp_iff, true_imp_iff, and_true, true_and, sp_lend]
  | succ k ih =>
    intro g la t3 t4 hk g4 g3 g2
    obtain ⟨f1, f2, f3, f4⟩ := lx (show N - (k + 1) < N by omega) h8 (by omega)
    rw [show N - (k + 1) + 1 = N - k by omega] at f4
    have cn : ∀ K, Vi 28 g [some (.inr (0, 0)), some (.inl la), none, none, none] K ↔ K (oI (sp_nxt (sp_wt g) (sp_ky g) la N)) g := fun K => c_X2_next g 0 N la K g4 h8
    rw [xr_33_4]
    simp only [xr_33_0, xr_33_1, xr_33_2, xr_33_3, xr_33_5, xr_33_6, xr_33_9, xr_33_12, xr_33_13, xr_33_14, xr_33_17, xr_33_18, xr_33_19, xr_33_20, xr_33_23, xr_33_24, xr_33_25, xr_33_26, xr_33_29, xr_33_30, xr_33_31, xr_33_32, xr_33_35, xr_33_36_1, xr_33_36_2, xr_33_37, xr_33_40, xr_33_42, xr_33_44, xr_33_45, xr_33_48, xr_33_49, xr_33_52, xr_33_54_1, xr_33_54_2, xr_33_55, xr_33_56, xr_33_59, xr_33_60, xr_33_63, xr_33_65_1, xr_33_65_2, xr_33_66, xr_33_67, xr_33_70, xr_33_71, xr_33_72, xr_33_75, xr_33_76, xr_33_79, xr_33_80_1, xr_33_80_2, xr_33_81, xr_33_83, xr_33_84, xr_33_87, xr_33_89_1, xr_33_89_2, xr_33_90, xr_33_91, xr_33_94, xr_33_97, xr_33_100, xr_33_103, g4, f1, f2, f3, f4, cn, not_false_iff, true_imp_iff, false_imp_iff, true_and, sp_lend]
    cases hb : sp_nxt (sp_wt g) (sp_ky g) la N with
    | none => simp [oI]
    | some b =>
      have b1 := sp_nxt_lt hb
      obtain ⟨u1, u2, u3, u4⟩ := lx b1 h8 (by omega)
      have u5 : ¬ nI b = -1 := nI_m1 (by omega)
      have cc : ∀ K, Vi 32 g [some (.inr (0, 0)), some (.inr (4, b)), none, none, none, none, none] K ↔ K (oI ((sp_ch g P NQ b).bind (sp_lu g NQ))) g := fun K => c_X2_chosen g b 0 NQ P K g3 h20 g2 hP8
      simp only [oI_some, c_X2_lineKey, u2, u3, u5, cc, not_false_iff, true_imp_iff, false_imp_iff, true_and, and_true, not_true]
      cases hq : (sp_ch g P NQ b).bind (sp_lu g NQ) with
      | none =>
        have e1 : sp_tk P NQ g b = g := by unfold sp_tk; rw [hq]
        simp only [oI_none, not_true, false_imp_iff, true_imp_iff, and_true, e1]
        exact ih g _ _ _ (by omega) g4 g3 g2
      | some q =>
        have hql : q < NQ := by
          obtain ⟨p, -, e2⟩ := Option.bind_eq_some_iff.mp hq
          exact (sp_lus_ok e2).1
        obtain ⟨v1, v2, v3, v4⟩ := lx hql h20 (by omega)
        have v5 : ¬ nI q = -1 := nI_m1 (by omega)
        have e1 : sp_tk P NQ g b = sp_tq g b q := by unfold sp_tk; rw [hq]
        rw [e1]
        simp only [oI_some, v2, v3, v5, not_false_iff, true_imp_iff, false_imp_iff, true_and, and_true, c_X1_take, ah_rd]
        simp
        have e2 : sp_ky g b = g 4 b 7 * 8 + nI b := rfl
        rw [e2]
        exact ih (sp_tq g b q) _ _ _ (by omega) g4 g3 g2
theorem c_X2_lend (h20 : NQ ≤ 20) (hP8 : P ≤ 8) (h8 : N ≤ 8) (g4 : h 0 0 4 = nI N) (g3 : h 0 0 3 = nI NQ) (g2 : h 0 0 2 = nI P) : Vv 33 h [some (.inr (0, 0)), none, none, none, none] J ↔ J (sp_lend P NQ N N h (-1)) := by
  rw [Vv]
  simp only [xr_33_0, xr_33_1, xr_33_2, xr_33_3]
  have := c_X2_lendLoop N P NQ J h20 hP8 h8 N h (-1) none none (Nat.le_refl N) g4 g3 g2
  rw [Nat.sub_self] at this
  exact this
end CD
