/-! ===== the order of taking; a whole day ===== -/
def sp_vis (P NQ d : Nat) (s : Nat) (a : AHp) : AHp := if sp_wt a s = true ∧ a 4 s 7 = nI d then sp_tk P NQ a s else a
def sp_row (P NQ NS d : Nat) (a : AHp) : AHp := sp_fo (sp_vis P NQ d) a NS
/-- all at their places in line -/
def sp_tr (P NQ NS : Nat) (k : Nat) (a : AHp) : AHp := if k % 8 < NS ∧ sp_wt a (k % 8) = true ∧ a 4 (k % 8) 7 = nI (k / 8) then sp_tk P NQ a (k % 8) else a
/-- who waits finds nothing -/
def sp_stk (P NQ : Nat) (a : AHp) (s : Nat) : Prop := ∀ p, p < P → a 7 s p = -1 → ∀ q, q < NQ → ¬ (a 3 q 0 = nI p ∧ a 3 q 3 = -1 ∧ a 3 q 2 < a 0 0 7)
section OD
variable {P NQ NS D : Nat} {E : Nat → Nat} {a b : AHp} {s : Nat}
theorem sp_tk_o {t : Nat} (ht : t ≠ s) : sp_tk P NQ a s 4 t = a 4 t := by
  unfold sp_tk
  cases (sp_ch a P NQ s).bind (sp_lu a NQ) with
  | none => rfl
  | some q =>
    show sp_tq a s q 4 t = a 4 t
    funext j
    simp [sp_tq, ah_rd, ht]
theorem sp_tk_67 (j : Nat) (hj : j < 8) : sp_tk P NQ a s 4 s j = a 4 s j := by
  unfold sp_tk
  cases (sp_ch a P NQ s).bind (sp_lu a NQ) with
  | none => rfl
  | some q =>
    show sp_tq a s q 4 s j = a 4 s j
    simp [sp_tq, ah_rd, show ¬ j = 11 by omega, show ¬ j = 10 by omega, show ¬ j = 9 by omega, show ¬ j = 8 by omega]
theorem sp_tk_since (t : Nat) : sp_tk P NQ a s 4 t 7 = a 4 t 7 := by
  by_cases ht : t = s
  · subst ht; exact sp_tk_67 7 (by omega)
  · rw [sp_tk_o ht]
theorem sp_tk_wt {t : Nat} (ht : t ≠ s) : sp_wt (sp_tk P NQ a s) t = sp_wt a t := by
  unfold sp_wt
  rw [sp_tk_o ht, sp_tk_k (k := 0) (by omega)]
theorem sp_stk_o {t : Nat} (hs : s < 8) (h : sp_stk P NQ a t) : sp_stk P NQ (sp_tk P NQ a s) t := by
  unfold sp_tk
  cases hb : (sp_ch a P NQ s).bind (sp_lu a NQ) with
  | none => exact h
  | some q =>
    show sp_stk P NQ (sp_tq a s q) t
    intro p hp h7 q' hq' hc
    have e7 : (sp_tq a s q) 7 = a 7 := by unfold sp_tq; repeat rw [ah_rk (by omega)]
    have e0 : (sp_tq a s q) 0 = a 0 := by unfold sp_tq; repeat rw [ah_rk (by omega)]
    rw [e7] at h7
    obtain ⟨c1, c2, c3⟩ := hc
    rw [e0] at c3
    by_cases hqq : q' = q
    · subst hqq
      have e3 : (sp_tq a s q') 3 q' 3 = nI s := by simp [sp_tq, ah_rd]
      rw [e3] at c2
      exact nI_m1 (by omega) c2
    · have e3 : ∀ j, (sp_tq a s q) 3 q' j = a 3 q' j := by intro j; simp [sp_tq, ah_rd, hqq]
      rw [e3] at c1 c2 c3
      exact h p hp h7 q' hq' ⟨c1, c2, c3⟩
theorem sp_stk_s (hq : NQ ≤ 20) (hw : sp_wt (sp_tk P NQ a s) s = true) : sp_stk P NQ (sp_tk P NQ a s) s := by
  unfold sp_tk at hw ⊢
  cases hb : (sp_ch a P NQ s).bind (sp_lu a NQ) with
  | none =>
    show sp_stk P NQ a s
    intro p hp h7 q' hq' hc
    have h1 := sp_chs_none (sp_ch_none hb) p hp (by simp [h7])
    exact sp_lus_none.mp h1 q' hq' hc
  | some q =>
    rw [hb] at hw
    obtain ⟨p, -, -, -, -, hq2, -, -, -⟩ := sp_ch_some hb
    have e3 : (sp_tq a s q) 4 s 8 = nI q := by simp [sp_tq, ah_rd]
    have hw2 : sp_wt (sp_tq a s q) s = true := hw
    unfold sp_wt at hw2
    rw [e3] at hw2
    have := of_decide_eq_true hw2
    exact absurd this.1 (nI_m1 (by omega))
theorem sp_tr_since (k t : Nat) : sp_tr P NQ NS k a 4 t 7 = a 4 t 7 := by
  unfold sp_tr
  split
  · exact sp_tk_since t
  · rfl
theorem sp_fo_tr_since (n t : Nat) : sp_fo (sp_tr P NQ NS) a n 4 t 7 = a 4 t 7 := by
  induction n with
  | zero => rfl
  | succ n ih => rw [sp_fo, sp_tr_since, ih]
/-- rows are stretches of the line -/
theorem sp_row_tr (h8 : NS ≤ 8) (d : Nat) : ∀ j, j ≤ 8 → sp_fo (sp_tr P NQ NS) a (8 * d + j) = sp_fo (sp_vis P NQ d) (sp_fo (sp_tr P NQ NS) a (8 * d)) (if j ≤ NS then j else NS) := by
  intro j
  induction j with
  | zero => intro _; simp [sp_fo]
  | succ j ih =>
    intro hj
    rw [show 8 * d + (j + 1) = (8 * d + j) + 1 by omega, sp_fo, ih (by omega)]
    have m1 : (8 * d + j) % 8 = j := by omega
    have m2 : (8 * d + j) / 8 = d := by omega
    by_cases c : j + 1 ≤ NS
    · rw [if_pos (show j ≤ NS by omega), if_pos c, sp_fo]
      unfold sp_tr sp_vis
      rw [m1, m2]
      simp only [show j < NS by omega, true_and]
    · rw [if_neg c]
      have e : (if j ≤ NS then j else NS) = NS := by split <;> omega
      rw [e]
      unfold sp_tr
      rw [m1, if_neg (fun z => c (by have := z.1; omega))]
theorem sp_rows_tr (h8 : NS ≤ 8) : ∀ d, sp_fo (sp_row P NQ NS) a d = sp_fo (sp_tr P NQ NS) a (8 * d) := by
  intro d
  induction d with
  | zero => rfl
  | succ d ih =>
    rw [show 8 * (d + 1) = 8 * d + 8 by omega, sp_row_tr h8 d 8 (Nat.le_refl 8), sp_fo, ih]
    unfold sp_row
    have e : (if 8 ≤ NS then 8 else NS) = NS := by split <;> omega
    rw [e]
/-- nobody in line on a stretch: nothing happens -/
theorem sp_quiet (kk : Nat → Nat) (L : Nat) (hk : ∀ t, t < NS → a 4 t 7 = nI (kk t / 8) ∧ kk t % 8 = t ∧ kk t < 100000) : ∀ m, L + m < 100000 → (∀ t, t < NS → sp_wt (sp_fo (sp_tr P NQ NS) a L) t = true → kk t < L ∨ L + m ≤ kk t) → sp_fo (sp_tr P NQ NS) a (L + m) = sp_fo (sp_tr P NQ NS) a L := by
  intro m
  induction m with
  | zero => intro _ _; rfl
  | succ m ih =>
    intro hm hw
    rw [show L + (m + 1) = (L + m) + 1 by omega, sp_fo, ih (by omega) (fun t ht hwt => by have := hw t ht hwt; omega)]
    unfold sp_tr
    refine if_neg (fun z => ?_)
    obtain ⟨z1, z2, z3⟩ := z
    have hws := hw _ z1 z2
    have z3' : (sp_fo (sp_tr P NQ NS) a L) 4 ((L + m) % 8) 7 = nI ((L + m) / 8) := z3
    rw [sp_fo_tr_since] at z3'
    obtain ⟨k1, k2, k3⟩ := hk _ z1
    rw [k1] at z3'
    have := (nI_eq (by omega) (by omega)).mp z3'
    omega
theorem sp_lend_tr (h8 : NS ≤ 8) (M : Nat) (hM : M < 90000) (kk : Nat → Nat) (hk : ∀ t, t < NS → a 4 t 7 = nI (kk t / 8) ∧ kk t % 8 = t ∧ kk t < M) : ∀ (n L : Nat) (la : Int32), L ≤ M → (∀ m, m < 100000 → (la < nI m ↔ L ≤ m)) → sp_cnt (fun t => sp_wt (sp_fo (sp_tr P NQ NS) a L) t && decide (L ≤ kk t)) NS ≤ n → sp_lend P NQ NS n (sp_fo (sp_tr P NQ NS) a L) la = sp_fo (sp_tr P NQ NS) a M := by
  have hk' : ∀ t, t < NS → a 4 t 7 = nI (kk t / 8) ∧ kk t % 8 = t ∧ kk t < 100000 := fun t ht => by obtain ⟨k1, k2, k3⟩ := hk t ht; exact ⟨k1, k2, by omega⟩
  have key : ∀ (L t : Nat), t < NS → sp_ky (sp_fo (sp_tr P NQ NS) a L) t = nI (kk t) := by
    intro L t ht
    unfold sp_ky
    obtain ⟨k1, k2, k3⟩ := hk t ht
    rw [sp_fo_tr_since, k1, show (8 : Int32) = nI 8 from rfl, pk_mul, nI_add]
    congr 1
    omega
  intro n
  induction n with
  | zero =>
    intro L la hL hla hc
    have hz := sp_cnt_zero (Nat.le_zero.mp hc)
    rw [sp_lend]
    have := sp_quiet (P := P) (NQ := NQ) kk L hk' (M - L) (by omega) (fun t ht hw => by
      have := hz t ht
      rw [hw] at this
      simp at this
      exact Or.inl this)
    rw [show L + (M - L) = M by omega] at this
    exact this.symm
  | succ n ih =>
    intro L la hL hla hc
    rw [sp_lend]
    cases hn : sp_nxt (sp_wt (sp_fo (sp_tr P NQ NS) a L)) (sp_ky (sp_fo (sp_tr P NQ NS) a L)) la NS with
    | none =>
      show sp_fo (sp_tr P NQ NS) a L = _
      have := sp_quiet (P := P) (NQ := NQ) kk L hk' (M - L) (by omega) (fun t ht hw => by
        have h1 := sp_nxt_none hn t ht hw
        rw [key L t ht, hla _ (by have := (hk t ht).2.2; omega)] at h1
        exact Or.inl (by omega))
      rw [show L + (M - L) = M by omega] at this
      exact this.symm
    | some bb =>
      show sp_lend P NQ NS n (sp_tk P NQ (sp_fo (sp_tr P NQ NS) a L) bb) (sp_ky (sp_fo (sp_tr P NQ NS) a L) bb) = _
      obtain ⟨b1, b2, b3, b4⟩ := sp_nxt_some hn
      obtain ⟨k1, k2, k3⟩ := hk bb b1
      rw [key L bb b1] at b3 b4 ⊢
      rw [hla _ (by omega)] at b3
      have hq := sp_quiet (P := P) (NQ := NQ) kk L hk' (kk bb - L) (by omega) (fun t ht hw => by
        by_cases hlt : kk t < L
        · exact Or.inl hlt
        · have h1 := b4 t ht hw
          rw [key L t ht] at h1
          have h2 := h1 ((hla _ (by have := (hk t ht).2.2; omega)).mpr (by omega))
          have := (nI_leI (by omega) (by have := (hk t ht).2.2; omega)).mp h2
          exact Or.inr (by omega))
      rw [show L + (kk bb - L) = kk bb by omega] at hq
      have hs1 : sp_fo (sp_tr P NQ NS) a (kk bb + 1) = sp_tk P NQ (sp_fo (sp_tr P NQ NS) a L) bb := by
        rw [sp_fo, hq]
        show sp_tr P NQ NS (kk bb) (sp_fo (sp_tr P NQ NS) a L) = _
        unfold sp_tr
        rw [k2]
        refine if_pos ⟨b1, b2, ?_⟩
        have := sp_fo_tr_since (P := P) (NQ := NQ) (NS := NS) (a := a) L bb
        unfold sp_tr at this
        rw [this]
        exact k1
      rw [← hs1]
      refine ih (kk bb + 1) (nI (kk bb)) (by omega) (fun m hm => ?_) ?_
      · rw [nI_ltI (by omega) (by omega)]
        omega
      · have hd := sp_cnt_drop (p := fun t => sp_wt (sp_fo (sp_tr P NQ NS) a (kk bb + 1)) t && decide (kk bb + 1 ≤ kk t)) (q := fun t => sp_wt (sp_fo (sp_tr P NQ NS) a L) t && decide (L ≤ kk t)) (k := bb) b1 (fun t ht hp => by
          simp only [Bool.and_eq_true, decide_eq_true_eq] at hp ⊢
          have hne : t ≠ bb := fun z => by have := hp.2; rw [z] at this; omega
          rw [hs1, sp_tk_wt hne] at hp
          exact ⟨hp.1, by omega⟩) (by simp only [Bool.and_eq_true, decide_eq_true_eq]; exact ⟨b2, b3⟩) (by simp)
        omega
/-- in the end nobody who waits could take -/
theorem sp_stuck (h8 : NS ≤ 8) (h20 : NQ ≤ 20) (kk : Nat → Nat) (hk : ∀ t, t < NS → a 4 t 7 = nI (kk t / 8) ∧ kk t % 8 = t ∧ kk t < 100000) : ∀ L, L < 90000 → ∀ t, t < NS → sp_wt (sp_fo (sp_tr P NQ NS) a L) t = true → kk t < L → sp_stk P NQ (sp_fo (sp_tr P NQ NS) a L) t := by
  intro L
  induction L with
  | zero => intro _ t _ _ h; omega
  | succ L ih =>
    intro hL t ht hw hkt
    rw [sp_fo] at hw ⊢
    have ihL := ih (by omega) t ht
    have sinc := sp_fo_tr_since (P := P) (NQ := NQ) (NS := NS) (a := a) L t
    generalize sp_fo (sp_tr P NQ NS) a L = g at hw ihL sinc ⊢
    obtain ⟨k1, k2, k3⟩ := hk t ht
    unfold sp_tr at hw ⊢
    by_cases c : L % 8 < NS ∧ sp_wt g (L % 8) = true ∧ g 4 (L % 8) 7 = nI (L / 8)
    · rw [if_pos c] at hw ⊢
      by_cases e : t = L % 8
      · rw [e] at hw ⊢
        exact sp_stk_s h20 hw
      · rw [sp_tk_wt e] at hw
        refine sp_stk_o (by omega) (ihL hw ?_)
        rcases Nat.lt_or_ge (kk t) L with z | z
        · exact z
        · exact absurd (show t = L % 8 by omega) e
    · rw [if_neg c] at hw ⊢
      rcases Nat.lt_or_ge (kk t) L with z | z
      · exact ihL hw z
      · have e : kk t = L := by omega
        refine absurd ⟨by rw [← e, k2]; exact ht, by rw [← e, k2]; exact hw, ?_⟩ c
        rw [← e, k2, sinc, k1]
end OD
