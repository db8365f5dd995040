/-! ===== days ===== -/
def md_its (P NQ NS D : Nat) (b : AHp) : Nat → AHp
  | 0 => b
  | j + 1 => md_day P NQ NS (D + j) (md_its P NQ NS D b j)
section DS
variable {P NQ NS D : Nat} {E : Nat → Nat} {a b : AHp} {s : Nat}
theorem md_its_add (i : Nat) : ∀ j, md_its P NQ NS D b (i + j) = md_its P NQ NS (D + i) (md_its P NQ NS D b i) j
  | 0 => rfl
  | j + 1 => by rw [show i + (j + 1) = (i + j) + 1 by omega, md_its, md_its, md_its_add i j, show D + (i + j) = D + i + j by omega]
theorem ah_up_id {h : AHp} {k i j : Nat} {v : Int32} (e : h k i j = v) : ah_up h k i j v = h := by
  funext k' i' j'
  rw [ah_rd]
  by_cases c : k' = k ∧ i' = i ∧ j' = j
  · rw [if_pos c]; obtain ⟨rfl, rfl, rfl⟩ := c; exact e.symm
  · rw [if_neg c]
theorem ah_up_up {h : AHp} {k i j : Nat} {v v' : Int32} : ah_up (ah_up h k i j v) k i j v' = ah_up h k i j v' := by
  funext k' i' j'
  rw [ah_rd, ah_rd, ah_rd]
  by_cases c : k' = k ∧ i' = i ∧ j' = j
  · rw [if_pos c, if_pos c]
  · rw [if_neg c, if_neg c, if_neg c]
theorem hin_foldc (c : cI P NQ NS D (fun _ => D) a) : ∀ i, i ≤ NS → cI P NQ NS D (fun t => if t < i then D + 1 else D) (sp_fo sp_hin a i) := by
  intro i
  induction i with
  | zero => intro _; exact cI_E c (fun t _ => by simp)
  | succ i ih =>
    intro hi
    have h1 := ih (by omega)
    rw [sp_fo]
    refine cI_E (cI_hin h1 (show i < NS by omega) (by simp)) (fun t _ => ?_)
    show (if t = i then D + 1 else if t < i then D + 1 else D) = if t < i + 1 then D + 1 else D
    by_cases e1 : t = i
    · rw [if_pos e1, if_pos (by omega)]
    · rw [if_neg e1]
      by_cases e2 : t < i
      · rw [if_pos e2, if_pos (by omega)]
      · rw [if_neg e2, if_neg (by omega)]
theorem c_X2_passDay (c : cI P NQ NS D (fun _ => D) a) (J : AHp → Prop) : Vv 34 a [some (.inr (0, 0))] J ↔ J (sp_pass P NQ NS a) := by
  obtain ⟨⟨p1, p2, p3, p4, p5⟩, z2, z3, z4, z5, z6, z7⟩ := c.1
  have hh : ∀ J, Vv 25 a [some (.inr (0, 0)), none, none] J ↔ J (sp_fo sp_hin a NS) := fun J => c_X2_handInPages a NS J z4 p4 (fun i hi hne => by
    have ci := hin_foldc c i (by omega)
    obtain ⟨⟨-, -, y3, -⟩, -, cs⟩ := id ci
    obtain ⟨-, -, -, -, -, i6⟩ := cs i hi
    rcases i6 with i6 | ⟨q, p, er, d, pc, j1, j2, j3, j4, j5, -⟩
    · exact absurd i6 hne
    · rw [j4, j5]
      exact ⟨vp_in_nI (by omega) (by omega), fun _ _ => vp_in_nI (by omega) (by omega)⟩)
  have hl : ∀ J, Vv 33 (sp_fo sp_hin a NS) [some (.inr (0, 0)), none, none, none, none] J ↔ J (sp_lend P NQ NS NS (sp_fo sp_hin a NS) (-1)) := fun J => c_X2_lend (sp_fo sp_hin a NS) NS P NQ J p3 p2 p4 (by rw [sp_fo_hin_k (by omega)]; exact z4) (by rw [sp_fo_hin_k (by omega)]; exact z3) (by rw [sp_fo_hin_k (by omega)]; exact z2)
  rw [Vv]
  simp only [xr_34_0, xr_34_1, xr_34_4, xr_34_5, xr_34_8, xr_34_9, xr_34_10, xr_34_13, xr_34_14, xr_34_15, xr_34_18, hh, hl, true_and, sp_pass]
theorem sp_pass_k {k : Nat} (hk : 10 ≤ k) : sp_pass P NQ NS a k = a k := by
  unfold sp_pass
  rw [ah_rk (by omega), sp_lend_k (by omega), sp_fo_hin_k (by omega)]
theorem oneDay_c (c : cI P NQ NS D (fun _ => D) a) (r : rI NQ NS a b) (J : AHp → Prop) : Vv 74 b [some (.inr (10, 0)), none, none] J ↔ J (md_day P NQ NS D b) := by
  obtain ⟨⟨p1, p2, p3, p4, p5⟩, z2, z3, z4, z5, z6, z7⟩ := c.1
  obtain ⟨y0, y1, y2, y3, y4, y5⟩ := r.1
  refine c_X3_oneDay b P NQ NS D J p3 p2 p4 (by omega) (by rw [y2, z4]) (by rw [y1, z3]) (by rw [y0, z2]) (by rw [y3, z5]) (by rw [y4]; exact z6) (fun i hi hne => ?_)
  obtain ⟨h1, h2⟩ := hin_fold c r i (by omega)
  obtain ⟨-, -, x3, -⟩ := h2.2.2 i hi
  obtain ⟨-, -, -, -, -, i6⟩ := h1.2.2 i hi
  rw [x3] at hne ⊢
  rcases i6 with i6 | ⟨q, p, er, d, pc, j1, j2, j3, j4, j5, j6, -⟩
  · exact absurd i6 hne
  · refine ⟨q, p, by omega, by omega, j4, ?_⟩
    have e := (h2.2.1 q j1).1
    rw [sp_fo_k (fun _ _ => md_hin_k (by omega))] at e
    rw [e, j6]
theorem its_ok (c : cI P NQ NS D (fun _ => D) a) (r : rI NQ NS a b) : ∀ j, D + j ≤ 9999 → ∃ a', cI P NQ NS (D + j) (fun _ => D + j) a' ∧ rI NQ NS a' (md_its P NQ NS D b j) := by
  intro j
  induction j with
  | zero => intro _; exact ⟨a, c, r⟩
  | succ j ih =>
    intro hj
    obtain ⟨a', h1, h2⟩ := ih (by omega)
    obtain ⟨g1, g2, -⟩ := pass_ok h1 (by omega) h2
    exact ⟨_, g1, g2⟩
theorem md_day_k {k : Nat} (hk : k < 10) : md_day P NQ NS D b k = b k := by
  unfold md_day
  rw [ah_rk (by omega), sp_fo_k (fun _ _ => md_row_k (by omega)), sp_fo_k (fun _ _ => md_hin_k (by omega))]
theorem md_its_k {k : Nat} (hk : k < 10) : ∀ j, md_its P NQ NS D b j k = b k
  | 0 => rfl
  | j + 1 => by rw [md_its, md_day_k hk, md_its_k hk j]
theorem quiet_its {e : Nat} (c : cI P NQ NS D (fun _ => e) a) (he : e ≤ 9999) (r : rI NQ NS a b) (st : ∀ t, t < NS → sp_wt a t = true → sp_stk P NQ a t) : ∀ j, D + j ≤ e → rI NQ NS (ah_up a 0 0 5 (nI (D + j))) (md_its P NQ NS D b j) := by
  intro j
  induction j with
  | zero =>
    intro _
    rw [ah_up_id (show a 0 0 5 = nI (D + 0) from c.1.2.2.2.2.1)]
    exact r
  | succ j ih =>
    intro hj
    have h1 := ih (by omega)
    have h2 := quiet_ok (cI_day c (show D ≤ D + j by omega) (by omega)) (show D + j < e by omega) (by omega) h1 (fun t ht hw p hp h7 q hq => st t ht hw p hp h7 q hq)
    rw [md_its, h2]
    have h3 := rI_day h1 (nI (D + j + 1))
    rw [ah_up_up] at h3
    exact h3
theorem rI_congr {a' b' : AHp} (r : rI NQ NS a b) (ha : ∀ k, k < 10 → a' k = a k) (hb : ∀ k, 10 ≤ k → b' k = b k) : rI NQ NS a' b' := by
  unfold rI rI_0 rI_q rI_s rI_p at r ⊢
  simp only [ha 0 (by omega), ha 3 (by omega), ha 4 (by omega), ha 5 (by omega), ha 6 (by omega), ha 7 (by omega), ha 8 (by omega), ha 9 (by omega), hb 10 (by omega), hb 12 (by omega), hb 13 (by omega), hb 14 (by omega), hb 15 (by omega), hb 17 (by omega), hb 18 (by omega), hb 19 (by omega), hb 20 (by omega), hb 21 (by omega), hb 22 (by omega), hb 23 (by omega), hb 24 (by omega), hb 25 (by omega), hb 26 (by omega)]
  exact r
theorem cI_congr {a' : AHp} (c : cI P NQ NS D E a) (ha : ∀ k, k < 10 → a' k = a k) : cI P NQ NS D E a' := by
  obtain ⟨c0, cq, cs⟩ := c
  refine ⟨?_, fun q hq => cI_q_congr (by rw [ha 3 (by omega)]) (cq q hq), fun t ht => cI_s_congr (by rw [ha 4 (by omega)]) (by rw [ha 5 (by omega)]) (by rw [ha 6 (by omega)]) (by rw [ha 7 (by omega)]) (fun q _ => by rw [ha 3 (by omega)]) (cs t ht)⟩
  unfold cI_0
  rw [ha 0 (by omega)]
  exact c0
/-- one round of the class's loop: a day, then on to where somebody stirs, day m at most -/
theorem step_ok (c : cI P NQ NS D (fun _ => D) a) {m : Nat} (hD : D < m) (hm : m ≤ 9999) : ∃ e, D < e ∧ e ≤ m ∧ (∀ J, Vv 35 (sp_pass P NQ NS a) [some (.inr (0, 0)), some (.inl (nI m)), none, none] J ↔ J (ah_up (sp_pass P NQ NS a) 0 0 5 (nI e))) ∧ cI P NQ NS e (fun _ => e) (ah_up (sp_pass P NQ NS a) 0 0 5 (nI e)) ∧ cI P NQ NS (D + 1) (fun _ => e) (sp_pass P NQ NS a) ∧ ∀ b, rI NQ NS a b → ∀ j, D + 1 + j ≤ e → rI NQ NS (ah_up (sp_pass P NQ NS a) 0 0 5 (nI (D + 1 + j))) (md_its P NQ NS D b (1 + j)) := by
  have c1 : cI P NQ NS (D + 1) (fun _ => D + 1) (sp_pass P NQ NS a) := by
    have h1' : cI P NQ NS D (fun _ => D + 1) (sp_fo sp_hin a NS) := cI_E (hin_foldc c NS (Nat.le_refl NS)) (fun t ht => by simp [ht])
    obtain ⟨l1, l2⟩ := lend_ok h1'
    have r1 : cI P NQ NS D (fun _ => D + 1) (sp_fo (sp_row P NQ NS) (sp_fo sp_hin a NS) (D + 1)) := by
      have key : ∀ d, cI P NQ NS D (fun _ => D + 1) (sp_fo (sp_row P NQ NS) (sp_fo sp_hin a NS) d) := by
        intro d
        induction d with
        | zero => exact h1'
        | succ d ih =>
          rw [sp_fo]
          have inner : ∀ i, i ≤ NS → cI P NQ NS D (fun _ => D + 1) (sp_fo (sp_vis P NQ d) (sp_fo (sp_row P NQ NS) (sp_fo sp_hin a NS) d) i) := by
            intro i
            induction i with
            | zero => intro _; exact ih
            | succ i ih2 =>
              intro hi
              have h3 := ih2 (by omega)
              rw [sp_fo]
              unfold sp_vis at h3 ⊢
              split
              · exact cI_tk h3 (by omega)
              · exact h3
          exact inner NS (Nat.le_refl NS)
      exact key (D + 1)
    rw [← l1] at r1
    unfold sp_pass
    rw [r1.1.2.2.2.2.1, nI_1]
    exact cI_day r1 (by omega) (by omega)
  obtain ⟨e, e1, e2, e3, e4⟩ := skip_ok c1 (show D + 1 ≤ m by omega) hm
  obtain ⟨⟨p1, p2, p3, p4, p5⟩, z2, z3, z4, z5, z6, z7⟩ := c1.1
  refine ⟨e, by omega, e2, fun J => ?_, cI_day e4 (by omega) (by omega), e4, fun b r j hj => ?_⟩
  · rw [c_X2_skip _ 0 NS (nI m) J z4 p4, e3, z5]
    have g7 : nI (D + 1) < nI e ↔ D + 1 < e := nI_ltI (by omega) (by omega)
    by_cases cc : D + 1 < e
    · rw [if_pos (g7.mpr cc)]
    · rw [if_neg (fun z => cc (g7.mp z)), show e = D + 1 by omega]
  · obtain ⟨g1, g2, g3⟩ := pass_ok c (by omega) r
    have q := quiet_its e4 (by omega) g2 g3 j hj
    rw [md_its_add 1 j]
    exact q
theorem days_cls {m n : Nat} (hm : m ≤ 9999) (hn : n ≤ 999) : ∀ (k : Nat) (a : AHp) (D gone : Nat), cI P NQ NS D (fun _ => D) a → D ≤ m → m - D ≤ k → gone + k = n → ∀ (Q : Option Int32 → AHp → Prop), (∀ a', cI P NQ NS m (fun _ => m) a' → (∀ b, rI NQ NS a b → rI NQ NS a' (md_its P NQ NS D b (m - D))) → (∀ j, 10 ≤ j → a' j = a j) → Q (some (nI m)) a') → VV 36 a 21 [some (.inr (0, 0)), some (.inl (nI n)), some (.inl (nI m)), some (.inl (nI gone))] [] Q := by
  intro k
  induction k with
  | zero =>
    intro a D gone c hD hk hg Q hQ
    have e : D = m := by omega
    subst e
    have z5 := c.1.2.2.2.2.1
    rw [show gone = n by omega, xr_36_21]
    simp only [xr_36_0, xr_36_1, xr_36_2, xr_36_4, xr_36_7, xr_36_10, xr_36_11, xr_36_12, xr_36_13, xr_36_16, xr_36_17, xr_36_18, xr_36_19, xr_36_20, xr_36_22, xr_36_23, xr_36_26, xr_36_27, xr_36_30, xr_36_31, xr_36_34, xr_36_35, xr_36_38, xr_36_39, xr_36_40, xr_36_43, xr_36_46, xr_36_49, xr_36_50, xr_36_53, lxe, not_true, false_imp_iff, true_imp_iff, and_true, z5]
    refine hQ a c (fun b r => ?_) (fun _ _ => rfl)
    rw [Nat.sub_self]; exact r
  | succ k ih =>
    intro a D gone c hD hk hg Q hQ
    have z5 := c.1.2.2.2.2.1
    have f1 : ¬ nI n ≤ nI gone := nI_ge (by omega) (by omega)
    have f4 : nI gone + 1 = nI (gone + 1) := nI_1 gone
    rw [xr_36_21]
    by_cases hlt : D < m
    · obtain ⟨e, e1, e2, e3, e4, e5, e6⟩ := step_ok c hlt hm
      have f2 : ¬ nI m ≤ nI D := nI_ge hlt (by omega)
      simp only [xr_36_0, xr_36_1, xr_36_2, xr_36_4, xr_36_7, xr_36_10, xr_36_11, xr_36_12, xr_36_13, xr_36_16, xr_36_17, xr_36_18, xr_36_19, xr_36_20, xr_36_22, xr_36_23, xr_36_26, xr_36_27, xr_36_30, xr_36_31, xr_36_34, xr_36_35, xr_36_38, xr_36_39, xr_36_40, xr_36_43, xr_36_46, xr_36_49, xr_36_50, xr_36_53, f1, f2, f4, z5, c_X2_passDay c, e3, not_false_iff, true_imp_iff, false_imp_iff, true_and]
      refine ih _ e (gone + 1) e4 e2 (by omega) (by omega) Q (fun a' h1 h2 h3 => hQ a' h1 (fun b r => ?_) (fun j hj => ?_))
      · have h4 := h2 _ (e6 b r (e - (D + 1)) (by omega) |> fun z => by rw [show D + 1 + (e - (D + 1)) = e by omega] at z; exact z)
        rw [show m - D = (1 + (e - (D + 1))) + (m - e) by omega, md_its_add, show D + (1 + (e - (D + 1))) = e by omega]
        exact h4
      · rw [h3 j hj, ah_rk (by omega), sp_pass_k hj]
    · have e : D = m := by omega
      subst e
      simp only [xr_36_0, xr_36_1, xr_36_2, xr_36_4, xr_36_7, xr_36_10, xr_36_11, xr_36_12, xr_36_13, xr_36_16, xr_36_17, xr_36_18, xr_36_19, xr_36_20, xr_36_22, xr_36_23, xr_36_26, xr_36_27, xr_36_30, xr_36_31, xr_36_34, xr_36_35, xr_36_38, xr_36_39, xr_36_40, xr_36_43, xr_36_46, xr_36_49, xr_36_50, xr_36_53, f1, z5, lxe, not_true, not_false_iff, false_imp_iff, true_imp_iff, and_true, true_and]
      refine hQ a c (fun b r => ?_) (fun _ _ => rfl)
      rw [Nat.sub_self]; exact r
theorem days_mod {n : Nat} (hn : n ≤ 999) (c : cI P NQ NS D (fun _ => D) a) (r : rI NQ NS a b) (hm : D + n ≤ 9999) (Q : Option Int32 → AHp → Prop) : VV 75 b 32 [some (.inr (10, 0)), some (.inl (nI n)), some (.inl (nI 0))] [] Q ↔ Q (some (nI (D + n))) (md_its P NQ NS D b n) := by
  refine Iff.trans (it0 (V := fun i => VV 75 (md_its P NQ NS D b i) 32 [some (.inr (10, 0)), some (.inl (nI n)), some (.inl (nI i))] [] Q) n ?_) ?_
  · intro i hi
    obtain ⟨a', h1, h2⟩ := its_ok c r i (by omega)
    have f1 : ¬ nI n ≤ nI i := nI_ge hi (by omega)
    rw [xr_75_32, md_its]
    simp only [xr_75_0, xr_75_1, xr_75_2, xr_75_5, xr_75_6, xr_75_7, xr_75_10, xr_75_11, xr_75_13, xr_75_16, xr_75_17, xr_75_20, xr_75_21, xr_75_22, xr_75_25, xr_75_28, xr_75_29, xr_75_30, xr_75_31, xr_75_33, xr_75_34, xr_75_37, xr_75_38, xr_75_41, xr_75_44, xr_75_47, xr_75_48, xr_75_51, f1, nI_1, oneDay_c h1 h2, not_false_iff, true_imp_iff, false_imp_iff, true_and]
  · obtain ⟨a', h1, h2⟩ := its_ok c r n hm
    have e : md_its P NQ NS D b n 10 0 17 = nI (D + n) := by rw [h2.1.2.2.2.1, h1.1.2.2.2.2.1]
    rw [xr_75_32]
    simp only [xr_75_0, xr_75_1, xr_75_2, xr_75_5, xr_75_6, xr_75_7, xr_75_10, xr_75_11, xr_75_13, xr_75_16, xr_75_17, xr_75_20, xr_75_21, xr_75_22, xr_75_25, xr_75_28, xr_75_29, xr_75_30, xr_75_31, xr_75_33, xr_75_34, xr_75_37, xr_75_38, xr_75_41, xr_75_44, xr_75_47, xr_75_48, xr_75_51, lxe, e, not_true, false_imp_iff, true_imp_iff, and_true]
end DS
