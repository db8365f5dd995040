/-! ===== class and reference beside each other: a's cells of the class, b's cells of the reference ===== -/
def rI_0 (a b : AHp) : Prop := b 10 0 0 = a 0 0 2 ∧ b 10 0 1 = a 0 0 3 ∧ b 10 0 6 = a 0 0 4 ∧ b 10 0 17 = a 0 0 5 ∧ b 10 0 18 = a 0 0 6 ∧ b 10 0 19 = a 0 0 7
def rI_q (a b : AHp) (q : Nat) : Prop := b 12 0 q = a 3 q 0 ∧ b 13 0 q = a 3 q 1 ∧ b 14 0 q = a 3 q 2 ∧ b 15 0 q = a 3 q 3
def rI_p (a b : AHp) (s p : Nat) : Prop := b 21 0 (8 * s + p) = a 5 s p ∧ (b 22 0 (8 * s + p) = if a 7 s p = -1 then 0 else 1) ∧ (¬ a 7 s p = -1 → b 23 0 (8 * s + p) = a 6 s p ∧ b 24 0 (8 * s + p) = a 7 s p ∧ b 25 0 (8 * s + p) = a 8 s p ∧ b 26 0 (8 * s + p) = a 9 s p) ∧ (¬ a 4 s 8 = -1 → a 4 s 9 = nI p → b 23 0 (8 * s + p) = a 4 s 10 ∧ b 24 0 (8 * s + p) = a 4 s 8 ∧ b 25 0 (8 * s + p) = a 4 s 11)
def rI_s (a b : AHp) (s : Nat) : Prop := b 17 0 s = a 4 s 5 ∧ b 18 0 s = a 4 s 7 ∧ b 19 0 s = a 4 s 8 ∧ (b 20 0 s = if a 0 0 2 ≤ a 4 s 6 then a 4 s 7 else -1) ∧ ∀ p, p < 8 → rI_p a b s p
def rI (NQ NS : Nat) (a b : AHp) : Prop := rI_0 a b ∧ (∀ q, q < NQ → rI_q a b q) ∧ ∀ s, s < NS → rI_s a b s
theorem sp_lus_congr {pc us hd pc' us' hd' : Nat → Int32} {w p : Int32} : ∀ {n : Nat}, (∀ q, q < n → pc q = pc' q ∧ us q = us' q ∧ hd q = hd' q) → sp_lus pc us hd w p n = sp_lus pc' us' hd' w p n
  | 0, _ => rfl
  | n + 1, h => by
    have ih := sp_lus_congr (w := w) (p := p) (n := n) (fun q hq => h q (by omega))
    obtain ⟨h1, h2, h3⟩ := h n (by omega)
    rw [sp_lus, sp_lus, ih, h1, h2, h3]
    cases e : sp_lus pc' us' hd' w p n with
    | none => rfl
    | some b =>
      have := (sp_lus_ok e).1
      simp only
      rw [(h b (by omega)).2.1]
theorem sp_unw_congr {pc us pc' us' : Nat → Int32} {w p : Int32} : ∀ {n : Nat}, (∀ q, q < n → pc q = pc' q ∧ us q = us' q) → sp_unw pc us w p n = sp_unw pc' us' w p n
  | 0, _ => rfl
  | n + 1, h => by
    have ih := sp_unw_congr (w := w) (p := p) (n := n) (fun q hq => h q (by omega))
    obtain ⟨h1, h2⟩ := h n (by omega)
    rw [sp_unw, sp_unw, ih, h1, h2]
theorem sp_chs_congr {hs hs' : Nat → Bool} {lu lu' : Nat → Option Nat} {rk rk' : Nat → Nat} : ∀ {n : Nat}, (∀ p, p < n → hs p = hs' p ∧ lu p = lu' p ∧ rk p = rk' p) → sp_chs hs lu rk n = sp_chs hs' lu' rk' n
  | 0, _ => rfl
  | n + 1, h => by
    have ih := sp_chs_congr (n := n) (fun q hq => h q (by omega))
    obtain ⟨h1, h2, h3⟩ := h n (by omega)
    rw [sp_chs, sp_chs, ih, h1, h2, h3]
    cases e : sp_chs hs' lu' rk' n with
    | none => rfl
    | some b =>
      have := (sp_chs_ok e).1
      simp only
      rw [(h b (by omega)).2.2]
section RL
variable {P NQ NS D : Nat} {E : Nat → Nat} {a b : AHp} {s : Nat}
theorem rI_has (r : rI_s a b s) : ∀ p, p < 8 → md_has b s p = decide (¬ a 7 s p = -1) := by
  intro p hp
  unfold md_has
  rw [(r.2.2.2.2 p hp).2.1]
  by_cases c : a 7 s p = -1 <;> simp [c]
theorem rI_lu (r0 : rI_0 a b) (rq : ∀ q, q < NQ → rI_q a b q) (p : Nat) : md_lu b NQ p = sp_lu a NQ p := by
  unfold md_lu sp_lu
  rw [r0.2.2.2.2.2]
  exact sp_lus_congr (fun q hq => ⟨(rq q hq).1, (rq q hq).2.2.1, (rq q hq).2.2.2⟩)
theorem rI_un (r0 : rI_0 a b) (rq : ∀ q, q < NQ → rI_q a b q) (p : Nat) : md_un b NQ p = sp_un a NQ p := by
  unfold md_un sp_un
  rw [r0.2.2.2.2.2]
  exact sp_unw_congr (fun q hq => ⟨(rq q hq).1, (rq q hq).2.2.1⟩)
theorem rI_ch (h8 : P ≤ 8) (r0 : rI_0 a b) (rq : ∀ q, q < NQ → rI_q a b q) (rs : rI_s a b s) : md_ch b P NQ s = sp_ch a P NQ s := by
  unfold md_ch sp_ch
  refine sp_chs_congr (fun p hp => ⟨rI_has rs p (by omega), rI_lu r0 rq p, ?_⟩)
  unfold sp_rk
  rw [r0.2.2.2.2.1, rI_un r0 rq p]
theorem rI_cnt (h8 : P ≤ 8) (rs : rI_s a b s) : sp_cnt (md_has b s) P = sp_cnt (fun p => decide (¬ a 7 s p = -1)) P := sp_cnt_congr (fun p hp => rI_has rs p (by omega))
/-- handing in, one SCRIBE: the class -/
theorem cI_hin (c : cI P NQ NS D E a) (hs : s < NS) (hE : E s = D) : cI P NQ NS D (fun t => if t = s then D + 1 else E t) (sp_hin s a) := by
  obtain ⟨c0, cq, cs⟩ := id c
  have c0' := c0
  obtain ⟨⟨p1, p2, p3, p4, p5⟩, z2, z3, z4, z5, z6, z7⟩ := c0'
  have css := cs s hs
  obtain ⟨⟨pa, pa1, pa2, pa3⟩, i2, i3, i4, i5, i6⟩ := id css
  by_cases act : ¬ a 4 s 8 = -1 ∧ a 4 s 11 + a 4 s 5 = a 0 0 5
  · rcases i6 with i6 | ⟨q, p, er, d, pc, j1, j2, j3, j4, j5, j6, j7, j8, j9, j10, j11, j12, j13, j14⟩
    · exact absurd i6 act.1
    · have hq1 : (nI q).toNatClampNeg = q := nI_clamp (by omega)
      have hp1 : (nI p).toNatClampNeg = p := nI_clamp (by omega)
      have hq2 : ¬ nI q < 0 := nI_pos (by omega)
      have hq3 : nI q < nI NQ := nI_lt j1 (by omega)
      have e : sp_hin s a = sp_hi (ah_up a 3 q 3 (-1)) s (nI D) := by
        unfold sp_hin
        rw [if_pos act, j4, z3, if_pos ⟨hq2, hq3⟩, hq1, z5]
      have k0 : ∀ k, k < 3 → (sp_hi (ah_up a 3 q 3 (-1)) s (nI D)) k = a k := by
        intro k hk
        unfold sp_hi
        repeat rw [ah_rk (by omega)]
      have k3 : ∀ q' j, (sp_hi (ah_up a 3 q 3 (-1)) s (nI D)) 3 q' j = if q' = q ∧ j = 3 then -1 else a 3 q' j := by
        intro q' j
        simp [sp_hi, ah_rd]
      have ko : ∀ k s', 4 ≤ k → s' ≠ s → (sp_hi (ah_up a 3 q 3 (-1)) s (nI D)) k s' = a k s' := by
        intro k s' hk hn
        funext j
        simp [sp_hi, ah_rd, hn]
        intro z; omega
      have k4 : ∀ j, (sp_hi (ah_up a 3 q 3 (-1)) s (nI D)) 4 s j = if j = 8 then -1 else if j = 7 then nI D else if j = 6 then a 4 s 6 + 1 else a 4 s j := by
        intro j
        simp [sp_hi, ah_rd]
      have k5 : (sp_hi (ah_up a 3 q 3 (-1)) s (nI D)) 5 s = a 5 s := by
        funext j; simp [sp_hi, ah_rd]
      have k6 : ∀ j, (sp_hi (ah_up a 3 q 3 (-1)) s (nI D)) 6 s j = if j = p then nI er ^^^ a 5 s p else a 6 s j := by
        intro j; simp [sp_hi, ah_rd, j5, hp1, j7]
      have k7 : ∀ j, (sp_hi (ah_up a 3 q 3 (-1)) s (nI D)) 7 s j = if j = p then nI q else a 7 s j := by
        intro j; simp [sp_hi, ah_rd, j5, hp1, j4]
      rw [e]
      generalize sp_hi (ah_up a 3 q 3 (-1)) s (nI D) = g at k0 k3 ko k4 k5 k6 k7 ⊢
      refine ⟨?_, fun q' hq' => ?_, fun s' hs' => ?_⟩
      · unfold cI_0
        rw [k0 0 (by omega)]
        exact c0
      · obtain ⟨x1, x2, x3, x4⟩ := cq q' hq'
        unfold cI_q
        rw [k3, k3, k3, k3]
        simp only [show ¬ ((0 : Nat) = 3) by omega, show ¬ ((1 : Nat) = 3) by omega, show ¬ ((2 : Nat) = 3) by omega, and_false, if_false, and_true]
        refine ⟨x1, x2, x3, ?_⟩
        by_cases hqq : q' = q
        · rw [if_pos hqq]; exact Or.inl rfl
        · rw [if_neg hqq]; exact x4
      · show cI_s P NQ D (if s' = s then D + 1 else E s') g s'
        by_cases hss : s' = s
        · subst hss
          rw [if_pos rfl]
          have n1 : ¬ nI q = -1 := nI_m1 (by omega)
          have hcnt : sp_cnt (fun j => decide (¬ g 7 s' j = -1)) P = sp_cnt (fun j => decide (¬ a 7 s' j = -1)) P + 1 := by
            refine sp_cnt_set (k := p) j2 (fun j _ hj => ?_) ?_ ?_
            · simp only [k7, if_neg hj]
            · simp [j14]
            · simp [k7, n1]
          refine ⟨⟨pa, pa1, pa2, by rw [k4]; simp; exact pa3⟩, ?_, ⟨D, Nat.le_refl D, by rw [k4]; simp⟩, ?_, ?_, Or.inl (by rw [k4]; simp)⟩
          · rw [k4, hcnt, i2, ← nI_1]; simp
          · rw [k5]; exact i4
          · intro p' hp' hne
            rw [k7] at hne
            rw [k6]
            by_cases hpp : p' = p
            · rw [if_pos hpp]
              obtain ⟨bb, hb1, hb2⟩ := i4 p (by omega)
              rw [hb2, nx_xor]
              exact ⟨_, nx_xor_lt j3 hb1, rfl⟩
            · rw [if_neg hpp] at hne ⊢
              exact i5 p' hp' hne
        · rw [if_neg hss]
          refine cI_s_congr (ko 4 s' (by omega) hss) (ko 5 s' (by omega) hss) (ko 6 s' (by omega) hss) (ko 7 s' (by omega) hss) (fun q' _ => ?_) (cs s' hs')
          rw [k3]; simp
  · have e : sp_hin s a = a := by unfold sp_hin; rw [if_neg act]
    rw [e]
    refine ⟨c0, cq, fun s' hs' => ?_⟩
    show cI_s P NQ D (if s' = s then D + 1 else E s') a s'
    by_cases hss : s' = s
    · subst hss
      rw [if_pos rfl]
      refine ⟨⟨pa, pa1, pa2, pa3⟩, i2, i3, i4, i5, ?_⟩
      rcases i6 with i6 | ⟨q, p, er, d, pc, j1, j2, j3, j4, j5, j6, j7, j8, j9, j10, j11, j12, j13, j14⟩
      · exact Or.inl i6
      · refine Or.inr ⟨q, p, er, d, pc, j1, j2, j3, j4, j5, j6, j7, j8, j9, j10, j11, j12, ?_, j14⟩
        have n1 : ¬ nI q = -1 := nI_m1 (by omega)
        have : ¬ (d + pc = D) := by
          intro z
          refine act ⟨by rw [j4]; exact n1, ?_⟩
          rw [j8, j9, nI_add, z, z5]
        omega
    · rw [if_neg hss]; exact cs s' hs'
/-- handing in, one SCRIBE: beside each other -/
theorem rI_hin (c : cI P NQ NS D E a) (hs : s < NS) (r : rI NQ NS a b) : rI NQ NS (sp_hin s a) (md_hin P s b) := by
  obtain ⟨c0, cq, cs⟩ := id c
  have c0' := c0
  obtain ⟨⟨p1, p2, p3, p4, p5⟩, z2, z3, z4, z5, z6, z7⟩ := c0'
  obtain ⟨⟨pa, pa1, pa2, pa3⟩, i2, i3, i4, i5, i6⟩ := cs s hs
  obtain ⟨r0, rq, rs⟩ := id r
  obtain ⟨y0, y1, y2, y3, y4, y5⟩ := id r0
  obtain ⟨t1, t2, t3, t4, t5⟩ := rs s hs
  rcases i6 with i6 | ⟨q, p, er, d, pc, j1, j2, j3, j4, j5, j6, j7, j8, j9, j10, j11, j12, j13, j14⟩
  · have e1 : sp_hin s a = a := by unfold sp_hin; rw [if_neg (fun z => z.1 i6)]
    have e2 : md_hin P s b = b := by unfold md_hin; rw [if_neg (fun z => z.1 (t3.trans i6))]
    rw [e1, e2]; exact r
  · have hq1 : (nI q).toNatClampNeg = q := nI_clamp (by omega)
    have hp1 : (nI p).toNatClampNeg = p := nI_clamp (by omega)
    have hq2 : ¬ nI q < 0 := nI_pos (by omega)
    have hq3 : nI q < nI NQ := nI_lt j1 (by omega)
    have n1 : ¬ nI q = -1 := nI_m1 (by omega)
    have na : ¬ a 4 s 8 = -1 := by rw [j4]; exact n1
    have mq : md_q b s = q := by unfold md_q; rw [t3, j4, hq1]
    have mp : md_p b s = p := by unfold md_p; rw [mq, (rq q j1).1, j6, hp1]
    obtain ⟨u1, u2, u3, u4⟩ := t5 p (by omega)
    obtain ⟨v1, v2, v3⟩ := u4 na j5
    have hcond : (¬ a 4 s 8 = -1 ∧ a 4 s 11 + a 4 s 5 = a 0 0 5) ↔ (¬ b 19 0 s = -1 ∧ b 25 0 (8 * s + md_p b s) + b 17 0 s = b 10 0 17) := by
      rw [t3, mp, v3, t1, y3]
    by_cases act : ¬ a 4 s 8 = -1 ∧ a 4 s 11 + a 4 s 5 = a 0 0 5
    · have e : sp_hin s a = sp_hi (ah_up a 3 q 3 (-1)) s (nI D) := by
        unfold sp_hin
        rw [if_pos act, j4, z3, if_pos ⟨hq2, hq3⟩, hq1, z5]
      have em : md_hin P s b = md_hi P b s q p := by
        unfold md_hin
        rw [if_pos (hcond.mp act), mq, mp]
      have k0 : ∀ k, k < 3 → (sp_hi (ah_up a 3 q 3 (-1)) s (nI D)) k = a k := by
        intro k hk
        unfold sp_hi
        repeat rw [ah_rk (by omega)]
      have k3 : ∀ q' j, (sp_hi (ah_up a 3 q 3 (-1)) s (nI D)) 3 q' j = if q' = q ∧ j = 3 then -1 else a 3 q' j := by
        intro q' j
        simp [sp_hi, ah_rd]
      have ko : ∀ k s', 4 ≤ k → s' ≠ s → (sp_hi (ah_up a 3 q 3 (-1)) s (nI D)) k s' = a k s' := by
        intro k s' hk hn
        funext j
        simp [sp_hi, ah_rd, hn]
        intro z; omega
      have k4 : ∀ j, (sp_hi (ah_up a 3 q 3 (-1)) s (nI D)) 4 s j = if j = 8 then -1 else if j = 7 then nI D else if j = 6 then a 4 s 6 + 1 else a 4 s j := by
        intro j
        simp [sp_hi, ah_rd]
      have k5 : (sp_hi (ah_up a 3 q 3 (-1)) s (nI D)) 5 s = a 5 s := by
        funext j; simp [sp_hi, ah_rd]
      have k6 : ∀ j, (sp_hi (ah_up a 3 q 3 (-1)) s (nI D)) 6 s j = if j = p then nI er ^^^ a 5 s p else a 6 s j := by
        intro j; simp [sp_hi, ah_rd, j5, hp1, j7]
      have k7 : ∀ j, (sp_hi (ah_up a 3 q 3 (-1)) s (nI D)) 7 s j = if j = p then nI q else a 7 s j := by
        intro j; simp [sp_hi, ah_rd, j5, hp1, j4]
      have k8 : ∀ j, (sp_hi (ah_up a 3 q 3 (-1)) s (nI D)) 8 s j = if j = p then a 4 s 11 else a 8 s j := by
        intro j; simp [sp_hi, ah_rd, j5, hp1]
      have k9 : ∀ j, (sp_hi (ah_up a 3 q 3 (-1)) s (nI D)) 9 s j = if j = p then nI D else a 9 s j := by
        intro j; simp [sp_hi, ah_rd, j5, hp1]
      have hcnt : sp_cnt (fun j => decide (¬ (sp_hi (ah_up a 3 q 3 (-1)) s (nI D)) 7 s j = -1)) P = sp_cnt (fun j => decide (¬ a 7 s j = -1)) P + 1 := by
        refine sp_cnt_set (k := p) j2 (fun j _ hj => ?_) ?_ ?_
        · simp only [k7, if_neg hj]
        · simp [j14]
        · simp [k7, n1]
      have hold : sp_cnt (fun j => decide (¬ a 7 s j = -1)) P < P := sp_cnt_lt j2 (by simp [j14])
      -- the reference's count is the class's
      have m22 : ∀ j, j < 8 → md_has (md_h1 b s q p) s j = decide (¬ (sp_hi (ah_up a 3 q 3 (-1)) s (nI D)) 7 s j = -1) := by
        intro j hj
        unfold md_has
        rw [k7]
        by_cases hjp : j = p
        · subst hjp; simp [md_h1, ah_rd, n1]
        · have : ¬ (8 * s + j = 8 * s + p) := by omega
          rw [if_neg hjp]
          have e22 : md_h1 b s q p 22 0 (8 * s + j) = b 22 0 (8 * s + j) := by simp [md_h1, ah_rd, hjp]
          rw [e22, (t5 j hj).2.1]
          by_cases c9 : a 7 s j = -1 <;> simp [c9]
      have mcnt : sp_cnt (md_has (md_h1 b s q p) s) P = sp_cnt (fun j => decide (¬ a 7 s j = -1)) P + 1 := by
        rw [← hcnt]; exact sp_cnt_congr (fun j hj => m22 j (by omega))
      have b20 : ∀ s', md_hi P b s q p 20 0 s' = if s' = s ∧ sp_cnt (fun j => decide (¬ a 7 s j = -1)) P + 1 = P then nI D else b 20 0 s' := by
        intro s'
        unfold md_hi
        rw [mcnt, y3, z5]
        generalize sp_cnt (fun j => decide (¬ a 7 s j = -1)) P + 1 = cn
        by_cases c9 : cn = P
        · rw [if_pos c9, ah_rd]
          simp [c9, md_h1, ah_rd]
        · rw [if_neg c9]
          simp [c9, md_h1, ah_rd]
      have bk : ∀ k, k ≠ 20 → md_hi P b s q p k = md_h1 b s q p k := by
        intro k hk
        unfold md_hi
        split
        · rw [ah_rk hk]
        · rfl
      rw [e, em]
      generalize sp_hi (ah_up a 3 q 3 (-1)) s (nI D) = g at k0 k3 ko k4 k5 k6 k7 k8 k9 ⊢
      generalize md_hi P b s q p = gb at b20 bk ⊢
      refine ⟨?_, fun q' hq' => ?_, fun s' hs' => ?_⟩
      · unfold rI_0
        rw [k0 0 (by omega), bk 10 (by omega), md_h1_k (by omega)]
        exact r0
      · obtain ⟨w1, w2, w3, w4⟩ := rq q' hq'
        unfold rI_q
        rw [k3, k3, k3, k3, bk 12 (by omega), bk 13 (by omega), bk 14 (by omega), bk 15 (by omega), md_h1_k (k := 12) (by omega), md_h1_k (k := 13) (by omega), md_h1_k (k := 14) (by omega)]
        simp only [show ¬ ((0 : Nat) = 3) by omega, show ¬ ((1 : Nat) = 3) by omega, show ¬ ((2 : Nat) = 3) by omega, and_false, if_false, and_true]
        refine ⟨w1, w2, w3, ?_⟩
        by_cases hqq : q' = q
        · simp [md_h1, ah_rd, hqq]
        · simp [md_h1, ah_rd, hqq]; exact w4
      · have rss := rs s' hs'
        obtain ⟨x1, x2, x3, x4, x5⟩ := rss
        unfold rI_s
        rw [bk 17 (by omega), bk 18 (by omega), bk 19 (by omega), b20, k0 0 (by omega)]
        by_cases hss : s' = s
        · subst hss
          rw [k4, k4, k4, k4]
          refine ⟨?_, ?_, ?_, ?_, ?_⟩
          · simp [md_h1, ah_rd]; exact x1
          · simp [md_h1, ah_rd, y3, z5]
          · simp [md_h1, ah_rd]
          · simp only [show ¬ ((7 : Nat) = 8) by omega, show ¬ ((6 : Nat) = 8) by omega, show ¬ ((6 : Nat) = 7) by omega, if_true, if_false, true_and]
            rw [i2, nI_1, z2]
            have g7 : nI P ≤ nI (sp_cnt (fun j => decide (¬ a 7 s' j = -1)) P + 1) ↔ P ≤ sp_cnt (fun j => decide (¬ a 7 s' j = -1)) P + 1 := nI_leI (by omega) (by omega)
            by_cases c9 : sp_cnt (fun j => decide (¬ a 7 s' j = -1)) P + 1 = P
            · rw [if_pos c9, if_pos (g7.mpr (by omega))]
            · rw [if_neg c9, if_neg (fun z => c9 (by have := g7.mp z; omega)), x4, i2, z2]
              have g8 : nI P ≤ nI (sp_cnt (fun j => decide (¬ a 7 s' j = -1)) P) ↔ P ≤ sp_cnt (fun j => decide (¬ a 7 s' j = -1)) P := nI_leI (by omega) (by omega)
              rw [if_neg (fun z => by have := g8.mp z; omega)]
          · intro p' hp'
            obtain ⟨w1, w2, w3, w4⟩ := x5 p' hp'
            unfold rI_p
            rw [bk 21 (by omega), bk 22 (by omega), bk 23 (by omega), bk 24 (by omega), bk 25 (by omega), bk 26 (by omega), k5, k6, k7, k8, k9, k4, k4]
            simp only [if_true, not_true, false_imp_iff, and_true]
            by_cases hpp : p' = p
            · subst hpp
              obtain ⟨d1, d2, d3⟩ := w4 na j5
              simp [md_h1, ah_rd, n1, y3, z5, w1, d1, d2, d3, j7, j4]
            · simp [md_h1, ah_rd, hpp]
              exact ⟨w1, w2, w3⟩
        · rw [ko 4 s' (by omega) hss]
          have dif : ∀ p', p' < 8 → ¬ (8 * s' + p' = 8 * s + p) := fun p' hp' => by omega
          refine ⟨?_, ?_, ?_, ?_, ?_⟩
          · simp [md_h1, ah_rd]; exact x1
          · simp [md_h1, ah_rd, hss]; exact x2
          · simp [md_h1, ah_rd, hss]; exact x3
          · simp [hss]; exact x4
          · intro p' hp'
            have w := x5 p' hp'
            have dd := dif p' hp'
            unfold rI_p at w ⊢
            rw [bk 21 (by omega), bk 22 (by omega), bk 23 (by omega), bk 24 (by omega), bk 25 (by omega), bk 26 (by omega), ko 4 s' (by omega) hss, ko 5 s' (by omega) hss, ko 6 s' (by omega) hss, ko 7 s' (by omega) hss, ko 8 s' (by omega) hss, ko 9 s' (by omega) hss]
            simp only [md_h1, ah_rd, dd, and_false, if_false, show ¬ ((21 : Nat) = 22) by omega, show ¬ ((21 : Nat) = 23) by omega, show ¬ ((21 : Nat) = 26) by omega, show ¬ ((21 : Nat) = 15) by omega, show ¬ ((21 : Nat) = 19) by omega, show ¬ ((21 : Nat) = 18) by omega, show ¬ ((22 : Nat) = 23) by omega, show ¬ ((22 : Nat) = 26) by omega, show ¬ ((22 : Nat) = 15) by omega, show ¬ ((22 : Nat) = 19) by omega, show ¬ ((22 : Nat) = 18) by omega, show ¬ ((23 : Nat) = 22) by omega, show ¬ ((23 : Nat) = 26) by omega, show ¬ ((23 : Nat) = 15) by omega, show ¬ ((23 : Nat) = 19) by omega, show ¬ ((23 : Nat) = 18) by omega, show ¬ ((24 : Nat) = 22) by omega, show ¬ ((24 : Nat) = 23) by omega, show ¬ ((24 : Nat) = 26) by omega, show ¬ ((24 : Nat) = 15) by omega, show ¬ ((24 : Nat) = 19) by omega, show ¬ ((24 : Nat) = 18) by omega, show ¬ ((25 : Nat) = 22) by omega, show ¬ ((25 : Nat) = 23) by omega, show ¬ ((25 : Nat) = 26) by omega, show ¬ ((25 : Nat) = 15) by omega, show ¬ ((25 : Nat) = 19) by omega, show ¬ ((25 : Nat) = 18) by omega, show ¬ ((26 : Nat) = 22) by omega, show ¬ ((26 : Nat) = 23) by omega, show ¬ ((26 : Nat) = 15) by omega, show ¬ ((26 : Nat) = 19) by omega, show ¬ ((26 : Nat) = 18) by omega, false_and]
            exact w
    · have e1 : sp_hin s a = a := by unfold sp_hin; rw [if_neg act]
      have e2 : md_hin P s b = b := by unfold md_hin; rw [if_neg (fun z => act (hcond.mpr z))]
      rw [e1, e2]; exact r
end RL
