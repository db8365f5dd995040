/-! ===== a whole day, quiet days ===== -/
section DY
variable {P NQ NS D : Nat} {E : Nat → Nat} {a b : AHp} {s : Nat}
theorem cI_E {E' : Nat → Nat} (c : cI P NQ NS D E a) (h : ∀ t, t < NS → E t = E' t) : cI P NQ NS D E' a := ⟨c.1, c.2.1, fun t ht => by rw [← h t ht]; exact c.2.2 t ht⟩
theorem hin_fold (c : cI P NQ NS D (fun _ => D) a) (r : rI NQ NS a b) : ∀ i, i ≤ NS → cI P NQ NS D (fun t => if t < i then D + 1 else D) (sp_fo sp_hin a i) ∧ rI NQ NS (sp_fo sp_hin a i) (sp_fo (md_hin P) b i) := by
  intro i
  induction i with
  | zero => intro _; exact ⟨cI_E c (fun t _ => by simp), r⟩
  | succ i ih =>
    intro hi
    obtain ⟨h1, h2⟩ := ih (by omega)
    rw [sp_fo, sp_fo]
    refine ⟨cI_E (cI_hin h1 (show i < NS by omega) (by simp)) (fun t _ => ?_), rI_hin h1 (by omega) h2⟩
    show (if t = i then D + 1 else if t < i then D + 1 else D) = if t < i + 1 then D + 1 else D
    by_cases e1 : t = i
    · rw [if_pos e1, if_pos (by omega)]
    · rw [if_neg e1]
      by_cases e2 : t < i
      · rw [if_pos e2, if_pos (by omega)]
      · rw [if_neg e2, if_neg (by omega)]
theorem vis_ok (c : cI P NQ NS D (fun _ => D + 1) a) (r : rI NQ NS a b) (hs : s < NS) (d : Nat) : cI P NQ NS D (fun _ => D + 1) (sp_vis P NQ d s a) ∧ rI NQ NS (sp_vis P NQ d s a) (md_vis P NQ d s b) := by
  obtain ⟨x1, x2, x3, x4, x5⟩ := r.2.2 s hs
  have c0 := c.1
  obtain ⟨⟨p1, p2, p3, p4, p5⟩, z2, z3, z4, z5, z6, w, w1, w2, w3⟩ := c0
  obtain ⟨-, i2, -⟩ := c.2.2 s hs
  have hcnt : sp_cnt (md_has b s) P = sp_cnt (fun p => decide (¬ a 7 s p = -1)) P := rI_cnt p2 (r.2.2 s hs)
  have hle := sp_cnt_le (fun p => decide (¬ a 7 s p = -1)) P
  have g7 : nI P ≤ nI (sp_cnt (fun p => decide (¬ a 7 s p = -1)) P) ↔ P ≤ sp_cnt (fun p => decide (¬ a 7 s p = -1)) P := nI_leI (by omega) (by omega)
  have hcond : (sp_wt a s = true ∧ a 4 s 7 = nI d) ↔ (b 19 0 s = -1 ∧ b 18 0 s = nI d ∧ sp_cnt (md_has b s) P < P) := by
    unfold sp_wt
    rw [x3, x2, hcnt, decide_eq_true_iff, z2, i2, g7]
    constructor
    · intro ⟨⟨h1, h2⟩, h3⟩; exact ⟨h1, h3, by omega⟩
    · intro ⟨h1, h2, h3⟩; exact ⟨⟨h1, by omega⟩, h2⟩
  unfold sp_vis md_vis
  by_cases cc : sp_wt a s = true ∧ a 4 s 7 = nI d
  · rw [if_pos cc, if_pos (hcond.mp cc)]
    exact ⟨cI_tk c hs, rI_tk c hs (hcond.mp cc |>.1 ▸ x3.symm) r⟩
  · rw [if_neg cc, if_neg (fun z => cc (hcond.mpr z))]
    exact ⟨c, r⟩
theorem row_ok (c : cI P NQ NS D (fun _ => D + 1) a) (r : rI NQ NS a b) (d : Nat) : ∀ i, i ≤ NS → cI P NQ NS D (fun _ => D + 1) (sp_fo (sp_vis P NQ d) a i) ∧ rI NQ NS (sp_fo (sp_vis P NQ d) a i) (sp_fo (md_vis P NQ d) b i) := by
  intro i
  induction i with
  | zero => intro _; exact ⟨c, r⟩
  | succ i ih =>
    intro hi
    obtain ⟨h1, h2⟩ := ih (by omega)
    rw [sp_fo, sp_fo]
    exact vis_ok h1 h2 (by omega) d
theorem rows_ok (c : cI P NQ NS D (fun _ => D + 1) a) (r : rI NQ NS a b) : ∀ d, cI P NQ NS D (fun _ => D + 1) (sp_fo (sp_row P NQ NS) a d) ∧ rI NQ NS (sp_fo (sp_row P NQ NS) a d) (sp_fo (md_row P NQ NS) b d) := by
  intro d
  induction d with
  | zero => exact ⟨c, r⟩
  | succ d ih =>
    rw [sp_fo, sp_fo]
    exact row_ok ih.1 ih.2 d NS (Nat.le_refl NS)
theorem cI_day {e D' : Nat} (c : cI P NQ NS D (fun _ => e) a) (hD : D ≤ D') (hm : D' ≤ 9999) : cI P NQ NS D' (fun _ => e) (ah_up a 0 0 5 (nI D')) := by
  obtain ⟨⟨⟨p1, p2, p3, p4, p5⟩, z2, z3, z4, z5, z6, z7⟩, cq, cs⟩ := c
  have ko : ∀ k, k ≠ 0 → (ah_up a 0 0 5 (nI D')) k = a k := fun k hk => ah_rk hk
  refine ⟨⟨⟨p1, p2, p3, p4, hm⟩, z2, z3, z4, rfl, z6, z7⟩, fun q hq => cI_q_congr (by rw [ko 3 (by omega)]) (cq q hq), fun t ht => ?_⟩
  refine cI_s_congr (h := a) (by rw [ko 4 (by omega)]) (by rw [ko 5 (by omega)]) (by rw [ko 6 (by omega)]) (by rw [ko 7 (by omega)]) (fun q _ => by rw [ko 3 (by omega)]) ?_
  obtain ⟨i1, i2, ⟨d, d1, d2⟩, i4, i5, i6⟩ := cs t ht
  refine ⟨i1, i2, ⟨d, by omega, d2⟩, i4, i5, ?_⟩
  rcases i6 with i6 | ⟨q, p, er, d', pc, j1, j2, j3, j4, j5, j6, j7, j8, j9, j10, j11⟩
  · exact Or.inl i6
  · exact Or.inr ⟨q, p, er, d', pc, j1, j2, j3, j4, j5, j6, j7, j8, j9, by omega, j11⟩
theorem rI_day (r : rI NQ NS a b) (v : Int32) : rI NQ NS (ah_up a 0 0 5 v) (ah_up b 10 0 17 v) := by
  obtain ⟨⟨y0, y1, y2, y3, y4, y5⟩, rq, rs⟩ := r
  have ka : ∀ k, k ≠ 0 → (ah_up a 0 0 5 v) k = a k := fun k hk => ah_rk hk
  have kb : ∀ k, k ≠ 10 → (ah_up b 10 0 17 v) k = b k := fun k hk => ah_rk hk
  refine ⟨⟨y0, y1, y2, rfl, y4, y5⟩, fun q hq => ?_, fun t ht => ?_⟩
  · unfold rI_q
    rw [ka 3 (by omega), kb 12 (by omega), kb 13 (by omega), kb 14 (by omega), kb 15 (by omega)]
    exact rq q hq
  · unfold rI_s
    rw [ka 4 (by omega), kb 17 (by omega), kb 18 (by omega), kb 19 (by omega), kb 20 (by omega)]
    obtain ⟨x1, x2, x3, x4, x5⟩ := rs t ht
    refine ⟨x1, x2, x3, x4, fun p hp => ?_⟩
    unfold rI_p
    rw [ka 4 (by omega), ka 5 (by omega), ka 6 (by omega), ka 7 (by omega), ka 8 (by omega), ka 9 (by omega), kb 21 (by omega), kb 22 (by omega), kb 23 (by omega), kb 24 (by omega), kb 25 (by omega), kb 26 (by omega)]
    exact x5 p hp
/-- the second part of the day, both ways of going through them -/
theorem lend_ok (c : cI P NQ NS D (fun _ => D + 1) a) : sp_lend P NQ NS NS a (-1) = sp_fo (sp_row P NQ NS) a (D + 1) ∧ ∀ t, t < NS → sp_wt (sp_lend P NQ NS NS a (-1)) t = true → sp_stk P NQ (sp_lend P NQ NS NS a (-1)) t := by
  obtain ⟨⟨p1, p2, p3, p4, p5⟩, z2, z3, z4, z5, z6, w, w1, w2, w3⟩ := c.1
  have hk : ∀ t, t < NS → a 4 t 7 = nI ((8 * (a 4 t 7).toNatClampNeg + t) / 8) ∧ (8 * (a 4 t 7).toNatClampNeg + t) % 8 = t ∧ 8 * (a 4 t 7).toNatClampNeg + t < 8 * (D + 1) := by
    intro t ht
    obtain ⟨-, -, ⟨d, d1, d2⟩, -⟩ := c.2.2 t ht
    have e : (nI d).toNatClampNeg = d := nI_clamp (by omega)
    rw [d2, e]
    refine ⟨by congr 1; omega, by omega, by omega⟩
  have h1 := sp_lend_tr (P := P) (NQ := NQ) (a := a) p4 (8 * (D + 1)) (by omega) (fun t => 8 * (a 4 t 7).toNatClampNeg + t) hk NS 0 (-1) (by omega) (fun m hm => by
    constructor
    · intro _; omega
    · intro _
      rw [Int32.lt_iff_toInt_lt, nI_toInt (by omega)]
      have : (-1 : Int32).toInt = -1 := by decide
      omega) (sp_cnt_le _ _)
  have h1' : sp_lend P NQ NS NS a (-1) = sp_fo (sp_tr P NQ NS) a (8 * (D + 1)) := h1
  rw [sp_rows_tr p4]
  refine ⟨h1', fun t ht hw => ?_⟩
  rw [h1'] at hw ⊢
  exact sp_stuck p4 p3 (fun t => 8 * (a 4 t 7).toNatClampNeg + t) (fun t ht => by obtain ⟨k1, k2, k3⟩ := hk t ht; exact ⟨k1, k2, by omega⟩) (8 * (D + 1)) (by omega) t ht hw (hk t ht).2.2
theorem pass_ok (c : cI P NQ NS D (fun _ => D) a) (hD : D < 9999) (r : rI NQ NS a b) : cI P NQ NS (D + 1) (fun _ => D + 1) (sp_pass P NQ NS a) ∧ rI NQ NS (sp_pass P NQ NS a) (md_day P NQ NS D b) ∧ ∀ t, t < NS → sp_wt (sp_pass P NQ NS a) t = true → sp_stk P NQ (sp_pass P NQ NS a) t := by
  obtain ⟨h1, h2⟩ := hin_fold c r NS (Nat.le_refl NS)
  have h1' : cI P NQ NS D (fun _ => D + 1) (sp_fo sp_hin a NS) := cI_E h1 (fun t ht => by simp [ht])
  obtain ⟨l1, l2⟩ := lend_ok h1'
  obtain ⟨r1, r2⟩ := rows_ok h1' h2 (D + 1)
  unfold sp_pass md_day
  rw [← l1] at r1 r2
  have z5 := r1.1.2.2.2.2.1
  have y3 := r2.1.2.2.2.1
  rw [y3, z5, nI_1]
  generalize sp_lend P NQ NS NS (sp_fo sp_hin a NS) (-1) = g at r1 r2 l2 ⊢
  refine ⟨cI_day r1 (by omega) (by omega), rI_day r2 _, fun t ht hw p hp h7 q hq => ?_⟩
  exact l2 t ht hw p hp h7 q hq
theorem sp_chs_stk {hs : Nat → Bool} {lu : Nat → Option Nat} {rk : Nat → Nat} : ∀ {n : Nat}, (∀ p, p < n → hs p = false → lu p = none) → sp_chs hs lu rk n = none
  | 0, _ => rfl
  | n + 1, h => by
    rw [sp_chs, sp_chs_stk (fun p hp => h p (by omega))]
    simp only
    refine if_neg (fun z => ?_)
    have := h n (by omega) z.1
    rw [this] at z
    exact Bool.noConfusion z.2
theorem sp_fo_id {f : Nat → AHp → AHp} {g : AHp} : ∀ n, (∀ i, i < n → f i g = g) → sp_fo f g n = g
  | 0, _ => rfl
  | n + 1, h => by rw [sp_fo, sp_fo_id n (fun i hi => h i (by omega)), h n (by omega)]
/-- a quiet day -/
theorem quiet_ok {e : Nat} (c : cI P NQ NS D (fun _ => e) a) (he : D < e) (hD : D < 9999) (r : rI NQ NS a b) (st : ∀ t, t < NS → sp_wt a t = true → sp_stk P NQ a t) : md_day P NQ NS D b = ah_up b 10 0 17 (nI (D + 1)) := by
  obtain ⟨c0, cq, cs⟩ := id c
  obtain ⟨⟨p1, p2, p3, p4, p5⟩, z2, z3, z4, z5, z6, w, w1, w2, w3⟩ := c0
  obtain ⟨r0, rq, rs⟩ := id r
  obtain ⟨y0, y1, y2, y3, y4, y5⟩ := id r0
  have h1 : sp_fo (md_hin P) b NS = b := by
    refine sp_fo_id NS (fun t ht => ?_)
    unfold md_hin
    refine if_neg (fun z => ?_)
    obtain ⟨x1, x2, x3, x4, x5⟩ := rs t ht
    obtain ⟨-, -, -, -, -, i6⟩ := cs t ht
    rw [x3] at z
    rcases i6 with i6 | ⟨q, p, er, d, pc, j1, j2, j3, j4, j5, j6, j7, j8, j9, j10, j11, j12, j13, j14⟩
    · exact z.1 i6
    · have hq1 : (nI q).toNatClampNeg = q := nI_clamp (by omega)
      have hp1 : (nI p).toNatClampNeg = p := nI_clamp (by omega)
      have mq : md_q b t = q := by unfold md_q; rw [x3, j4, hq1]
      have mp : md_p b t = p := by unfold md_p; rw [mq, (rq q j1).1, j6, hp1]
      obtain ⟨-, -, -, u4⟩ := x5 p (by omega)
      obtain ⟨-, -, v3⟩ := u4 z.1 j5
      have z2' := z.2
      rw [mp, v3, x1, y3, j8, j9, z5, nI_add] at z2'
      have := (nI_eq (by omega) (by omega)).mp z2'
      have j13' : e ≤ d + pc := j13
      omega
  have h2 : sp_fo (md_row P NQ NS) b (D + 1) = b := by
    refine sp_fo_id (D + 1) (fun d _ => ?_)
    unfold md_row
    refine sp_fo_id NS (fun t ht => ?_)
    unfold md_vis
    by_cases cc : b 19 0 t = -1 ∧ b 18 0 t = nI d ∧ sp_cnt (md_has b t) P < P
    · rw [if_pos cc]
      obtain ⟨x1, x2, x3, x4, x5⟩ := rs t ht
      obtain ⟨-, i2, -⟩ := cs t ht
      have hcnt : sp_cnt (md_has b t) P = sp_cnt (fun p => decide (¬ a 7 t p = -1)) P := rI_cnt p2 (rs t ht)
      have hle := sp_cnt_le (fun p => decide (¬ a 7 t p = -1)) P
      have hw : sp_wt a t = true := by
        unfold sp_wt
        rw [decide_eq_true_iff, z2, i2, ← x3]
        refine ⟨cc.1, fun z => ?_⟩
        have := (nI_leI (by omega) (by omega)).mp z
        have c3 := cc.2.2
        rw [hcnt] at c3
        omega
      have hch : sp_ch a P NQ t = none := by
        unfold sp_ch
        refine sp_chs_stk (fun p hp hh => ?_)
        unfold sp_lu
        rw [sp_lus_none]
        intro q hq
        exact st t ht hw p hp (by simpa using hh) q hq
      unfold md_tk
      rw [rI_ch p2 r0 rq (rs t ht), hch]
    · rw [if_neg cc]
  unfold md_day
  rw [h1, h2, y3, z5, nI_1]
/-- how far nothing stirs -/
theorem skip_ok (c : cI P NQ NS D (fun _ => D) a) {m : Nat} (hm : D ≤ m) (hm2 : m ≤ 9999) : ∃ e, D ≤ e ∧ e ≤ m ∧ sp_skp (fun s => decide (¬ a 4 s 8 = -1)) (fun s => a 4 s 11 + a 4 s 5) (nI m) NS = nI e ∧ cI P NQ NS D (fun _ => e) a := by
  obtain ⟨c0, cq, cs⟩ := id c
  have key : ∀ n, n ≤ NS → ∃ e, D ≤ e ∧ e ≤ m ∧ sp_skp (fun s => decide (¬ a 4 s 8 = -1)) (fun s => a 4 s 11 + a 4 s 5) (nI m) n = nI e ∧ ∀ t, t < n → cI_s P NQ D e a t := by
    intro n
    induction n with
    | zero => intro _; exact ⟨m, hm, Nat.le_refl m, rfl, fun t ht => by omega⟩
    | succ n ih =>
      intro hn
      obtain ⟨e, e1, e2, e3, e4⟩ := ih (by omega)
      have weak : ∀ {e' : Nat}, e' ≤ e → ∀ t, t < n → cI_s P NQ D e' a t := by
        intro e' he' t ht
        obtain ⟨i1, i2, i3, i4, i5, i6⟩ := e4 t ht
        refine ⟨i1, i2, i3, i4, i5, ?_⟩
        rcases i6 with i6 | ⟨q, p, er, d, pc, j1, j2, j3, j4, j5, j6, j7, j8, j9, j10, j11, j12, j13, j14⟩
        · exact Or.inl i6
        · exact Or.inr ⟨q, p, er, d, pc, j1, j2, j3, j4, j5, j6, j7, j8, j9, j10, j11, j12, by omega, j14⟩
      rw [sp_skp, e3]
      obtain ⟨i1, i2, i3, i4, i5, i6⟩ := cs n (by omega)
      rcases i6 with i6 | ⟨q, p, er, d, pc, j1, j2, j3, j4, j5, j6, j7, j8, j9, j10, j11, j12, j13, j14⟩
      · rw [if_neg (by simp [i6])]
        refine ⟨e, e1, e2, rfl, fun t ht => ?_⟩
        by_cases htn : t = n
        · subst htn; exact ⟨i1, i2, i3, i4, i5, Or.inl i6⟩
        · exact e4 t (by omega)
      · have n1 : ¬ nI q = -1 := nI_m1 (by have := c0.1.2.2.1; omega)
        have p5 := c0.1.2.2.2.2
        have j13' : D ≤ d + pc := j13
        rw [if_pos (by simp [j4, n1])]
        simp only [j8, j9, nI_add]
        have g7 : nI (d + pc) < nI e ↔ d + pc < e := nI_ltI (by omega) (by omega)
        by_cases cc : d + pc < e
        · rw [if_pos (g7.mpr cc)]
          refine ⟨d + pc, j13', by omega, rfl, fun t ht => ?_⟩
          by_cases htn : t = n
          · subst htn
            exact ⟨i1, i2, i3, i4, i5, Or.inr ⟨q, p, er, d, pc, j1, j2, j3, j4, j5, j6, j7, j8, j9, j10, j11, j12, Nat.le_refl _, j14⟩⟩
          · exact weak (by omega) t (by omega)
        · rw [if_neg (fun z => cc (g7.mp z))]
          refine ⟨e, e1, e2, rfl, fun t ht => ?_⟩
          by_cases htn : t = n
          · subst htn
            exact ⟨i1, i2, i3, i4, i5, Or.inr ⟨q, p, er, d, pc, j1, j2, j3, j4, j5, j6, j7, j8, j9, j10, j11, j12, by omega, j14⟩⟩
          · exact e4 t (by omega)
  obtain ⟨e, e1, e2, e3, e4⟩ := key NS (Nat.le_refl NS)
  exact ⟨e, e1, e2, e3, c0, cq, e4⟩
end DY
