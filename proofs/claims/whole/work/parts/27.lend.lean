/-! ===== taking, one by one, in either order of going through them ===== -/
theorem sp_lus_none {pc us hd : Nat → Int32} {w p : Int32} : ∀ {n : Nat}, sp_lus pc us hd w p n = none ↔ ∀ q, q < n → ¬ (pc q = p ∧ hd q = -1 ∧ us q < w)
  | 0 => by simp [sp_lus]
  | n + 1 => by
    have ih := sp_lus_none (pc := pc) (us := us) (hd := hd) (w := w) (p := p) (n := n)
    rw [sp_lus]
    cases e : sp_lus pc us hd w p n with
    | none =>
      simp only
      constructor
      · intro h q hq
        by_cases hqn : q = n
        · subst hqn
          intro c
          rw [if_pos c] at h
          cases h
        · exact ih.mp e q (by omega)
      · intro h
        rw [if_neg (h n (by omega))]
    | some b =>
      simp only
      constructor
      · intro h; split at h <;> cases h
      · intro h
        obtain ⟨h1, h2⟩ := sp_lus_ok e
        exact absurd h2 (h b (by omega))
theorem sp_chs_none {hs : Nat → Bool} {lu : Nat → Option Nat} {rk : Nat → Nat} : ∀ {n : Nat}, sp_chs hs lu rk n = none → ∀ p, p < n → hs p = false → lu p = none
  | 0, _, p, hp, _ => by omega
  | n + 1, h, p, hp, hh => by
    rw [sp_chs] at h
    cases e : sp_chs hs lu rk n with
    | none =>
      rw [e] at h
      simp only at h
      by_cases hpn : p = n
      · subst hpn
        cases hl : lu p with
        | none => rfl
        | some x => rw [if_pos ⟨hh, by rw [hl]; rfl⟩] at h; cases h
      · exact sp_chs_none e p (by omega) hh
    | some b =>
      rw [e] at h
      simp only at h
      split at h <;> cases h
theorem sp_nxt_none {wt : Nat → Bool} {ky : Nat → Int32} {la : Int32} : ∀ {n : Nat}, sp_nxt wt ky la n = none → ∀ s, s < n → wt s = true → ¬ la < ky s
  | 0, _, s, hs, _ => by omega
  | n + 1, h, s, hs, hw => by
    rw [sp_nxt] at h
    cases e : sp_nxt wt ky la n with
    | none =>
      rw [e] at h
      simp only at h
      by_cases hsn : s = n
      · subst hsn
        intro c
        rw [if_pos ⟨hw, c⟩] at h
        cases h
      · exact sp_nxt_none e s (by omega) hw
    | some b =>
      rw [e] at h
      simp only at h
      split at h <;> cases h
theorem i32_lt_trans {a b c : Int32} (h1 : a ≤ b) (h2 : b ≤ c) : a ≤ c := Int32.le_trans h1 h2
theorem i32_le_of_lt {a b : Int32} (h : a < b) : a ≤ b := by
  rw [Int32.le_iff_toInt_le]
  rw [Int32.lt_iff_toInt_lt] at h
  omega
theorem sp_nxt_some {wt : Nat → Bool} {ky : Nat → Int32} {la : Int32} : ∀ {n b : Nat}, sp_nxt wt ky la n = some b → b < n ∧ wt b = true ∧ la < ky b ∧ ∀ s, s < n → wt s = true → la < ky s → ky b ≤ ky s
  | 0, b, h => by simp [sp_nxt] at h
  | n + 1, b, h => by
    rw [sp_nxt] at h
    cases e : sp_nxt wt ky la n with
    | none =>
      rw [e] at h
      simp only at h
      split at h
      · rename_i c
        cases h
        refine ⟨by omega, c.1, c.2, fun s hs hw hl => ?_⟩
        by_cases hsb : s = n
        · rw [hsb]; exact Int32.le_refl _
        · exact absurd hl (sp_nxt_none e s (by omega) hw)
      · cases h
    | some b' =>
      rw [e] at h
      simp only at h
      obtain ⟨g1, g2, g3, g4⟩ := sp_nxt_some e
      split at h
      · rename_i c
        cases h
        refine ⟨by omega, c.1.1, c.1.2, fun s hs hw hl => ?_⟩
        by_cases hsb : s = n
        · rw [hsb]; exact Int32.le_refl _
        · exact i32_lt_trans (i32_le_of_lt c.2) (g4 s (by omega) hw hl)
      · rename_i c
        cases h
        refine ⟨by omega, g2, g3, fun s hs hw hl => ?_⟩
        by_cases hsn : s = n
        · subst hsn
          exact i32_nlt.mp (fun z => c ⟨⟨hw, hl⟩, z⟩)
        · exact g4 s (by omega) hw hl
theorem sp_cnt_drop {p q : Nat → Bool} {k : Nat} : ∀ {n : Nat}, k < n → (∀ j, j < n → p j = true → q j = true) → q k = true → p k = false → sp_cnt p n + 1 ≤ sp_cnt q n
  | 0, h, _, _, _ => by omega
  | n + 1, h, e, h1, h2 => by
    have mono : ∀ {m : Nat}, (∀ j, j < m → p j = true → q j = true) → sp_cnt p m ≤ sp_cnt q m := by
      intro m
      induction m with
      | zero => intro _; exact Nat.le_refl _
      | succ m ih =>
        intro hm
        have := ih (fun j hj => hm j (by omega))
        rw [sp_cnt, sp_cnt]
        by_cases c : p m = true
        · rw [if_pos c, if_pos (hm m (by omega) c)]; omega
        · rw [if_neg c]; split <;> omega
    rw [sp_cnt, sp_cnt]
    by_cases hk : k = n
    · subst hk
      have := mono (m := k) (fun j hj => e j (by omega))
      rw [h1, h2]
      simp
      omega
    · have := sp_cnt_drop (show k < n by omega) (fun j hj => e j (by omega)) h1 h2
      by_cases c : p n = true
      · rw [if_pos c, if_pos (e n (by omega) c)]; omega
      · rw [if_neg c]; split <;> omega
theorem sp_cnt_zero {p : Nat → Bool} : ∀ {n : Nat}, sp_cnt p n = 0 → ∀ k, k < n → p k = false
  | 0, _, k, hk => by omega
  | n + 1, h, k, hk => by
    rw [sp_cnt] at h
    by_cases c : p n = true
    · rw [if_pos c] at h; omega
    · rw [if_neg c] at h
      by_cases hkn : k = n
      · rw [hkn]; simpa using c
      · exact sp_cnt_zero (by omega) k (by omega)
section LD
variable {P NQ NS D : Nat} {E : Nat → Nat} {a b : AHp} {s : Nat}
theorem sp_ch_some {q : Nat} (h : (sp_ch a P NQ s).bind (sp_lu a NQ) = some q) : ∃ p, sp_ch a P NQ s = some p ∧ sp_lu a NQ p = some q ∧ p < P ∧ a 7 s p = -1 ∧ q < NQ ∧ a 3 q 0 = nI p ∧ a 3 q 3 = -1 ∧ a 3 q 2 < a 0 0 7 := by
  obtain ⟨p, e1, e2⟩ := Option.bind_eq_some_iff.mp h
  obtain ⟨h1, h2, h3⟩ := sp_chs_ok e1
  obtain ⟨g1, g2, g3, g4⟩ := sp_lus_ok e2
  exact ⟨p, e1, e2, h1, by simpa using h2, g1, g2, g3, g4⟩
theorem sp_ch_none (h : (sp_ch a P NQ s).bind (sp_lu a NQ) = none) : sp_ch a P NQ s = none := by
  cases e : sp_ch a P NQ s with
  | none => rfl
  | some p =>
    obtain ⟨h1, h2, h3⟩ := sp_chs_ok e
    rw [e] at h
    have : sp_lu a NQ p = none := h
    rw [this] at h3
    cases h3
theorem cI_tk (c : cI P NQ NS D (fun _ => D + 1) a) (hs : s < NS) : cI P NQ NS D (fun _ => D + 1) (sp_tk P NQ a s) := by
  cases hb : (sp_ch a P NQ s).bind (sp_lu a NQ) with
  | none =>
    have e : sp_tk P NQ a s = a := by unfold sp_tk; rw [hb]
    rw [e]; exact c
  | some q =>
    have e : sp_tk P NQ a s = sp_tq a s q := by unfold sp_tk; rw [hb]
    obtain ⟨p, -, -, hp, h7, hq, hq0, hq3, hq2⟩ := sp_ch_some hb
    obtain ⟨c0, cq, cs⟩ := id c
    have c0' := c0
    obtain ⟨⟨p1, p2, p3, p4, p5⟩, z2, z3, z4, z5, z6, w, w1, w2, w3⟩ := c0'
    obtain ⟨⟨pa, pa1, pa2, pa3⟩, i2, i3, i4, i5, i6⟩ := cs s hs
    obtain ⟨x1, ⟨er, er1, er2⟩, ⟨u, u1, u2⟩, x4⟩ := cq q hq
    have hu : u < w := by
      rw [u2, w3] at hq2
      exact (nI_ltI (by omega) (by omega)).mp hq2
    have k0 : ∀ k, k < 3 ∨ 4 < k → (sp_tq a s q) k = a k := by
      intro k hk
      unfold sp_tq
      repeat rw [ah_rk (by omega)]
    have k3 : ∀ q' j, (sp_tq a s q) 3 q' j = if q' = q ∧ j = 3 then nI s else if q' = q ∧ j = 2 then nI (u + 1) else a 3 q' j := by
      intro q' j
      simp only [sp_tq, ah_rd, u2, nI_1]
      by_cases c1 : q' = q <;> by_cases c2 : j = 3 <;> by_cases c3 : j = 2 <;> simp [c1, c2, c3]
    have ko : ∀ s', s' ≠ s → (sp_tq a s q) 4 s' = a 4 s' := by
      intro s' hn
      funext j
      simp [sp_tq, ah_rd, hn]
    have k4 : ∀ j, (sp_tq a s q) 4 s j = if j = 11 then nI D else if j = 10 then nI er else if j = 9 then nI p else if j = 8 then nI q else a 4 s j := by
      intro j
      simp [sp_tq, ah_rd, z5, er2, hq0]
    rw [e]
    generalize sp_tq a s q = g at k0 k3 ko k4 ⊢
    refine ⟨?_, fun q' hq' => ?_, fun s' hs' => ?_⟩
    · unfold cI_0
      rw [k0 0 (by omega)]
      exact c0
    · obtain ⟨y1, y2, y3, y4⟩ := cq q' hq'
      unfold cI_q
      rw [k3, k3, k3, k3]
      by_cases hqq : q' = q
      · subst hqq
        simp
        exact ⟨y1, y2, ⟨u + 1, by omega, rfl⟩, Or.inr ⟨s, hs, rfl⟩⟩
      · simp [hqq]
        exact ⟨y1, y2, y3, y4⟩
    · by_cases hss : s' = s
      · subst hss
        unfold cI_s
        rw [k4 5, k4 6, k4 7, k4 8, k0 5 (by omega), k0 6 (by omega), k0 7 (by omega)]
        refine ⟨⟨pa, pa1, pa2, pa3⟩, i2, i3, i4, i5, Or.inr ?_⟩
        refine ⟨q, p, er, D, pa, hq, hp, er1, ?_, ?_, ?_, ?_, ?_, ?_, Nat.le_refl D, pa1, pa2, (show D + 1 ≤ D + pa by omega), ?_⟩
        · rw [k4]; simp
        · rw [k4]; simp
        · rw [k3]; simp [hq0]
        · rw [k4]; simp
        · rw [k4]; simp
        · rw [k4]; simp [pa3]
        · rw [k0 7 (by omega)]; exact h7
      · refine cI_s_congr (ko s' hss) (by rw [k0 5 (by omega)]) (by rw [k0 6 (by omega)]) (by rw [k0 7 (by omega)]) (fun q' _ => ?_) (cs s' hs')
        rw [k3]
        simp
theorem rI_tk (c : cI P NQ NS D (fun _ => D + 1) a) (hs : s < NS) (hi : a 4 s 8 = -1) (r : rI NQ NS a b) : rI NQ NS (sp_tk P NQ a s) (md_tk P NQ b s) := by
  obtain ⟨c0, cq, cs⟩ := id c
  have c0' := c0
  obtain ⟨⟨p1, p2, p3, p4, p5⟩, z2, z3, z4, z5, z6, w, w1, w2, w3⟩ := c0'
  obtain ⟨r0, rq, rs⟩ := id r
  have hch : md_ch b P NQ s = sp_ch a P NQ s := rI_ch p2 r0 rq (rs s hs)
  have hlu : ∀ p, md_lu b NQ p = sp_lu a NQ p := fun p => rI_lu r0 rq p
  cases hb : (sp_ch a P NQ s).bind (sp_lu a NQ) with
  | none =>
    have e : sp_tk P NQ a s = a := by unfold sp_tk; rw [hb]
    have e2 : md_tk P NQ b s = b := by unfold md_tk; rw [hch, sp_ch_none hb]
    rw [e, e2]; exact r
  | some q =>
    have e : sp_tk P NQ a s = sp_tq a s q := by unfold sp_tk; rw [hb]
    obtain ⟨p, hc1, hc2, hp, h7, hq, hq0, hq3, hq2⟩ := sp_ch_some hb
    have e2 : md_tk P NQ b s = md_tq b s p q := by unfold md_tk; rw [hch, hc1]; simp only; rw [hlu, hc2]
    obtain ⟨y0, y1, y2, y3, y4, y5⟩ := id r0
    have k0 : ∀ k, k < 3 ∨ 4 < k → (sp_tq a s q) k = a k := by
      intro k hk
      unfold sp_tq
      repeat rw [ah_rk (by omega)]
    have k3 : ∀ q' j, (sp_tq a s q) 3 q' j = if q' = q ∧ j = 3 then nI s else if q' = q ∧ j = 2 then a 3 q 2 + 1 else a 3 q' j := by
      intro q' j
      simp only [sp_tq, ah_rd]
      by_cases c1 : q' = q <;> by_cases c2 : j = 3 <;> by_cases c3 : j = 2 <;> simp [c1, c2, c3]
    have ko : ∀ s', s' ≠ s → (sp_tq a s q) 4 s' = a 4 s' := by
      intro s' hn
      funext j
      simp [sp_tq, ah_rd, hn]
    have k4 : ∀ j, (sp_tq a s q) 4 s j = if j = 11 then a 0 0 5 else if j = 10 then a 3 q 1 else if j = 9 then nI p else if j = 8 then nI q else a 4 s j := by
      intro j
      simp [sp_tq, ah_rd, hq0]
    have n1 : ¬ nI q = -1 := nI_m1 (by omega)
    rw [e, e2]
    generalize sp_tq a s q = g at k0 k3 ko k4 ⊢
    have mk : ∀ k, k < 14 ∨ k = 16 ∨ k = 17 ∨ k = 18 ∨ k = 20 ∨ k = 21 ∨ k = 22 ∨ k = 26 → md_tq b s p q k = b k := by
      intro k hk
      unfold md_tq
      repeat rw [ah_rk (by omega)]
    refine ⟨?_, fun q' hq' => ?_, fun s' hs' => ?_⟩
    · unfold rI_0
      rw [k0 0 (by omega), mk 10 (by omega)]
      exact r0
    · obtain ⟨v1, v2, v3, v4⟩ := rq q' hq'
      unfold rI_q
      rw [k3, k3, k3, k3, mk 12 (by omega), mk 13 (by omega)]
      by_cases hqq : q' = q
      · subst hqq
        simp [md_tq, ah_rd]
        exact ⟨v1, v2, v3⟩
      · simp [md_tq, ah_rd, hqq]
        exact ⟨v1, v2, v3, v4⟩
    · obtain ⟨x1, x2, x3, x4, x5⟩ := rs s' hs'
      unfold rI_s
      rw [mk 17 (by omega), mk 18 (by omega), mk 20 (by omega), k0 0 (by omega)]
      by_cases hss : s' = s
      · subst hss
        rw [k4 5, k4 7, k4 8, k4 6]
        refine ⟨x1, x2, ?_, x4, ?_⟩
        · simp [md_tq, ah_rd]
        · intro p' hp'
          obtain ⟨v1, v2, v3, v4⟩ := x5 p' hp'
          unfold rI_p
          rw [mk 21 (by omega), mk 22 (by omega), mk 26 (by omega), k0 5 (by omega), k0 6 (by omega), k0 7 (by omega), k0 8 (by omega), k0 9 (by omega), k4 8, k4 9, k4 10, k4 11]
          refine ⟨v1, v2, ?_, ?_⟩
          · intro hne
            have hpp : ¬ p' = p := fun z => hne (by rw [z]; exact h7)
            simp [md_tq, ah_rd, hpp]
            exact v3 hne
          · intro _ hpp
            simp at hpp
            have hpp' : p = p' := (nI_eq (by omega) (by omega)).mp hpp
            subst hpp'
            simp [md_tq, ah_rd]
            exact ⟨(rq q hq).2.1, y3⟩
      · rw [ko s' hss]
        refine ⟨x1, x2, ?_, x4, ?_⟩
        · simp [md_tq, ah_rd, hss]; exact x3
        · intro p' hp'
          have v := x5 p' hp'
          have dd : ¬ (8 * s' + p' = 8 * s + p) := by omega
          unfold rI_p at v ⊢
          rw [mk 21 (by omega), mk 22 (by omega), mk 26 (by omega), k0 5 (by omega), k0 6 (by omega), k0 7 (by omega), k0 8 (by omega), k0 9 (by omega), ko s' hss]
          have d23 : md_tq b s p q 23 0 (8 * s' + p') = b 23 0 (8 * s' + p') := by simp [md_tq, ah_rd, dd]
          have d24 : md_tq b s p q 24 0 (8 * s' + p') = b 24 0 (8 * s' + p') := by simp [md_tq, ah_rd, dd]
          have d25 : md_tq b s p q 25 0 (8 * s' + p') = b 25 0 (8 * s' + p') := by simp [md_tq, ah_rd, dd]
          rw [d23, d24, d25]
          exact v
end LD
