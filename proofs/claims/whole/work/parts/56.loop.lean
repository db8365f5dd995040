/-! ===== the law's loop ===== -/
theorem kl_len {L n : Nat} (hL : L ≤ 2048) (hn : 4 * n ≤ 2048) : (nI L - 4 < nI (4 * n)) ↔ L < 4 * n + 4 := by
  have e1 : (nI L - 4).toInt = (L : Int) - 4 := by
    have h1 : (nI L).toInt = (L : Int) := nI_toInt (by omega)
    have h4 : (4 : Int32).toInt = 4 := by decide
    rw [Int32.toInt_sub, h1, h4]
    rw [Int.bmod_eq_of_le (by omega) (by omega)]
  rw [Int32.lt_iff_toInt_lt, e1, nI_toInt (by omega)]
  omega
theorem kl_st : GG st_h := by
  refine ⟨1, 0, 0, 0, ⟨⟨⟨by omega, by omega, by omega, by omega, by omega⟩, by decide, by decide, by decide, by decide, Or.inl (by decide), 99, by omega, by omega, by decide⟩, fun q hq => absurd hq (by omega), fun s hs => absurd hs (by omega)⟩, ⟨by decide, by decide, by decide, by decide, by decide, by decide⟩, fun q hq => absurd hq (by omega), fun s hs => absurd hs (by omega)⟩
section KLD
variable {p : Program} {l : Launch} {e : Env} {s : State} {m : MethodId} {below : List Frame} {meth : Method} {c : Code} {b L : Nat} {xs : Nat → Int32} {D : va_G} {cI cZ cQ cS cL : ClassId} {ad : Nat → Nat → Nat} {o sa sb : Nat}
set_option maxHeartbeats 4000000 in
set_option maxRecDepth 100000 in
theorem kl_sw (F : kl_F l p s m meth c b L xs D cI cZ cQ cS cL ad o sa sb) {n : Nat} (hn : 4 * n + 4 ≤ L) (N : kl_N p l e s m below meth c b D cI cZ cQ cS cL ad o n) {h : AHp} {f : Nat → Int64} {H : Heap} {locs : List Loc} {ls : Array Slot} (g : GG h) (I : kl_I s D cI cZ cQ cS cL ad o h f H locs) (hl : lv_has ls 7 (kl_lv b o ad n)) (z : Int32) : W p l e room_1 s m #[Value.ref b] below meth c H locs (100 + n) (1100 + 6 * n) (lw_Z below #[Value.ref b] s) (F0 m 39 ls [.int z]) := by
  have hx := F.1.1
  have hb := F.1.2.1
  by_cases ho : z.toInt < 0 ∨ 16 < z.toInt
  · refine lv_tableOut (tgt := 696) hx hb dL_law_39 ho (by decide) ?_
    refine W.widen (k := 100 + n + 1) (n := 1100 + 6 * n + 6) (by omega) (by omega) ?_
    exact N h f H locs ls g I hl
  · have h1 : ¬ z.toInt < 0 := fun q => ho (Or.inl q)
    have h2 : ¬ 16 < z.toInt := fun q => ho (Or.inr q)
    rcases (show z.toInt = 0 ∨ z.toInt = 1 ∨ z.toInt = 2 ∨ z.toInt = 3 ∨ z.toInt = 4 ∨ z.toInt = 5 ∨ z.toInt = 6 ∨ z.toInt = 7 ∨ z.toInt = 8 ∨ z.toInt = 9 ∨ z.toInt = 10 ∨ z.toInt = 11 ∨ z.toInt = 12 ∨ z.toInt = 13 ∨ z.toInt = 14 ∨ z.toInt = 15 ∨ z.toInt = 16 by omega) with q | q | q | q | q | q | q | q | q | q | q | q | q | q | q | q | q
    · exact lv_tableIn (off := 81) (tgt := 120) hx hb dL_law_39 h1 h2 (by rw [q]; rfl) (by decide) (kl_c0 F hn N g I hl)
    · exact lv_tableIn (off := 106) (tgt := 145) hx hb dL_law_39 h1 h2 (by rw [q]; rfl) (by decide) (kl_c1 F hn N g I hl)
    · exact lv_tableIn (off := 131) (tgt := 170) hx hb dL_law_39 h1 h2 (by rw [q]; rfl) (by decide) (kl_c2 F hn N g I hl)
    · exact lv_tableIn (off := 156) (tgt := 195) hx hb dL_law_39 h1 h2 (by rw [q]; rfl) (by decide) (kl_c3 F hn N g I hl)
    · exact lv_tableIn (off := 193) (tgt := 232) hx hb dL_law_39 h1 h2 (by rw [q]; rfl) (by decide) (kl_c4 F hn N g I hl)
    · exact lv_tableIn (off := 242) (tgt := 281) hx hb dL_law_39 h1 h2 (by rw [q]; rfl) (by decide) (kl_c5 F hn N g I hl)
    · exact lv_tableIn (off := 267) (tgt := 306) hx hb dL_law_39 h1 h2 (by rw [q]; rfl) (by decide) (kl_c6 F hn N g I hl)
    · exact lv_tableIn (off := 316) (tgt := 355) hx hb dL_law_39 h1 h2 (by rw [q]; rfl) (by decide) (kl_c7 F hn N g I hl)
    · exact lv_tableIn (off := 341) (tgt := 380) hx hb dL_law_39 h1 h2 (by rw [q]; rfl) (by decide) (kl_c8 F hn N g I hl)
    · exact lv_tableIn (off := 366) (tgt := 405) hx hb dL_law_39 h1 h2 (by rw [q]; rfl) (by decide) (kl_c9 F hn N g I hl)
    · exact lv_tableIn (off := 379) (tgt := 418) hx hb dL_law_39 h1 h2 (by rw [q]; rfl) (by decide) (kl_c10 F hn N g I hl)
    · exact lv_tableIn (off := 428) (tgt := 467) hx hb dL_law_39 h1 h2 (by rw [q]; rfl) (by decide) (kl_c11 F hn N g I hl)
    · exact lv_tableIn (off := 465) (tgt := 504) hx hb dL_law_39 h1 h2 (by rw [q]; rfl) (by decide) (kl_c12 F hn N g I hl)
    · exact lv_tableIn (off := 490) (tgt := 529) hx hb dL_law_39 h1 h2 (by rw [q]; rfl) (by decide) (kl_c13 F hn N g I hl)
    · exact lv_tableIn (off := 527) (tgt := 566) hx hb dL_law_39 h1 h2 (by rw [q]; rfl) (by decide) (kl_c14 F hn N g I hl)
    · exact lv_tableIn (off := 595) (tgt := 634) hx hb dL_law_39 h1 h2 (by rw [q]; rfl) (by decide) (kl_c15 F hn N g I hl)
    · exact lv_tableIn (off := 632) (tgt := 671) hx hb dL_law_39 h1 h2 (by rw [q]; rfl) (by decide) (kl_c16 F hn N g I hl)
set_option maxHeartbeats 4000000 in
set_option maxRecDepth 100000 in
theorem kl_loop (F : kl_F l p s m meth c b L xs D cI cZ cQ cS cL ad o sa sb) : ∀ (k n : Nat), L < 4 * n + 4 * k + 4 → 4 * n ≤ L → ∀ (h : AHp) (f : Nat → Int64) (H : Heap) (locs : List Loc) (ls : Array Slot), GG h → kl_I s D cI cZ cQ cS cL ad o h f H locs → lv_has ls 7 (kl_lv b o ad n) → W p l e room_1 s m #[Value.ref b] below meth c H locs (100 + n) (1100 + 6 * n) (lw_Z below #[Value.ref b] s) (F0 m 23 ls []) := by
  obtain ⟨⟨hx, hb, hr, hml, hown, hts, hX, hbl, hlocks, hgv⟩, hL, htr, hinj, ho, hA, hAo, hK5, hZ⟩ := id F
  intro k
  induction k with
  | zero =>
    intro n hk hn h f H locs ls g I hl
    obtain ⟨hP, hO, hS⟩ := id I
    refine lv_iload hx hb dL_law_23 (lv_at hl 0 rfl) ?_
    refine lv_aload_n hx hb dL_law_25 rfl (lv_at hl 4 rfl) ?_
    refine va_slen (A := fun q => s.heap.size ≤ q) hx hb hX hbl (Nat.not_le.mpr hbl) hS dL_law_26 ?_
    refine lv_iconst (v := 4) hx hb dL_law_27 (by decide) ?_
    refine lv_isub hx hb dL_law_28 ?_
    refine lv_icmp_gt (tgt := 702) (rest := []) hx hb dL_law_29 (by decide) (fun _ => ?_) (fun z => absurd ((kl_len hL (by omega)).mpr (by omega)) z)
    refine lv_iconst (v := 1) hx hb dL_law_702 (by decide) ?_
    refine va_forget hS.2.2 ?_
    refine W.widen (k := 638704) (n := 7179991) (by omega) (by omega) ?_
    exact lw_ret hx hb hr hlocks dL_law_703
  | succ k ih =>
    intro n hk hn h f H locs ls g I hl
    obtain ⟨hP, hO, hS⟩ := id I
    refine lv_iload hx hb dL_law_23 (lv_at hl 0 rfl) ?_
    refine lv_aload_n hx hb dL_law_25 rfl (lv_at hl 4 rfl) ?_
    refine va_slen (A := fun q => s.heap.size ≤ q) hx hb hX hbl (Nat.not_le.mpr hbl) hS dL_law_26 ?_
    refine lv_iconst (v := 4) hx hb dL_law_27 (by decide) ?_
    refine lv_isub hx hb dL_law_28 ?_
    refine lv_icmp_gt (tgt := 702) (rest := []) hx hb dL_law_29 (by decide) (fun _ => ?_) (fun z => ?_)
    · refine lv_iconst (v := 1) hx hb dL_law_702 (by decide) ?_
      refine va_forget hS.2.2 ?_
      refine W.widen (k := 638704) (n := 7179991) (by omega) (by omega) ?_
      exact lw_ret hx hb hr hlocks dL_law_703
    · have hn4 : 4 * n + 4 ≤ L := by
        have z2 : ¬ L < 4 * n + 4 := fun q => z ((kl_len hL (by omega)).mpr q)
        omega
      refine lv_aload_n hx hb dL_law_32 rfl (lv_at hl 4 rfl) ?_
      refine lv_iload hx hb dL_law_33 (lv_at hl 0 rfl) ?_
      refine va_sld (A := fun q => s.heap.size ≤ q) hx hb hX hbl (Nat.not_le.mpr hbl) hS (vp_in_nI (by omega) (by omega)) dL_law_35 ?_
      refine lv_bipush (v := 31) hx hb dL_law_36 (by decide) ?_
      refine lv_iand hx hb dL_law_38 ?_
      refine kl_sw F hn4 ?_ g I hl _
      intro h2 f2 H2 locs2 ls2 g2 I2 hl2
      refine lv_iinc (k := 0) (v := nI (4 * (n + 1))) (lv' := kl_lv b o ad (n + 1)) hx hb dL_law_696 hl2 rfl ?_ (by decide) rfl (fun ls3 hl3 => ?_)
      · show nI (4 * n) + nI 4 = nI (4 * (n + 1))
        rw [nI_add]
        rfl
      · refine lv_goto (tgt := 23) hx hb dL_law_699 (by decide) ?_
        exact ih (n + 1) (by omega) (by omega) h2 f2 H2 locs2 ls3 g2 I2 hl3
end KLD
