/-! ===== the law: the case of look ===== -/
section KLC
variable {p : Program} {l : Launch} {e : Env} {s : State} {m : MethodId} {below : List Frame} {meth : Method} {c : Code} {b L : Nat} {xs : Nat → Int32} {D : va_G} {cI cZ cQ cS cL : ClassId} {ad : Nat → Nat → Nat} {o sa sb : Nat} {H : Heap} {locs : List Loc} {n : Nat} {ls : Array Slot} {h : AHp} {f : Nat → Int64}
/-- what the reference's look says, and what the class must then do -/
theorem kl_look (h : AHp) (x y : Int32) (g : GG h) : ∃ (n : Nat) (v : Int32) (tw : Nat), ah_run n 87 0 (ah_entry 87 [.inr (10, 0), .inl x, .inl y]) [] h = some (some v, ah_up h 10 0 20 (nI tw)) ∧ tw ≤ 2 ∧
    ((tw = 0 ∧ ∃ n, ah_run n 52 0 (ah_entry 52 [.inr (0, 0), .inl x, .inl y]) [] h = some (some v, h)) ∨ (tw = 1 ∧ ¬ (¬ x < 0 ∧ x < h 0 0 4)) ∨ (tw = 2 ∧ (¬ x < 0 ∧ x < h 0 0 4) ∧ vp_in x 8 ∧ (y.toInt < 0 ∨ 4 < y.toInt))) := by
  obtain ⟨P, NQ, NS, D, c, r⟩ := id g
  have z4 : h 0 0 4 = nI NS := c.1.2.2.2.1
  have h8 : NS ≤ 8 := c.1.1.2.2.2.1
  have key : Vi 87 h [some (.inr (10, 0)), some (.inl x), some (.inl y)] (fun v h' => ∃ tw, h' = ah_up h 10 0 20 (nI tw) ∧ tw ≤ 2 ∧ ((tw = 0 ∧ ∃ n, ah_run n 52 0 (ah_entry 52 [.inr (0, 0), .inl x, .inl y]) [] h = some (some v, h)) ∨ (tw = 1 ∧ ¬ (¬ x < 0 ∧ x < h 0 0 4)) ∨ (tw = 2 ∧ (¬ x < 0 ∧ x < h 0 0 4) ∧ vp_in x 8 ∧ (y.toInt < 0 ∨ 4 < y.toInt)))) := by
    refine md_look h x y _ g (a := h) c r (fun v tw k0 k1 k2 kt => ⟨tw, rfl, kt, ?_⟩)
    rw [z4]
    rcases (show tw = 0 ∨ tw = 1 ∨ tw = 2 by omega) with z | z | z
    · left
      obtain ⟨s, j, hs, hj, rfl, rfl, rfl⟩ := k0 z
      obtain ⟨n, r9, h9, e9, x9, rfl, rfl, rfl⟩ := (c_X2_look h (fun x' h' => x' = sp_look h s j ∧ h' = h) hs hj h8 z4).mpr ⟨rfl, rfl⟩
      exact ⟨z, n, e9⟩
    · exact Or.inr (Or.inl ⟨z, k1 z⟩)
    · obtain ⟨a1, a2⟩ := k2 z
      obtain ⟨i, hi, rfl⟩ := in_nI (by omega) a1.1 a1.2
      exact Or.inr (Or.inr ⟨z, a1, vp_in_nI (by omega) (by omega), a2⟩)
  obtain ⟨n, r9, h9, e9, v, rfl, tw, rfl, k1, k2⟩ := key
  exact ⟨n, v, tw, e9, k1, k2⟩
theorem kl_nI0 {tw : Nat} (h : tw ≤ 2) : (nI tw = 0) ↔ tw = 0 := by
  rcases (show tw = 0 ∨ tw = 1 ∨ tw = 2 by omega) with rfl | rfl | rfl <;> decide
set_option maxHeartbeats 4000000 in
set_option maxRecDepth 100000 in
theorem kl_c14 (F : kl_F l p s m meth c b L xs D cI cZ cQ cS cL ad o sa sb) (hn : 4 * n + 4 ≤ L) (N : kl_N p l e s m below meth c b D cI cZ cQ cS cL ad o n) (g : GG h) (I : kl_I s D cI cZ cQ cS cL ad o h f H locs) (hl : lv_has ls 7 (kl_lv b o ad n)) : W p l e room_1 s m #[Value.ref b] below meth c H locs (100 + n) (1100 + 6 * n) (lw_Z below #[Value.ref b] s) (F0 m 566 ls []) := by
  obtain ⟨⟨hx, hb, hr, hml, hown, hts, hX, hbl, hlocks, hgv⟩, hL, htr, hinj, ho, hA, hAo, hK5, hZ⟩ := id F
  have hK : va_K D sm_cl (sw_tys cI cZ cQ cS) s := hK5.sub [0, 1, 2, 3] rfl
  obtain ⟨hP, hO, hS⟩ := I
  obtain ⟨n2, v, tw, e2, ht2, hc⟩ := kl_look h (xs (4 * n + 1)) (xs (4 * n + 2)) g
  obtain ⟨n3, r3, h3, e3, x3, rfl, rfl, rfl⟩ := (c_X3_thrown (ah_up h 10 0 20 (nI tw)) 0 (fun r h' => r = nI tw ∧ h' = ah_up h 10 0 20 (nI tw))).mpr ⟨by simp [ah_up], rfl⟩
  refine lv_aload_n hx hb dL_law_566 rfl (lv_at hl 3 rfl) ?_
  refine kl_rd F hn hS hl 0 4 rfl rfl 1 1 (by decide) (by decide) (by decide) dL_law_567 dL_law_568 dL_law_570 dL_law_571 dL_law_572 ?_
  refine kl_rd F hn hS hl 0 4 rfl rfl 2 2 (by decide) (by decide) (by decide) dL_law_573 dL_law_574 dL_law_576 dL_law_577 dL_law_578 ?_
  refine lv_aload_n hx hb dL_law_579 rfl (lv_at hl 1 rfl) ?_
  have hos : o < H.size := (hO 0 _ rfl).lt
  have hll : ∀ q, ll_A ad o H.size q → s.heap.size ≤ q := fun q z => z.elim (hA q) (fun z => z.elim (fun z => z ▸ hAo) (fun z => Nat.le_trans hS.1 z))
  refine va_calli (vx_runSW (As := [.ref (ad 0 0), .int (xs (4 * n + 1)), .int (xs (4 * n + 2)), .ref o]) (rest := []) ⟨hx, hb, hml, hown, hts⟩ (c_Llook l htr D cI cZ cQ cS cL ad hinj h (xs (4 * n + 1)) (xs (4 * n + 2)) v o H.size sa sb tw f ho hc) (vx_cwSW 4 hts kl_gL rfl rfl rfl ⟨by decide, by decide, by decide +kernel⟩ ⟨by decide, by decide⟩) ⟨ll_blind, fun U hU hW => ⟨rfl, by rw [hU], by rw [hU]; exact hP.app hO, va_K.moved hW.alike hK5, by rw [hU]; exact ((hZ.kept (fun a h1 h2 => hS.2.1 a h1 h2)).warm hW).narrow hll⟩⟩ rfl rfl hl.1 rfl (lv_room (Nat.le_of_ble_eq_true rfl)) dL_law_580 (by show 100 + n + 1 ≤ 638704 ∧ 1100 + 6 * n + 6 ≤ 7179991; omega)) hS (fun q _ z => hll q z) hll (fun r f2 t H1 locs1 ht hvm hpost hB hz1 hk1 hS => ?_)
  obtain ⟨rfl, hf2⟩ := hpost
  rw [ht] at hB
  have hP := ll_L hB
  have hO : va_P D sm_cl [ll_o cL o f2] H1 := kx_P hB
  generalize H1 = H at hP hO hS ⊢
  refine lv_istore (lv' := [(5, .int (nI tw)), (4, .int (nI (4 * n))), (3, .ref o), (2, .ref (ad 10 0)), (1, .ref (ad 0 0)), (0, .ref b)]) hx hb dL_law_583 hl (by decide) rfl (fun ls hl => ?_)
  refine lv_aload_n hx hb dL_law_585 rfl (lv_at hl 3 rfl) ?_
  refine kl_rd F hn hS hl 1 5 rfl rfl 1 1 (by decide) (by decide) (by decide) dL_law_586 dL_law_587 dL_law_589 dL_law_590 dL_law_591 ?_
  refine kl_rd F hn hS hl 1 5 rfl rfl 2 2 (by decide) (by decide) (by decide) dL_law_592 dL_law_593 dL_law_595 dL_law_596 dL_law_597 ?_
  refine kv_go (cc := code) (nL := 7) (Ts := lw_tbl) (own := RL) ⟨hx, hb, hml, hown, hts⟩ hinj 87 87 10 0 2 [xs (4 * n + 1), xs (4 * n + 2)] (A0 := fun q => s.heap.size ≤ q) (rest := []) e2 rfl (by decide +kernel) (by decide +kernel) lk_smW kl_g598 (by decide +kernel) hP hK hA hS hl.1 (Nat.le_of_ble_eq_true rfl) (by show 100 + n + 1 ≤ 638704 ∧ 1100 + 6 * n + 6 ≤ 7179991; omega) dL_law_598 (fun H locs hP hS _ hk => ?_)
  have hO := ll_O hO ho hk
  refine lv_istore (x := v) (lv' := [(6, .int v), (5, .int (nI tw)), (4, .int (nI (4 * n))), (3, .ref o), (2, .ref (ad 10 0)), (1, .ref (ad 0 0)), (0, .ref b)]) (rest := []) hx hb dL_law_601 hl (by decide) rfl (fun ls hl => ?_)
  refine lv_aload_n hx hb dL_law_603 rfl (lv_at hl 4 rfl) ?_
  refine kv_go (cc := code) (nL := 7) (Ts := lw_tbl) (own := RL) ⟨hx, hb, hml, hown, hts⟩ hinj 55 88 10 0 0 [] (A0 := fun q => s.heap.size ≤ q) (rest := []) e3 rfl (by decide +kernel) (by decide +kernel) lk_smW kl_g604 (by decide +kernel) hP hK hA hS hl.1 (Nat.le_of_ble_eq_true rfl) (by show 100 + n + 1 ≤ 638704 ∧ 1100 + 6 * n + 6 ≤ 7179991; omega) dL_law_604 (fun H locs hP hS _ hk => ?_)
  have hO := ll_O hO ho hk
  refine lv_iload (rest := [.int (nI tw)]) hx hb dL_law_607 (lv_at hl 1 rfl) ?_
  refine lv_icmp_eq (tgt := 614) (rest := []) hx hb dL_law_609 (by decide) (fun _ => ?_) (fun z => absurd rfl z)
  refine lv_iload hx hb dL_law_614 (lv_at hl 1 rfl) ?_
  have hend : W p l e room_1 s m #[Value.ref b] below meth c H locs (100 + n + 1) (1100 + 6 * n + 6) (lw_Z below #[Value.ref b] s) (F0 m 631 ls []) := by
    refine lv_goto (tgt := 696) hx hb dL_law_631 (by decide) ?_
    exact N (ah_up h 10 0 20 (nI tw)) f2 _ _ _ (GG_thr g) ⟨hP, hO, hS⟩ (lv_sub hl [2, 3, 4, 5, 6] rfl)
  refine lv_if_ne (tgt := 631) hx hb dL_law_616 (by decide) (fun _ => hend) (fun z => ?_)
  have hf3 := hf2 ((kl_nI0 ht2).mp z)
  refine lv_aload_n hx hb dL_law_619 rfl (lv_at hl 3 rfl) ?_
  refine lv_iconst (v := 0) hx hb dL_law_620 (by decide) ?_
  refine va_lald (rest := []) hx hb hK5 hO 0 4 rfl rfl (i := 0) (by unfold vp_in; decide) dL_law_621 ?_
  refine lv_iload hx hb dL_law_622 (lv_at hl 0 rfl) ?_
  refine lv_i2l (v := v.toInt64) hx hb dL_law_624 rfl ?_
  refine W.lcmp hx hb dL_law_625 ?_
  refine lv_if_eq (tgt := 631) hx hb dL_law_626 (by decide) (fun _ => hend) (fun z2 => absurd ?_ z2)
  rw [show (0 : Int32).toNatClampNeg = 0 from rfl, hf3]
  simp [lg_cmp]
end KLC
