/-! ===== the walk from the entry ===== -/
set_option maxHeartbeats 4000000 in
set_option maxRecDepth 100000 in
theorem whole_start {p : Program} {e : Env} {s : State} {m : MethodId} {below : List Frame} {meth : Method} {c : Code} (l : Launch) (htr : l.stackTraces = false) {b L : Nat} {xs : Nat → Int32} (hL : L ≤ 2048) (C0 : lw_At p s m meth c b L xs) : W p l e room_1 s m #[Value.ref b] below meth c s.heap [] 0 0 (lw_Z below #[Value.ref b] s) (entryFrame m ([Value.ref b] : List Value).toArray 7) := by
  obtain ⟨hx, hb, hr, hml, hown, hts, hX, hbl, hlocks, hgv⟩ := id C0
  obtain ⟨sa, sb, hZ⟩ := kp_Z C0
  have hA : ∀ q : Nat, s.heap.size ≤ q → (fun q : Nat => s.heap.size ≤ q) q := fun _ h => h
  have hu := sw_ucls (ws := lw_tbl) (fun w h => (lk_smW w h).1)
  obtain ⟨c0, iS0, hKn0⟩ := u_known (C := RX0) (T := TX0) (N := 4) (n := 4) hts (hu 0 (by decide)) (hts (.instantiable RX0 4) (by decide +kernel))
  obtain ⟨c1, iS1, hKn1⟩ := u_known (C := RX1) (T := TX1) (N := 12) (n := 12) hts (hu 1 (by decide)) (hts (.instantiable RX1 12) (by decide +kernel))
  obtain ⟨c2, iS2, hKn2⟩ := u_known (C := RX2) (T := TX2) (N := 8) (n := 8) hts (hu 2 (by decide)) (hts (.instantiable RX2 8) (by decide +kernel))
  obtain ⟨c3, iS3, hKn3⟩ := u_known (C := RX3) (T := TX3) (N := 22) (n := 22) hts (hu 3 (by decide)) (hts (.instantiable RX3 22) (by decide +kernel))
  obtain ⟨D, hKc⟩ : ∃ D : va_G, ∀ (k : Nat) (q : vw_C), sm_cl[k]? = some q → u_Kn s q.1 q.2.1 q.2.2 (D.1 k) (D.2 k) := by
    refine ⟨(fun k => match k with | 0 => c0 | 1 => c1 | 2 => c2 | _ => c3, fun k => match k with | 0 => iS0 | 1 => iS1 | 2 => iS2 | _ => iS3), ?_⟩
    intro k q hq
    match k, hq with
    | 0, hq => cases hq; exact hKn0
    | 1, hq => cases hq; exact hKn1
    | 2, hq => cases hq; exact hKn2
    | 3, hq => cases hq; exact hKn3
    | k + 4, hq => cases hq
  obtain ⟨cI, gI⟩ := kp_arr (ty := .int) (hts (.arrayClass .int) (by decide +kernel)) (fun _ h => by cases h)
  obtain ⟨cZ, gZ⟩ := kp_arr (ty := .boolean) (hts (.arrayClass .boolean) (by decide +kernel)) (fun _ h => by cases h)
  obtain ⟨cL, gL⟩ := kp_arr (ty := .long) (hts (.arrayClass .long) (by decide +kernel)) (fun _ h => by cases h)
  have hao0 : (Cond.arrayOver (.object RX0)).before #[Value.ref b] s = true := hts _ (by decide +kernel)
  have hao1 : (Cond.arrayOver (.object RX1)).before #[Value.ref b] s = true := hts _ (by decide +kernel)
  obtain ⟨cQ, gQ⟩ := kp_arq hao0
  obtain ⟨cS, gS⟩ := kp_arq hao1
  have hK5 : va_K D sm_cl (sw_tys cI cZ cQ cS ++ [(cL, .long)]) s := by
    refine ⟨hKc, fun k q hq => ?_⟩
    match k, hq with
    | 0, hq => cases hq; exact gI
    | 1, hq => cases hq; exact gZ
    | 2, hq => cases hq; exact gQ
    | 3, hq => cases hq; exact gS
    | 4, hq => cases hq; exact gL
    | k + 5, hq => cases hq
  have hK : va_K D sm_cl (sw_tys cI cZ cQ cS) s := hK5.sub [0, 1, 2, 3] rfl
  have hn0 : va_Nw (.methodLinkNest RX2 40 yX0_init RX2) s := va_Nw.of rfl (hts (.methodLinkNest RX2 40 yX0_init RX2) (by decide +kernel))
  have hn1 : va_Nw (.methodLinkNest RX2 41 yX1_init RX2) s := va_Nw.of rfl (hts (.methodLinkNest RX2 41 yX1_init RX2) (by decide +kernel))
  have hS : va_S (fun q : Nat => s.heap.size ≤ q) s.heap s.heap [] := va_S.rf
  have hP : va_P D sm_cl [] s.heap := fun k q h => by simp at h
  have hD : va_D (fun q : Nat => s.heap.size ≤ q) [] := ⟨fun i j p q h => by simp at h, fun k q h => by simp at h⟩
  have hl := lv_entry ([.ref b]) (n := 7) (Nat.le_of_ble_eq_true rfl)
  rw [lg_entry_eq]
  generalize (lg_sl ([.ref b]) ++ List.replicate (7 - (lg_sl ([.ref b])).length) Slot.unset).toArray = ls at hl ⊢
  have hl : lv_has ls 7 [(0, .ref b)] := hl
  refine va_new (ci := 2) (fs := [.null, .null, .int 0, .int 0, .int 0, .int 0, .int 0, .int 0]) (C := RX2) (T := TX2) (N := 8) hx hb hts (hu 2 (by decide)) tyX2 tyX2_ok hown (hts (.classLink RL 8 RX2) (by decide +kernel)) (hts (.instantiable RX2 8) (by decide +kernel)) (hts (.initialized RX2) (by decide +kernel)) hK hP hD hS hA rfl (by decide +kernel) (Nat.le_of_ble_eq_true rfl) (Nat.le_of_ble_eq_true rfl) dL_law_0 (fun qx H hP hD hS => ?_)
  refine lv_dup hx hb dL_law_3 rfl ?_
  have hFc := kx_F (ws := []) hD hS hA
  refine va_callv (va_runI (As := []) (rest := [.ref qx]) ⟨hx, hb, hml, hown, hts⟩ (c_X2_init l D cI cZ cQ cS qx H.size) (cwI 0 hts kw_X2_init rfl rfl rfl (hts (.initialized RX2) (by decide +kernel)) (hts (.methodLink RL 17 yX2_init) (by decide +kernel)) (hts (.instanceMethod yX2_init) (by decide +kernel)) rfl (by decide +kernel) ⟨Nat.le_of_ble_eq_true rfl, Nat.le_of_ble_eq_true rfl⟩) ⟨fun a U g mk q => by
      obtain ⟨q0, q1, qP, qK, qD, qa, qb, qc, qd⟩ := q
      exact ⟨q0, q1, qP, va_K.moved (u := U) (U := U.calling g mk a) (Vm.Alike.refl U.vm) qK, qD, va_Nw.same (u := U) (U := U.calling g mk a) rfl rfl qa, va_Nw.same (u := U) (U := U.calling g mk a) rfl rfl qb, va_AO.moved (u := U) (U := U.calling g mk a) (Vm.Alike.refl U.vm) qc, va_AO.moved (u := U) (U := U.calling g mk a) (Vm.Alike.refl U.vm) qd⟩, fun U hU hW => ⟨rfl, by rw [hU], by rw [hU]; exact hP, va_K.moved hW.alike hK, kx_D _, va_Nw.warmM hW hn0, va_Nw.warmM hW hn1, va_AO.moved hW.alike (va_AO.of hao0), va_AO.moved hW.alike (va_AO.of hao1)⟩⟩ rfl rfl hl.1 rfl (lv_room (Nat.le_of_ble_eq_true rfl)) dL_law_4 ⟨Nat.le_of_ble_eq_true rfl, Nat.le_of_ble_eq_true rfl⟩) hS (fun q _ h => hFc q h) hFc (fun u t H1 locs ht hvm _ hB hz1 hk1 hS => ?_)
  obtain ⟨ad, rfl, hP1, hD1⟩ := hB
  rw [ht] at hP1
  obtain ⟨hP, hD⟩ := kj (ws := []) hP hD hk1 hFc hP1 hD1
  have hP : va_P D sm_cl (cw1.map (sw_E cI cZ cQ cS ad st_h)) H1 := hP
  have hD : va_D (fun q : Nat => s.heap.size ≤ q) (cw1.map (sw_E cI cZ cQ cS ad st_h)) := hD
  generalize H1 = H at hP hS ⊢
  refine W.widen (k := 71) (n := 532) (by decide) (by decide) ?_
  refine lv_astore_n (lv' := [(1, .ref (ad 0 0)), (0, .ref b)]) hx hb dL_law_7 rfl hl (by decide) rfl (fun ls hl => ?_)
  refine va_new (ci := 3) (fs := [.int 0, .int 0, .null, .null, .null, .null, .int 0, .null, .null, .null, .null, .null, .null, .null, .null, .null, .null, .int 0, .int 0, .int 0, .int 0, .int 0]) (C := RX3) (T := TX3) (N := 22) hx hb hts (hu 3 (by decide)) tyX3 tyX3_ok hown (hts (.classLink RL 18 RX3) (by decide +kernel)) (hts (.instantiable RX3 22) (by decide +kernel)) (hts (.initialized RX3) (by decide +kernel)) hK hP hD hS hA rfl (by decide +kernel) (Nat.le_of_ble_eq_true rfl) (Nat.le_of_ble_eq_true rfl) dL_law_8 (fun qm H hP hD hS => ?_)
  refine lv_dup hx hb dL_law_11 rfl ?_
  have hFc := kx_F hD hS hA
  refine va_callv (va_runI (As := []) (rest := [.ref qm]) ⟨hx, hb, hml, hown, hts⟩ (c_X3_init l D cI cZ cQ cS qm H.size) (cwI 0 hts kw_X3_init rfl rfl rfl (hts (.initialized RX3) (by decide +kernel)) (hts (.methodLink RL 20 yX3_init) (by decide +kernel)) (hts (.instanceMethod yX3_init) (by decide +kernel)) rfl (by decide +kernel) ⟨Nat.le_of_ble_eq_true rfl, Nat.le_of_ble_eq_true rfl⟩) ⟨fun a U g mk q => by
      obtain ⟨q0, q1, qP, qK, qD⟩ := q
      exact ⟨q0, q1, qP, va_K.moved (u := U) (U := U.calling g mk a) (Vm.Alike.refl U.vm) qK, qD⟩, fun U hU hW => ⟨rfl, by rw [hU], by rw [hU]; exact kx_P hP, va_K.moved hW.alike hK, kx_D _⟩⟩ rfl rfl hl.1 rfl (lv_room (Nat.le_of_ble_eq_true rfl)) dL_law_12 ⟨Nat.le_of_ble_eq_true rfl, Nat.le_of_ble_eq_true rfl⟩) hS (fun q _ h => hFc q h) hFc (fun u t H1 locs ht hvm _ hB hz1 hk1 hS => ?_)
  obtain ⟨q1, q2, q3, q4, q5, q6, q7, q8, q9, q10, q11, q12, q13, q14, hP1, hD1⟩ := hB
  rw [ht] at hP1
  obtain ⟨hP, hD⟩ := kj hP hD hk1 hFc hP1 hD1
  rw [← kp_1 (qm := qm) (q1 := q1) (q2 := q2) (q3 := q3) (q4 := q4) (q5 := q5) (q6 := q6) (q7 := q7) (q8 := q8) (q9 := q9) (q10 := q10) (q11 := q11) (q12 := q12) (q13 := q13) (q14 := q14), ← kp_2 (ad := ad), ← List.map_append] at hP hD
  generalize had : kp_ad ad qm q1 q2 q3 q4 q5 q6 q7 q8 q9 q10 q11 q12 q13 q14 = ad2 at hP hD
  have e0 : ad 0 0 = ad2 0 0 := by rw [← had]; rfl
  have e10 : qm = ad2 10 0 := by rw [← had]; rfl
  rw [e0] at hl
  rw [e10]
  generalize H1 = H at hP hS ⊢
  refine W.widen (k := 86) (n := 1050) (by decide) (by decide) ?_
  refine lv_astore_n (lv' := [(2, .ref (ad2 10 0)), (1, .ref (ad2 0 0)), (0, .ref b)]) hx hb dL_law_15 rfl hl (by decide) rfl (fun ls hl => ?_)
  refine lv_iconst (v := 1) hx hb dL_law_16 (by decide) ?_
  refine kn_newa (atype := .long) (ty := .long) (a0 := (1, .inr (.inl (fun _ => 0)))) hx hb (hts (.arrayClass .long) (by decide +kernel)) rfl hK5 hP hD hS hA 4 rfl (fun _ => rfl) (by decide) rfl (by decide) (Nat.le_of_ble_eq_true rfl) (Nat.le_of_ble_eq_true rfl) (fun _ h => by cases h) dL_law_17 (fun o H hP hD hS => ?_)
  have hinj := kp_inj hD cw_all
  have hAs := kp_A hD cw_all
  have ho := kp_o hD cw_all
  have hAo : s.heap.size ≤ o := hD.2 ((cw1 ++ cw2).map (sw_E cI cZ cQ cS ad2 st_h)).length _ ll_at
  have hO : va_P D sm_cl [ll_o cL o (fun _ => 0)] H := kx_P hP
  have hPw : va_P D sm_cl (sw_ws cI cZ cQ cS ad2 st_h) H := kp_P (ll_L hP) cw_all
  refine W.widen (k := 100 + 0) (n := 1100 + 6 * 0) (by decide) (by decide) ?_
  refine lv_astore_n (lv' := [(3, .ref o), (2, .ref (ad2 10 0)), (1, .ref (ad2 0 0)), (0, .ref b)]) hx hb dL_law_19 rfl hl (by decide) rfl (fun ls hl => ?_)
  refine lv_iconst (v := 0) hx hb dL_law_20 (by decide) ?_
  refine lv_istore (lv' := [(4, .int 0), (3, .ref o), (2, .ref (ad2 10 0)), (1, .ref (ad2 0 0)), (0, .ref b)]) hx hb dL_law_21 hl (by decide) rfl (fun ls hl => ?_)
  exact kl_loop (sa := sa) (sb := sb) ⟨C0, hL, htr, hinj, ho, hAs, hAo, hK5, hZ⟩ (L + 1) 0 (by omega) (by omega) st_h (fun _ => 0) H _ ls kl_st ⟨hPw, hO, hS⟩ hl
