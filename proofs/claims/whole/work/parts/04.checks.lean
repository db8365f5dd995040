/-! ===== what the tables say, checked by the kernel ===== -/
def ck_cn : Nat → Nat := fun k => match k with | 3 => 20 | 4 => 8 | 5 => 8 | 6 => 8 | 7 => 8 | 8 => 8 | 9 => 8 | 11 => 0 | 16 => 0 | _ => 1
/-- all cells of the picture -/
def ck_wl : List (Nat × Nat) := (List.range 27).flatMap (fun k => (List.range (ck_cn k)).map (fun i => (k, i)))
theorem ck_nodup : ck_wl.Nodup := by decide +kernel
theorem ck_tgt : ∀ q ∈ ck_wl, ∀ j, j < 22 → ((ah_cls q.1).all (fun c => decide (ah_tgt c j = 0) || decide ((ah_tgt c j, q.2) ∈ ck_wl))) = true := by decide +kernel
theorem ck_q : ∀ i, i < 20 → (3, i) ∈ ck_wl := by decide +kernel
theorem ck_s : ∀ i, i < 8 → (4, i) ∈ ck_wl := by decide +kernel
theorem ck_c0 : Cond.code yX0_begin cX0_begin 3 none ∈ sm_W := List.mem_of_getElem? (i := 0) rfl
theorem ck_c1 : Cond.code yX0_isOnShelf cX0_isOnShelf 1 (some .boolean) ∈ sm_W := List.mem_of_getElem? (i := 5) rfl
theorem ck_c2 : Cond.code yJ7_fill_53178 cJ7_fill_53178 4 none ∈ sm_W := List.mem_of_getElem? (i := 6) rfl
theorem ck_c3 : Cond.code yX1_begin cX1_begin 3 none ∈ sm_W := List.mem_of_getElem? (i := 7) rfl
theorem ck_c4 : Cond.code yX1_isIdle cX1_isIdle 1 (some .boolean) ∈ sm_W := List.mem_of_getElem? (i := 17) rfl
theorem ck_c5 : Cond.code yX1_has cX1_has 2 (some .boolean) ∈ sm_W := List.mem_of_getElem? (i := 18) rfl
theorem ck_c6 : Cond.code yX1_hadBy cX1_hadBy 3 (some .boolean) ∈ sm_W := List.mem_of_getElem? (i := 19) rfl
theorem ck_c7 : Cond.code yX1_isWriting cX1_isWriting 2 (some .boolean) ∈ sm_W := List.mem_of_getElem? (i := 25) rfl
theorem ck_c8 : Cond.code yX1_endDay cX1_endDay 1 (some .int) ∈ sm_W := List.mem_of_getElem? (i := 30) rfl
theorem ck_c9 : Cond.code yX1_take cX1_take 4 none ∈ sm_W := List.mem_of_getElem? (i := 32) rfl
theorem ck_c10 : Cond.code yX1_handIn cX1_handIn 2 none ∈ sm_W := List.mem_of_getElem? (i := 36) rfl
theorem ck_c11 : Cond.code yX2_text cX2_text 2 (some .boolean) ∈ sm_W := List.mem_of_getElem? (i := 39) rfl
theorem ck_c12 : Cond.code yX2_rule cX2_rule 2 (some .boolean) ∈ sm_W := List.mem_of_getElem? (i := 44) rfl
theorem ck_c13 : Cond.code yX2_wear cX2_wear 2 (some .boolean) ∈ sm_W := List.mem_of_getElem? (i := 46) rfl
theorem ck_c14 : Cond.code yX2_isPiece cX2_isPiece 2 (some .boolean) ∈ sm_W := List.mem_of_getElem? (i := 48) rfl
theorem ck_c15 : Cond.code yX2_isBits cX2_isBits 1 (some .boolean) ∈ sm_W := List.mem_of_getElem? (i := 49) rfl
theorem ck_c16 : Cond.code yX2_quire cX2_quire 3 (some .int) ∈ sm_W := List.mem_of_getElem? (i := 51) rfl
theorem ck_c17 : Cond.code yX2_isQuire cX2_isQuire 2 (some .boolean) ∈ sm_W := List.mem_of_getElem? (i := 63) rfl
theorem ck_c18 : Cond.code yX2_isScribe cX2_isScribe 2 (some .boolean) ∈ sm_W := List.mem_of_getElem? (i := 64) rfl
theorem ck_c19 : Cond.code yX2_hasPage cX2_hasPage 3 (some .boolean) ∈ sm_W := List.mem_of_getElem? (i := 65) rfl
theorem ck_c20 : Cond.code yX2_modelErrors cX2_modelErrors 4 (some .int) ∈ sm_W := List.mem_of_getElem? (i := 80) rfl
theorem ck_c21 : Cond.code yX2_anew cX2_anew 6 (some .int) ∈ sm_W := List.mem_of_getElem? (i := 87) rfl
theorem ck_c22 : Cond.code yX2_scribe cX2_scribe 2 (some .int) ∈ sm_W := List.mem_of_getElem? (i := 88) rfl
theorem ck_c23 : Cond.code yX2_slip cX2_slip 4 (some .boolean) ∈ sm_W := List.mem_of_getElem? (i := 92) rfl
theorem ck_c24 : Cond.code yX2_mayPass cX2_mayPass 3 (some .boolean) ∈ sm_W := List.mem_of_getElem? (i := 94) rfl
theorem ck_c25 : Cond.code yX2_handInPages cX2_handInPages 3 none ∈ sm_W := List.mem_of_getElem? (i := 104) rfl
theorem ck_c26 : Cond.code yX2_hasEnded cX2_hasEnded 2 (some .boolean) ∈ sm_W := List.mem_of_getElem? (i := 105) rfl
theorem ck_c27 : Cond.code yX2_lineKey cX2_lineKey 2 (some .int) ∈ sm_W := List.mem_of_getElem? (i := 107) rfl
theorem ck_c28 : Cond.code yX2_nextInLine cX2_nextInLine 5 (some .int) ∈ sm_W := List.mem_of_getElem? (i := 109) rfl
theorem ck_c29 : Cond.code yX2_isWorn cX2_isWorn 2 (some .boolean) ∈ sm_W := List.mem_of_getElem? (i := 116) rfl
theorem ck_c30 : Cond.code yX2_leastUsedOnShelf cX2_leastUsedOnShelf 5 (some .int) ∈ sm_W := List.mem_of_getElem? (i := 118) rfl
theorem ck_c31 : Cond.code yX2_unwornQuiresOf cX2_unwornQuiresOf 4 (some .int) ∈ sm_W := List.mem_of_getElem? (i := 122) rfl
theorem ck_c32 : Cond.code yX2_chosenQuire cX2_chosenQuire 7 (some .int) ∈ sm_W := List.mem_of_getElem? (i := 129) rfl
theorem ck_c33 : Cond.code yX2_lendQuires cX2_lendQuires 5 none ∈ sm_W := List.mem_of_getElem? (i := 139) rfl
theorem ck_c34 : Cond.code yX2_passDay cX2_passDay 1 none ∈ sm_W := List.mem_of_getElem? (i := 146) rfl
theorem ck_c35 : Cond.code yX2_skipQuietDays cX2_skipQuietDays 4 none ∈ sm_W := List.mem_of_getElem? (i := 147) rfl
theorem ck_c36 : Cond.code yX2_days cX2_days 4 (some .int) ∈ sm_W := List.mem_of_getElem? (i := 164) rfl
theorem ck_c37 : Cond.code yX2_endedBooks cX2_endedBooks 3 (some .int) ∈ sm_W := List.mem_of_getElem? (i := 165) rfl
theorem ck_c38 : Cond.code yX2_allEnded cX2_allEnded 1 (some .boolean) ∈ sm_W := List.mem_of_getElem? (i := 166) rfl
theorem ck_c39 : Cond.code yX2_finish cX2_finish 4 (some .int) ∈ sm_W := List.mem_of_getElem? (i := 173) rfl
theorem ck_c40 : Cond.code yX2_soonestEnd cX2_soonestEnd 3 (some .int) ∈ sm_W := List.mem_of_getElem? (i := 174) rfl
theorem ck_c41 : Cond.code yX2_workLeft cX2_workLeft 5 (some .int) ∈ sm_W := List.mem_of_getElem? (i := 179) rfl
theorem ck_c42 : Cond.code yX2_quiresOf cX2_quiresOf 4 (some .int) ∈ sm_W := List.mem_of_getElem? (i := 180) rfl
theorem ck_c43 : Cond.code yX2_bound cX2_bound 5 (some .int) ∈ sm_W := List.mem_of_getElem? (i := 190) rfl
theorem ck_c44 : Cond.code yX2_page cX2_page 5 (some .int) ∈ sm_W := List.mem_of_getElem? (i := 194) rfl
theorem ck_c45 : Cond.code yJ6_bitCount_0f7a4 cJ6_bitCount_0f7a4 1 (some .int) ∈ sm_W := List.mem_of_getElem? (i := 195) rfl
theorem ck_c46 : Cond.code yX2_nearestModel cX2_nearestModel 8 (some .int) ∈ sm_W := List.mem_of_getElem? (i := 205) rfl
theorem ck_c47 : Cond.code yX2_parent cX2_parent 3 (some .int) ∈ sm_W := List.mem_of_getElem? (i := 209) rfl
theorem ck_c48 : Cond.code yX2_unlikePlaces cX2_unlikePlaces 5 (some .int) ∈ sm_W := List.mem_of_getElem? (i := 210) rfl
theorem ck_c49 : Cond.code yX2_changes cX2_changes 4 (some .int) ∈ sm_W := List.mem_of_getElem? (i := 214) rfl
theorem ck_c50 : Cond.code yX2_met cX2_met 5 (some .int) ∈ sm_W := List.mem_of_getElem? (i := 215) rfl
theorem ck_c51 : Cond.code yX2_stateOf cX2_stateOf 2 (some .int) ∈ sm_W := List.mem_of_getElem? (i := 216) rfl
theorem ck_c52 : Cond.code yX2_look cX2_look 4 (some .int) ∈ sm_W := List.mem_of_getElem? (i := 220) rfl
theorem ck_c53 : Cond.code yX2_stock cX2_stock 4 (some .int) ∈ sm_W := List.mem_of_getElem? (i := 221) rfl
theorem ck_c54 : Cond.code yX2_count cX2_count 2 (some .int) ∈ sm_W := List.mem_of_getElem? (i := 222) rfl
theorem ck_c55 : Cond.code yX3_thrown cX3_thrown 1 (some .int) ∈ sm_W := List.mem_of_getElem? (i := 223) rfl
theorem ck_c56 : Cond.code yX3_text cX3_text 2 (some .boolean) ∈ sm_W := List.mem_of_getElem? (i := 225) rfl
theorem ck_c57 : Cond.code yX3_rule cX3_rule 2 (some .boolean) ∈ sm_W := List.mem_of_getElem? (i := 230) rfl
theorem ck_c58 : Cond.code yX3_wear cX3_wear 2 (some .boolean) ∈ sm_W := List.mem_of_getElem? (i := 232) rfl
theorem ck_c59 : Cond.code yX3_areBits cX3_areBits 1 (some .boolean) ∈ sm_W := List.mem_of_getElem? (i := 234) rfl
theorem ck_c60 : Cond.code yX3_isQuire cX3_isQuire 2 (some .boolean) ∈ sm_W := List.mem_of_getElem? (i := 236) rfl
theorem ck_c61 : Cond.code yX3_isScribe cX3_isScribe 2 (some .boolean) ∈ sm_W := List.mem_of_getElem? (i := 237) rfl
theorem ck_c62 : Cond.code yX3_isPiece cX3_isPiece 2 (some .boolean) ∈ sm_W := List.mem_of_getElem? (i := 238) rfl
theorem ck_c63 : Cond.code yX3_quire cX3_quire 3 (some .int) ∈ sm_W := List.mem_of_getElem? (i := 239) rfl
theorem ck_c64 : Cond.code yX3_anew cX3_anew 6 (some .int) ∈ sm_W := List.mem_of_getElem? (i := 250) rfl
theorem ck_c65 : Cond.code yX3_scribe cX3_scribe 3 (some .int) ∈ sm_W := List.mem_of_getElem? (i := 259) rfl
theorem ck_c66 : Cond.code yX3_slip cX3_slip 4 (some .boolean) ∈ sm_W := List.mem_of_getElem? (i := 265) rfl
theorem ck_c67 : Cond.code yX3_hasMany cX3_hasMany 4 (some .int) ∈ sm_W := List.mem_of_getElem? (i := 266) rfl
theorem ck_c68 : Cond.code yX3_handsIn cX3_handsIn 4 none ∈ sm_W := List.mem_of_getElem? (i := 267) rfl
theorem ck_c69 : Cond.code yX3_isThere cX3_isThere 2 (some .boolean) ∈ sm_W := List.mem_of_getElem? (i := 272) rfl
theorem ck_c70 : Cond.code yX3_isOnShelf cX3_isOnShelf 3 (some .boolean) ∈ sm_W := List.mem_of_getElem? (i := 273) rfl
theorem ck_c71 : Cond.code yX3_sound cX3_sound 4 (some .int) ∈ sm_W := List.mem_of_getElem? (i := 277) rfl
theorem ck_c72 : Cond.code yX3_takes cX3_takes 5 none ∈ sm_W := List.mem_of_getElem? (i := 286) rfl
theorem ck_c73 : Cond.code yX3_ends cX3_ends 2 (some .int) ∈ sm_W := List.mem_of_getElem? (i := 287) rfl
theorem ck_c74 : Cond.code yX3_oneDay cX3_oneDay 3 none ∈ sm_W := List.mem_of_getElem? (i := 297) rfl
theorem ck_c75 : Cond.code yX3_days cX3_days 3 (some .int) ∈ sm_W := List.mem_of_getElem? (i := 301) rfl
theorem ck_c76 : Cond.code yX3_allEnded cX3_allEnded 2 (some .boolean) ∈ sm_W := List.mem_of_getElem? (i := 302) rfl
theorem ck_c77 : Cond.code yX3_finish cX3_finish 3 (some .int) ∈ sm_W := List.mem_of_getElem? (i := 306) rfl
theorem ck_c78 : Cond.code yX3_bound cX3_bound 7 (some .int) ∈ sm_W := List.mem_of_getElem? (i := 307) rfl
theorem ck_c79 : Cond.code yX3_isPage cX3_isPage 3 (some .boolean) ∈ sm_W := List.mem_of_getElem? (i := 308) rfl
theorem ck_c80 : Cond.code yX3_page cX3_page 5 (some .int) ∈ sm_W := List.mem_of_getElem? (i := 309) rfl
theorem ck_c81 : Cond.code yX3_unlike cX3_unlike 4 (some .int) ∈ sm_W := List.mem_of_getElem? (i := 313) rfl
theorem ck_c82 : Cond.code yX3_parentOf cX3_parentOf 6 (some .int) ∈ sm_W := List.mem_of_getElem? (i := 314) rfl
theorem ck_c83 : Cond.code yX3_parent cX3_parent 3 (some .int) ∈ sm_W := List.mem_of_getElem? (i := 321) rfl
theorem ck_c84 : Cond.code yX3_changes cX3_changes 4 (some .int) ∈ sm_W := List.mem_of_getElem? (i := 322) rfl
theorem ck_c85 : Cond.code yX3_met cX3_met 5 (some .int) ∈ sm_W := List.mem_of_getElem? (i := 323) rfl
theorem ck_c86 : Cond.code yX3_fails cX3_fails 2 (some .int) ∈ sm_W := List.mem_of_getElem? (i := 324) rfl
theorem ck_c87 : Cond.code yX3_look cX3_look 3 (some .int) ∈ sm_W := List.mem_of_getElem? (i := 325) rfl
theorem ck_c88 : Cond.code yX3_stock cX3_stock 3 (some .int) ∈ sm_W := List.mem_of_getElem? (i := 329) rfl
theorem ck_c89 : Cond.code yX3_count cX3_count 4 (some .int) ∈ sm_W := List.mem_of_getElem? (i := 330) rfl
theorem ck_c90 : Cond.code yJ9_max_7cf53 cJ9_max_7cf53 2 (some .int) ∈ sm_W := List.mem_of_getElem? (i := 154) rfl
theorem ck_c91 : Cond.code yJ9_min_7cf53 cJ9_min_7cf53 2 (some .int) ∈ sm_W := List.mem_of_getElem? (i := 151) rfl
theorem ck_code : ∀ y, y < 92 → (Cond.code (sm_y.getD y ⟨"", "", ""⟩) (sm_c.getD y ⟨#[]⟩) (sm_L.getD y 0) (match sm_ret.getD y 9 with | 0 => none | 1 => some .int | _ => some .boolean)) ∈ sm_W := by
  intro y hy
  match y, hy with
  | 0, _ => exact ck_c0
  | 1, _ => exact ck_c1
  | 2, _ => exact ck_c2
  | 3, _ => exact ck_c3
  | 4, _ => exact ck_c4
  | 5, _ => exact ck_c5
  | 6, _ => exact ck_c6
  | 7, _ => exact ck_c7
  | 8, _ => exact ck_c8
  | 9, _ => exact ck_c9
  | 10, _ => exact ck_c10
  | 11, _ => exact ck_c11
  | 12, _ => exact ck_c12
  | 13, _ => exact ck_c13
  | 14, _ => exact ck_c14
  | 15, _ => exact ck_c15
  | 16, _ => exact ck_c16
  | 17, _ => exact ck_c17
  | 18, _ => exact ck_c18
  | 19, _ => exact ck_c19
  | 20, _ => exact ck_c20
  | 21, _ => exact ck_c21
  | 22, _ => exact ck_c22
  | 23, _ => exact ck_c23
  | 24, _ => exact ck_c24
  | 25, _ => exact ck_c25
  | 26, _ => exact ck_c26
  | 27, _ => exact ck_c27
  | 28, _ => exact ck_c28
  | 29, _ => exact ck_c29
  | 30, _ => exact ck_c30
  | 31, _ => exact ck_c31
  | 32, _ => exact ck_c32
  | 33, _ => exact ck_c33
  | 34, _ => exact ck_c34
  | 35, _ => exact ck_c35
  | 36, _ => exact ck_c36
  | 37, _ => exact ck_c37
  | 38, _ => exact ck_c38
  | 39, _ => exact ck_c39
  | 40, _ => exact ck_c40
  | 41, _ => exact ck_c41
  | 42, _ => exact ck_c42
  | 43, _ => exact ck_c43
  | 44, _ => exact ck_c44
  | 45, _ => exact ck_c45
  | 46, _ => exact ck_c46
  | 47, _ => exact ck_c47
  | 48, _ => exact ck_c48
  | 49, _ => exact ck_c49
  | 50, _ => exact ck_c50
  | 51, _ => exact ck_c51
  | 52, _ => exact ck_c52
  | 53, _ => exact ck_c53
  | 54, _ => exact ck_c54
  | 55, _ => exact ck_c55
  | 56, _ => exact ck_c56
  | 57, _ => exact ck_c57
  | 58, _ => exact ck_c58
  | 59, _ => exact ck_c59
  | 60, _ => exact ck_c60
  | 61, _ => exact ck_c61
  | 62, _ => exact ck_c62
  | 63, _ => exact ck_c63
  | 64, _ => exact ck_c64
  | 65, _ => exact ck_c65
  | 66, _ => exact ck_c66
  | 67, _ => exact ck_c67
  | 68, _ => exact ck_c68
  | 69, _ => exact ck_c69
  | 70, _ => exact ck_c70
  | 71, _ => exact ck_c71
  | 72, _ => exact ck_c72
  | 73, _ => exact ck_c73
  | 74, _ => exact ck_c74
  | 75, _ => exact ck_c75
  | 76, _ => exact ck_c76
  | 77, _ => exact ck_c77
  | 78, _ => exact ck_c78
  | 79, _ => exact ck_c79
  | 80, _ => exact ck_c80
  | 81, _ => exact ck_c81
  | 82, _ => exact ck_c82
  | 83, _ => exact ck_c83
  | 84, _ => exact ck_c84
  | 85, _ => exact ck_c85
  | 86, _ => exact ck_c86
  | 87, _ => exact ck_c87
  | 88, _ => exact ck_c88
  | 89, _ => exact ck_c89
  | 90, _ => exact ck_c90
  | 91, _ => exact ck_c91
  | n + 92, h => exact absurd h (by omega)
theorem ck_fld : ∀ q ∈ sm_fld, (Cond.fieldLink (sm_R q.1) q.2.1 ((sm_cl.getD q.2.2.1 (RX0, TX0, 4)).1) ((sm_cl.getD q.2.2.1 (RX0, TX0, 4)).2.1 q.2.2.2).2.1 ((sm_cl.getD q.2.2.1 (RX0, TX0, 4)).2.1 q.2.2.2).2.2.1) ∈ sm_W ∧ ((sm_cl.getD q.2.2.1 (RX0, TX0, 4)).2.1 q.2.2.2).1 = (sm_cl.getD q.2.2.1 (RX0, TX0, 4)).1 ∧ q.2.2.1 < 4 ∧ q.2.2.2 < ah_nf q.2.2.1 := by decide +kernel
theorem ck_cst : ∀ q ∈ sm_cst, (Cond.constant (sm_R q.1) q.2.1 q.2.2) ∈ sm_W := by decide +kernel
theorem ck_mthV : ∀ q ∈ sm_mth, sm_st.getD q.2.2 9 = 0 → q.2.2 < 92 ∧ sm_own.getD q.2.2 9 < 4 ∧ (sm_y.getD q.2.2 ⟨"", "", ""⟩).cls = (sm_cl.getD (sm_own.getD q.2.2 9) (RX0, TX0, 4)).1 ∧ Cond.methodLink (sm_R q.1) q.2.1 (sm_y.getD q.2.2 ⟨"", "", ""⟩) ∈ sm_W ∧ Cond.instanceMethod (sm_y.getD q.2.2 ⟨"", "", ""⟩) ∈ sm_W ∧ Cond.selects ((sm_cl.getD (sm_own.getD q.2.2 9) (RX0, TX0, 4)).1) (sm_y.getD q.2.2 ⟨"", "", ""⟩) (sm_y.getD q.2.2 ⟨"", "", ""⟩) ∈ sm_W ∧ Cond.initialized ((sm_cl.getD (sm_own.getD q.2.2 9) (RX0, TX0, 4)).1) ∈ sm_W := by decide +kernel
theorem ck_mthS : ∀ q ∈ sm_mth, sm_st.getD q.2.2 9 = 1 → q.2.2 < 92 ∧ Cond.methodLink (sm_R q.1) q.2.1 (sm_y.getD q.2.2 ⟨"", "", ""⟩) ∈ sm_W ∧ Cond.static (sm_y.getD q.2.2 ⟨"", "", ""⟩) ∈ sm_W ∧ Cond.initialized (sm_y.getD q.2.2 ⟨"", "", ""⟩).cls ∈ sm_W := by decide +kernel
theorem ck_name : ∀ y, y < 92 → plainFor (sm_y.getD y ⟨"", "", ""⟩) = true ∧ (sm_y.getD y ⟨"", "", ""⟩).cls = sm_R (sm_own.getD y 9) ∧ (sm_y.getD y ⟨"", "", ""⟩).cls ≠ "java/lang/invoke/MethodHandle" ∧ (sm_y.getD y ⟨"", "", ""⟩).cls ≠ "java/lang/invoke/VarHandle" ∧ (parseMethodDescriptor (sm_y.getD y ⟨"", "", ""⟩).desc).map (fun d => d.parameters.length) = some (sm_n.getD y 0) := by decide +kernel
theorem ck_x0 : ∀ w ∈ wsX00, w ∈ sm_W := by decide +kernel
theorem ck_x1 : ∀ w ∈ wsX10, w ∈ sm_W := by decide +kernel
theorem ck_x2 : ∀ w ∈ wsX20, w ∈ sm_W := by decide +kernel
theorem ck_x3 : ∀ w ∈ wsX30, w ∈ sm_W := by decide +kernel
theorem ck_good : sm_W.all goodWord = true := by decide +kernel
