theorem ck_d0 : ∀ q ∈ sm_t0, decode cX0_begin q.1 = .ok q.2 := by decide +kernel
theorem ck_d1 : ∀ q ∈ sm_t1, decode cX0_isOnShelf q.1 = .ok q.2 := by decide +kernel
theorem ck_d2 : ∀ q ∈ sm_t2, decode cJ7_fill_53178 q.1 = .ok q.2 := by decide +kernel
theorem ck_d3 : ∀ q ∈ sm_t3, decode cX1_begin q.1 = .ok q.2 := by decide +kernel
theorem ck_d4 : ∀ q ∈ sm_t4, decode cX1_isIdle q.1 = .ok q.2 := by decide +kernel
theorem ck_d5 : ∀ q ∈ sm_t5, decode cX1_has q.1 = .ok q.2 := by decide +kernel
theorem ck_d6 : ∀ q ∈ sm_t6, decode cX1_hadBy q.1 = .ok q.2 := by decide +kernel
theorem ck_d7 : ∀ q ∈ sm_t7, decode cX1_isWriting q.1 = .ok q.2 := by decide +kernel
theorem ck_d8 : ∀ q ∈ sm_t8, decode cX1_endDay q.1 = .ok q.2 := by decide +kernel
theorem ck_d9 : ∀ q ∈ sm_t9, decode cX1_take q.1 = .ok q.2 := by decide +kernel
theorem ck_d10 : ∀ q ∈ sm_t10, decode cX1_handIn q.1 = .ok q.2 := by decide +kernel
theorem ck_d11 : ∀ q ∈ sm_t11, decode cX2_text q.1 = .ok q.2 := by decide +kernel
theorem ck_d12 : ∀ q ∈ sm_t12, decode cX2_rule q.1 = .ok q.2 := by decide +kernel
theorem ck_d13 : ∀ q ∈ sm_t13, decode cX2_wear q.1 = .ok q.2 := by decide +kernel
theorem ck_d14 : ∀ q ∈ sm_t14, decode cX2_isPiece q.1 = .ok q.2 := by decide +kernel
theorem ck_d15 : ∀ q ∈ sm_t15, decode cX2_isBits q.1 = .ok q.2 := by decide +kernel
theorem ck_d16 : ∀ q ∈ sm_t16, decode cX2_quire q.1 = .ok q.2 := by decide +kernel
theorem ck_d17 : ∀ q ∈ sm_t17, decode cX2_isQuire q.1 = .ok q.2 := by decide +kernel
theorem ck_d18 : ∀ q ∈ sm_t18, decode cX2_isScribe q.1 = .ok q.2 := by decide +kernel
theorem ck_d19 : ∀ q ∈ sm_t19, decode cX2_hasPage q.1 = .ok q.2 := by decide +kernel
theorem ck_d20 : ∀ q ∈ sm_t20, decode cX2_modelErrors q.1 = .ok q.2 := by decide +kernel
theorem ck_d21 : ∀ q ∈ sm_t21, decode cX2_anew q.1 = .ok q.2 := by decide +kernel
theorem ck_d22 : ∀ q ∈ sm_t22, decode cX2_scribe q.1 = .ok q.2 := by decide +kernel
theorem ck_d23 : ∀ q ∈ sm_t23, decode cX2_slip q.1 = .ok q.2 := by decide +kernel
theorem ck_d24 : ∀ q ∈ sm_t24, decode cX2_mayPass q.1 = .ok q.2 := by decide +kernel
theorem ck_d25 : ∀ q ∈ sm_t25, decode cX2_handInPages q.1 = .ok q.2 := by decide +kernel
theorem ck_d26 : ∀ q ∈ sm_t26, decode cX2_hasEnded q.1 = .ok q.2 := by decide +kernel
theorem ck_d27 : ∀ q ∈ sm_t27, decode cX2_lineKey q.1 = .ok q.2 := by decide +kernel
theorem ck_d28 : ∀ q ∈ sm_t28, decode cX2_nextInLine q.1 = .ok q.2 := by decide +kernel
theorem ck_d29 : ∀ q ∈ sm_t29, decode cX2_isWorn q.1 = .ok q.2 := by decide +kernel
theorem ck_d30 : ∀ q ∈ sm_t30, decode cX2_leastUsedOnShelf q.1 = .ok q.2 := by decide +kernel
theorem ck_d31 : ∀ q ∈ sm_t31, decode cX2_unwornQuiresOf q.1 = .ok q.2 := by decide +kernel
theorem ck_d32 : ∀ q ∈ sm_t32, decode cX2_chosenQuire q.1 = .ok q.2 := by decide +kernel
theorem ck_d33 : ∀ q ∈ sm_t33, decode cX2_lendQuires q.1 = .ok q.2 := by decide +kernel
theorem ck_d34 : ∀ q ∈ sm_t34, decode cX2_passDay q.1 = .ok q.2 := by decide +kernel
theorem ck_d35 : ∀ q ∈ sm_t35, decode cX2_skipQuietDays q.1 = .ok q.2 := by decide +kernel
theorem ck_d36 : ∀ q ∈ sm_t36, decode cX2_days q.1 = .ok q.2 := by decide +kernel
theorem ck_d37 : ∀ q ∈ sm_t37, decode cX2_endedBooks q.1 = .ok q.2 := by decide +kernel
theorem ck_d38 : ∀ q ∈ sm_t38, decode cX2_allEnded q.1 = .ok q.2 := by decide +kernel
theorem ck_d39 : ∀ q ∈ sm_t39, decode cX2_finish q.1 = .ok q.2 := by decide +kernel
theorem ck_d40 : ∀ q ∈ sm_t40, decode cX2_soonestEnd q.1 = .ok q.2 := by decide +kernel
theorem ck_d41 : ∀ q ∈ sm_t41, decode cX2_workLeft q.1 = .ok q.2 := by decide +kernel
theorem ck_d42 : ∀ q ∈ sm_t42, decode cX2_quiresOf q.1 = .ok q.2 := by decide +kernel
theorem ck_d43 : ∀ q ∈ sm_t43, decode cX2_bound q.1 = .ok q.2 := by decide +kernel
theorem ck_d44 : ∀ q ∈ sm_t44, decode cX2_page q.1 = .ok q.2 := by decide +kernel
theorem ck_d45 : ∀ q ∈ sm_t45, decode cJ6_bitCount_0f7a4 q.1 = .ok q.2 := by decide +kernel
theorem ck_d46 : ∀ q ∈ sm_t46, decode cX2_nearestModel q.1 = .ok q.2 := by decide +kernel
theorem ck_d47 : ∀ q ∈ sm_t47, decode cX2_parent q.1 = .ok q.2 := by decide +kernel
theorem ck_d48 : ∀ q ∈ sm_t48, decode cX2_unlikePlaces q.1 = .ok q.2 := by decide +kernel
theorem ck_d49 : ∀ q ∈ sm_t49, decode cX2_changes q.1 = .ok q.2 := by decide +kernel
theorem ck_d50 : ∀ q ∈ sm_t50, decode cX2_met q.1 = .ok q.2 := by decide +kernel
theorem ck_d51 : ∀ q ∈ sm_t51, decode cX2_stateOf q.1 = .ok q.2 := by decide +kernel
theorem ck_d52 : ∀ q ∈ sm_t52, decode cX2_look q.1 = .ok q.2 := by decide +kernel
theorem ck_d53 : ∀ q ∈ sm_t53, decode cX2_stock q.1 = .ok q.2 := by decide +kernel
theorem ck_d54 : ∀ q ∈ sm_t54, decode cX2_count q.1 = .ok q.2 := by decide +kernel
theorem ck_d55 : ∀ q ∈ sm_t55, decode cX3_thrown q.1 = .ok q.2 := by decide +kernel
theorem ck_d56 : ∀ q ∈ sm_t56, decode cX3_text q.1 = .ok q.2 := by decide +kernel
theorem ck_d57 : ∀ q ∈ sm_t57, decode cX3_rule q.1 = .ok q.2 := by decide +kernel
theorem ck_d58 : ∀ q ∈ sm_t58, decode cX3_wear q.1 = .ok q.2 := by decide +kernel
theorem ck_d59 : ∀ q ∈ sm_t59, decode cX3_areBits q.1 = .ok q.2 := by decide +kernel
theorem ck_d60 : ∀ q ∈ sm_t60, decode cX3_isQuire q.1 = .ok q.2 := by decide +kernel
theorem ck_d61 : ∀ q ∈ sm_t61, decode cX3_isScribe q.1 = .ok q.2 := by decide +kernel
theorem ck_d62 : ∀ q ∈ sm_t62, decode cX3_isPiece q.1 = .ok q.2 := by decide +kernel
theorem ck_d63 : ∀ q ∈ sm_t63, decode cX3_quire q.1 = .ok q.2 := by decide +kernel
theorem ck_d64 : ∀ q ∈ sm_t64, decode cX3_anew q.1 = .ok q.2 := by decide +kernel
theorem ck_d65 : ∀ q ∈ sm_t65, decode cX3_scribe q.1 = .ok q.2 := by decide +kernel
theorem ck_d66 : ∀ q ∈ sm_t66, decode cX3_slip q.1 = .ok q.2 := by decide +kernel
theorem ck_d67 : ∀ q ∈ sm_t67, decode cX3_hasMany q.1 = .ok q.2 := by decide +kernel
theorem ck_d68 : ∀ q ∈ sm_t68, decode cX3_handsIn q.1 = .ok q.2 := by decide +kernel
theorem ck_d69 : ∀ q ∈ sm_t69, decode cX3_isThere q.1 = .ok q.2 := by decide +kernel
theorem ck_d70 : ∀ q ∈ sm_t70, decode cX3_isOnShelf q.1 = .ok q.2 := by decide +kernel
theorem ck_d71 : ∀ q ∈ sm_t71, decode cX3_sound q.1 = .ok q.2 := by decide +kernel
theorem ck_d72 : ∀ q ∈ sm_t72, decode cX3_takes q.1 = .ok q.2 := by decide +kernel
theorem ck_d73 : ∀ q ∈ sm_t73, decode cX3_ends q.1 = .ok q.2 := by decide +kernel
theorem ck_d74 : ∀ q ∈ sm_t74, decode cX3_oneDay q.1 = .ok q.2 := by decide +kernel
theorem ck_d75 : ∀ q ∈ sm_t75, decode cX3_days q.1 = .ok q.2 := by decide +kernel
theorem ck_d76 : ∀ q ∈ sm_t76, decode cX3_allEnded q.1 = .ok q.2 := by decide +kernel
theorem ck_d77 : ∀ q ∈ sm_t77, decode cX3_finish q.1 = .ok q.2 := by decide +kernel
theorem ck_d78 : ∀ q ∈ sm_t78, decode cX3_bound q.1 = .ok q.2 := by decide +kernel
theorem ck_d79 : ∀ q ∈ sm_t79, decode cX3_isPage q.1 = .ok q.2 := by decide +kernel
theorem ck_d80 : ∀ q ∈ sm_t80, decode cX3_page q.1 = .ok q.2 := by decide +kernel
theorem ck_d81 : ∀ q ∈ sm_t81, decode cX3_unlike q.1 = .ok q.2 := by decide +kernel
theorem ck_d82 : ∀ q ∈ sm_t82, decode cX3_parentOf q.1 = .ok q.2 := by decide +kernel
theorem ck_d83 : ∀ q ∈ sm_t83, decode cX3_parent q.1 = .ok q.2 := by decide +kernel
theorem ck_d84 : ∀ q ∈ sm_t84, decode cX3_changes q.1 = .ok q.2 := by decide +kernel
theorem ck_d85 : ∀ q ∈ sm_t85, decode cX3_met q.1 = .ok q.2 := by decide +kernel
theorem ck_d86 : ∀ q ∈ sm_t86, decode cX3_fails q.1 = .ok q.2 := by decide +kernel
theorem ck_d87 : ∀ q ∈ sm_t87, decode cX3_look q.1 = .ok q.2 := by decide +kernel
theorem ck_d88 : ∀ q ∈ sm_t88, decode cX3_stock q.1 = .ok q.2 := by decide +kernel
theorem ck_d89 : ∀ q ∈ sm_t89, decode cX3_count q.1 = .ok q.2 := by decide +kernel
theorem ck_d90 : ∀ q ∈ sm_t90, decode cJ9_max_7cf53 q.1 = .ok q.2 := by decide +kernel
theorem ck_d91 : ∀ q ∈ sm_t91, decode cJ9_min_7cf53 q.1 = .ok q.2 := by decide +kernel
theorem ck_dec : ∀ y, y < 92 → ∀ q ∈ sm_tabs.getD y [], decode (sm_c.getD y ⟨#[]⟩) q.1 = .ok q.2 := by
  intro y hy
  match y, hy with
  | 0, _ => exact ck_d0
  | 1, _ => exact ck_d1
  | 2, _ => exact ck_d2
  | 3, _ => exact ck_d3
  | 4, _ => exact ck_d4
  | 5, _ => exact ck_d5
  | 6, _ => exact ck_d6
  | 7, _ => exact ck_d7
  | 8, _ => exact ck_d8
  | 9, _ => exact ck_d9
  | 10, _ => exact ck_d10
  | 11, _ => exact ck_d11
  | 12, _ => exact ck_d12
  | 13, _ => exact ck_d13
  | 14, _ => exact ck_d14
  | 15, _ => exact ck_d15
  | 16, _ => exact ck_d16
  | 17, _ => exact ck_d17
  | 18, _ => exact ck_d18
  | 19, _ => exact ck_d19
  | 20, _ => exact ck_d20
  | 21, _ => exact ck_d21
  | 22, _ => exact ck_d22
  | 23, _ => exact ck_d23
  | 24, _ => exact ck_d24
  | 25, _ => exact ck_d25
  | 26, _ => exact ck_d26
  | 27, _ => exact ck_d27
  | 28, _ => exact ck_d28
  | 29, _ => exact ck_d29
  | 30, _ => exact ck_d30
  | 31, _ => exact ck_d31
  | 32, _ => exact ck_d32
  | 33, _ => exact ck_d33
  | 34, _ => exact ck_d34
  | 35, _ => exact ck_d35
  | 36, _ => exact ck_d36
  | 37, _ => exact ck_d37
  | 38, _ => exact ck_d38
  | 39, _ => exact ck_d39
  | 40, _ => exact ck_d40
  | 41, _ => exact ck_d41
  | 42, _ => exact ck_d42
  | 43, _ => exact ck_d43
  | 44, _ => exact ck_d44
  | 45, _ => exact ck_d45
  | 46, _ => exact ck_d46
  | 47, _ => exact ck_d47
  | 48, _ => exact ck_d48
  | 49, _ => exact ck_d49
  | 50, _ => exact ck_d50
  | 51, _ => exact ck_d51
  | 52, _ => exact ck_d52
  | 53, _ => exact ck_d53
  | 54, _ => exact ck_d54
  | 55, _ => exact ck_d55
  | 56, _ => exact ck_d56
  | 57, _ => exact ck_d57
  | 58, _ => exact ck_d58
  | 59, _ => exact ck_d59
  | 60, _ => exact ck_d60
  | 61, _ => exact ck_d61
  | 62, _ => exact ck_d62
  | 63, _ => exact ck_d63
  | 64, _ => exact ck_d64
  | 65, _ => exact ck_d65
  | 66, _ => exact ck_d66
  | 67, _ => exact ck_d67
  | 68, _ => exact ck_d68
  | 69, _ => exact ck_d69
  | 70, _ => exact ck_d70
  | 71, _ => exact ck_d71
  | 72, _ => exact ck_d72
  | 73, _ => exact ck_d73
  | 74, _ => exact ck_d74
  | 75, _ => exact ck_d75
  | 76, _ => exact ck_d76
  | 77, _ => exact ck_d77
  | 78, _ => exact ck_d78
  | 79, _ => exact ck_d79
  | 80, _ => exact ck_d80
  | 81, _ => exact ck_d81
  | 82, _ => exact ck_d82
  | 83, _ => exact ck_d83
  | 84, _ => exact ck_d84
  | 85, _ => exact ck_d85
  | 86, _ => exact ck_d86
  | 87, _ => exact ck_d87
  | 88, _ => exact ck_d88
  | 89, _ => exact ck_d89
  | 90, _ => exact ck_d90
  | 91, _ => exact ck_d91
  | n + 92, h => exact absurd h (by omega)
