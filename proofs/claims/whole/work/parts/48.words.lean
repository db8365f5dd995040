/-! ===== the words of sm_W stand in the tables ===== -/
set_option maxRecDepth 20000 in
theorem lk_sm0 : GoodIn lw_tbl sm_w0 := goodIn_p sm_w0 [194, 222, 233, 230, 257, 218, 366, 339, 261, 301, 265, 170] (by decide +kernel) (by decide +kernel)
set_option maxRecDepth 20000 in
theorem lk_sm1 : GoodIn lw_tbl sm_w1 := goodIn_p sm_w1 [174, 178, 186, 189, 182, 202, 214, 210] (by decide +kernel) (by decide +kernel)
set_option maxRecDepth 20000 in
theorem lk_sm2 : GoodIn lw_tbl sm_w2 := goodIn_p sm_w2 [206, 198, 226, 237, 245, 253, 277, 281, 273, 293, 289] (by decide +kernel) (by decide +kernel)
set_option maxRecDepth 20000 in
theorem lk_sm3 : GoodIn lw_tbl sm_w3 := goodIn_p sm_w3 [297, 285, 269, 249, 305, 308, 311] (by decide +kernel) (by decide +kernel)
set_option maxRecDepth 20000 in
theorem lk_sm4 : GoodIn lw_tbl sm_w4 := goodIn_p sm_w4 [241, 323, 319, 315, 331, 335, 344, 327, 348, 359] (by decide +kernel) (by decide +kernel)
set_option maxRecDepth 20000 in
theorem lk_sm5 : GoodIn lw_tbl sm_w5 := goodIn_p sm_w5 [356, 352, 375, 371, 379, 467, 396, 383, 387, 561, 565, 569, 573, 584, 593, 597, 581, 577] (by decide +kernel) (by decide +kernel)
set_option maxRecDepth 20000 in
theorem lk_sm6 : GoodIn lw_tbl sm_w6 := goodIn_p sm_w6 [589, 601, 605, 625, 621, 637, 633, 641] (by decide +kernel) (by decide +kernel)
set_option maxRecDepth 20000 in
theorem lk_sm7 : GoodIn lw_tbl sm_w7 := goodIn_p sm_w7 [629, 617, 613, 609, 649, 645, 653, 661, 657, 672, 669] (by decide +kernel) (by decide +kernel)
set_option maxRecDepth 20000 in
theorem lk_sm8 : GoodIn lw_tbl sm_w8 := goodIn_p sm_w8 [665, 676, 680, 688, 684, 692, 696] (by decide +kernel) (by decide +kernel)
theorem lk_wx0 : GoodIn lw_tbl wsX00 := goodIn_of _ (by decide +kernel)
theorem lk_wx1 : GoodIn lw_tbl wsX10 := goodIn_of _ (by decide +kernel)
theorem lk_wx2 : GoodIn lw_tbl wsX20 := goodIn_of _ (by decide +kernel)
theorem lk_wx3 : GoodIn lw_tbl wsX30 := goodIn_of _ (by decide +kernel)
theorem lk_app {big a b : List Cond} (ha : GoodIn big a) (hb : GoodIn big b) : GoodIn big (a ++ b) := fun w h => (List.mem_append.mp h).elim (ha w) (hb w)
theorem lk_smW : GoodIn lw_tbl sm_W := (lk_app lk_sm0 (lk_app lk_sm1 (lk_app lk_sm2 (lk_app lk_sm3 (lk_app lk_sm4 (lk_app lk_sm5 (lk_app lk_sm6 (lk_app lk_sm7 (lk_app lk_sm8 (lk_app lk_wx0 (lk_app lk_wx1 (lk_app lk_wx2 lk_wx3))))))))))))
def lk_I : String := "java/lang/IndexOutOfBoundsException"
def lk_N : String := "java/util/NoSuchElementException"
def lk_nm : List String := ["java/lang/RuntimeException", "java/lang/Exception"]
def lk_w0 : List Cond := [.classLink RX2 132 lk_I, .initialized lk_I, .classLink RX2 158 lk_N, .initialized lk_N]
def lk_w1 : List Cond := (vx_atS RX2 136 lk_I lk_nm).filter goodWord
theorem lk_w0_in : GoodIn lw_tbl lk_w0 := goodIn_of _ (by decide +kernel)
theorem lk_w1_in : ∀ w ∈ lk_w1, w ∈ lw_tbl := by decide +kernel
theorem lk_ot1 : ∀ w ∈ Cond.classLink RX2 132 lk_I :: Cond.initialized lk_I :: vx_atS RX2 136 lk_I lk_nm, vx_ot w = true := by decide +kernel
