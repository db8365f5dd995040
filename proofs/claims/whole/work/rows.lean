section
-- ===== PART A: goes FIRST, ahead of the names: the tables' words, and 'selects' of the private methods out of them =====
/-- a private method of a class that the tables say can be made, by its rows of tables_1 -/
def lw_okq (q : MethodName × Nat) : Prop := (q.1.cls ≠ "java/lang/invoke/MethodHandle" ∧ q.1.cls ≠ "java/lang/invoke/VarHandle") ∧ Cond.instantiable q.1.cls q.2 ∈ tables_1 ∧ Cond.privateMethod q.1 ∈ tables_1 ∧ Cond.instanceMethod q.1 ∈ tables_1
theorem lw_p0 : lw_okq (⟨"QuireShop", "isPiece", "(I)Z"⟩, 8) := ⟨⟨by decide +kernel, by decide +kernel⟩, List.mem_of_getElem? (i := 14) (by decide +kernel), List.mem_of_getElem? (i := 143) (by decide +kernel), List.mem_of_getElem? (i := 144) (by decide +kernel)⟩
theorem lw_p1 : lw_okq (⟨"QuireShop", "isQuire", "(I)Z"⟩, 8) := ⟨⟨by decide +kernel, by decide +kernel⟩, List.mem_of_getElem? (i := 14) (by decide +kernel), List.mem_of_getElem? (i := 159) (by decide +kernel), List.mem_of_getElem? (i := 160) (by decide +kernel)⟩
theorem lw_p2 : lw_okq (⟨"QuireShop", "modelErrors", "(II)I"⟩, 8) := ⟨⟨by decide +kernel, by decide +kernel⟩, List.mem_of_getElem? (i := 14) (by decide +kernel), List.mem_of_getElem? (i := 163) (by decide +kernel), List.mem_of_getElem? (i := 164) (by decide +kernel)⟩
theorem lw_p3 : lw_okq (⟨"QuireShop", "hasPage", "(II)Z"⟩, 8) := ⟨⟨by decide +kernel, by decide +kernel⟩, List.mem_of_getElem? (i := 14) (by decide +kernel), List.mem_of_getElem? (i := 167) (by decide +kernel), List.mem_of_getElem? (i := 168) (by decide +kernel)⟩
theorem lw_p4 : lw_okq (⟨"QuireShop", "isScribe", "(I)Z"⟩, 8) := ⟨⟨by decide +kernel, by decide +kernel⟩, List.mem_of_getElem? (i := 14) (by decide +kernel), List.mem_of_getElem? (i := 171) (by decide +kernel), List.mem_of_getElem? (i := 172) (by decide +kernel)⟩
theorem lw_p5 : lw_okq (⟨"QuireShop", "mayPass", "(II)Z"⟩, 8) := ⟨⟨by decide +kernel, by decide +kernel⟩, List.mem_of_getElem? (i := 14) (by decide +kernel), List.mem_of_getElem? (i := 202) (by decide +kernel), List.mem_of_getElem? (i := 203) (by decide +kernel)⟩
theorem lw_p6 : lw_okq (⟨"QuireShop", "passDay", "()V"⟩, 8) := ⟨⟨by decide +kernel, by decide +kernel⟩, List.mem_of_getElem? (i := 14) (by decide +kernel), List.mem_of_getElem? (i := 206) (by decide +kernel), List.mem_of_getElem? (i := 207) (by decide +kernel)⟩
theorem lw_p7 : lw_okq (⟨"QuireShop", "handInPages", "()V"⟩, 8) := ⟨⟨by decide +kernel, by decide +kernel⟩, List.mem_of_getElem? (i := 14) (by decide +kernel), List.mem_of_getElem? (i := 210) (by decide +kernel), List.mem_of_getElem? (i := 211) (by decide +kernel)⟩
theorem lw_p8 : lw_okq (⟨"QuireShop", "lendQuires", "()V"⟩, 8) := ⟨⟨by decide +kernel, by decide +kernel⟩, List.mem_of_getElem? (i := 14) (by decide +kernel), List.mem_of_getElem? (i := 226) (by decide +kernel), List.mem_of_getElem? (i := 227) (by decide +kernel)⟩
theorem lw_p9 : lw_okq (⟨"QuireShop", "nextInLine", "(I)I"⟩, 8) := ⟨⟨by decide +kernel, by decide +kernel⟩, List.mem_of_getElem? (i := 14) (by decide +kernel), List.mem_of_getElem? (i := 230) (by decide +kernel), List.mem_of_getElem? (i := 231) (by decide +kernel)⟩
theorem lw_p10 : lw_okq (⟨"QuireShop", "hasEnded", "(LQuireShop$Scribe;)Z"⟩, 8) := ⟨⟨by decide +kernel, by decide +kernel⟩, List.mem_of_getElem? (i := 14) (by decide +kernel), List.mem_of_getElem? (i := 234) (by decide +kernel), List.mem_of_getElem? (i := 235) (by decide +kernel)⟩
theorem lw_p11 : lw_okq (⟨"QuireShop", "lineKey", "(I)I"⟩, 8) := ⟨⟨by decide +kernel, by decide +kernel⟩, List.mem_of_getElem? (i := 14) (by decide +kernel), List.mem_of_getElem? (i := 238) (by decide +kernel), List.mem_of_getElem? (i := 239) (by decide +kernel)⟩
theorem lw_p12 : lw_okq (⟨"QuireShop", "chosenQuire", "(LQuireShop$Scribe;)I"⟩, 8) := ⟨⟨by decide +kernel, by decide +kernel⟩, List.mem_of_getElem? (i := 14) (by decide +kernel), List.mem_of_getElem? (i := 242) (by decide +kernel), List.mem_of_getElem? (i := 243) (by decide +kernel)⟩
theorem lw_p13 : lw_okq (⟨"QuireShop", "leastUsedOnShelf", "(I)I"⟩, 8) := ⟨⟨by decide +kernel, by decide +kernel⟩, List.mem_of_getElem? (i := 14) (by decide +kernel), List.mem_of_getElem? (i := 246) (by decide +kernel), List.mem_of_getElem? (i := 247) (by decide +kernel)⟩
theorem lw_p14 : lw_okq (⟨"QuireShop", "isWorn", "(LQuireShop$Quire;)Z"⟩, 8) := ⟨⟨by decide +kernel, by decide +kernel⟩, List.mem_of_getElem? (i := 14) (by decide +kernel), List.mem_of_getElem? (i := 250) (by decide +kernel), List.mem_of_getElem? (i := 251) (by decide +kernel)⟩
theorem lw_p15 : lw_okq (⟨"QuireShop", "unwornQuiresOf", "(I)I"⟩, 8) := ⟨⟨by decide +kernel, by decide +kernel⟩, List.mem_of_getElem? (i := 14) (by decide +kernel), List.mem_of_getElem? (i := 254) (by decide +kernel), List.mem_of_getElem? (i := 255) (by decide +kernel)⟩
def lw_privs_1 : List (MethodName × Nat) := [(⟨"QuireShop", "isPiece", "(I)Z"⟩, 8), (⟨"QuireShop", "isQuire", "(I)Z"⟩, 8), (⟨"QuireShop", "modelErrors", "(II)I"⟩, 8), (⟨"QuireShop", "hasPage", "(II)Z"⟩, 8), (⟨"QuireShop", "isScribe", "(I)Z"⟩, 8), (⟨"QuireShop", "mayPass", "(II)Z"⟩, 8), (⟨"QuireShop", "passDay", "()V"⟩, 8), (⟨"QuireShop", "handInPages", "()V"⟩, 8), (⟨"QuireShop", "lendQuires", "()V"⟩, 8), (⟨"QuireShop", "nextInLine", "(I)I"⟩, 8), (⟨"QuireShop", "hasEnded", "(LQuireShop$Scribe;)Z"⟩, 8), (⟨"QuireShop", "lineKey", "(I)I"⟩, 8), (⟨"QuireShop", "chosenQuire", "(LQuireShop$Scribe;)I"⟩, 8), (⟨"QuireShop", "leastUsedOnShelf", "(I)I"⟩, 8), (⟨"QuireShop", "isWorn", "(LQuireShop$Quire;)Z"⟩, 8), (⟨"QuireShop", "unwornQuiresOf", "(I)I"⟩, 8)]
theorem lw_r1 : ∀ q ∈ lw_privs_1, lw_okq q := List.forall_mem_cons.mpr ⟨lw_p0, List.forall_mem_cons.mpr ⟨lw_p1, List.forall_mem_cons.mpr ⟨lw_p2, List.forall_mem_cons.mpr ⟨lw_p3, List.forall_mem_cons.mpr ⟨lw_p4, List.forall_mem_cons.mpr ⟨lw_p5, List.forall_mem_cons.mpr ⟨lw_p6, List.forall_mem_cons.mpr ⟨lw_p7, List.forall_mem_cons.mpr ⟨lw_p8, List.forall_mem_cons.mpr ⟨lw_p9, List.forall_mem_cons.mpr ⟨lw_p10, List.forall_mem_cons.mpr ⟨lw_p11, List.forall_mem_cons.mpr ⟨lw_p12, List.forall_mem_cons.mpr ⟨lw_p13, List.forall_mem_cons.mpr ⟨lw_p14, List.forall_mem_cons.mpr ⟨lw_p15, fun _ h => absurd h List.not_mem_nil⟩⟩⟩⟩⟩⟩⟩⟩⟩⟩⟩⟩⟩⟩⟩⟩
theorem lw_p16 : lw_okq (⟨"QuireShop", "skipQuietDays", "(I)V"⟩, 8) := ⟨⟨by decide +kernel, by decide +kernel⟩, List.mem_of_getElem? (i := 14) (by decide +kernel), List.mem_of_getElem? (i := 262) (by decide +kernel), List.mem_of_getElem? (i := 263) (by decide +kernel)⟩
theorem lw_p17 : lw_okq (⟨"QuireShop", "allEnded", "()Z"⟩, 8) := ⟨⟨by decide +kernel, by decide +kernel⟩, List.mem_of_getElem? (i := 14) (by decide +kernel), List.mem_of_getElem? (i := 276) (by decide +kernel), List.mem_of_getElem? (i := 277) (by decide +kernel)⟩
theorem lw_p18 : lw_okq (⟨"QuireShop", "endedBooks", "()I"⟩, 8) := ⟨⟨by decide +kernel, by decide +kernel⟩, List.mem_of_getElem? (i := 14) (by decide +kernel), List.mem_of_getElem? (i := 280) (by decide +kernel), List.mem_of_getElem? (i := 281) (by decide +kernel)⟩
theorem lw_p19 : lw_okq (⟨"QuireShop", "soonestEnd", "(LQuireShop$Scribe;)I"⟩, 8) := ⟨⟨by decide +kernel, by decide +kernel⟩, List.mem_of_getElem? (i := 14) (by decide +kernel), List.mem_of_getElem? (i := 288) (by decide +kernel), List.mem_of_getElem? (i := 289) (by decide +kernel)⟩
theorem lw_p20 : lw_okq (⟨"QuireShop", "workLeft", "(I)I"⟩, 8) := ⟨⟨by decide +kernel, by decide +kernel⟩, List.mem_of_getElem? (i := 14) (by decide +kernel), List.mem_of_getElem? (i := 292) (by decide +kernel), List.mem_of_getElem? (i := 293) (by decide +kernel)⟩
theorem lw_p21 : lw_okq (⟨"QuireShop", "quiresOf", "(I)I"⟩, 8) := ⟨⟨by decide +kernel, by decide +kernel⟩, List.mem_of_getElem? (i := 14) (by decide +kernel), List.mem_of_getElem? (i := 301) (by decide +kernel), List.mem_of_getElem? (i := 302) (by decide +kernel)⟩
theorem lw_p22 : lw_okq (⟨"QuireShop", "nearestModel", "(II)I"⟩, 8) := ⟨⟨by decide +kernel, by decide +kernel⟩, List.mem_of_getElem? (i := 14) (by decide +kernel), List.mem_of_getElem? (i := 313) (by decide +kernel), List.mem_of_getElem? (i := 314) (by decide +kernel)⟩
theorem lw_p23 : lw_okq (⟨"QuireShop", "unlikePlaces", "(III)I"⟩, 8) := ⟨⟨by decide +kernel, by decide +kernel⟩, List.mem_of_getElem? (i := 14) (by decide +kernel), List.mem_of_getElem? (i := 332) (by decide +kernel), List.mem_of_getElem? (i := 333) (by decide +kernel)⟩
theorem lw_p24 : lw_okq (⟨"java/lang/Throwable", "fillInStackTrace", "(I)Ljava/lang/Throwable;"⟩, 6) := ⟨⟨by decide +kernel, by decide +kernel⟩, List.mem_of_getElem? (i := 394) (by decide +kernel), List.mem_of_getElem? (i := 392) (by decide +kernel), List.mem_of_getElem? (i := 393) (by decide +kernel)⟩
theorem lw_p25 : lw_okq (⟨"QuireShop", "stateOf", "(LQuireShop$Scribe;)I"⟩, 8) := ⟨⟨by decide +kernel, by decide +kernel⟩, List.mem_of_getElem? (i := 14) (by decide +kernel), List.mem_of_getElem? (i := 424) (by decide +kernel), List.mem_of_getElem? (i := 425) (by decide +kernel)⟩
theorem lw_p26 : lw_okq (⟨"QuireShopModel", "isPiece", "(I)Z"⟩, 22) := ⟨⟨by decide +kernel, by decide +kernel⟩, List.mem_of_getElem? (i := 444) (by decide +kernel), List.mem_of_getElem? (i := 538) (by decide +kernel), List.mem_of_getElem? (i := 539) (by decide +kernel)⟩
theorem lw_p27 : lw_okq (⟨"QuireShopModel", "isQuire", "(I)Z"⟩, 22) := ⟨⟨by decide +kernel, by decide +kernel⟩, List.mem_of_getElem? (i := 444) (by decide +kernel), List.mem_of_getElem? (i := 550) (by decide +kernel), List.mem_of_getElem? (i := 551) (by decide +kernel)⟩
theorem lw_p28 : lw_okq (⟨"QuireShopModel", "isScribe", "(I)Z"⟩, 22) := ⟨⟨by decide +kernel, by decide +kernel⟩, List.mem_of_getElem? (i := 444) (by decide +kernel), List.mem_of_getElem? (i := 554) (by decide +kernel), List.mem_of_getElem? (i := 555) (by decide +kernel)⟩
theorem lw_p29 : lw_okq (⟨"QuireShopModel", "oneDay", "()V"⟩, 22) := ⟨⟨by decide +kernel, by decide +kernel⟩, List.mem_of_getElem? (i := 444) (by decide +kernel), List.mem_of_getElem? (i := 570) (by decide +kernel), List.mem_of_getElem? (i := 571) (by decide +kernel)⟩
theorem lw_p30 : lw_okq (⟨"QuireShopModel", "ends", "(I)I"⟩, 22) := ⟨⟨by decide +kernel, by decide +kernel⟩, List.mem_of_getElem? (i := 444) (by decide +kernel), List.mem_of_getElem? (i := 574) (by decide +kernel), List.mem_of_getElem? (i := 575) (by decide +kernel)⟩
theorem lw_p31 : lw_okq (⟨"QuireShopModel", "handsIn", "(I)V"⟩, 22) := ⟨⟨by decide +kernel, by decide +kernel⟩, List.mem_of_getElem? (i := 444) (by decide +kernel), List.mem_of_getElem? (i := 578) (by decide +kernel), List.mem_of_getElem? (i := 579) (by decide +kernel)⟩
def lw_privs_2 : List (MethodName × Nat) := [(⟨"QuireShop", "skipQuietDays", "(I)V"⟩, 8), (⟨"QuireShop", "allEnded", "()Z"⟩, 8), (⟨"QuireShop", "endedBooks", "()I"⟩, 8), (⟨"QuireShop", "soonestEnd", "(LQuireShop$Scribe;)I"⟩, 8), (⟨"QuireShop", "workLeft", "(I)I"⟩, 8), (⟨"QuireShop", "quiresOf", "(I)I"⟩, 8), (⟨"QuireShop", "nearestModel", "(II)I"⟩, 8), (⟨"QuireShop", "unlikePlaces", "(III)I"⟩, 8), (⟨"java/lang/Throwable", "fillInStackTrace", "(I)Ljava/lang/Throwable;"⟩, 6), (⟨"QuireShop", "stateOf", "(LQuireShop$Scribe;)I"⟩, 8), (⟨"QuireShopModel", "isPiece", "(I)Z"⟩, 22), (⟨"QuireShopModel", "isQuire", "(I)Z"⟩, 22), (⟨"QuireShopModel", "isScribe", "(I)Z"⟩, 22), (⟨"QuireShopModel", "oneDay", "()V"⟩, 22), (⟨"QuireShopModel", "ends", "(I)I"⟩, 22), (⟨"QuireShopModel", "handsIn", "(I)V"⟩, 22)]
theorem lw_r2 : ∀ q ∈ lw_privs_2, lw_okq q := List.forall_mem_cons.mpr ⟨lw_p16, List.forall_mem_cons.mpr ⟨lw_p17, List.forall_mem_cons.mpr ⟨lw_p18, List.forall_mem_cons.mpr ⟨lw_p19, List.forall_mem_cons.mpr ⟨lw_p20, List.forall_mem_cons.mpr ⟨lw_p21, List.forall_mem_cons.mpr ⟨lw_p22, List.forall_mem_cons.mpr ⟨lw_p23, List.forall_mem_cons.mpr ⟨lw_p24, List.forall_mem_cons.mpr ⟨lw_p25, List.forall_mem_cons.mpr ⟨lw_p26, List.forall_mem_cons.mpr ⟨lw_p27, List.forall_mem_cons.mpr ⟨lw_p28, List.forall_mem_cons.mpr ⟨lw_p29, List.forall_mem_cons.mpr ⟨lw_p30, List.forall_mem_cons.mpr ⟨lw_p31, fun _ h => absurd h List.not_mem_nil⟩⟩⟩⟩⟩⟩⟩⟩⟩⟩⟩⟩⟩⟩⟩⟩
theorem lw_p32 : lw_okq (⟨"QuireShopModel", "hasMany", "(I)I"⟩, 22) := ⟨⟨by decide +kernel, by decide +kernel⟩, List.mem_of_getElem? (i := 444) (by decide +kernel), List.mem_of_getElem? (i := 582) (by decide +kernel), List.mem_of_getElem? (i := 583) (by decide +kernel)⟩
theorem lw_p33 : lw_okq (⟨"QuireShopModel", "takes", "(I)V"⟩, 22) := ⟨⟨by decide +kernel, by decide +kernel⟩, List.mem_of_getElem? (i := 444) (by decide +kernel), List.mem_of_getElem? (i := 586) (by decide +kernel), List.mem_of_getElem? (i := 587) (by decide +kernel)⟩
theorem lw_p34 : lw_okq (⟨"QuireShopModel", "isOnShelf", "(I)Z"⟩, 22) := ⟨⟨by decide +kernel, by decide +kernel⟩, List.mem_of_getElem? (i := 444) (by decide +kernel), List.mem_of_getElem? (i := 590) (by decide +kernel), List.mem_of_getElem? (i := 591) (by decide +kernel)⟩
theorem lw_p35 : lw_okq (⟨"QuireShopModel", "isThere", "(I)Z"⟩, 22) := ⟨⟨by decide +kernel, by decide +kernel⟩, List.mem_of_getElem? (i := 444) (by decide +kernel), List.mem_of_getElem? (i := 594) (by decide +kernel), List.mem_of_getElem? (i := 595) (by decide +kernel)⟩
theorem lw_p36 : lw_okq (⟨"QuireShopModel", "sound", "(I)I"⟩, 22) := ⟨⟨by decide +kernel, by decide +kernel⟩, List.mem_of_getElem? (i := 444) (by decide +kernel), List.mem_of_getElem? (i := 598) (by decide +kernel), List.mem_of_getElem? (i := 599) (by decide +kernel)⟩
theorem lw_p37 : lw_okq (⟨"QuireShopModel", "allEnded", "()Z"⟩, 22) := ⟨⟨by decide +kernel, by decide +kernel⟩, List.mem_of_getElem? (i := 444) (by decide +kernel), List.mem_of_getElem? (i := 606) (by decide +kernel), List.mem_of_getElem? (i := 607) (by decide +kernel)⟩
theorem lw_p38 : lw_okq (⟨"QuireShopModel", "isPage", "(II)Z"⟩, 22) := ⟨⟨by decide +kernel, by decide +kernel⟩, List.mem_of_getElem? (i := 444) (by decide +kernel), List.mem_of_getElem? (i := 618) (by decide +kernel), List.mem_of_getElem? (i := 619) (by decide +kernel)⟩
theorem lw_p39 : lw_okq (⟨"QuireShopModel", "parentOf", "(II)I"⟩, 22) := ⟨⟨by decide +kernel, by decide +kernel⟩, List.mem_of_getElem? (i := 444) (by decide +kernel), List.mem_of_getElem? (i := 626) (by decide +kernel), List.mem_of_getElem? (i := 627) (by decide +kernel)⟩
theorem lw_p40 : lw_okq (⟨"QuireShopModel", "fails", "(I)I"⟩, 22) := ⟨⟨by decide +kernel, by decide +kernel⟩, List.mem_of_getElem? (i := 444) (by decide +kernel), List.mem_of_getElem? (i := 645) (by decide +kernel), List.mem_of_getElem? (i := 646) (by decide +kernel)⟩
def lw_privs_3 : List (MethodName × Nat) := [(⟨"QuireShopModel", "hasMany", "(I)I"⟩, 22), (⟨"QuireShopModel", "takes", "(I)V"⟩, 22), (⟨"QuireShopModel", "isOnShelf", "(I)Z"⟩, 22), (⟨"QuireShopModel", "isThere", "(I)Z"⟩, 22), (⟨"QuireShopModel", "sound", "(I)I"⟩, 22), (⟨"QuireShopModel", "allEnded", "()Z"⟩, 22), (⟨"QuireShopModel", "isPage", "(II)Z"⟩, 22), (⟨"QuireShopModel", "parentOf", "(II)I"⟩, 22), (⟨"QuireShopModel", "fails", "(I)I"⟩, 22)]
theorem lw_r3 : ∀ q ∈ lw_privs_3, lw_okq q := List.forall_mem_cons.mpr ⟨lw_p32, List.forall_mem_cons.mpr ⟨lw_p33, List.forall_mem_cons.mpr ⟨lw_p34, List.forall_mem_cons.mpr ⟨lw_p35, List.forall_mem_cons.mpr ⟨lw_p36, List.forall_mem_cons.mpr ⟨lw_p37, List.forall_mem_cons.mpr ⟨lw_p38, List.forall_mem_cons.mpr ⟨lw_p39, List.forall_mem_cons.mpr ⟨lw_p40, fun _ h => absurd h List.not_mem_nil⟩⟩⟩⟩⟩⟩⟩⟩⟩
def lw_privs : List (MethodName × Nat) := lw_privs_1 ++ (lw_privs_2 ++ (lw_privs_3))
def lw_tbl : List Cond := k2_sels lw_privs ++ tables_1
theorem lw_privs_ok : ∀ q ∈ lw_privs, lw_okq q := by
  show ∀ q ∈ lw_privs_1 ++ (lw_privs_2 ++ (lw_privs_3)), lw_okq q
  exact List.forall_mem_append.mpr ⟨lw_r1, List.forall_mem_append.mpr ⟨lw_r2, lw_r3⟩⟩
end
section
def RX0 : String := "QuireShop$Quire"
def TX0 : u_T := fun k => match k with
  | 0 => ("QuireShop$Quire", "piece", "I", false)
  | 1 => ("QuireShop$Quire", "errors", "I", false)
  | 2 => ("QuireShop$Quire", "uses", "I", false)
  | _ => ("QuireShop$Quire", "holder", "I", false)
def tyX0 : Nat → FieldType := fun k => match k with
  | 0 => .int
  | 1 => .int
  | 2 => .int
  | _ => .int
abbrev wsX00 : List Cond := u_ws RX0 TX0 4
theorem nmX0 : ∀ a, a < 4 → ∀ b, b < 4 → a ≠ b → (TX0 a).2.1 ≠ (TX0 b).2.1 := by decide +kernel
theorem tyX0_ok : ∀ k, k < 4 → parseFieldDescriptor (TX0 k).2.2.1 = some (tyX0 k) := by decide +kernel
abbrev cX0_init : ByteArray := prog_2_method_1_code
def yX0_init : MethodName := ⟨RX0, "<init>", "()V"⟩
abbrev cX0_begin : ByteArray := prog_2_method_2_code
def yX0_begin : MethodName := ⟨RX0, "begin", "(II)V"⟩
abbrev cX0_isOnShelf : ByteArray := prog_2_method_3_code
def yX0_isOnShelf : MethodName := ⟨RX0, "isOnShelf", "()Z"⟩
def RX1 : String := "QuireShop$Scribe"
def TX1 : u_T := fun k => match k with
  | 0 => ("QuireShop$Scribe", "slips", "[I", true)
  | 1 => ("QuireShop$Scribe", "errors", "[I", true)
  | 2 => ("QuireShop$Scribe", "source", "[I", true)
  | 3 => ("QuireShop$Scribe", "taken", "[I", true)
  | 4 => ("QuireShop$Scribe", "ended", "[I", true)
  | 5 => ("QuireShop$Scribe", "pace", "I", false)
  | 6 => ("QuireShop$Scribe", "had", "I", false)
  | 7 => ("QuireShop$Scribe", "idleSince", "I", false)
  | 8 => ("QuireShop$Scribe", "held", "I", false)
  | 9 => ("QuireShop$Scribe", "heldPiece", "I", false)
  | 10 => ("QuireShop$Scribe", "heldErrors", "I", false)
  | _ => ("QuireShop$Scribe", "heldSince", "I", false)
def tyX1 : Nat → FieldType := fun k => match k with
  | 0 => .array .int
  | 1 => .array .int
  | 2 => .array .int
  | 3 => .array .int
  | 4 => .array .int
  | 5 => .int
  | 6 => .int
  | 7 => .int
  | 8 => .int
  | 9 => .int
  | 10 => .int
  | _ => .int
abbrev wsX10 : List Cond := u_ws RX1 TX1 12
theorem nmX1 : ∀ a, a < 12 → ∀ b, b < 12 → a ≠ b → (TX1 a).2.1 ≠ (TX1 b).2.1 := by decide +kernel
theorem tyX1_ok : ∀ k, k < 12 → parseFieldDescriptor (TX1 k).2.2.1 = some (tyX1 k) := by decide +kernel
abbrev cX1_init : ByteArray := prog_3_method_1_code
def yX1_init : MethodName := ⟨RX1, "<init>", "()V"⟩
abbrev cX1_begin : ByteArray := prog_3_method_2_code
def yX1_begin : MethodName := ⟨RX1, "begin", "(II)V"⟩
abbrev cX1_isIdle : ByteArray := prog_3_method_3_code
def yX1_isIdle : MethodName := ⟨RX1, "isIdle", "()Z"⟩
abbrev cX1_has : ByteArray := prog_3_method_4_code
def yX1_has : MethodName := ⟨RX1, "has", "(I)Z"⟩
abbrev cX1_hadBy : ByteArray := prog_3_method_5_code
def yX1_hadBy : MethodName := ⟨RX1, "hadBy", "(II)Z"⟩
abbrev cX1_isWriting : ByteArray := prog_3_method_6_code
def yX1_isWriting : MethodName := ⟨RX1, "isWriting", "(I)Z"⟩
abbrev cX1_endDay : ByteArray := prog_3_method_7_code
def yX1_endDay : MethodName := ⟨RX1, "endDay", "()I"⟩
abbrev cX1_take : ByteArray := prog_3_method_8_code
def yX1_take : MethodName := ⟨RX1, "take", "(ILQuireShop$Quire;I)V"⟩
abbrev cX1_handIn : ByteArray := prog_3_method_9_code
def yX1_handIn : MethodName := ⟨RX1, "handIn", "(I)V"⟩
def RX2 : String := "QuireShop"
def TX2 : u_T := fun k => match k with
  | 0 => ("QuireShop", "quires", "[LQuireShop$Quire;", true)
  | 1 => ("QuireShop", "scribes", "[LQuireShop$Scribe;", true)
  | 2 => ("QuireShop", "pieces", "I", false)
  | 3 => ("QuireShop", "quireCount", "I", false)
  | 4 => ("QuireShop", "scribeCount", "I", false)
  | 5 => ("QuireShop", "day", "I", false)
  | 6 => ("QuireShop", "rule", "I", false)
  | _ => ("QuireShop", "wear", "I", false)
def tyX2 : Nat → FieldType := fun k => match k with
  | 0 => .array (.object "QuireShop$Quire")
  | 1 => .array (.object "QuireShop$Scribe")
  | 2 => .int
  | 3 => .int
  | 4 => .int
  | 5 => .int
  | 6 => .int
  | _ => .int
abbrev wsX20 : List Cond := u_ws RX2 TX2 8
theorem nmX2 : ∀ a, a < 8 → ∀ b, b < 8 → a ≠ b → (TX2 a).2.1 ≠ (TX2 b).2.1 := by decide +kernel
theorem tyX2_ok : ∀ k, k < 8 → parseFieldDescriptor (TX2 k).2.2.1 = some (tyX2 k) := by decide +kernel
abbrev cX2_init : ByteArray := prog_1_method_1_code
def yX2_init : MethodName := ⟨RX2, "<init>", "()V"⟩
abbrev cX2_text : ByteArray := prog_1_method_2_code
def yX2_text : MethodName := ⟨RX2, "text", "(I)Z"⟩
abbrev cX2_rule : ByteArray := prog_1_method_3_code
def yX2_rule : MethodName := ⟨RX2, "rule", "(I)Z"⟩
abbrev cX2_wear : ByteArray := prog_1_method_4_code
def yX2_wear : MethodName := ⟨RX2, "wear", "(I)Z"⟩
abbrev cX2_quire : ByteArray := prog_1_method_5_code
def yX2_quire : MethodName := ⟨RX2, "quire", "(II)I"⟩
abbrev cX2_anew : ByteArray := prog_1_method_6_code
def yX2_anew : MethodName := ⟨RX2, "anew", "(III)I"⟩
abbrev cX2_scribe : ByteArray := prog_1_method_7_code
def yX2_scribe : MethodName := ⟨RX2, "scribe", "(I)I"⟩
abbrev cX2_slip : ByteArray := prog_1_method_8_code
def yX2_slip : MethodName := ⟨RX2, "slip", "(III)Z"⟩
abbrev cX2_days : ByteArray := prog_1_method_9_code
def yX2_days : MethodName := ⟨RX2, "days", "(I)I"⟩
abbrev cX2_finish : ByteArray := prog_1_method_10_code
def yX2_finish : MethodName := ⟨RX2, "finish", "(I)I"⟩
abbrev cX2_bound : ByteArray := prog_1_method_11_code
def yX2_bound : MethodName := ⟨RX2, "bound", "()I"⟩
abbrev cX2_page : ByteArray := prog_1_method_12_code
def yX2_page : MethodName := ⟨RX2, "page", "(III)I"⟩
abbrev cX2_parent : ByteArray := prog_1_method_13_code
def yX2_parent : MethodName := ⟨RX2, "parent", "(II)I"⟩
abbrev cX2_changes : ByteArray := prog_1_method_14_code
def yX2_changes : MethodName := ⟨RX2, "changes", "(I)I"⟩
abbrev cX2_met : ByteArray := prog_1_method_15_code
def yX2_met : MethodName := ⟨RX2, "met", "(II)I"⟩
abbrev cX2_look : ByteArray := prog_1_method_16_code
def yX2_look : MethodName := ⟨RX2, "look", "(II)I"⟩
abbrev cX2_stock : ByteArray := prog_1_method_17_code
def yX2_stock : MethodName := ⟨RX2, "stock", "(II)I"⟩
abbrev cX2_count : ByteArray := prog_1_method_18_code
def yX2_count : MethodName := ⟨RX2, "count", "(I)I"⟩
abbrev cX2_isPiece : ByteArray := prog_1_method_19_code
def yX2_isPiece : MethodName := ⟨RX2, "isPiece", "(I)Z"⟩
abbrev cX2_isQuire : ByteArray := prog_1_method_20_code
def yX2_isQuire : MethodName := ⟨RX2, "isQuire", "(I)Z"⟩
abbrev cX2_isScribe : ByteArray := prog_1_method_21_code
def yX2_isScribe : MethodName := ⟨RX2, "isScribe", "(I)Z"⟩
abbrev cX2_isBits : ByteArray := prog_1_method_22_code
def yX2_isBits : MethodName := ⟨RX2, "isBits", "(I)Z"⟩
abbrev cX2_hasPage : ByteArray := prog_1_method_23_code
def yX2_hasPage : MethodName := ⟨RX2, "hasPage", "(II)Z"⟩
abbrev cX2_mayPass : ByteArray := prog_1_method_24_code
def yX2_mayPass : MethodName := ⟨RX2, "mayPass", "(II)Z"⟩
abbrev cX2_hasEnded : ByteArray := prog_1_method_25_code
def yX2_hasEnded : MethodName := ⟨RX2, "hasEnded", "(LQuireShop$Scribe;)Z"⟩
abbrev cX2_endedBooks : ByteArray := prog_1_method_26_code
def yX2_endedBooks : MethodName := ⟨RX2, "endedBooks", "()I"⟩
abbrev cX2_allEnded : ByteArray := prog_1_method_27_code
def yX2_allEnded : MethodName := ⟨RX2, "allEnded", "()Z"⟩
abbrev cX2_stateOf : ByteArray := prog_1_method_28_code
def yX2_stateOf : MethodName := ⟨RX2, "stateOf", "(LQuireShop$Scribe;)I"⟩
abbrev cX2_passDay : ByteArray := prog_1_method_29_code
def yX2_passDay : MethodName := ⟨RX2, "passDay", "()V"⟩
abbrev cX2_skipQuietDays : ByteArray := prog_1_method_30_code
def yX2_skipQuietDays : MethodName := ⟨RX2, "skipQuietDays", "(I)V"⟩
abbrev cX2_handInPages : ByteArray := prog_1_method_31_code
def yX2_handInPages : MethodName := ⟨RX2, "handInPages", "()V"⟩
abbrev cX2_lendQuires : ByteArray := prog_1_method_32_code
def yX2_lendQuires : MethodName := ⟨RX2, "lendQuires", "()V"⟩
abbrev cX2_lineKey : ByteArray := prog_1_method_33_code
def yX2_lineKey : MethodName := ⟨RX2, "lineKey", "(I)I"⟩
abbrev cX2_nextInLine : ByteArray := prog_1_method_34_code
def yX2_nextInLine : MethodName := ⟨RX2, "nextInLine", "(I)I"⟩
abbrev cX2_chosenQuire : ByteArray := prog_1_method_35_code
def yX2_chosenQuire : MethodName := ⟨RX2, "chosenQuire", "(LQuireShop$Scribe;)I"⟩
abbrev cX2_leastUsedOnShelf : ByteArray := prog_1_method_36_code
def yX2_leastUsedOnShelf : MethodName := ⟨RX2, "leastUsedOnShelf", "(I)I"⟩
abbrev cX2_isWorn : ByteArray := prog_1_method_37_code
def yX2_isWorn : MethodName := ⟨RX2, "isWorn", "(LQuireShop$Quire;)Z"⟩
abbrev cX2_unwornQuiresOf : ByteArray := prog_1_method_38_code
def yX2_unwornQuiresOf : MethodName := ⟨RX2, "unwornQuiresOf", "(I)I"⟩
abbrev cX2_quiresOf : ByteArray := prog_1_method_39_code
def yX2_quiresOf : MethodName := ⟨RX2, "quiresOf", "(I)I"⟩
abbrev cX2_soonestEnd : ByteArray := prog_1_method_40_code
def yX2_soonestEnd : MethodName := ⟨RX2, "soonestEnd", "(LQuireShop$Scribe;)I"⟩
abbrev cX2_workLeft : ByteArray := prog_1_method_41_code
def yX2_workLeft : MethodName := ⟨RX2, "workLeft", "(I)I"⟩
abbrev cX2_modelErrors : ByteArray := prog_1_method_42_code
def yX2_modelErrors : MethodName := ⟨RX2, "modelErrors", "(II)I"⟩
abbrev cX2_nearestModel : ByteArray := prog_1_method_43_code
def yX2_nearestModel : MethodName := ⟨RX2, "nearestModel", "(II)I"⟩
abbrev cX2_unlikePlaces : ByteArray := prog_1_method_44_code
def yX2_unlikePlaces : MethodName := ⟨RX2, "unlikePlaces", "(III)I"⟩
def RX3 : String := "QuireShopModel"
def TX3 : u_T := fun k => match k with
  | 0 => ("QuireShopModel", "pieces", "I", false)
  | 1 => ("QuireShopModel", "quires", "I", false)
  | 2 => ("QuireShopModel", "pieceOf", "[I", true)
  | 3 => ("QuireShopModel", "errors", "[I", true)
  | 4 => ("QuireShopModel", "uses", "[I", true)
  | 5 => ("QuireShopModel", "holder", "[I", true)
  | 6 => ("QuireShopModel", "scribes", "I", false)
  | 7 => ("QuireShopModel", "pace", "[I", true)
  | 8 => ("QuireShopModel", "since", "[I", true)
  | 9 => ("QuireShopModel", "hand", "[I", true)
  | 10 => ("QuireShopModel", "endOf", "[I", true)
  | 11 => ("QuireShopModel", "slips", "[I", true)
  | 12 => ("QuireShopModel", "has", "[Z", true)
  | 13 => ("QuireShopModel", "page", "[I", true)
  | 14 => ("QuireShopModel", "quireOf", "[I", true)
  | 15 => ("QuireShopModel", "taken", "[I", true)
  | 16 => ("QuireShopModel", "ended", "[I", true)
  | 17 => ("QuireShopModel", "today", "I", false)
  | 18 => ("QuireShopModel", "rule", "I", false)
  | 19 => ("QuireShopModel", "wear", "I", false)
  | 20 => ("QuireShopModel", "thrown", "I", false)
  | _ => ("QuireShopModel", "far", "I", false)
def tyX3 : Nat → FieldType := fun k => match k with
  | 0 => .int
  | 1 => .int
  | 2 => .array .int
  | 3 => .array .int
  | 4 => .array .int
  | 5 => .array .int
  | 6 => .int
  | 7 => .array .int
  | 8 => .array .int
  | 9 => .array .int
  | 10 => .array .int
  | 11 => .array .int
  | 12 => .array .boolean
  | 13 => .array .int
  | 14 => .array .int
  | 15 => .array .int
  | 16 => .array .int
  | 17 => .int
  | 18 => .int
  | 19 => .int
  | 20 => .int
  | _ => .int
abbrev wsX30 : List Cond := u_ws RX3 TX3 22
theorem nmX3 : ∀ a, a < 22 → ∀ b, b < 22 → a ≠ b → (TX3 a).2.1 ≠ (TX3 b).2.1 := by decide +kernel
theorem tyX3_ok : ∀ k, k < 22 → parseFieldDescriptor (TX3 k).2.2.1 = some (tyX3 k) := by decide +kernel
abbrev cX3_init : ByteArray := prog_5_method_1_code
def yX3_init : MethodName := ⟨RX3, "<init>", "()V"⟩
abbrev cX3_thrown : ByteArray := prog_5_method_2_code
def yX3_thrown : MethodName := ⟨RX3, "thrown", "()I"⟩
abbrev cX3_text : ByteArray := prog_5_method_3_code
def yX3_text : MethodName := ⟨RX3, "text", "(I)Z"⟩
abbrev cX3_rule : ByteArray := prog_5_method_4_code
def yX3_rule : MethodName := ⟨RX3, "rule", "(I)Z"⟩
abbrev cX3_wear : ByteArray := prog_5_method_5_code
def yX3_wear : MethodName := ⟨RX3, "wear", "(I)Z"⟩
abbrev cX3_areBits : ByteArray := prog_5_method_6_code
def yX3_areBits : MethodName := ⟨RX3, "areBits", "(I)Z"⟩
abbrev cX3_isQuire : ByteArray := prog_5_method_7_code
def yX3_isQuire : MethodName := ⟨RX3, "isQuire", "(I)Z"⟩
abbrev cX3_isScribe : ByteArray := prog_5_method_8_code
def yX3_isScribe : MethodName := ⟨RX3, "isScribe", "(I)Z"⟩
abbrev cX3_isPiece : ByteArray := prog_5_method_9_code
def yX3_isPiece : MethodName := ⟨RX3, "isPiece", "(I)Z"⟩
abbrev cX3_quire : ByteArray := prog_5_method_10_code
def yX3_quire : MethodName := ⟨RX3, "quire", "(II)I"⟩
abbrev cX3_anew : ByteArray := prog_5_method_11_code
def yX3_anew : MethodName := ⟨RX3, "anew", "(III)I"⟩
abbrev cX3_scribe : ByteArray := prog_5_method_12_code
def yX3_scribe : MethodName := ⟨RX3, "scribe", "(I)I"⟩
abbrev cX3_slip : ByteArray := prog_5_method_13_code
def yX3_slip : MethodName := ⟨RX3, "slip", "(III)Z"⟩
abbrev cX3_hasMany : ByteArray := prog_5_method_14_code
def yX3_hasMany : MethodName := ⟨RX3, "hasMany", "(I)I"⟩
abbrev cX3_handsIn : ByteArray := prog_5_method_15_code
def yX3_handsIn : MethodName := ⟨RX3, "handsIn", "(I)V"⟩
abbrev cX3_isThere : ByteArray := prog_5_method_16_code
def yX3_isThere : MethodName := ⟨RX3, "isThere", "(I)Z"⟩
abbrev cX3_isOnShelf : ByteArray := prog_5_method_17_code
def yX3_isOnShelf : MethodName := ⟨RX3, "isOnShelf", "(I)Z"⟩
abbrev cX3_sound : ByteArray := prog_5_method_18_code
def yX3_sound : MethodName := ⟨RX3, "sound", "(I)I"⟩
abbrev cX3_takes : ByteArray := prog_5_method_19_code
def yX3_takes : MethodName := ⟨RX3, "takes", "(I)V"⟩
abbrev cX3_ends : ByteArray := prog_5_method_20_code
def yX3_ends : MethodName := ⟨RX3, "ends", "(I)I"⟩
abbrev cX3_oneDay : ByteArray := prog_5_method_21_code
def yX3_oneDay : MethodName := ⟨RX3, "oneDay", "()V"⟩
abbrev cX3_days : ByteArray := prog_5_method_22_code
def yX3_days : MethodName := ⟨RX3, "days", "(I)I"⟩
abbrev cX3_allEnded : ByteArray := prog_5_method_23_code
def yX3_allEnded : MethodName := ⟨RX3, "allEnded", "()Z"⟩
abbrev cX3_finish : ByteArray := prog_5_method_24_code
def yX3_finish : MethodName := ⟨RX3, "finish", "(I)I"⟩
abbrev cX3_bound : ByteArray := prog_5_method_25_code
def yX3_bound : MethodName := ⟨RX3, "bound", "()I"⟩
abbrev cX3_isPage : ByteArray := prog_5_method_26_code
def yX3_isPage : MethodName := ⟨RX3, "isPage", "(II)Z"⟩
abbrev cX3_page : ByteArray := prog_5_method_27_code
def yX3_page : MethodName := ⟨RX3, "page", "(III)I"⟩
abbrev cX3_unlike : ByteArray := prog_5_method_28_code
def yX3_unlike : MethodName := ⟨RX3, "unlike", "(II)I"⟩
abbrev cX3_parentOf : ByteArray := prog_5_method_29_code
def yX3_parentOf : MethodName := ⟨RX3, "parentOf", "(II)I"⟩
abbrev cX3_parent : ByteArray := prog_5_method_30_code
def yX3_parent : MethodName := ⟨RX3, "parent", "(II)I"⟩
abbrev cX3_changes : ByteArray := prog_5_method_31_code
def yX3_changes : MethodName := ⟨RX3, "changes", "(I)I"⟩
abbrev cX3_met : ByteArray := prog_5_method_32_code
def yX3_met : MethodName := ⟨RX3, "met", "(II)I"⟩
abbrev cX3_fails : ByteArray := prog_5_method_33_code
def yX3_fails : MethodName := ⟨RX3, "fails", "(I)I"⟩
abbrev cX3_look : ByteArray := prog_5_method_34_code
def yX3_look : MethodName := ⟨RX3, "look", "(II)I"⟩
abbrev cX3_stock : ByteArray := prog_5_method_35_code
def yX3_stock : MethodName := ⟨RX3, "stock", "(II)I"⟩
abbrev cX3_count : ByteArray := prog_5_method_36_code
def yX3_count : MethodName := ⟨RX3, "count", "(I)I"⟩
def RJ6 : String := "java/lang/Integer"
def TJ6 : u_T := fun k => match k with
  | _ => ("", "", "", false)
def tyJ6 : Nat → FieldType := fun k => match k with
  | _ => .int
abbrev wsJ60 : List Cond := u_ws RJ6 TJ6 0
theorem nmJ6 : ∀ a, a < 0 → ∀ b, b < 0 → a ≠ b → (TJ6 a).2.1 ≠ (TJ6 b).2.1 := by decide +kernel
theorem tyJ6_ok : ∀ k, k < 0 → parseFieldDescriptor (TJ6 k).2.2.1 = some (tyJ6 k) := by decide +kernel
abbrev cJ6_bitCount_0f7a4 : ByteArray := prog_8_method_49_code
def yJ6_bitCount_0f7a4 : MethodName := ⟨RJ6, "bitCount", "(I)I"⟩
def RJ9 : String := "java/lang/Math"
def TJ9 : u_T := fun k => match k with
  | _ => ("", "", "", false)
def tyJ9 : Nat → FieldType := fun k => match k with
  | _ => .int
abbrev wsJ90 : List Cond := u_ws RJ9 TJ9 0
theorem nmJ9 : ∀ a, a < 0 → ∀ b, b < 0 → a ≠ b → (TJ9 a).2.1 ≠ (TJ9 b).2.1 := by decide +kernel
theorem tyJ9_ok : ∀ k, k < 0 → parseFieldDescriptor (TJ9 k).2.2.1 = some (tyJ9 k) := by decide +kernel
abbrev cJ9_max_7cf53 : ByteArray := prog_9_method_65_code
def yJ9_max_7cf53 : MethodName := ⟨RJ9, "max", "(II)I"⟩
abbrev cJ9_min_7cf53 : ByteArray := prog_9_method_69_code
def yJ9_min_7cf53 : MethodName := ⟨RJ9, "min", "(II)I"⟩
def RJ0 : String := "java/lang/String"
def TJ0 : u_T := fun k => match k with
  | _ => ("", "", "", false)
def tyJ0 : Nat → FieldType := fun k => match k with
  | _ => .int
abbrev wsJ00 : List Cond := u_ws RJ0 TJ0 0
theorem nmJ0 : ∀ a, a < 0 → ∀ b, b < 0 → a ≠ b → (TJ0 a).2.1 ≠ (TJ0 b).2.1 := by decide +kernel
theorem tyJ0_ok : ∀ k, k < 0 → parseFieldDescriptor (TJ0 k).2.2.1 = some (tyJ0 k) := by decide +kernel
def RJ7 : String := "java/util/Arrays"
def TJ7 : u_T := fun k => match k with
  | _ => ("", "", "", false)
def tyJ7 : Nat → FieldType := fun k => match k with
  | _ => .int
abbrev wsJ70 : List Cond := u_ws RJ7 TJ7 0
theorem nmJ7 : ∀ a, a < 0 → ∀ b, b < 0 → a ≠ b → (TJ7 a).2.1 ≠ (TJ7 b).2.1 := by decide +kernel
theorem tyJ7_ok : ∀ k, k < 0 → parseFieldDescriptor (TJ7 k).2.2.1 = some (tyJ7 k) := by decide +kernel
abbrev cJ7_fill_53178 : ByteArray := prog_13_method_103_code
def yJ7_fill_53178 : MethodName := ⟨RJ7, "fill", "([II)V"⟩
def RL : String := "QuireShopLaw"
abbrev sm_cl : List vw_C := [(RX0, TX0, 4), (RX1, TX1, 12), (RX2, TX2, 8), (RX3, TX3, 22)]
def sm_R : Nat → String := fun o => match o with | 0 => RX0 | 1 => RX1 | 2 => RX2 | 3 => RX3 | 4 => RJ6 | 5 => RJ9 | _ => RJ7
def sm_w0 : List Cond := [.code yX0_begin cX0_begin 3 none, .fieldLink RX0 9 "QuireShop$Quire" "piece" "I", .fieldLink RX0 15 "QuireShop$Quire" "errors" "I", .fieldLink RX0 18 "QuireShop$Quire" "uses" "I", .fieldLink RX0 21 "QuireShop$Quire" "holder" "I", .code yX0_isOnShelf cX0_isOnShelf 1 (some .boolean), .code yJ7_fill_53178 cJ7_fill_53178 4 none, .code yX1_begin cX1_begin 3 none, .fieldLink RX1 9 "QuireShop$Scribe" "slips" "[I", .fieldLink RX1 18 "QuireShop$Scribe" "source" "[I", .fieldLink RX1 27 "QuireShop$Scribe" "pace" "I", .fieldLink RX1 31 "QuireShop$Scribe" "had" "I", .fieldLink RX1 34 "QuireShop$Scribe" "idleSince" "I", .fieldLink RX1 37 "QuireShop$Scribe" "held" "I", .methodLink RX1 49 yJ7_fill_53178, .static yJ7_fill_53178, .initialized RJ7, .code yX1_isIdle cX1_isIdle 1 (some .boolean), .code yX1_has cX1_has 2 (some .boolean), .code yX1_hadBy cX1_hadBy 3 (some .boolean), .fieldLink RX1 24 "QuireShop$Scribe" "ended" "[I", .methodLink RX1 55 yX1_has, .instanceMethod yX1_has, .selects RX1 yX1_has yX1_has, .initialized RX1, .code yX1_isWriting cX1_isWriting 2 (some .boolean), .fieldLink RX1 40 "QuireShop$Scribe" "heldPiece" "I", .methodLink RX1 59 yX1_isIdle, .instanceMethod yX1_isIdle, .selects RX1 yX1_isIdle yX1_isIdle, .code yX1_endDay cX1_endDay 1 (some .int), .fieldLink RX1 46 "QuireShop$Scribe" "heldSince" "I", .code yX1_take cX1_take 4 none, .fieldLink RX1 63 "QuireShop$Quire" "piece" "I", .fieldLink RX1 68 "QuireShop$Quire" "errors" "I", .fieldLink RX1 43 "QuireShop$Scribe" "heldErrors" "I", .code yX1_handIn cX1_handIn 2 none, .fieldLink RX1 15 "QuireShop$Scribe" "errors" "[I", .fieldLink RX1 21 "QuireShop$Scribe" "taken" "[I", .code yX2_text cX2_text 2 (some .boolean)]
def sm_w1 : List Cond := [.fieldLink RX2 21 "QuireShop" "pieces" "I", .fieldLink RX2 25 "QuireShop" "quireCount" "I", .fieldLink RX2 28 "QuireShop" "scribeCount" "I", .fieldLink RX2 31 "QuireShop" "day" "I", .code yX2_rule cX2_rule 2 (some .boolean), .fieldLink RX2 34 "QuireShop" "rule" "I", .code yX2_wear cX2_wear 2 (some .boolean), .fieldLink RX2 37 "QuireShop" "wear" "I", .code yX2_isPiece cX2_isPiece 2 (some .boolean), .code yX2_isBits cX2_isBits 1 (some .boolean), .constant RX2 173 (65535), .code yX2_quire cX2_quire 3 (some .int), .fieldLink RX2 11 "QuireShop" "quires" "[LQuireShop$Quire;", .methodLink RX2 42 yX2_isPiece, .instanceMethod yX2_isPiece, .selects RX2 yX2_isPiece yX2_isPiece, .initialized RX2, .methodLink RX2 46 yX2_isBits, .static yX2_isBits, .methodLink RX2 49 yX0_begin, .instanceMethod yX0_begin, .selects RX0 yX0_begin yX0_begin, .initialized RX0, .code yX2_isQuire cX2_isQuire 2 (some .boolean), .code yX2_isScribe cX2_isScribe 2 (some .boolean), .code yX2_hasPage cX2_hasPage 3 (some .boolean), .fieldLink RX2 17 "QuireShop" "scribes" "[LQuireShop$Scribe;", .methodLink RX2 71 yX2_isScribe, .instanceMethod yX2_isScribe, .selects RX2 yX2_isScribe yX2_isScribe, .methodLink RX2 74 yX1_has, .fieldLink RX2 56 "QuireShop$Quire" "piece" "I", .fieldLink RX2 67 "QuireShop$Quire" "errors" "I", .fieldLink RX2 114 "QuireShop$Scribe" "errors" "[I", .methodLink RX2 53 yX2_isQuire, .instanceMethod yX2_isQuire, .selects RX2 yX2_isQuire yX2_isQuire, .methodLink RX2 111 yX2_hasPage, .instanceMethod yX2_hasPage, .selects RX2 yX2_hasPage yX2_hasPage]
def sm_w2 : List Cond := [.code yX2_modelErrors cX2_modelErrors 4 (some .int), .methodLink RX2 59 yX2_modelErrors, .instanceMethod yX2_modelErrors, .selects RX2 yX2_modelErrors yX2_modelErrors, .methodLink RX2 63 yX0_isOnShelf, .instanceMethod yX0_isOnShelf, .selects RX0 yX0_isOnShelf yX0_isOnShelf, .code yX2_anew cX2_anew 6 (some .int), .code yX2_scribe cX2_scribe 2 (some .int), .methodLink RX2 70 yX1_begin, .instanceMethod yX1_begin, .selects RX1 yX1_begin yX1_begin, .code yX2_slip cX2_slip 4 (some .boolean), .fieldLink RX2 77 "QuireShop$Scribe" "slips" "[I", .code yX2_mayPass cX2_mayPass 3 (some .boolean), .fieldLink RX2 145 "QuireShop$Scribe" "held" "I", .fieldLink RX2 166 "QuireShop$Quire" "holder" "I", .methodLink RX2 174 yX1_isIdle, .methodLink RX2 183 yX1_endDay, .instanceMethod yX1_endDay, .selects RX1 yX1_endDay yX1_endDay, .methodLink RX2 189 yX1_handIn, .instanceMethod yX1_handIn, .selects RX1 yX1_handIn yX1_handIn, .code yX2_handInPages cX2_handInPages 3 none, .code yX2_hasEnded cX2_hasEnded 2 (some .boolean), .fieldLink RX2 148 "QuireShop$Scribe" "had" "I", .code yX2_lineKey cX2_lineKey 2 (some .int), .fieldLink RX2 155 "QuireShop$Scribe" "idleSince" "I", .code yX2_nextInLine cX2_nextInLine 5 (some .int), .methodLink RX2 151 yX2_hasEnded, .instanceMethod yX2_hasEnded, .selects RX2 yX2_hasEnded yX2_hasEnded, .methodLink RX2 195 yX2_lineKey, .instanceMethod yX2_lineKey, .selects RX2 yX2_lineKey yX2_lineKey, .code yX2_isWorn cX2_isWorn 2 (some .boolean), .fieldLink RX2 163 "QuireShop$Quire" "uses" "I", .code yX2_leastUsedOnShelf cX2_leastUsedOnShelf 5 (some .int), .methodLink RX2 211 yX2_isWorn]
def sm_w3 : List Cond := [.instanceMethod yX2_isWorn, .selects RX2 yX2_isWorn yX2_isWorn, .code yX2_unwornQuiresOf cX2_unwornQuiresOf 4 (some .int), .methodLink RX2 205 yX2_leastUsedOnShelf, .instanceMethod yX2_leastUsedOnShelf, .selects RX2 yX2_leastUsedOnShelf yX2_leastUsedOnShelf, .methodLink RX2 208 yX2_unwornQuiresOf, .instanceMethod yX2_unwornQuiresOf, .selects RX2 yX2_unwornQuiresOf yX2_unwornQuiresOf, .code yX2_chosenQuire cX2_chosenQuire 7 (some .int), .methodLink RX2 192 yX2_nextInLine, .instanceMethod yX2_nextInLine, .selects RX2 yX2_nextInLine yX2_nextInLine, .methodLink RX2 198 yX2_chosenQuire, .instanceMethod yX2_chosenQuire, .selects RX2 yX2_chosenQuire yX2_chosenQuire, .methodLink RX2 201 yX1_take, .instanceMethod yX1_take, .selects RX1 yX1_take yX1_take, .code yX2_lendQuires cX2_lendQuires 5 none, .methodLink RX2 177 yX2_handInPages, .instanceMethod yX2_handInPages, .selects RX2 yX2_handInPages yX2_handInPages, .methodLink RX2 180 yX2_lendQuires, .instanceMethod yX2_lendQuires, .selects RX2 yX2_lendQuires yX2_lendQuires, .code yX2_passDay cX2_passDay 1 none, .code yX2_skipQuietDays cX2_skipQuietDays 4 none, .methodLink RX2 186 yJ9_min_7cf53, .static yJ9_min_7cf53, .initialized RJ9, .code yJ9_min_7cf53 cJ9_min_7cf53 2 (some .int), .methodLink RX2 99 yJ9_max_7cf53, .static yJ9_max_7cf53, .code yJ9_max_7cf53 cJ9_max_7cf53 2 (some .int), .methodLink RX2 81 yX2_mayPass, .instanceMethod yX2_mayPass, .selects RX2 yX2_mayPass yX2_mayPass, .methodLink RX2 85 yX2_passDay, .instanceMethod yX2_passDay]
def sm_w4 : List Cond := [.selects RX2 yX2_passDay yX2_passDay, .methodLink RX2 88 yX2_skipQuietDays, .instanceMethod yX2_skipQuietDays, .selects RX2 yX2_skipQuietDays yX2_skipQuietDays, .code yX2_days cX2_days 4 (some .int), .code yX2_endedBooks cX2_endedBooks 3 (some .int), .code yX2_allEnded cX2_allEnded 1 (some .boolean), .methodLink RX2 169 yX2_endedBooks, .instanceMethod yX2_endedBooks, .selects RX2 yX2_endedBooks yX2_endedBooks, .methodLink RX2 92 yX2_allEnded, .instanceMethod yX2_allEnded, .selects RX2 yX2_allEnded yX2_allEnded, .code yX2_finish cX2_finish 4 (some .int), .code yX2_soonestEnd cX2_soonestEnd 3 (some .int), .fieldLink RX2 139 "QuireShop$Scribe" "pace" "I", .methodLink RX2 215 yX1_isWriting, .instanceMethod yX1_isWriting, .selects RX1 yX1_isWriting yX1_isWriting, .code yX2_workLeft cX2_workLeft 5 (some .int), .code yX2_quiresOf cX2_quiresOf 4 (some .int), .methodLink RX2 95 yX2_soonestEnd, .instanceMethod yX2_soonestEnd, .selects RX2 yX2_soonestEnd yX2_soonestEnd, .methodLink RX2 104 yX2_workLeft, .instanceMethod yX2_workLeft, .selects RX2 yX2_workLeft yX2_workLeft, .methodLink RX2 108 yX2_quiresOf, .instanceMethod yX2_quiresOf, .selects RX2 yX2_quiresOf yX2_quiresOf, .code yX2_bound cX2_bound 5 (some .int), .fieldLink RX2 116 "QuireShop$Scribe" "source" "[I", .fieldLink RX2 119 "QuireShop$Scribe" "taken" "[I", .fieldLink RX2 122 "QuireShop$Scribe" "ended" "[I", .code yX2_page cX2_page 5 (some .int), .code yJ6_bitCount_0f7a4 cJ6_bitCount_0f7a4 1 (some .int), .constant RJ6 265 (1431655765), .constant RJ6 266 (858993459), .constant RJ6 267 (252645135), .methodLink RX2 218 yJ6_bitCount_0f7a4]
def sm_w5 : List Cond := [.static yJ6_bitCount_0f7a4, .initialized RJ6, .methodLink RX2 223 yX1_hadBy, .instanceMethod yX1_hadBy, .selects RX1 yX1_hadBy yX1_hadBy, .code yX2_nearestModel cX2_nearestModel 8 (some .int), .methodLink RX2 125 yX2_nearestModel, .instanceMethod yX2_nearestModel, .selects RX2 yX2_nearestModel yX2_nearestModel, .code yX2_parent cX2_parent 3 (some .int), .code yX2_unlikePlaces cX2_unlikePlaces 5 (some .int), .methodLink RX2 128 yX2_unlikePlaces, .instanceMethod yX2_unlikePlaces, .selects RX2 yX2_unlikePlaces yX2_unlikePlaces, .code yX2_changes cX2_changes 4 (some .int), .code yX2_met cX2_met 5 (some .int), .code yX2_stateOf cX2_stateOf 2 (some .int), .methodLink RX2 142 yX2_stateOf, .instanceMethod yX2_stateOf, .selects RX2 yX2_stateOf yX2_stateOf, .code yX2_look cX2_look 4 (some .int), .code yX2_stock cX2_stock 4 (some .int), .code yX2_count cX2_count 2 (some .int), .code yX3_thrown cX3_thrown 1 (some .int), .fieldLink RX3 60 "QuireShopModel" "thrown" "I", .code yX3_text cX3_text 2 (some .boolean), .fieldLink RX3 7 "QuireShopModel" "pieces" "I", .fieldLink RX3 63 "QuireShopModel" "quires" "I", .fieldLink RX3 66 "QuireShopModel" "scribes" "I", .fieldLink RX3 69 "QuireShopModel" "today" "I", .code yX3_rule cX3_rule 2 (some .boolean), .fieldLink RX3 72 "QuireShopModel" "rule" "I", .code yX3_wear cX3_wear 2 (some .boolean), .fieldLink RX3 57 "QuireShopModel" "wear" "I", .code yX3_areBits cX3_areBits 1 (some .boolean), .constant RX3 75 (65535), .code yX3_isQuire cX3_isQuire 2 (some .boolean), .code yX3_isScribe cX3_isScribe 2 (some .boolean), .code yX3_isPiece cX3_isPiece 2 (some .boolean), .code yX3_quire cX3_quire 3 (some .int)]
def sm_w6 : List Cond := [.fieldLink RX3 13 "QuireShopModel" "pieceOf" "[I", .fieldLink RX3 17 "QuireShopModel" "errors" "[I", .fieldLink RX3 20 "QuireShopModel" "uses" "[I", .fieldLink RX3 23 "QuireShopModel" "holder" "[I", .methodLink RX3 76 yX3_isPiece, .instanceMethod yX3_isPiece, .selects RX3 yX3_isPiece yX3_isPiece, .initialized RX3, .methodLink RX3 80 yX3_areBits, .static yX3_areBits, .code yX3_anew cX3_anew 6 (some .int), .fieldLink RX3 41 "QuireShopModel" "has" "[Z", .fieldLink RX3 45 "QuireShopModel" "page" "[I", .methodLink RX3 83 yX3_isQuire, .instanceMethod yX3_isQuire, .selects RX3 yX3_isQuire yX3_isQuire, .methodLink RX3 86 yX3_isScribe, .instanceMethod yX3_isScribe, .selects RX3 yX3_isScribe yX3_isScribe, .code yX3_scribe cX3_scribe 3 (some .int), .fieldLink RX3 26 "QuireShopModel" "pace" "[I", .fieldLink RX3 29 "QuireShopModel" "since" "[I", .fieldLink RX3 32 "QuireShopModel" "hand" "[I", .fieldLink RX3 35 "QuireShopModel" "endOf" "[I", .fieldLink RX3 38 "QuireShopModel" "slips" "[I", .code yX3_slip cX3_slip 4 (some .boolean), .code yX3_hasMany cX3_hasMany 4 (some .int), .code yX3_handsIn cX3_handsIn 4 none, .fieldLink RX3 54 "QuireShopModel" "ended" "[I", .methodLink RX3 89 yX3_hasMany, .instanceMethod yX3_hasMany, .selects RX3 yX3_hasMany yX3_hasMany, .code yX3_isThere cX3_isThere 2 (some .boolean), .code yX3_isOnShelf cX3_isOnShelf 3 (some .boolean), .methodLink RX3 93 yX3_isThere, .instanceMethod yX3_isThere, .selects RX3 yX3_isThere yX3_isThere, .code yX3_sound cX3_sound 4 (some .int), .fieldLink RX3 48 "QuireShopModel" "quireOf" "[I", .fieldLink RX3 51 "QuireShopModel" "taken" "[I"]
def sm_w7 : List Cond := [.methodLink RX3 96 yX3_isOnShelf, .instanceMethod yX3_isOnShelf, .selects RX3 yX3_isOnShelf yX3_isOnShelf, .methodLink RX3 99 yX3_sound, .instanceMethod yX3_sound, .selects RX3 yX3_sound yX3_sound, .code yX3_takes cX3_takes 5 none, .code yX3_ends cX3_ends 2 (some .int), .methodLink RX3 102 yX3_ends, .instanceMethod yX3_ends, .selects RX3 yX3_ends yX3_ends, .methodLink RX3 105 yX3_handsIn, .instanceMethod yX3_handsIn, .selects RX3 yX3_handsIn yX3_handsIn, .methodLink RX3 109 yX3_takes, .instanceMethod yX3_takes, .selects RX3 yX3_takes yX3_takes, .code yX3_oneDay cX3_oneDay 3 none, .methodLink RX3 112 yX3_oneDay, .instanceMethod yX3_oneDay, .selects RX3 yX3_oneDay yX3_oneDay, .code yX3_days cX3_days 3 (some .int), .code yX3_allEnded cX3_allEnded 2 (some .boolean), .methodLink RX3 115 yX3_allEnded, .instanceMethod yX3_allEnded, .selects RX3 yX3_allEnded yX3_allEnded, .code yX3_finish cX3_finish 3 (some .int), .code yX3_bound cX3_bound 7 (some .int), .code yX3_isPage cX3_isPage 3 (some .boolean), .code yX3_page cX3_page 5 (some .int), .methodLink RX3 119 yX3_isPage, .instanceMethod yX3_isPage, .selects RX3 yX3_isPage yX3_isPage, .code yX3_unlike cX3_unlike 4 (some .int), .code yX3_parentOf cX3_parentOf 6 (some .int), .fieldLink RX3 123 "QuireShopModel" "far" "I", .methodLink RX3 126 yX3_unlike, .static yX3_unlike, .methodLink RX3 130 yX3_parentOf, .instanceMethod yX3_parentOf]
def sm_w8 : List Cond := [.selects RX3 yX3_parentOf yX3_parentOf, .code yX3_parent cX3_parent 3 (some .int), .code yX3_changes cX3_changes 4 (some .int), .code yX3_met cX3_met 5 (some .int), .code yX3_fails cX3_fails 2 (some .int), .code yX3_look cX3_look 3 (some .int), .methodLink RX3 133 yX3_fails, .instanceMethod yX3_fails, .selects RX3 yX3_fails yX3_fails, .code yX3_stock cX3_stock 3 (some .int), .code yX3_count cX3_count 4 (some .int)]
def sm_W : List Cond := sm_w0 ++ (sm_w1 ++ (sm_w2 ++ (sm_w3 ++ (sm_w4 ++ (sm_w5 ++ (sm_w6 ++ (sm_w7 ++ (sm_w8 ++ (wsX00 ++ (wsX10 ++ (wsX20 ++ wsX30)))))))))))
def sm_y : List MethodName := [yX0_begin, yX0_isOnShelf, yJ7_fill_53178, yX1_begin, yX1_isIdle, yX1_has, yX1_hadBy, yX1_isWriting, yX1_endDay, yX1_take, yX1_handIn, yX2_text, yX2_rule, yX2_wear, yX2_isPiece, yX2_isBits, yX2_quire, yX2_isQuire, yX2_isScribe, yX2_hasPage, yX2_modelErrors, yX2_anew, yX2_scribe, yX2_slip, yX2_mayPass, yX2_handInPages, yX2_hasEnded, yX2_lineKey, yX2_nextInLine, yX2_isWorn, yX2_leastUsedOnShelf, yX2_unwornQuiresOf, yX2_chosenQuire, yX2_lendQuires, yX2_passDay, yX2_skipQuietDays, yX2_days, yX2_endedBooks, yX2_allEnded, yX2_finish, yX2_soonestEnd, yX2_workLeft, yX2_quiresOf, yX2_bound, yX2_page, yJ6_bitCount_0f7a4, yX2_nearestModel, yX2_parent, yX2_unlikePlaces, yX2_changes, yX2_met, yX2_stateOf, yX2_look, yX2_stock, yX2_count, yX3_thrown, yX3_text, yX3_rule, yX3_wear, yX3_areBits, yX3_isQuire, yX3_isScribe, yX3_isPiece, yX3_quire, yX3_anew, yX3_scribe, yX3_slip, yX3_hasMany, yX3_handsIn, yX3_isThere, yX3_isOnShelf, yX3_sound, yX3_takes, yX3_ends, yX3_oneDay, yX3_days, yX3_allEnded, yX3_finish, yX3_bound, yX3_isPage, yX3_page, yX3_unlike, yX3_parentOf, yX3_parent, yX3_changes, yX3_met, yX3_fails, yX3_look, yX3_stock, yX3_count, yJ9_max_7cf53, yJ9_min_7cf53]
def sm_c : List ByteArray := [cX0_begin, cX0_isOnShelf, cJ7_fill_53178, cX1_begin, cX1_isIdle, cX1_has, cX1_hadBy, cX1_isWriting, cX1_endDay, cX1_take, cX1_handIn, cX2_text, cX2_rule, cX2_wear, cX2_isPiece, cX2_isBits, cX2_quire, cX2_isQuire, cX2_isScribe, cX2_hasPage, cX2_modelErrors, cX2_anew, cX2_scribe, cX2_slip, cX2_mayPass, cX2_handInPages, cX2_hasEnded, cX2_lineKey, cX2_nextInLine, cX2_isWorn, cX2_leastUsedOnShelf, cX2_unwornQuiresOf, cX2_chosenQuire, cX2_lendQuires, cX2_passDay, cX2_skipQuietDays, cX2_days, cX2_endedBooks, cX2_allEnded, cX2_finish, cX2_soonestEnd, cX2_workLeft, cX2_quiresOf, cX2_bound, cX2_page, cJ6_bitCount_0f7a4, cX2_nearestModel, cX2_parent, cX2_unlikePlaces, cX2_changes, cX2_met, cX2_stateOf, cX2_look, cX2_stock, cX2_count, cX3_thrown, cX3_text, cX3_rule, cX3_wear, cX3_areBits, cX3_isQuire, cX3_isScribe, cX3_isPiece, cX3_quire, cX3_anew, cX3_scribe, cX3_slip, cX3_hasMany, cX3_handsIn, cX3_isThere, cX3_isOnShelf, cX3_sound, cX3_takes, cX3_ends, cX3_oneDay, cX3_days, cX3_allEnded, cX3_finish, cX3_bound, cX3_isPage, cX3_page, cX3_unlike, cX3_parentOf, cX3_parent, cX3_changes, cX3_met, cX3_fails, cX3_look, cX3_stock, cX3_count, cJ9_max_7cf53, cJ9_min_7cf53]
def sm_L : List Nat := [3, 1, 4, 3, 1, 2, 3, 2, 1, 4, 2, 2, 2, 2, 2, 1, 3, 2, 2, 3, 4, 6, 2, 4, 3, 3, 2, 2, 5, 2, 5, 4, 7, 5, 1, 4, 4, 3, 1, 4, 3, 5, 4, 5, 5, 1, 8, 3, 5, 4, 5, 2, 4, 4, 2, 1, 2, 2, 2, 1, 2, 2, 2, 3, 6, 3, 4, 4, 4, 2, 3, 4, 5, 2, 3, 3, 2, 3, 7, 3, 5, 4, 6, 3, 4, 5, 2, 3, 3, 4, 2, 2]
def sm_ret : List Nat := [0, 2, 0, 0, 2, 2, 2, 2, 1, 0, 0, 2, 2, 2, 2, 2, 1, 2, 2, 2, 1, 1, 1, 2, 2, 0, 2, 1, 1, 2, 1, 1, 1, 0, 0, 0, 1, 1, 2, 1, 1, 1, 1, 1, 1, 1, 1, 1, 1, 1, 1, 1, 1, 1, 1, 1, 2, 2, 2, 2, 2, 2, 2, 1, 1, 1, 2, 1, 0, 2, 2, 1, 0, 1, 0, 1, 2, 1, 1, 2, 1, 1, 1, 1, 1, 1, 1, 1, 1, 1, 1, 1]
def sm_own : List Nat := [0, 0, 6, 1, 1, 1, 1, 1, 1, 1, 1, 2, 2, 2, 2, 2, 2, 2, 2, 2, 2, 2, 2, 2, 2, 2, 2, 2, 2, 2, 2, 2, 2, 2, 2, 2, 2, 2, 2, 2, 2, 2, 2, 2, 2, 4, 2, 2, 2, 2, 2, 2, 2, 2, 2, 3, 3, 3, 3, 3, 3, 3, 3, 3, 3, 3, 3, 3, 3, 3, 3, 3, 3, 3, 3, 3, 3, 3, 3, 3, 3, 3, 3, 3, 3, 3, 3, 3, 3, 3, 5, 5]
def sm_n : List Nat := [2, 0, 2, 2, 0, 1, 2, 1, 0, 3, 1, 1, 1, 1, 1, 1, 2, 1, 1, 2, 2, 3, 1, 3, 2, 0, 1, 1, 1, 1, 1, 1, 1, 0, 0, 1, 1, 0, 0, 1, 1, 1, 1, 0, 3, 1, 2, 2, 3, 1, 2, 1, 2, 2, 1, 0, 1, 1, 1, 1, 1, 1, 1, 2, 3, 1, 3, 1, 1, 1, 1, 1, 1, 1, 0, 1, 0, 1, 0, 2, 3, 2, 2, 2, 1, 2, 1, 2, 2, 1, 2, 2]
def sm_st : List Nat := [0, 0, 1, 0, 0, 0, 0, 0, 0, 0, 0, 0, 0, 0, 0, 1, 0, 0, 0, 0, 0, 0, 0, 0, 0, 0, 0, 0, 0, 0, 0, 0, 0, 0, 0, 0, 0, 0, 0, 0, 0, 0, 0, 0, 0, 1, 0, 0, 0, 0, 0, 0, 0, 0, 0, 0, 0, 0, 0, 1, 0, 0, 0, 0, 0, 0, 0, 0, 0, 0, 0, 0, 0, 0, 0, 0, 0, 0, 0, 0, 0, 1, 0, 0, 0, 0, 0, 0, 0, 0, 1, 1]
def sm_fr : List Nat := [0, 0, 0, 1, 0, 0, 1, 1, 0, 0, 0, 0, 0, 0, 0, 0, 1, 0, 0, 1, 2, 3, 2, 1, 0, 1, 0, 0, 1, 0, 1, 1, 2, 3, 4, 1, 5, 1, 2, 5, 1, 2, 0, 3, 2, 0, 2, 3, 3, 4, 1, 1, 2, 1, 2, 0, 0, 0, 0, 0, 0, 0, 0, 1, 1, 0, 1, 0, 1, 0, 1, 0, 2, 0, 3, 4, 1, 4, 2, 1, 2, 0, 1, 2, 2, 1, 0, 1, 1, 1, 0, 0]
def sm_lo : List Nat := [0, 0, 0, 23, 0, 0, 21, 20, 0, 0, 0, 0, 0, 0, 0, 0, 22, 0, 0, 21, 43, 66, 45, 21, 0, 21, 0, 0, 21, 0, 21, 21, 45, 71, 95, 21, 115, 21, 43, 115, 20, 41, 0, 65, 43, 0, 43, 70, 66, 90, 21, 21, 42, 21, 43, 0, 0, 0, 0, 0, 0, 0, 0, 21, 21, 0, 21, 0, 23, 0, 21, 0, 43, 0, 67, 89, 23, 89, 44, 21, 43, 0, 23, 48, 48, 21, 0, 23, 21, 23, 0, 0]
def sm_fld : List (Nat × Nat × Nat × Nat) := [(0, 9, 0, 0), (0, 15, 0, 1), (0, 18, 0, 2), (0, 21, 0, 3), (1, 9, 1, 0), (1, 18, 1, 2), (1, 27, 1, 5), (1, 31, 1, 6), (1, 34, 1, 7), (1, 37, 1, 8), (1, 24, 1, 4), (1, 40, 1, 9), (1, 46, 1, 11), (1, 63, 0, 0), (1, 68, 0, 1), (1, 43, 1, 10), (1, 15, 1, 1), (1, 21, 1, 3), (2, 21, 2, 2), (2, 25, 2, 3), (2, 28, 2, 4), (2, 31, 2, 5), (2, 34, 2, 6), (2, 37, 2, 7), (2, 11, 2, 0), (2, 17, 2, 1), (2, 56, 0, 0), (2, 67, 0, 1), (2, 114, 1, 1), (2, 77, 1, 0), (2, 145, 1, 8), (2, 166, 0, 3), (2, 148, 1, 6), (2, 155, 1, 7), (2, 163, 0, 2), (2, 139, 1, 5), (2, 116, 1, 2), (2, 119, 1, 3), (2, 122, 1, 4), (3, 60, 3, 20), (3, 7, 3, 0), (3, 63, 3, 1), (3, 66, 3, 6), (3, 69, 3, 17), (3, 72, 3, 18), (3, 57, 3, 19), (3, 13, 3, 2), (3, 17, 3, 3), (3, 20, 3, 4), (3, 23, 3, 5), (3, 41, 3, 12), (3, 45, 3, 13), (3, 26, 3, 7), (3, 29, 3, 8), (3, 32, 3, 9), (3, 35, 3, 10), (3, 38, 3, 11), (3, 54, 3, 16), (3, 48, 3, 14), (3, 51, 3, 15), (3, 123, 3, 21)]
def sm_mth : List (Nat × Nat × Nat) := [(1, 49, 2), (1, 55, 5), (1, 59, 4), (2, 42, 14), (2, 46, 15), (2, 49, 0), (2, 71, 18), (2, 74, 5), (2, 53, 17), (2, 111, 19), (2, 59, 20), (2, 63, 1), (2, 70, 3), (2, 174, 4), (2, 183, 8), (2, 189, 10), (2, 151, 26), (2, 195, 27), (2, 211, 29), (2, 205, 30), (2, 208, 31), (2, 192, 28), (2, 198, 32), (2, 201, 9), (2, 177, 25), (2, 180, 33), (2, 186, 91), (2, 99, 90), (2, 81, 24), (2, 85, 34), (2, 88, 35), (2, 169, 37), (2, 92, 38), (2, 215, 7), (2, 95, 40), (2, 104, 41), (2, 108, 42), (2, 218, 45), (2, 223, 6), (2, 125, 46), (2, 128, 48), (2, 142, 51), (3, 76, 62), (3, 80, 59), (3, 83, 60), (3, 86, 61), (3, 89, 67), (3, 93, 69), (3, 96, 70), (3, 99, 71), (3, 102, 73), (3, 105, 68), (3, 109, 72), (3, 112, 74), (3, 115, 76), (3, 119, 79), (3, 126, 81), (3, 130, 82), (3, 133, 86)]
def sm_cst : List (Nat × Nat × Int32) := [(2, 173, 65535), (4, 265, 1431655765), (4, 266, 858993459), (4, 267, 252645135), (3, 75, 65535)]
def sm_t0 : List (Nat × Instr × Nat) := [(0, .aload_n 0, 1), (1, .iload_n 1, 1), (2, .putfield 9, 3), (5, .aload_n 0, 1), (6, .iload_n 2, 1), (7, .putfield 15, 3), (10, .aload_n 0, 1), (11, .iconst 0, 1), (12, .putfield 18, 3), (15, .aload_n 0, 1), (16, .iconst (-1), 1), (17, .putfield 21, 3), (20, .return_, 1)]
def sm_t1 : List (Nat × Instr × Nat) := [(0, .aload_n 0, 1), (1, .getfield 21, 3), (4, .iconst (-1), 1), (5, .if_icmp .ne 7, 3), (8, .iconst 1, 1), (9, .goto 4, 3), (12, .iconst 0, 1), (13, .ireturn, 1)]
def sm_t2 : List (Nat × Instr × Nat) := [(0, .iconst 0, 1), (1, .istore_n 2, 1), (2, .aload_n 0, 1), (3, .arraylength, 1), (4, .istore_n 3, 1), (5, .iload_n 2, 1), (6, .iload_n 3, 1), (7, .if_icmp .ge 13, 3), (10, .aload_n 0, 1), (11, .iload_n 2, 1), (12, .iload_n 1, 1), (13, .iastore, 1), (14, .iinc 2 1, 3), (17, .goto (-12), 3), (20, .return_, 1)]
def sm_t3 : List (Nat × Instr × Nat) := [(0, .aload_n 0, 1), (1, .getfield 9, 3), (4, .iconst 0, 1), (5, .invokestatic 49, 3), (8, .aload_n 0, 1), (9, .getfield 18, 3), (12, .iconst (-1), 1), (13, .invokestatic 49, 3), (16, .aload_n 0, 1), (17, .iload_n 1, 1), (18, .putfield 27, 3), (21, .aload_n 0, 1), (22, .iconst 0, 1), (23, .putfield 31, 3), (26, .aload_n 0, 1), (27, .iload_n 2, 1), (28, .putfield 34, 3), (31, .aload_n 0, 1), (32, .iconst (-1), 1), (33, .putfield 37, 3), (36, .return_, 1)]
def sm_t4 : List (Nat × Instr × Nat) := [(0, .aload_n 0, 1), (1, .getfield 37, 3), (4, .iconst (-1), 1), (5, .if_icmp .ne 7, 3), (8, .iconst 1, 1), (9, .goto 4, 3), (12, .iconst 0, 1), (13, .ireturn, 1)]
def sm_t5 : List (Nat × Instr × Nat) := [(0, .aload_n 0, 1), (1, .getfield 18, 3), (4, .iload_n 1, 1), (5, .iaload, 1), (6, .iconst (-1), 1), (7, .if_icmp .eq 7, 3), (10, .iconst 1, 1), (11, .goto 4, 3), (14, .iconst 0, 1), (15, .ireturn, 1)]
def sm_t6 : List (Nat × Instr × Nat) := [(0, .aload_n 0, 1), (1, .iload_n 1, 1), (2, .invokevirtual 55, 3), (5, .ifCond .eq 17, 3), (8, .aload_n 0, 1), (9, .getfield 24, 3), (12, .iload_n 1, 1), (13, .iaload, 1), (14, .iload_n 2, 1), (15, .if_icmp .gt 7, 3), (18, .iconst 1, 1), (19, .goto 4, 3), (22, .iconst 0, 1), (23, .ireturn, 1)]
def sm_t7 : List (Nat × Instr × Nat) := [(0, .aload_n 0, 1), (1, .invokevirtual 59, 3), (4, .ifCond .ne 15, 3), (7, .aload_n 0, 1), (8, .getfield 40, 3), (11, .iload_n 1, 1), (12, .if_icmp .ne 7, 3), (15, .iconst 1, 1), (16, .goto 4, 3), (19, .iconst 0, 1), (20, .ireturn, 1)]
def sm_t8 : List (Nat × Instr × Nat) := [(0, .aload_n 0, 1), (1, .getfield 46, 3), (4, .aload_n 0, 1), (5, .getfield 27, 3), (8, .iadd, 1), (9, .ireturn, 1)]
def sm_t9 : List (Nat × Instr × Nat) := [(0, .aload_n 0, 1), (1, .iload_n 1, 1), (2, .putfield 37, 3), (5, .aload_n 0, 1), (6, .aload_n 2, 1), (7, .getfield 63, 3), (10, .putfield 40, 3), (13, .aload_n 0, 1), (14, .aload_n 2, 1), (15, .getfield 68, 3), (18, .putfield 43, 3), (21, .aload_n 0, 1), (22, .iload_n 3, 1), (23, .putfield 46, 3), (26, .return_, 1)]
def sm_t10 : List (Nat × Instr × Nat) := [(0, .aload_n 0, 1), (1, .getfield 15, 3), (4, .aload_n 0, 1), (5, .getfield 40, 3), (8, .aload_n 0, 1), (9, .getfield 43, 3), (12, .aload_n 0, 1), (13, .getfield 9, 3), (16, .aload_n 0, 1), (17, .getfield 40, 3), (20, .iaload, 1), (21, .ixor, 1), (22, .iastore, 1), (23, .aload_n 0, 1), (24, .getfield 18, 3), (27, .aload_n 0, 1), (28, .getfield 40, 3), (31, .aload_n 0, 1), (32, .getfield 37, 3), (35, .iastore, 1), (36, .aload_n 0, 1), (37, .getfield 21, 3), (40, .aload_n 0, 1), (41, .getfield 40, 3), (44, .aload_n 0, 1), (45, .getfield 46, 3), (48, .iastore, 1), (49, .aload_n 0, 1), (50, .getfield 24, 3), (53, .aload_n 0, 1), (54, .getfield 40, 3), (57, .iload_n 1, 1), (58, .iastore, 1), (59, .aload_n 0, 1), (60, .dup, 1), (61, .getfield 31, 3), (64, .iconst 1, 1), (65, .iadd, 1), (66, .putfield 31, 3), (69, .aload_n 0, 1), (70, .iload_n 1, 1), (71, .putfield 34, 3), (74, .aload_n 0, 1), (75, .iconst (-1), 1), (76, .putfield 37, 3), (79, .return_, 1)]
def sm_t11 : List (Nat × Instr × Nat) := [(0, .iload_n 1, 1), (1, .iconst 1, 1), (2, .if_icmp .lt 9, 3), (5, .iload_n 1, 1), (6, .bipush 8, 2), (8, .if_icmp .le 5, 3), (11, .iconst 0, 1), (12, .ireturn, 1), (13, .aload_n 0, 1), (14, .iload_n 1, 1), (15, .putfield 21, 3), (18, .aload_n 0, 1), (19, .iconst 0, 1), (20, .putfield 25, 3), (23, .aload_n 0, 1), (24, .iconst 0, 1), (25, .putfield 28, 3), (28, .aload_n 0, 1), (29, .iconst 0, 1), (30, .putfield 31, 3), (33, .iconst 1, 1), (34, .ireturn, 1)]
def sm_t12 : List (Nat × Instr × Nat) := [(0, .iload_n 1, 1), (1, .ifCond .lt 8, 3), (4, .iload_n 1, 1), (5, .iconst 1, 1), (6, .if_icmp .le 5, 3), (9, .iconst 0, 1), (10, .ireturn, 1), (11, .aload_n 0, 1), (12, .iload_n 1, 1), (13, .putfield 34, 3), (16, .iconst 1, 1), (17, .ireturn, 1)]
def sm_t13 : List (Nat × Instr × Nat) := [(0, .iload_n 1, 1), (1, .iconst 1, 1), (2, .if_icmp .lt 9, 3), (5, .iload_n 1, 1), (6, .bipush 99, 2), (8, .if_icmp .le 5, 3), (11, .iconst 0, 1), (12, .ireturn, 1), (13, .aload_n 0, 1), (14, .iload_n 1, 1), (15, .putfield 37, 3), (18, .iconst 1, 1), (19, .ireturn, 1)]
def sm_t14 : List (Nat × Instr × Nat) := [(0, .iload_n 1, 1), (1, .ifCond .lt 15, 3), (4, .iload_n 1, 1), (5, .aload_n 0, 1), (6, .getfield 21, 3), (9, .if_icmp .ge 7, 3), (12, .iconst 1, 1), (13, .goto 4, 3), (16, .iconst 0, 1), (17, .ireturn, 1)]
def sm_t15 : List (Nat × Instr × Nat) := [(0, .iload_n 0, 1), (1, .ifCond .lt 13, 3), (4, .iload_n 0, 1), (5, .ldc 173, 2), (7, .if_icmp .gt 7, 3), (10, .iconst 1, 1), (11, .goto 4, 3), (14, .iconst 0, 1), (15, .ireturn, 1)]
def sm_t16 : List (Nat × Instr × Nat) := [(0, .aload_n 0, 1), (1, .iload_n 1, 1), (2, .invokevirtual 42, 3), (5, .ifCond .eq 19, 3), (8, .iload_n 2, 1), (9, .invokestatic 46, 3), (12, .ifCond .eq 12, 3), (15, .aload_n 0, 1), (16, .getfield 25, 3), (19, .bipush 20, 2), (21, .if_icmp .lt 5, 3), (24, .iconst (-1), 1), (25, .ireturn, 1), (26, .aload_n 0, 1), (27, .getfield 11, 3), (30, .aload_n 0, 1), (31, .getfield 25, 3), (34, .aaload, 1), (35, .iload_n 1, 1), (36, .iload_n 2, 1), (37, .invokevirtual 49, 3), (40, .aload_n 0, 1), (41, .dup, 1), (42, .getfield 25, 3), (45, .iconst 1, 1), (46, .iadd, 1), (47, .putfield 25, 3), (50, .aload_n 0, 1), (51, .getfield 25, 3), (54, .iconst 1, 1), (55, .isub, 1), (56, .ireturn, 1)]
def sm_t17 : List (Nat × Instr × Nat) := [(0, .iload_n 1, 1), (1, .ifCond .lt 15, 3), (4, .iload_n 1, 1), (5, .aload_n 0, 1), (6, .getfield 25, 3), (9, .if_icmp .ge 7, 3), (12, .iconst 1, 1), (13, .goto 4, 3), (16, .iconst 0, 1), (17, .ireturn, 1)]
def sm_t18 : List (Nat × Instr × Nat) := [(0, .iload_n 1, 1), (1, .ifCond .lt 15, 3), (4, .iload_n 1, 1), (5, .aload_n 0, 1), (6, .getfield 28, 3), (9, .if_icmp .ge 7, 3), (12, .iconst 1, 1), (13, .goto 4, 3), (16, .iconst 0, 1), (17, .ireturn, 1)]
def sm_t19 : List (Nat × Instr × Nat) := [(0, .aload_n 0, 1), (1, .iload_n 1, 1), (2, .invokevirtual 71, 3), (5, .ifCond .eq 28, 3), (8, .aload_n 0, 1), (9, .iload_n 2, 1), (10, .invokevirtual 42, 3), (13, .ifCond .eq 20, 3), (16, .aload_n 0, 1), (17, .getfield 17, 3), (20, .iload_n 1, 1), (21, .aaload, 1), (22, .iload_n 2, 1), (23, .invokevirtual 74, 3), (26, .ifCond .eq 7, 3), (29, .iconst 1, 1), (30, .goto 4, 3), (33, .iconst 0, 1), (34, .ireturn, 1)]
def sm_t20 : List (Nat × Instr × Nat) := [(0, .iload_n 2, 1), (1, .ifCond .lt 38, 3), (4, .aload_n 0, 1), (5, .iload_n 2, 1), (6, .invokevirtual 53, 3), (9, .ifCond .eq 28, 3), (12, .aload_n 0, 1), (13, .getfield 11, 3), (16, .iload_n 2, 1), (17, .aaload, 1), (18, .getfield 56, 3), (21, .iload_n 1, 1), (22, .if_icmp .ne 15, 3), (25, .aload_n 0, 1), (26, .getfield 11, 3), (29, .iload_n 2, 1), (30, .aaload, 1), (31, .getfield 67, 3), (34, .goto 4, 3), (37, .iconst (-1), 1), (38, .ireturn, 1), (39, .iconst (-1), 1), (40, .iload_n 2, 1), (41, .isub, 1), (42, .istore_n 3, 1), (43, .aload_n 0, 1), (44, .iload_n 3, 1), (45, .iload_n 1, 1), (46, .invokevirtual 111, 3), (49, .ifCond .eq 17, 3), (52, .aload_n 0, 1), (53, .getfield 17, 3), (56, .iload_n 3, 1), (57, .aaload, 1), (58, .getfield 114, 3), (61, .iload_n 1, 1), (62, .iaload, 1), (63, .goto 4, 3), (66, .iconst (-1), 1), (67, .ireturn, 1)]
def sm_t21 : List (Nat × Instr × Nat) := [(0, .aload_n 0, 1), (1, .iload_n 1, 1), (2, .invokevirtual 53, 3), (5, .ifCond .eq 10, 3), (8, .iload_n 3, 1), (9, .invokestatic 46, 3), (12, .ifCond .ne 5, 3), (15, .iconst (-1), 1), (16, .ireturn, 1), (17, .aload_n 0, 1), (18, .getfield 11, 3), (21, .iload_n 1, 1), (22, .aaload, 1), (23, .astore 4, 2), (25, .aload_n 0, 1), (26, .aload 4, 2), (28, .getfield 56, 3), (31, .iload_n 2, 1), (32, .invokevirtual 59, 3), (35, .istore 5, 2), (37, .aload 4, 2), (39, .invokevirtual 63, 3), (42, .ifCond .eq 9, 3), (45, .iload 5, 2), (47, .iconst (-1), 1), (48, .if_icmp .ne 5, 3), (51, .iconst (-1), 1), (52, .ireturn, 1), (53, .aload 4, 2), (55, .aload 4, 2), (57, .getfield 56, 3), (60, .iload 5, 2), (62, .iload_n 3, 1), (63, .ixor, 1), (64, .invokevirtual 49, 3), (67, .aload 4, 2), (69, .getfield 67, 3), (72, .ireturn, 1)]
def sm_t22 : List (Nat × Instr × Nat) := [(0, .iload_n 1, 1), (1, .iconst 1, 1), (2, .if_icmp .lt 18, 3), (5, .iload_n 1, 1), (6, .bipush 9, 2), (8, .if_icmp .gt 12, 3), (11, .aload_n 0, 1), (12, .getfield 28, 3), (15, .bipush 8, 2), (17, .if_icmp .lt 5, 3), (20, .iconst (-1), 1), (21, .ireturn, 1), (22, .aload_n 0, 1), (23, .getfield 17, 3), (26, .aload_n 0, 1), (27, .getfield 28, 3), (30, .aaload, 1), (31, .iload_n 1, 1), (32, .aload_n 0, 1), (33, .getfield 31, 3), (36, .invokevirtual 70, 3), (39, .aload_n 0, 1), (40, .dup, 1), (41, .getfield 28, 3), (44, .iconst 1, 1), (45, .iadd, 1), (46, .putfield 28, 3), (49, .aload_n 0, 1), (50, .getfield 28, 3), (53, .iconst 1, 1), (54, .isub, 1), (55, .ireturn, 1)]
def sm_t23 : List (Nat × Instr × Nat) := [(0, .aload_n 0, 1), (1, .iload_n 1, 1), (2, .invokevirtual 71, 3), (5, .ifCond .eq 31, 3), (8, .aload_n 0, 1), (9, .iload_n 2, 1), (10, .invokevirtual 42, 3), (13, .ifCond .eq 23, 3), (16, .iload_n 3, 1), (17, .invokestatic 46, 3), (20, .ifCond .eq 16, 3), (23, .aload_n 0, 1), (24, .getfield 17, 3), (27, .iload_n 1, 1), (28, .aaload, 1), (29, .iload_n 2, 1), (30, .invokevirtual 74, 3), (33, .ifCond .eq 5, 3), (36, .iconst 0, 1), (37, .ireturn, 1), (38, .aload_n 0, 1), (39, .getfield 17, 3), (42, .iload_n 1, 1), (43, .aaload, 1), (44, .getfield 77, 3), (47, .iload_n 2, 1), (48, .iload_n 3, 1), (49, .iastore, 1), (50, .iconst 1, 1), (51, .ireturn, 1)]
def sm_t24 : List (Nat × Instr × Nat) := [(0, .iload_n 1, 1), (1, .iconst 1, 1), (2, .if_icmp .lt 24, 3), (5, .iload_n 1, 1), (6, .iload_n 2, 1), (7, .if_icmp .gt 19, 3), (10, .aload_n 0, 1), (11, .getfield 31, 3), (14, .iload_n 1, 1), (15, .iadd, 1), (16, .sipush 9999, 3), (19, .if_icmp .gt 7, 3), (22, .iconst 1, 1), (23, .goto 4, 3), (26, .iconst 0, 1), (27, .ireturn, 1)]
def sm_t25 : List (Nat × Instr × Nat) := [(0, .iconst 0, 1), (1, .istore_n 1, 1), (2, .iload_n 1, 1), (3, .aload_n 0, 1), (4, .getfield 28, 3), (7, .if_icmp .ge 66, 3), (10, .aload_n 0, 1), (11, .getfield 17, 3), (14, .iload_n 1, 1), (15, .aaload, 1), (16, .astore_n 2, 1), (17, .aload_n 2, 1), (18, .invokevirtual 174, 3), (21, .ifCond .ne 46, 3), (24, .aload_n 2, 1), (25, .invokevirtual 183, 3), (28, .aload_n 0, 1), (29, .getfield 31, 3), (32, .if_icmp .ne 35, 3), (35, .aload_n 0, 1), (36, .aload_n 2, 1), (37, .getfield 145, 3), (40, .invokevirtual 53, 3), (43, .ifCond .eq 16, 3), (46, .aload_n 0, 1), (47, .getfield 11, 3), (50, .aload_n 2, 1), (51, .getfield 145, 3), (54, .aaload, 1), (55, .iconst (-1), 1), (56, .putfield 166, 3), (59, .aload_n 2, 1), (60, .aload_n 0, 1), (61, .getfield 31, 3), (64, .invokevirtual 189, 3), (67, .iinc 1 1, 3), (70, .goto (-68), 3), (73, .return_, 1)]
def sm_t26 : List (Nat × Instr × Nat) := [(0, .aload_n 1, 1), (1, .getfield 148, 3), (4, .aload_n 0, 1), (5, .getfield 21, 3), (8, .if_icmp .lt 7, 3), (11, .iconst 1, 1), (12, .goto 4, 3), (15, .iconst 0, 1), (16, .ireturn, 1)]
def sm_t27 : List (Nat × Instr × Nat) := [(0, .aload_n 0, 1), (1, .getfield 17, 3), (4, .iload_n 1, 1), (5, .aaload, 1), (6, .getfield 155, 3), (9, .bipush 8, 2), (11, .imul, 1), (12, .iload_n 1, 1), (13, .iadd, 1), (14, .ireturn, 1)]
def sm_t28 : List (Nat × Instr × Nat) := [(0, .iconst (-1), 1), (1, .istore_n 2, 1), (2, .iconst 0, 1), (3, .istore_n 3, 1), (4, .iload_n 3, 1), (5, .aload_n 0, 1), (6, .getfield 28, 3), (9, .if_icmp .ge 75, 3), (12, .aload_n 0, 1), (13, .getfield 17, 3), (16, .iload_n 3, 1), (17, .aaload, 1), (18, .invokevirtual 174, 3), (21, .ifCond .eq 29, 3), (24, .aload_n 0, 1), (25, .aload_n 0, 1), (26, .getfield 17, 3), (29, .iload_n 3, 1), (30, .aaload, 1), (31, .invokevirtual 151, 3), (34, .ifCond .ne 16, 3), (37, .aload_n 0, 1), (38, .iload_n 3, 1), (39, .invokevirtual 195, 3), (42, .iload_n 1, 1), (43, .if_icmp .le 7, 3), (46, .iconst 1, 1), (47, .goto 4, 3), (50, .iconst 0, 1), (51, .istore 4, 2), (53, .iload 4, 2), (55, .ifCond .eq 23, 3), (58, .iload_n 2, 1), (59, .iconst (-1), 1), (60, .if_icmp .eq 16, 3), (63, .aload_n 0, 1), (64, .iload_n 3, 1), (65, .invokevirtual 195, 3), (68, .aload_n 0, 1), (69, .iload_n 2, 1), (70, .invokevirtual 195, 3), (73, .if_icmp .ge 5, 3), (76, .iload_n 3, 1), (77, .istore_n 2, 1), (78, .iinc 3 1, 3), (81, .goto (-77), 3), (84, .iload_n 2, 1), (85, .ireturn, 1)]
def sm_t29 : List (Nat × Instr × Nat) := [(0, .aload_n 1, 1), (1, .getfield 163, 3), (4, .aload_n 0, 1), (5, .getfield 37, 3), (8, .if_icmp .lt 7, 3), (11, .iconst 1, 1), (12, .goto 4, 3), (15, .iconst 0, 1), (16, .ireturn, 1)]
def sm_t30 : List (Nat × Instr × Nat) := [(0, .iconst (-1), 1), (1, .istore_n 2, 1), (2, .iconst 0, 1), (3, .istore_n 3, 1), (4, .iload_n 3, 1), (5, .aload_n 0, 1), (6, .getfield 25, 3), (9, .if_icmp .ge 87, 3), (12, .aload_n 0, 1), (13, .getfield 11, 3), (16, .iload_n 3, 1), (17, .aaload, 1), (18, .getfield 56, 3), (21, .iload_n 1, 1), (22, .if_icmp .ne 32, 3), (25, .aload_n 0, 1), (26, .getfield 11, 3), (29, .iload_n 3, 1), (30, .aaload, 1), (31, .invokevirtual 63, 3), (34, .ifCond .eq 20, 3), (37, .aload_n 0, 1), (38, .aload_n 0, 1), (39, .getfield 11, 3), (42, .iload_n 3, 1), (43, .aaload, 1), (44, .invokevirtual 211, 3), (47, .ifCond .ne 7, 3), (50, .iconst 1, 1), (51, .goto 4, 3), (54, .iconst 0, 1), (55, .istore 4, 2), (57, .iload 4, 2), (59, .ifCond .eq 31, 3), (62, .iload_n 2, 1), (63, .iconst (-1), 1), (64, .if_icmp .eq 24, 3), (67, .aload_n 0, 1), (68, .getfield 11, 3), (71, .iload_n 3, 1), (72, .aaload, 1), (73, .getfield 163, 3), (76, .aload_n 0, 1), (77, .getfield 11, 3), (80, .iload_n 2, 1), (81, .aaload, 1), (82, .getfield 163, 3), (85, .if_icmp .ge 5, 3), (88, .iload_n 3, 1), (89, .istore_n 2, 1), (90, .iinc 3 1, 3), (93, .goto (-89), 3), (96, .iload_n 2, 1), (97, .ireturn, 1)]
def sm_t31 : List (Nat × Instr × Nat) := [(0, .iconst 0, 1), (1, .istore_n 2, 1), (2, .iconst 0, 1), (3, .istore_n 3, 1), (4, .iload_n 3, 1), (5, .aload_n 0, 1), (6, .getfield 25, 3), (9, .if_icmp .ge 38, 3), (12, .aload_n 0, 1), (13, .getfield 11, 3), (16, .iload_n 3, 1), (17, .aaload, 1), (18, .getfield 56, 3), (21, .iload_n 1, 1), (22, .if_icmp .ne 19, 3), (25, .aload_n 0, 1), (26, .aload_n 0, 1), (27, .getfield 11, 3), (30, .iload_n 3, 1), (31, .aaload, 1), (32, .invokevirtual 211, 3), (35, .ifCond .ne 6, 3), (38, .iinc 2 1, 3), (41, .iinc 3 1, 3), (44, .goto (-40), 3), (47, .iload_n 2, 1), (48, .ireturn, 1)]
def sm_t32 : List (Nat × Instr × Nat) := [(0, .iconst (-1), 1), (1, .istore_n 2, 1), (2, .iconst 0, 1), (3, .istore_n 3, 1), (4, .iconst 0, 1), (5, .istore 4, 2), (7, .iload 4, 2), (9, .aload_n 0, 1), (10, .getfield 21, 3), (13, .if_icmp .ge 73, 3), (16, .aload_n 1, 1), (17, .iload 4, 2), (19, .invokevirtual 74, 3), (22, .ifCond .eq 7, 3), (25, .iconst (-1), 1), (26, .goto 9, 3), (29, .aload_n 0, 1), (30, .iload 4, 2), (32, .invokevirtual 205, 3), (35, .istore 5, 2), (37, .aload_n 0, 1), (38, .getfield 34, 3), (41, .ifCond .ne 8, 3), (44, .iload 4, 2), (46, .goto 9, 3), (49, .aload_n 0, 1), (50, .iload 4, 2), (52, .invokevirtual 208, 3), (55, .istore 6, 2), (57, .iload 5, 2), (59, .iconst (-1), 1), (60, .if_icmp .eq 20, 3), (63, .iload_n 2, 1), (64, .iconst (-1), 1), (65, .if_icmp .eq 9, 3), (68, .iload 6, 2), (70, .iload_n 3, 1), (71, .if_icmp .ge 9, 3), (74, .iload 5, 2), (76, .istore_n 2, 1), (77, .iload 6, 2), (79, .istore_n 3, 1), (80, .iinc 4 1, 3), (83, .goto (-76), 3), (86, .iload_n 2, 1), (87, .ireturn, 1)]
def sm_t33 : List (Nat × Instr × Nat) := [(0, .iconst (-1), 1), (1, .istore_n 1, 1), (2, .iconst 0, 1), (3, .istore_n 2, 1), (4, .iload_n 2, 1), (5, .aload_n 0, 1), (6, .getfield 28, 3), (9, .if_icmp .ge 94, 3), (12, .aload_n 0, 1), (13, .iload_n 1, 1), (14, .invokevirtual 192, 3), (17, .istore_n 3, 1), (18, .iload_n 3, 1), (19, .iconst (-1), 1), (20, .if_icmp .ne 4, 3), (23, .return_, 1), (24, .aload_n 0, 1), (25, .iload_n 3, 1), (26, .invokevirtual 195, 3), (29, .istore_n 1, 1), (30, .aload_n 0, 1), (31, .aload_n 0, 1), (32, .getfield 17, 3), (35, .iload_n 3, 1), (36, .aaload, 1), (37, .invokevirtual 198, 3), (40, .istore 4, 2), (42, .iload 4, 2), (44, .iconst (-1), 1), (45, .if_icmp .eq 52, 3), (48, .aload_n 0, 1), (49, .getfield 11, 3), (52, .iload 4, 2), (54, .aaload, 1), (55, .iload_n 3, 1), (56, .putfield 166, 3), (59, .aload_n 0, 1), (60, .getfield 11, 3), (63, .iload 4, 2), (65, .aaload, 1), (66, .dup, 1), (67, .getfield 163, 3), (70, .iconst 1, 1), (71, .iadd, 1), (72, .putfield 163, 3), (75, .aload_n 0, 1), (76, .getfield 17, 3), (79, .iload_n 3, 1), (80, .aaload, 1), (81, .iload 4, 2), (83, .aload_n 0, 1), (84, .getfield 11, 3), (87, .iload 4, 2), (89, .aaload, 1), (90, .aload_n 0, 1), (91, .getfield 31, 3), (94, .invokevirtual 201, 3), (97, .iinc 2 1, 3), (100, .goto (-96), 3), (103, .return_, 1)]
def sm_t34 : List (Nat × Instr × Nat) := [(0, .aload_n 0, 1), (1, .invokevirtual 177, 3), (4, .aload_n 0, 1), (5, .invokevirtual 180, 3), (8, .aload_n 0, 1), (9, .dup, 1), (10, .getfield 31, 3), (13, .iconst 1, 1), (14, .iadd, 1), (15, .putfield 31, 3), (18, .return_, 1)]
def sm_t35 : List (Nat × Instr × Nat) := [(0, .iload_n 1, 1), (1, .istore_n 2, 1), (2, .iconst 0, 1), (3, .istore_n 3, 1), (4, .iload_n 3, 1), (5, .aload_n 0, 1), (6, .getfield 28, 3), (9, .if_icmp .ge 35, 3), (12, .aload_n 0, 1), (13, .getfield 17, 3), (16, .iload_n 3, 1), (17, .aaload, 1), (18, .invokevirtual 174, 3), (21, .ifCond .ne 17, 3), (24, .iload_n 2, 1), (25, .aload_n 0, 1), (26, .getfield 17, 3), (29, .iload_n 3, 1), (30, .aaload, 1), (31, .invokevirtual 183, 3), (34, .invokestatic 186, 3), (37, .istore_n 2, 1), (38, .iinc 3 1, 3), (41, .goto (-37), 3), (44, .aload_n 0, 1), (45, .aload_n 0, 1), (46, .getfield 31, 3), (49, .iload_n 2, 1), (50, .invokestatic 99, 3), (53, .putfield 31, 3), (56, .return_, 1)]
def sm_t36 : List (Nat × Instr × Nat) := [(0, .aload_n 0, 1), (1, .iload_n 1, 1), (2, .bipush 99, 2), (4, .invokevirtual 81, 3), (7, .ifCond .ne 5, 3), (10, .iconst (-1), 1), (11, .ireturn, 1), (12, .aload_n 0, 1), (13, .getfield 31, 3), (16, .iload_n 1, 1), (17, .iadd, 1), (18, .istore_n 2, 1), (19, .iconst 0, 1), (20, .istore_n 3, 1), (21, .iload_n 3, 1), (22, .iload_n 1, 1), (23, .if_icmp .ge 26, 3), (26, .aload_n 0, 1), (27, .getfield 31, 3), (30, .iload_n 2, 1), (31, .if_icmp .ge 18, 3), (34, .aload_n 0, 1), (35, .invokevirtual 85, 3), (38, .aload_n 0, 1), (39, .iload_n 2, 1), (40, .invokevirtual 88, 3), (43, .iinc 3 1, 3), (46, .goto (-25), 3), (49, .aload_n 0, 1), (50, .getfield 31, 3), (53, .ireturn, 1)]
def sm_t37 : List (Nat × Instr × Nat) := [(0, .iconst 0, 1), (1, .istore_n 1, 1), (2, .iconst 0, 1), (3, .istore_n 2, 1), (4, .iload_n 2, 1), (5, .aload_n 0, 1), (6, .getfield 28, 3), (9, .if_icmp .ge 25, 3), (12, .aload_n 0, 1), (13, .aload_n 0, 1), (14, .getfield 17, 3), (17, .iload_n 2, 1), (18, .aaload, 1), (19, .invokevirtual 151, 3), (22, .ifCond .eq 6, 3), (25, .iinc 1 1, 3), (28, .iinc 2 1, 3), (31, .goto (-27), 3), (34, .iload_n 1, 1), (35, .ireturn, 1)]
def sm_t38 : List (Nat × Instr × Nat) := [(0, .aload_n 0, 1), (1, .invokevirtual 169, 3), (4, .aload_n 0, 1), (5, .getfield 28, 3), (8, .if_icmp .ne 7, 3), (11, .iconst 1, 1), (12, .goto 4, 3), (15, .iconst 0, 1), (16, .ireturn, 1)]
def sm_t39 : List (Nat × Instr × Nat) := [(0, .aload_n 0, 1), (1, .iload_n 1, 1), (2, .sipush 999, 3), (5, .invokevirtual 81, 3), (8, .ifCond .ne 5, 3), (11, .iconst (-1), 1), (12, .ireturn, 1), (13, .aload_n 0, 1), (14, .getfield 31, 3), (17, .iload_n 1, 1), (18, .iadd, 1), (19, .istore_n 2, 1), (20, .iconst 0, 1), (21, .istore_n 3, 1), (22, .iload_n 3, 1), (23, .iload_n 1, 1), (24, .if_icmp .ge 40, 3), (27, .aload_n 0, 1), (28, .getfield 31, 3), (31, .iload_n 2, 1), (32, .if_icmp .ge 32, 3), (35, .aload_n 0, 1), (36, .invokevirtual 92, 3), (39, .ifCond .ne 25, 3), (42, .aload_n 0, 1), (43, .invokevirtual 85, 3), (46, .aload_n 0, 1), (47, .invokevirtual 92, 3), (50, .ifCond .ne 8, 3), (53, .aload_n 0, 1), (54, .iload_n 2, 1), (55, .invokevirtual 88, 3), (58, .iinc 3 1, 3), (61, .goto (-39), 3), (64, .aload_n 0, 1), (65, .getfield 31, 3), (68, .ireturn, 1)]
def sm_t40 : List (Nat × Instr × Nat) := [(0, .aload_n 0, 1), (1, .getfield 21, 3), (4, .aload_n 1, 1), (5, .getfield 148, 3), (8, .isub, 1), (9, .istore_n 2, 1), (10, .iload_n 2, 1), (11, .ifCond .gt 8, 3), (14, .aload_n 0, 1), (15, .getfield 31, 3), (18, .ireturn, 1), (19, .aload_n 1, 1), (20, .invokevirtual 174, 3), (23, .ifCond .eq 15, 3), (26, .aload_n 0, 1), (27, .getfield 31, 3), (30, .aload_n 1, 1), (31, .getfield 139, 3), (34, .iload_n 2, 1), (35, .imul, 1), (36, .iadd, 1), (37, .ireturn, 1), (38, .aload_n 1, 1), (39, .invokevirtual 183, 3), (42, .aload_n 1, 1), (43, .getfield 139, 3), (46, .iload_n 2, 1), (47, .iconst 1, 1), (48, .isub, 1), (49, .imul, 1), (50, .iadd, 1), (51, .ireturn, 1)]
def sm_t41 : List (Nat × Instr × Nat) := [(0, .iconst 0, 1), (1, .istore_n 2, 1), (2, .iconst 0, 1), (3, .istore_n 3, 1), (4, .iload_n 3, 1), (5, .aload_n 0, 1), (6, .getfield 28, 3), (9, .if_icmp .ge 59, 3), (12, .aload_n 0, 1), (13, .getfield 17, 3), (16, .iload_n 3, 1), (17, .aaload, 1), (18, .astore 4, 2), (20, .aload 4, 2), (22, .iload_n 1, 1), (23, .invokevirtual 215, 3), (26, .ifCond .eq 19, 3), (29, .iload_n 2, 1), (30, .aload 4, 2), (32, .invokevirtual 183, 3), (35, .aload_n 0, 1), (36, .getfield 31, 3), (39, .isub, 1), (40, .iadd, 1), (41, .istore_n 2, 1), (42, .goto 20, 3), (45, .aload 4, 2), (47, .iload_n 1, 1), (48, .invokevirtual 74, 3), (51, .ifCond .ne 11, 3), (54, .iload_n 2, 1), (55, .aload 4, 2), (57, .getfield 139, 3), (60, .iadd, 1), (61, .istore_n 2, 1), (62, .iinc 3 1, 3), (65, .goto (-61), 3), (68, .iload_n 2, 1), (69, .ireturn, 1)]
def sm_t42 : List (Nat × Instr × Nat) := [(0, .iconst 0, 1), (1, .istore_n 2, 1), (2, .iconst 0, 1), (3, .istore_n 3, 1), (4, .iload_n 3, 1), (5, .aload_n 0, 1), (6, .getfield 25, 3), (9, .if_icmp .ge 25, 3), (12, .aload_n 0, 1), (13, .getfield 11, 3), (16, .iload_n 3, 1), (17, .aaload, 1), (18, .getfield 56, 3), (21, .iload_n 1, 1), (22, .if_icmp .ne 6, 3), (25, .iinc 2 1, 3), (28, .iinc 3 1, 3), (31, .goto (-27), 3), (34, .iload_n 2, 1), (35, .ireturn, 1)]
def sm_t43 : List (Nat × Instr × Nat) := [(0, .aload_n 0, 1), (1, .invokevirtual 92, 3), (4, .ifCond .eq 5, 3), (7, .iconst (-1), 1), (8, .ireturn, 1), (9, .aload_n 0, 1), (10, .getfield 31, 3), (13, .istore_n 1, 1), (14, .iconst 0, 1), (15, .istore_n 2, 1), (16, .iload_n 2, 1), (17, .aload_n 0, 1), (18, .getfield 28, 3), (21, .if_icmp .ge 24, 3), (24, .iload_n 1, 1), (25, .aload_n 0, 1), (26, .aload_n 0, 1), (27, .getfield 17, 3), (30, .iload_n 2, 1), (31, .aaload, 1), (32, .invokevirtual 95, 3), (35, .invokestatic 99, 3), (38, .istore_n 1, 1), (39, .iinc 2 1, 3), (42, .goto (-26), 3), (45, .iconst 0, 1), (46, .istore_n 2, 1), (47, .iload_n 2, 1), (48, .aload_n 0, 1), (49, .getfield 21, 3), (52, .if_icmp .ge 55, 3), (55, .aload_n 0, 1), (56, .iload_n 2, 1), (57, .invokevirtual 104, 3), (60, .istore_n 3, 1), (61, .aload_n 0, 1), (62, .iload_n 2, 1), (63, .invokevirtual 108, 3), (66, .istore 4, 2), (68, .iload 4, 2), (70, .ifCond .le 25, 3), (73, .iload_n 1, 1), (74, .aload_n 0, 1), (75, .getfield 31, 3), (78, .iload_n 3, 1), (79, .iload 4, 2), (81, .iadd, 1), (82, .iconst 1, 1), (83, .isub, 1), (84, .iload 4, 2), (86, .idiv, 1), (87, .iadd, 1), (88, .invokestatic 99, 3), (91, .istore_n 1, 1), (92, .goto 9, 3), (95, .iload_n 3, 1), (96, .ifCond .le 5, 3), (99, .iconst (-1), 1), (100, .ireturn, 1), (101, .iinc 2 1, 3), (104, .goto (-57), 3), (107, .iload_n 1, 1), (108, .ireturn, 1)]
def sm_t44 : List (Nat × Instr × Nat) := [(0, .aload_n 0, 1), (1, .iload_n 1, 1), (2, .iload_n 2, 1), (3, .invokevirtual 111, 3), (6, .ifCond .ne 5, 3), (9, .iconst (-1), 1), (10, .ireturn, 1), (11, .aload_n 0, 1), (12, .getfield 17, 3), (15, .iload_n 1, 1), (16, .aaload, 1), (17, .astore 4, 2), (19, .iload_n 3, 1), (20, .tableswitch 64 0 3 #[32, 40, 48, 56], 32), (52, .aload 4, 2), (54, .getfield 114, 3), (57, .iload_n 2, 1), (58, .iaload, 1), (59, .ireturn, 1), (60, .aload 4, 2), (62, .getfield 116, 3), (65, .iload_n 2, 1), (66, .iaload, 1), (67, .ireturn, 1), (68, .aload 4, 2), (70, .getfield 119, 3), (73, .iload_n 2, 1), (74, .iaload, 1), (75, .ireturn, 1), (76, .aload 4, 2), (78, .getfield 122, 3), (81, .iload_n 2, 1), (82, .iaload, 1), (83, .ireturn, 1), (84, .iconst (-1), 1), (85, .ireturn, 1)]
def sm_t45 : List (Nat × Instr × Nat) := [(0, .iload_n 0, 1), (1, .iload_n 0, 1), (2, .iconst 1, 1), (3, .iushr, 1), (4, .ldc_w 265, 3), (7, .iand, 1), (8, .isub, 1), (9, .istore_n 0, 1), (10, .iload_n 0, 1), (11, .ldc_w 266, 3), (14, .iand, 1), (15, .iload_n 0, 1), (16, .iconst 2, 1), (17, .iushr, 1), (18, .ldc_w 266, 3), (21, .iand, 1), (22, .iadd, 1), (23, .istore_n 0, 1), (24, .iload_n 0, 1), (25, .iload_n 0, 1), (26, .iconst 4, 1), (27, .iushr, 1), (28, .iadd, 1), (29, .ldc_w 267, 3), (32, .iand, 1), (33, .istore_n 0, 1), (34, .iload_n 0, 1), (35, .iload_n 0, 1), (36, .bipush 8, 2), (38, .iushr, 1), (39, .iadd, 1), (40, .istore_n 0, 1), (41, .iload_n 0, 1), (42, .iload_n 0, 1), (43, .bipush 16, 2), (45, .iushr, 1), (46, .iadd, 1), (47, .istore_n 0, 1), (48, .iload_n 0, 1), (49, .bipush 63, 2), (51, .iand, 1), (52, .ireturn, 1)]
def sm_t46 : List (Nat × Instr × Nat) := [(0, .aload_n 0, 1), (1, .getfield 17, 3), (4, .iload_n 1, 1), (5, .aaload, 1), (6, .astore_n 3, 1), (7, .iconst (-1), 1), (8, .istore 4, 2), (10, .bipush 17, 2), (12, .istore 5, 2), (14, .iconst 0, 1), (15, .istore 6, 2), (17, .iload 6, 2), (19, .aload_n 0, 1), (20, .getfield 25, 3), (23, .if_icmp .ge 60, 3), (26, .aload_n 3, 1), (27, .getfield 114, 3), (30, .iload_n 2, 1), (31, .iaload, 1), (32, .aload_n 0, 1), (33, .getfield 11, 3), (36, .iload 6, 2), (38, .aaload, 1), (39, .getfield 67, 3), (42, .ixor, 1), (43, .invokestatic 218, 3), (46, .istore 7, 2), (48, .aload_n 0, 1), (49, .getfield 11, 3), (52, .iload 6, 2), (54, .aaload, 1), (55, .getfield 56, 3), (58, .iload_n 2, 1), (59, .if_icmp .ne 18, 3), (62, .iload 7, 2), (64, .iload 5, 2), (66, .if_icmp .ge 11, 3), (69, .iload 6, 2), (71, .istore 4, 2), (73, .iload 7, 2), (75, .istore 5, 2), (77, .iinc 6 1, 3), (80, .goto (-63), 3), (83, .iconst 0, 1), (84, .istore 6, 2), (86, .iload 6, 2), (88, .aload_n 0, 1), (89, .getfield 28, 3), (92, .if_icmp .ge 77, 3), (95, .aload_n 3, 1), (96, .getfield 114, 3), (99, .iload_n 2, 1), (100, .iaload, 1), (101, .aload_n 0, 1), (102, .getfield 17, 3), (105, .iload 6, 2), (107, .aaload, 1), (108, .getfield 114, 3), (111, .iload_n 2, 1), (112, .iaload, 1), (113, .ixor, 1), (114, .invokestatic 218, 3), (117, .istore 7, 2), (119, .iload 6, 2), (121, .iload_n 1, 1), (122, .if_icmp .eq 41, 3), (125, .aload_n 0, 1), (126, .getfield 17, 3), (129, .iload 6, 2), (131, .aaload, 1), (132, .iload_n 2, 1), (133, .aload_n 3, 1), (134, .getfield 119, 3), (137, .iload_n 2, 1), (138, .iaload, 1), (139, .invokevirtual 223, 3), (142, .ifCond .eq 21, 3), (145, .iload 7, 2), (147, .iload 5, 2), (149, .if_icmp .ge 14, 3), (152, .bipush (-2), 2), (154, .iload 6, 2), (156, .isub, 1), (157, .istore 4, 2), (159, .iload 7, 2), (161, .istore 5, 2), (163, .iinc 6 1, 3), (166, .goto (-80), 3), (169, .iload 4, 2), (171, .ireturn, 1)]
def sm_t47 : List (Nat × Instr × Nat) := [(0, .aload_n 0, 1), (1, .iload_n 1, 1), (2, .iload_n 2, 1), (3, .invokevirtual 111, 3), (6, .ifCond .eq 12, 3), (9, .aload_n 0, 1), (10, .iload_n 1, 1), (11, .iload_n 2, 1), (12, .invokevirtual 125, 3), (15, .goto 4, 3), (18, .iconst (-1), 1), (19, .ireturn, 1)]
def sm_t48 : List (Nat × Instr × Nat) := [(0, .iload_n 3, 1), (1, .iconst (-1), 1), (2, .if_icmp .ne 5, 3), (5, .iconst 0, 1), (6, .ireturn, 1), (7, .aload_n 0, 1), (8, .iload_n 2, 1), (9, .iload_n 3, 1), (10, .ifCond .lt 7, 3), (13, .iload_n 3, 1), (14, .goto 6, 3), (17, .iload_n 3, 1), (18, .iconst 1, 1), (19, .iadd, 1), (20, .invokevirtual 59, 3), (23, .istore 4, 2), (25, .aload_n 0, 1), (26, .getfield 17, 3), (29, .iload_n 1, 1), (30, .aaload, 1), (31, .getfield 114, 3), (34, .iload_n 2, 1), (35, .iaload, 1), (36, .iload 4, 2), (38, .ixor, 1), (39, .invokestatic 218, 3), (42, .ireturn, 1)]
def sm_t49 : List (Nat × Instr × Nat) := [(0, .aload_n 0, 1), (1, .iload_n 1, 1), (2, .invokevirtual 42, 3), (5, .ifCond .ne 5, 3), (8, .iconst (-1), 1), (9, .ireturn, 1), (10, .iconst 0, 1), (11, .istore_n 2, 1), (12, .iconst 0, 1), (13, .istore_n 3, 1), (14, .iload_n 3, 1), (15, .aload_n 0, 1), (16, .getfield 28, 3), (19, .if_icmp .ge 37, 3), (22, .aload_n 0, 1), (23, .getfield 17, 3), (26, .iload_n 3, 1), (27, .aaload, 1), (28, .iload_n 1, 1), (29, .invokevirtual 74, 3), (32, .ifCond .eq 18, 3), (35, .iload_n 2, 1), (36, .aload_n 0, 1), (37, .iload_n 3, 1), (38, .iload_n 1, 1), (39, .aload_n 0, 1), (40, .iload_n 3, 1), (41, .iload_n 1, 1), (42, .invokevirtual 125, 3), (45, .invokevirtual 128, 3), (48, .iadd, 1), (49, .istore_n 2, 1), (50, .iinc 3 1, 3), (53, .goto (-39), 3), (56, .iload_n 2, 1), (57, .ireturn, 1)]
def sm_t50 : List (Nat × Instr × Nat) := [(0, .aload_n 0, 1), (1, .iload_n 1, 1), (2, .invokevirtual 71, 3), (5, .ifCond .eq 11, 3), (8, .aload_n 0, 1), (9, .iload_n 2, 1), (10, .invokevirtual 71, 3), (13, .ifCond .ne 5, 3), (16, .iconst (-1), 1), (17, .ireturn, 1), (18, .iconst 0, 1), (19, .istore_n 3, 1), (20, .iconst 0, 1), (21, .istore 4, 2), (23, .iload 4, 2), (25, .aload_n 0, 1), (26, .getfield 21, 3), (29, .if_icmp .ge 53, 3), (32, .aload_n 0, 1), (33, .getfield 17, 3), (36, .iload_n 1, 1), (37, .aaload, 1), (38, .iload 4, 2), (40, .invokevirtual 74, 3), (43, .ifCond .eq 33, 3), (46, .aload_n 0, 1), (47, .getfield 17, 3), (50, .iload_n 1, 1), (51, .aaload, 1), (52, .getfield 116, 3), (55, .iload 4, 2), (57, .iaload, 1), (58, .aload_n 0, 1), (59, .getfield 17, 3), (62, .iload_n 2, 1), (63, .aaload, 1), (64, .getfield 116, 3), (67, .iload 4, 2), (69, .iaload, 1), (70, .if_icmp .ne 6, 3), (73, .iinc 3 1, 3), (76, .iinc 4 1, 3), (79, .goto (-56), 3), (82, .iload_n 3, 1), (83, .ireturn, 1)]
def sm_t51 : List (Nat × Instr × Nat) := [(0, .aload_n 0, 1), (1, .aload_n 1, 1), (2, .invokevirtual 151, 3), (5, .ifCond .eq 5, 3), (8, .iconst 2, 1), (9, .ireturn, 1), (10, .aload_n 1, 1), (11, .invokevirtual 174, 3), (14, .ifCond .eq 7, 3), (17, .iconst 0, 1), (18, .goto 4, 3), (21, .iconst 1, 1), (22, .ireturn, 1)]
def sm_t52 : List (Nat × Instr × Nat) := [(0, .aload_n 0, 1), (1, .iload_n 1, 1), (2, .invokevirtual 71, 3), (5, .ifCond .ne 13, 3), (8, .new 132, 3), (11, .dup, 1), (12, .ldc 134, 2), (14, .invokespecial 136, 3), (17, .athrow, 1), (18, .aload_n 0, 1), (19, .getfield 17, 3), (22, .iload_n 1, 1), (23, .aaload, 1), (24, .astore_n 3, 1), (25, .iload_n 2, 1), (26, .tableswitch 72 0 4 #[34, 39, 45, 50, 55], 34), (60, .aload_n 3, 1), (61, .getfield 139, 3), (64, .ireturn, 1), (65, .aload_n 0, 1), (66, .aload_n 3, 1), (67, .invokevirtual 142, 3), (70, .ireturn, 1), (71, .aload_n 3, 1), (72, .getfield 145, 3), (75, .ireturn, 1), (76, .aload_n 3, 1), (77, .getfield 148, 3), (80, .ireturn, 1), (81, .aload_n 0, 1), (82, .aload_n 3, 1), (83, .invokevirtual 151, 3), (86, .ifCond .eq 10, 3), (89, .aload_n 3, 1), (90, .getfield 155, 3), (93, .goto 4, 3), (96, .iconst (-1), 1), (97, .ireturn, 1), (98, .new 158, 3), (101, .dup, 1), (102, .ldc 160, 2), (104, .invokespecial 162, 3), (107, .athrow, 1)]
def sm_t53 : List (Nat × Instr × Nat) := [(0, .aload_n 0, 1), (1, .iload_n 1, 1), (2, .invokevirtual 53, 3), (5, .ifCond .ne 5, 3), (8, .iconst (-1), 1), (9, .ireturn, 1), (10, .aload_n 0, 1), (11, .getfield 11, 3), (14, .iload_n 1, 1), (15, .aaload, 1), (16, .astore_n 3, 1), (17, .iload_n 2, 1), (18, .tableswitch 50 0 3 #[30, 35, 40, 45], 30), (48, .aload_n 3, 1), (49, .getfield 56, 3), (52, .ireturn, 1), (53, .aload_n 3, 1), (54, .getfield 67, 3), (57, .ireturn, 1), (58, .aload_n 3, 1), (59, .getfield 163, 3), (62, .ireturn, 1), (63, .aload_n 3, 1), (64, .getfield 166, 3), (67, .ireturn, 1), (68, .iconst (-1), 1), (69, .ireturn, 1)]
def sm_t54 : List (Nat × Instr × Nat) := [(0, .iload_n 1, 1), (1, .tableswitch 60 0 4 #[35, 40, 45, 50, 55], 35), (36, .aload_n 0, 1), (37, .getfield 21, 3), (40, .ireturn, 1), (41, .aload_n 0, 1), (42, .getfield 25, 3), (45, .ireturn, 1), (46, .aload_n 0, 1), (47, .getfield 28, 3), (50, .ireturn, 1), (51, .aload_n 0, 1), (52, .getfield 31, 3), (55, .ireturn, 1), (56, .aload_n 0, 1), (57, .invokevirtual 169, 3), (60, .ireturn, 1), (61, .iconst (-1), 1), (62, .ireturn, 1)]
def sm_t55 : List (Nat × Instr × Nat) := [(0, .aload_n 0, 1), (1, .getfield 60, 3), (4, .ireturn, 1)]
def sm_t56 : List (Nat × Instr × Nat) := [(0, .aload_n 0, 1), (1, .iconst 0, 1), (2, .putfield 60, 3), (5, .iload_n 1, 1), (6, .iconst 1, 1), (7, .if_icmp .lt 9, 3), (10, .iload_n 1, 1), (11, .bipush 8, 2), (13, .if_icmp .le 5, 3), (16, .iconst 0, 1), (17, .ireturn, 1), (18, .aload_n 0, 1), (19, .iload_n 1, 1), (20, .putfield 7, 3), (23, .aload_n 0, 1), (24, .iconst 0, 1), (25, .putfield 63, 3), (28, .aload_n 0, 1), (29, .iconst 0, 1), (30, .putfield 66, 3), (33, .aload_n 0, 1), (34, .iconst 0, 1), (35, .putfield 69, 3), (38, .iconst 1, 1), (39, .ireturn, 1)]
def sm_t57 : List (Nat × Instr × Nat) := [(0, .aload_n 0, 1), (1, .iconst 0, 1), (2, .putfield 60, 3), (5, .iload_n 1, 1), (6, .ifCond .lt 8, 3), (9, .iload_n 1, 1), (10, .iconst 1, 1), (11, .if_icmp .le 5, 3), (14, .iconst 0, 1), (15, .ireturn, 1), (16, .aload_n 0, 1), (17, .iload_n 1, 1), (18, .putfield 72, 3), (21, .iconst 1, 1), (22, .ireturn, 1)]
def sm_t58 : List (Nat × Instr × Nat) := [(0, .aload_n 0, 1), (1, .iconst 0, 1), (2, .putfield 60, 3), (5, .iload_n 1, 1), (6, .iconst 1, 1), (7, .if_icmp .lt 9, 3), (10, .iload_n 1, 1), (11, .bipush 99, 2), (13, .if_icmp .le 5, 3), (16, .iconst 0, 1), (17, .ireturn, 1), (18, .aload_n 0, 1), (19, .iload_n 1, 1), (20, .putfield 57, 3), (23, .iconst 1, 1), (24, .ireturn, 1)]
def sm_t59 : List (Nat × Instr × Nat) := [(0, .iload_n 0, 1), (1, .ifCond .lt 13, 3), (4, .iload_n 0, 1), (5, .ldc 75, 2), (7, .if_icmp .gt 7, 3), (10, .iconst 1, 1), (11, .goto 4, 3), (14, .iconst 0, 1), (15, .ireturn, 1)]
def sm_t60 : List (Nat × Instr × Nat) := [(0, .iload_n 1, 1), (1, .ifCond .lt 15, 3), (4, .iload_n 1, 1), (5, .aload_n 0, 1), (6, .getfield 63, 3), (9, .if_icmp .ge 7, 3), (12, .iconst 1, 1), (13, .goto 4, 3), (16, .iconst 0, 1), (17, .ireturn, 1)]
def sm_t61 : List (Nat × Instr × Nat) := [(0, .iload_n 1, 1), (1, .ifCond .lt 15, 3), (4, .iload_n 1, 1), (5, .aload_n 0, 1), (6, .getfield 66, 3), (9, .if_icmp .ge 7, 3), (12, .iconst 1, 1), (13, .goto 4, 3), (16, .iconst 0, 1), (17, .ireturn, 1)]
def sm_t62 : List (Nat × Instr × Nat) := [(0, .iload_n 1, 1), (1, .ifCond .lt 15, 3), (4, .iload_n 1, 1), (5, .aload_n 0, 1), (6, .getfield 7, 3), (9, .if_icmp .ge 7, 3), (12, .iconst 1, 1), (13, .goto 4, 3), (16, .iconst 0, 1), (17, .ireturn, 1)]
def sm_t63 : List (Nat × Instr × Nat) := [(0, .aload_n 0, 1), (1, .iconst 0, 1), (2, .putfield 60, 3), (5, .aload_n 0, 1), (6, .getfield 63, 3), (9, .bipush 20, 2), (11, .if_icmp .eq 18, 3), (14, .aload_n 0, 1), (15, .iload_n 1, 1), (16, .invokevirtual 76, 3), (19, .ifCond .eq 10, 3), (22, .iload_n 2, 1), (23, .invokestatic 80, 3), (26, .ifCond .ne 5, 3), (29, .iconst (-1), 1), (30, .ireturn, 1), (31, .aload_n 0, 1), (32, .getfield 13, 3), (35, .aload_n 0, 1), (36, .getfield 63, 3), (39, .iload_n 1, 1), (40, .iastore, 1), (41, .aload_n 0, 1), (42, .getfield 17, 3), (45, .aload_n 0, 1), (46, .getfield 63, 3), (49, .iload_n 2, 1), (50, .iastore, 1), (51, .aload_n 0, 1), (52, .getfield 20, 3), (55, .aload_n 0, 1), (56, .getfield 63, 3), (59, .iconst 0, 1), (60, .iastore, 1), (61, .aload_n 0, 1), (62, .getfield 23, 3), (65, .aload_n 0, 1), (66, .getfield 63, 3), (69, .iconst (-1), 1), (70, .iastore, 1), (71, .aload_n 0, 1), (72, .dup, 1), (73, .getfield 63, 3), (76, .iconst 1, 1), (77, .iadd, 1), (78, .putfield 63, 3), (81, .aload_n 0, 1), (82, .getfield 63, 3), (85, .iconst 1, 1), (86, .isub, 1), (87, .ireturn, 1)]
def sm_t64 : List (Nat × Instr × Nat) := [(0, .aload_n 0, 1), (1, .iconst 0, 1), (2, .putfield 60, 3), (5, .aload_n 0, 1), (6, .iload_n 1, 1), (7, .invokevirtual 83, 3), (10, .ifCond .eq 20, 3), (13, .aload_n 0, 1), (14, .getfield 23, 3), (17, .iload_n 1, 1), (18, .iaload, 1), (19, .iconst (-1), 1), (20, .if_icmp .ne 10, 3), (23, .iload_n 3, 1), (24, .invokestatic 80, 3), (27, .ifCond .ne 5, 3), (30, .iconst (-1), 1), (31, .ireturn, 1), (32, .iconst 0, 1), (33, .istore 4, 2), (35, .iload_n 2, 1), (36, .ifCond .lt 39, 3), (39, .aload_n 0, 1), (40, .iload_n 2, 1), (41, .invokevirtual 83, 3), (44, .ifCond .eq 18, 3), (47, .aload_n 0, 1), (48, .getfield 13, 3), (51, .iload_n 2, 1), (52, .iaload, 1), (53, .aload_n 0, 1), (54, .getfield 13, 3), (57, .iload_n 1, 1), (58, .iaload, 1), (59, .if_icmp .eq 5, 3), (62, .iconst (-1), 1), (63, .ireturn, 1), (64, .aload_n 0, 1), (65, .getfield 17, 3), (68, .iload_n 2, 1), (69, .iaload, 1), (70, .istore 4, 2), (72, .goto 58, 3), (75, .iconst (-1), 1), (76, .iload_n 2, 1), (77, .isub, 1), (78, .istore 5, 2), (80, .aload_n 0, 1), (81, .iload 5, 2), (83, .invokevirtual 86, 3), (86, .ifCond .eq 23, 3), (89, .aload_n 0, 1), (90, .getfield 41, 3), (93, .bipush 8, 2), (95, .iload 5, 2), (97, .imul, 1), (98, .aload_n 0, 1), (99, .getfield 13, 3), (102, .iload_n 1, 1), (103, .iaload, 1), (104, .iadd, 1), (105, .baload, 1), (106, .ifCond .ne 5, 3), (109, .iconst (-1), 1), (110, .ireturn, 1), (111, .aload_n 0, 1), (112, .getfield 45, 3), (115, .bipush 8, 2), (117, .iload 5, 2), (119, .imul, 1), (120, .aload_n 0, 1), (121, .getfield 13, 3), (124, .iload_n 1, 1), (125, .iaload, 1), (126, .iadd, 1), (127, .iaload, 1), (128, .istore 4, 2), (130, .aload_n 0, 1), (131, .getfield 17, 3), (134, .iload_n 1, 1), (135, .iload 4, 2), (137, .iload_n 3, 1), (138, .ixor, 1), (139, .iastore, 1), (140, .aload_n 0, 1), (141, .getfield 20, 3), (144, .iload_n 1, 1), (145, .iconst 0, 1), (146, .iastore, 1), (147, .aload_n 0, 1), (148, .getfield 17, 3), (151, .iload_n 1, 1), (152, .iaload, 1), (153, .ireturn, 1)]
def sm_t65 : List (Nat × Instr × Nat) := [(0, .aload_n 0, 1), (1, .iconst 0, 1), (2, .putfield 60, 3), (5, .aload_n 0, 1), (6, .getfield 66, 3), (9, .bipush 8, 2), (11, .if_icmp .eq 14, 3), (14, .iload_n 1, 1), (15, .iconst 1, 1), (16, .if_icmp .lt 9, 3), (19, .iload_n 1, 1), (20, .bipush 9, 2), (22, .if_icmp .le 5, 3), (25, .iconst (-1), 1), (26, .ireturn, 1), (27, .aload_n 0, 1), (28, .getfield 26, 3), (31, .aload_n 0, 1), (32, .getfield 66, 3), (35, .iload_n 1, 1), (36, .iastore, 1), (37, .aload_n 0, 1), (38, .getfield 29, 3), (41, .aload_n 0, 1), (42, .getfield 66, 3), (45, .aload_n 0, 1), (46, .getfield 69, 3), (49, .iastore, 1), (50, .aload_n 0, 1), (51, .getfield 32, 3), (54, .aload_n 0, 1), (55, .getfield 66, 3), (58, .iconst (-1), 1), (59, .iastore, 1), (60, .aload_n 0, 1), (61, .getfield 35, 3), (64, .aload_n 0, 1), (65, .getfield 66, 3), (68, .iconst (-1), 1), (69, .iastore, 1), (70, .iconst 0, 1), (71, .istore_n 2, 1), (72, .iload_n 2, 1), (73, .bipush 8, 2), (75, .if_icmp .ge 39, 3), (78, .aload_n 0, 1), (79, .getfield 38, 3), (82, .bipush 8, 2), (84, .aload_n 0, 1), (85, .getfield 66, 3), (88, .imul, 1), (89, .iload_n 2, 1), (90, .iadd, 1), (91, .iconst 0, 1), (92, .iastore, 1), (93, .aload_n 0, 1), (94, .getfield 41, 3), (97, .bipush 8, 2), (99, .aload_n 0, 1), (100, .getfield 66, 3), (103, .imul, 1), (104, .iload_n 2, 1), (105, .iadd, 1), (106, .iconst 0, 1), (107, .bastore, 1), (108, .iinc 2 1, 3), (111, .goto (-39), 3), (114, .aload_n 0, 1), (115, .dup, 1), (116, .getfield 66, 3), (119, .iconst 1, 1), (120, .iadd, 1), (121, .putfield 66, 3), (124, .aload_n 0, 1), (125, .getfield 66, 3), (128, .iconst 1, 1), (129, .isub, 1), (130, .ireturn, 1)]
def sm_t66 : List (Nat × Instr × Nat) := [(0, .aload_n 0, 1), (1, .iconst 0, 1), (2, .putfield 60, 3), (5, .aload_n 0, 1), (6, .iload_n 1, 1), (7, .invokevirtual 86, 3), (10, .ifCond .eq 32, 3), (13, .aload_n 0, 1), (14, .iload_n 2, 1), (15, .invokevirtual 76, 3), (18, .ifCond .eq 24, 3), (21, .iload_n 3, 1), (22, .invokestatic 80, 3), (25, .ifCond .eq 17, 3), (28, .aload_n 0, 1), (29, .getfield 41, 3), (32, .bipush 8, 2), (34, .iload_n 1, 1), (35, .imul, 1), (36, .iload_n 2, 1), (37, .iadd, 1), (38, .baload, 1), (39, .ifCond .eq 5, 3), (42, .iconst 0, 1), (43, .ireturn, 1), (44, .aload_n 0, 1), (45, .getfield 38, 3), (48, .bipush 8, 2), (50, .iload_n 1, 1), (51, .imul, 1), (52, .iload_n 2, 1), (53, .iadd, 1), (54, .iload_n 3, 1), (55, .iastore, 1), (56, .iconst 1, 1), (57, .ireturn, 1)]
def sm_t67 : List (Nat × Instr × Nat) := [(0, .iconst 0, 1), (1, .istore_n 2, 1), (2, .iconst 0, 1), (3, .istore_n 3, 1), (4, .iload_n 3, 1), (5, .aload_n 0, 1), (6, .getfield 7, 3), (9, .if_icmp .ge 31, 3), (12, .iload_n 2, 1), (13, .aload_n 0, 1), (14, .getfield 41, 3), (17, .bipush 8, 2), (19, .iload_n 1, 1), (20, .imul, 1), (21, .iload_n 3, 1), (22, .iadd, 1), (23, .baload, 1), (24, .ifCond .eq 7, 3), (27, .iconst 1, 1), (28, .goto 4, 3), (31, .iconst 0, 1), (32, .iadd, 1), (33, .istore_n 2, 1), (34, .iinc 3 1, 3), (37, .goto (-33), 3), (40, .iload_n 2, 1), (41, .ireturn, 1)]
def sm_t68 : List (Nat × Instr × Nat) := [(0, .aload_n 0, 1), (1, .getfield 32, 3), (4, .iload_n 1, 1), (5, .iaload, 1), (6, .istore_n 2, 1), (7, .bipush 8, 2), (9, .iload_n 1, 1), (10, .imul, 1), (11, .aload_n 0, 1), (12, .getfield 13, 3), (15, .iload_n 2, 1), (16, .iaload, 1), (17, .iadd, 1), (18, .istore_n 3, 1), (19, .aload_n 0, 1), (20, .getfield 41, 3), (23, .iload_n 3, 1), (24, .iconst 1, 1), (25, .bastore, 1), (26, .aload_n 0, 1), (27, .getfield 45, 3), (30, .iload_n 3, 1), (31, .dup2, 1), (32, .iaload, 1), (33, .aload_n 0, 1), (34, .getfield 38, 3), (37, .iload_n 3, 1), (38, .iaload, 1), (39, .ixor, 1), (40, .iastore, 1), (41, .aload_n 0, 1), (42, .getfield 54, 3), (45, .iload_n 3, 1), (46, .aload_n 0, 1), (47, .getfield 69, 3), (50, .iastore, 1), (51, .aload_n 0, 1), (52, .getfield 23, 3), (55, .iload_n 2, 1), (56, .iconst (-1), 1), (57, .iastore, 1), (58, .aload_n 0, 1), (59, .getfield 32, 3), (62, .iload_n 1, 1), (63, .iconst (-1), 1), (64, .iastore, 1), (65, .aload_n 0, 1), (66, .getfield 29, 3), (69, .iload_n 1, 1), (70, .aload_n 0, 1), (71, .getfield 69, 3), (74, .iastore, 1), (75, .aload_n 0, 1), (76, .iload_n 1, 1), (77, .invokevirtual 89, 3), (80, .aload_n 0, 1), (81, .getfield 7, 3), (84, .if_icmp .ne 13, 3), (87, .aload_n 0, 1), (88, .getfield 35, 3), (91, .iload_n 1, 1), (92, .aload_n 0, 1), (93, .getfield 69, 3), (96, .iastore, 1), (97, .return_, 1)]
def sm_t69 : List (Nat × Instr × Nat) := [(0, .aload_n 0, 1), (1, .getfield 23, 3), (4, .iload_n 1, 1), (5, .iaload, 1), (6, .iconst (-1), 1), (7, .if_icmp .ne 20, 3), (10, .aload_n 0, 1), (11, .getfield 20, 3), (14, .iload_n 1, 1), (15, .iaload, 1), (16, .aload_n 0, 1), (17, .getfield 57, 3), (20, .if_icmp .ge 7, 3), (23, .iconst 1, 1), (24, .goto 4, 3), (27, .iconst 0, 1), (28, .ireturn, 1)]
def sm_t70 : List (Nat × Instr × Nat) := [(0, .iconst 0, 1), (1, .istore_n 2, 1), (2, .iload_n 2, 1), (3, .aload_n 0, 1), (4, .getfield 63, 3), (7, .if_icmp .ge 29, 3), (10, .aload_n 0, 1), (11, .getfield 13, 3), (14, .iload_n 2, 1), (15, .iaload, 1), (16, .iload_n 1, 1), (17, .if_icmp .ne 13, 3), (20, .aload_n 0, 1), (21, .iload_n 2, 1), (22, .invokevirtual 93, 3), (25, .ifCond .eq 5, 3), (28, .iconst 1, 1), (29, .ireturn, 1), (30, .iinc 2 1, 3), (33, .goto (-31), 3), (36, .iconst 0, 1), (37, .ireturn, 1)]
def sm_t71 : List (Nat × Instr × Nat) := [(0, .iconst 0, 1), (1, .istore_n 2, 1), (2, .iconst 0, 1), (3, .istore_n 3, 1), (4, .iload_n 3, 1), (5, .aload_n 0, 1), (6, .getfield 63, 3), (9, .if_icmp .ge 40, 3), (12, .iload_n 2, 1), (13, .aload_n 0, 1), (14, .getfield 13, 3), (17, .iload_n 3, 1), (18, .iaload, 1), (19, .iload_n 1, 1), (20, .if_icmp .ne 20, 3), (23, .aload_n 0, 1), (24, .getfield 20, 3), (27, .iload_n 3, 1), (28, .iaload, 1), (29, .aload_n 0, 1), (30, .getfield 57, 3), (33, .if_icmp .ge 7, 3), (36, .iconst 1, 1), (37, .goto 4, 3), (40, .iconst 0, 1), (41, .iadd, 1), (42, .istore_n 2, 1), (43, .iinc 3 1, 3), (46, .goto (-42), 3), (49, .iload_n 2, 1), (50, .ireturn, 1)]
def sm_t72 : List (Nat × Instr × Nat) := [(0, .iconst (-1), 1), (1, .istore_n 2, 1), (2, .iconst 0, 1), (3, .istore_n 3, 1), (4, .iload_n 3, 1), (5, .aload_n 0, 1), (6, .getfield 7, 3), (9, .if_icmp .ge 61, 3), (12, .aload_n 0, 1), (13, .getfield 41, 3), (16, .bipush 8, 2), (18, .iload_n 1, 1), (19, .imul, 1), (20, .iload_n 3, 1), (21, .iadd, 1), (22, .baload, 1), (23, .ifCond .ne 41, 3), (26, .aload_n 0, 1), (27, .iload_n 3, 1), (28, .invokevirtual 96, 3), (31, .ifCond .ne 6, 3), (34, .goto 30, 3), (37, .iload_n 2, 1), (38, .ifCond .lt 24, 3), (41, .aload_n 0, 1), (42, .getfield 72, 3), (45, .iconst 1, 1), (46, .if_icmp .ne 18, 3), (49, .aload_n 0, 1), (50, .iload_n 3, 1), (51, .invokevirtual 99, 3), (54, .aload_n 0, 1), (55, .iload_n 2, 1), (56, .invokevirtual 99, 3), (59, .if_icmp .ge 5, 3), (62, .iload_n 3, 1), (63, .istore_n 2, 1), (64, .iinc 3 1, 3), (67, .goto (-63), 3), (70, .iload_n 2, 1), (71, .ifCond .ge 4, 3), (74, .return_, 1), (75, .iconst (-1), 1), (76, .istore_n 3, 1), (77, .iconst 0, 1), (78, .istore 4, 2), (80, .iload 4, 2), (82, .aload_n 0, 1), (83, .getfield 63, 3), (86, .if_icmp .ge 52, 3), (89, .aload_n 0, 1), (90, .getfield 13, 3), (93, .iload 4, 2), (95, .iaload, 1), (96, .iload_n 2, 1), (97, .if_icmp .ne 35, 3), (100, .aload_n 0, 1), (101, .iload 4, 2), (103, .invokevirtual 93, 3), (106, .ifCond .eq 26, 3), (109, .iload_n 3, 1), (110, .ifCond .lt 19, 3), (113, .aload_n 0, 1), (114, .getfield 20, 3), (117, .iload 4, 2), (119, .iaload, 1), (120, .aload_n 0, 1), (121, .getfield 20, 3), (124, .iload_n 3, 1), (125, .iaload, 1), (126, .if_icmp .ge 6, 3), (129, .iload 4, 2), (131, .istore_n 3, 1), (132, .iinc 4 1, 3), (135, .goto (-55), 3), (138, .aload_n 0, 1), (139, .getfield 20, 3), (142, .iload_n 3, 1), (143, .dup2, 1), (144, .iaload, 1), (145, .iconst 1, 1), (146, .iadd, 1), (147, .iastore, 1), (148, .aload_n 0, 1), (149, .getfield 23, 3), (152, .iload_n 3, 1), (153, .iload_n 1, 1), (154, .iastore, 1), (155, .aload_n 0, 1), (156, .getfield 32, 3), (159, .iload_n 1, 1), (160, .iload_n 3, 1), (161, .iastore, 1), (162, .aload_n 0, 1), (163, .getfield 45, 3), (166, .bipush 8, 2), (168, .iload_n 1, 1), (169, .imul, 1), (170, .iload_n 2, 1), (171, .iadd, 1), (172, .aload_n 0, 1), (173, .getfield 17, 3), (176, .iload_n 3, 1), (177, .iaload, 1), (178, .iastore, 1), (179, .aload_n 0, 1), (180, .getfield 48, 3), (183, .bipush 8, 2), (185, .iload_n 1, 1), (186, .imul, 1), (187, .iload_n 2, 1), (188, .iadd, 1), (189, .iload_n 3, 1), (190, .iastore, 1), (191, .aload_n 0, 1), (192, .getfield 51, 3), (195, .bipush 8, 2), (197, .iload_n 1, 1), (198, .imul, 1), (199, .iload_n 2, 1), (200, .iadd, 1), (201, .aload_n 0, 1), (202, .getfield 69, 3), (205, .iastore, 1), (206, .return_, 1)]
def sm_t73 : List (Nat × Instr × Nat) := [(0, .aload_n 0, 1), (1, .getfield 51, 3), (4, .bipush 8, 2), (6, .iload_n 1, 1), (7, .imul, 1), (8, .aload_n 0, 1), (9, .getfield 13, 3), (12, .aload_n 0, 1), (13, .getfield 32, 3), (16, .iload_n 1, 1), (17, .iaload, 1), (18, .iaload, 1), (19, .iadd, 1), (20, .iaload, 1), (21, .aload_n 0, 1), (22, .getfield 26, 3), (25, .iload_n 1, 1), (26, .iaload, 1), (27, .iadd, 1), (28, .ireturn, 1)]
def sm_t74 : List (Nat × Instr × Nat) := [(0, .iconst 0, 1), (1, .istore_n 1, 1), (2, .iload_n 1, 1), (3, .aload_n 0, 1), (4, .getfield 66, 3), (7, .if_icmp .ge 36, 3), (10, .aload_n 0, 1), (11, .getfield 32, 3), (14, .iload_n 1, 1), (15, .iaload, 1), (16, .iconst (-1), 1), (17, .if_icmp .eq 20, 3), (20, .aload_n 0, 1), (21, .iload_n 1, 1), (22, .invokevirtual 102, 3), (25, .aload_n 0, 1), (26, .getfield 69, 3), (29, .if_icmp .ne 8, 3), (32, .aload_n 0, 1), (33, .iload_n 1, 1), (34, .invokevirtual 105, 3), (37, .iinc 1 1, 3), (40, .goto (-38), 3), (43, .iconst 0, 1), (44, .istore_n 1, 1), (45, .iload_n 1, 1), (46, .aload_n 0, 1), (47, .getfield 69, 3), (50, .if_icmp .gt 62, 3), (53, .iconst 0, 1), (54, .istore_n 2, 1), (55, .iload_n 2, 1), (56, .aload_n 0, 1), (57, .getfield 66, 3), (60, .if_icmp .ge 46, 3), (63, .aload_n 0, 1), (64, .getfield 32, 3), (67, .iload_n 2, 1), (68, .iaload, 1), (69, .iconst (-1), 1), (70, .if_icmp .ne 30, 3), (73, .aload_n 0, 1), (74, .getfield 29, 3), (77, .iload_n 2, 1), (78, .iaload, 1), (79, .iload_n 1, 1), (80, .if_icmp .ne 20, 3), (83, .aload_n 0, 1), (84, .iload_n 2, 1), (85, .invokevirtual 89, 3), (88, .aload_n 0, 1), (89, .getfield 7, 3), (92, .if_icmp .ge 8, 3), (95, .aload_n 0, 1), (96, .iload_n 2, 1), (97, .invokevirtual 109, 3), (100, .iinc 2 1, 3), (103, .goto (-48), 3), (106, .iinc 1 1, 3), (109, .goto (-64), 3), (112, .aload_n 0, 1), (113, .dup, 1), (114, .getfield 69, 3), (117, .iconst 1, 1), (118, .iadd, 1), (119, .putfield 69, 3), (122, .return_, 1)]
def sm_t75 : List (Nat × Instr × Nat) := [(0, .aload_n 0, 1), (1, .iconst 0, 1), (2, .putfield 60, 3), (5, .iload_n 1, 1), (6, .iconst 1, 1), (7, .if_icmp .lt 21, 3), (10, .iload_n 1, 1), (11, .bipush 99, 2), (13, .if_icmp .gt 15, 3), (16, .aload_n 0, 1), (17, .getfield 69, 3), (20, .iload_n 1, 1), (21, .iadd, 1), (22, .sipush 9999, 3), (25, .if_icmp .le 5, 3), (28, .iconst (-1), 1), (29, .ireturn, 1), (30, .iconst 0, 1), (31, .istore_n 2, 1), (32, .iload_n 2, 1), (33, .iload_n 1, 1), (34, .if_icmp .ge 13, 3), (37, .aload_n 0, 1), (38, .invokevirtual 112, 3), (41, .iinc 2 1, 3), (44, .goto (-12), 3), (47, .aload_n 0, 1), (48, .getfield 69, 3), (51, .ireturn, 1)]
def sm_t76 : List (Nat × Instr × Nat) := [(0, .iconst 0, 1), (1, .istore_n 1, 1), (2, .iload_n 1, 1), (3, .aload_n 0, 1), (4, .getfield 66, 3), (7, .if_icmp .ge 23, 3), (10, .aload_n 0, 1), (11, .iload_n 1, 1), (12, .invokevirtual 89, 3), (15, .aload_n 0, 1), (16, .getfield 7, 3), (19, .if_icmp .ge 5, 3), (22, .iconst 0, 1), (23, .ireturn, 1), (24, .iinc 1 1, 3), (27, .goto (-25), 3), (30, .iconst 1, 1), (31, .ireturn, 1)]
def sm_t77 : List (Nat × Instr × Nat) := [(0, .aload_n 0, 1), (1, .iconst 0, 1), (2, .putfield 60, 3), (5, .iload_n 1, 1), (6, .iconst 1, 1), (7, .if_icmp .lt 22, 3), (10, .iload_n 1, 1), (11, .sipush 999, 3), (14, .if_icmp .gt 15, 3), (17, .aload_n 0, 1), (18, .getfield 69, 3), (21, .iload_n 1, 1), (22, .iadd, 1), (23, .sipush 9999, 3), (26, .if_icmp .le 5, 3), (29, .iconst (-1), 1), (30, .ireturn, 1), (31, .iconst 0, 1), (32, .istore_n 2, 1), (33, .iload_n 2, 1), (34, .iload_n 1, 1), (35, .if_icmp .ge 20, 3), (38, .aload_n 0, 1), (39, .invokevirtual 115, 3), (42, .ifCond .ne 13, 3), (45, .aload_n 0, 1), (46, .invokevirtual 112, 3), (49, .iinc 2 1, 3), (52, .goto (-19), 3), (55, .aload_n 0, 1), (56, .getfield 69, 3), (59, .ireturn, 1)]
def sm_t78 : List (Nat × Instr × Nat) := [(0, .aload_n 0, 1), (1, .iconst 0, 1), (2, .putfield 60, 3), (5, .aload_n 0, 1), (6, .getfield 66, 3), (9, .ifCond .eq 10, 3), (12, .aload_n 0, 1), (13, .invokevirtual 115, 3), (16, .ifCond .eq 5, 3), (19, .iconst (-1), 1), (20, .ireturn, 1), (21, .aload_n 0, 1), (22, .getfield 69, 3), (25, .istore_n 1, 1), (26, .iconst 0, 1), (27, .istore_n 2, 1), (28, .iload_n 2, 1), (29, .aload_n 0, 1), (30, .getfield 66, 3), (33, .if_icmp .ge 93, 3), (36, .aload_n 0, 1), (37, .getfield 7, 3), (40, .aload_n 0, 1), (41, .iload_n 2, 1), (42, .invokevirtual 89, 3), (45, .isub, 1), (46, .istore_n 3, 1), (47, .iload_n 3, 1), (48, .ifCond .ne 6, 3), (51, .goto 69, 3), (54, .aload_n 0, 1), (55, .getfield 32, 3), (58, .iload_n 2, 1), (59, .iaload, 1), (60, .iconst (-1), 1), (61, .if_icmp .ne 10, 3), (64, .aload_n 0, 1), (65, .getfield 69, 3), (68, .goto 8, 3), (71, .aload_n 0, 1), (72, .iload_n 2, 1), (73, .invokevirtual 102, 3), (76, .istore 4, 2), (78, .iload 4, 2), (80, .aload_n 0, 1), (81, .getfield 26, 3), (84, .iload_n 2, 1), (85, .iaload, 1), (86, .iload_n 3, 1), (87, .aload_n 0, 1), (88, .getfield 32, 3), (91, .iload_n 2, 1), (92, .iaload, 1), (93, .iconst (-1), 1), (94, .if_icmp .ne 7, 3), (97, .iconst 0, 1), (98, .goto 4, 3), (101, .iconst 1, 1), (102, .isub, 1), (103, .imul, 1), (104, .iadd, 1), (105, .istore 5, 2), (107, .iload 5, 2), (109, .iload_n 1, 1), (110, .if_icmp .le 8, 3), (113, .iload 5, 2), (115, .goto 4, 3), (118, .iload_n 1, 1), (119, .istore_n 1, 1), (120, .iinc 2 1, 3), (123, .goto (-95), 3), (126, .iconst 0, 1), (127, .istore_n 2, 1), (128, .iload_n 2, 1), (129, .aload_n 0, 1), (130, .getfield 7, 3), (133, .if_icmp .ge 220, 3), (136, .iconst 0, 1), (137, .istore_n 3, 1), (138, .iconst 0, 1), (139, .istore 4, 2), (141, .iconst 0, 1), (142, .istore 5, 2), (144, .iload 5, 2), (146, .aload_n 0, 1), (147, .getfield 66, 3), (150, .if_icmp .ge 107, 3), (153, .aload_n 0, 1), (154, .getfield 41, 3), (157, .bipush 8, 2), (159, .iload 5, 2), (161, .imul, 1), (162, .iload_n 2, 1), (163, .iadd, 1), (164, .baload, 1), (165, .ifCond .eq 6, 3), (168, .goto 83, 3), (171, .aload_n 0, 1), (172, .getfield 32, 3), (175, .iload 5, 2), (177, .iaload, 1), (178, .iconst (-1), 1), (179, .if_icmp .eq 23, 3), (182, .aload_n 0, 1), (183, .getfield 13, 3), (186, .aload_n 0, 1), (187, .getfield 32, 3), (190, .iload 5, 2), (192, .iaload, 1), (193, .iaload, 1), (194, .iload_n 2, 1), (195, .if_icmp .ne 7, 3), (198, .iconst 1, 1), (199, .goto 4, 3), (202, .iconst 0, 1), (203, .istore 6, 2), (205, .iload_n 3, 1), (206, .iload 6, 2), (208, .ifCond .eq 17, 3), (211, .aload_n 0, 1), (212, .iload 5, 2), (214, .invokevirtual 102, 3), (217, .aload_n 0, 1), (218, .getfield 69, 3), (221, .isub, 1), (222, .goto 10, 3), (225, .aload_n 0, 1), (226, .getfield 26, 3), (229, .iload 5, 2), (231, .iaload, 1), (232, .iadd, 1), (233, .istore_n 3, 1), (234, .iload 4, 2), (236, .ifCond .ne 8, 3), (239, .iload 6, 2), (241, .ifCond .ne 7, 3), (244, .iconst 1, 1), (245, .goto 4, 3), (248, .iconst 0, 1), (249, .istore 4, 2), (251, .iinc 5 1, 3), (254, .goto (-110), 3), (257, .iconst 0, 1), (258, .istore 5, 2), (260, .iconst 0, 1), (261, .istore 6, 2), (263, .iload 6, 2), (265, .aload_n 0, 1), (266, .getfield 63, 3), (269, .if_icmp .ge 30, 3), (272, .iload 5, 2), (274, .aload_n 0, 1), (275, .getfield 13, 3), (278, .iload 6, 2), (280, .iaload, 1), (281, .iload_n 2, 1), (282, .if_icmp .ne 7, 3), (285, .iconst 1, 1), (286, .goto 4, 3), (289, .iconst 0, 1), (290, .iadd, 1), (291, .istore 5, 2), (293, .iinc 6 1, 3), (296, .goto (-33), 3), (299, .iload 5, 2), (301, .ifCond .ne 10, 3), (304, .iload 4, 2), (306, .ifCond .eq 5, 3), (309, .iconst (-1), 1), (310, .ireturn, 1), (311, .iload_n 3, 1), (312, .ifCond .ne 6, 3), (315, .goto 32, 3), (318, .aload_n 0, 1), (319, .getfield 69, 3), (322, .iload_n 3, 1), (323, .iload 5, 2), (325, .iadd, 1), (326, .iconst 1, 1), (327, .isub, 1), (328, .iload 5, 2), (330, .idiv, 1), (331, .iadd, 1), (332, .istore 6, 2), (334, .iload 6, 2), (336, .iload_n 1, 1), (337, .if_icmp .le 8, 3), (340, .iload 6, 2), (342, .goto 4, 3), (345, .iload_n 1, 1), (346, .istore_n 1, 1), (347, .iinc 2 1, 3), (350, .goto (-222), 3), (353, .iload_n 1, 1), (354, .ireturn, 1)]
def sm_t79 : List (Nat × Instr × Nat) := [(0, .aload_n 0, 1), (1, .iload_n 1, 1), (2, .invokevirtual 86, 3), (5, .ifCond .eq 29, 3), (8, .aload_n 0, 1), (9, .iload_n 2, 1), (10, .invokevirtual 76, 3), (13, .ifCond .eq 21, 3), (16, .aload_n 0, 1), (17, .getfield 41, 3), (20, .bipush 8, 2), (22, .iload_n 1, 1), (23, .imul, 1), (24, .iload_n 2, 1), (25, .iadd, 1), (26, .baload, 1), (27, .ifCond .eq 7, 3), (30, .iconst 1, 1), (31, .goto 4, 3), (34, .iconst 0, 1), (35, .ireturn, 1)]
def sm_t80 : List (Nat × Instr × Nat) := [(0, .aload_n 0, 1), (1, .iconst 0, 1), (2, .putfield 60, 3), (5, .aload_n 0, 1), (6, .iload_n 1, 1), (7, .iload_n 2, 1), (8, .invokevirtual 119, 3), (11, .ifCond .ne 5, 3), (14, .iconst (-1), 1), (15, .ireturn, 1), (16, .bipush 8, 2), (18, .iload_n 1, 1), (19, .imul, 1), (20, .iload_n 2, 1), (21, .iadd, 1), (22, .istore 4, 2), (24, .iload_n 3, 1), (25, .ifCond .ne 13, 3), (28, .aload_n 0, 1), (29, .getfield 45, 3), (32, .iload 4, 2), (34, .iaload, 1), (35, .goto 49, 3), (38, .iload_n 3, 1), (39, .iconst 1, 1), (40, .if_icmp .ne 13, 3), (43, .aload_n 0, 1), (44, .getfield 48, 3), (47, .iload 4, 2), (49, .iaload, 1), (50, .goto 34, 3), (53, .iload_n 3, 1), (54, .iconst 2, 1), (55, .if_icmp .ne 13, 3), (58, .aload_n 0, 1), (59, .getfield 51, 3), (62, .iload 4, 2), (64, .iaload, 1), (65, .goto 19, 3), (68, .iload_n 3, 1), (69, .iconst 3, 1), (70, .if_icmp .ne 13, 3), (73, .aload_n 0, 1), (74, .getfield 54, 3), (77, .iload 4, 2), (79, .iaload, 1), (80, .goto 4, 3), (83, .iconst (-1), 1), (84, .ireturn, 1)]
def sm_t81 : List (Nat × Instr × Nat) := [(0, .iconst 0, 1), (1, .istore_n 2, 1), (2, .iconst 0, 1), (3, .istore_n 3, 1), (4, .iload_n 3, 1), (5, .bipush 16, 2), (7, .if_icmp .ge 19, 3), (10, .iload_n 2, 1), (11, .iload_n 0, 1), (12, .iload_n 1, 1), (13, .ixor, 1), (14, .iload_n 3, 1), (15, .ishr, 1), (16, .iconst 1, 1), (17, .iand, 1), (18, .iadd, 1), (19, .istore_n 2, 1), (20, .iinc 3 1, 3), (23, .goto (-19), 3), (26, .iload_n 2, 1), (27, .ireturn, 1)]
def sm_t82 : List (Nat × Instr × Nat) := [(0, .iconst (-1), 1), (1, .istore_n 3, 1), (2, .aload_n 0, 1), (3, .bipush 99, 2), (5, .putfield 123, 3), (8, .iconst 0, 1), (9, .istore 4, 2), (11, .iload 4, 2), (13, .aload_n 0, 1), (14, .getfield 63, 3), (17, .if_icmp .ge 79, 3), (20, .aload_n 0, 1), (21, .getfield 13, 3), (24, .iload 4, 2), (26, .iaload, 1), (27, .iload_n 2, 1), (28, .if_icmp .ne 62, 3), (31, .aload_n 0, 1), (32, .getfield 17, 3), (35, .iload 4, 2), (37, .iaload, 1), (38, .aload_n 0, 1), (39, .getfield 45, 3), (42, .bipush 8, 2), (44, .iload_n 1, 1), (45, .imul, 1), (46, .iload_n 2, 1), (47, .iadd, 1), (48, .iaload, 1), (49, .invokestatic 126, 3), (52, .aload_n 0, 1), (53, .getfield 123, 3), (56, .if_icmp .lt 6, 3), (59, .goto 31, 3), (62, .aload_n 0, 1), (63, .aload_n 0, 1), (64, .getfield 17, 3), (67, .iload 4, 2), (69, .iaload, 1), (70, .aload_n 0, 1), (71, .getfield 45, 3), (74, .bipush 8, 2), (76, .iload_n 1, 1), (77, .imul, 1), (78, .iload_n 2, 1), (79, .iadd, 1), (80, .iaload, 1), (81, .invokestatic 126, 3), (84, .putfield 123, 3), (87, .iload 4, 2), (89, .istore_n 3, 1), (90, .iinc 4 1, 3), (93, .goto (-82), 3), (96, .iconst 0, 1), (97, .istore 4, 2), (99, .iload 4, 2), (101, .aload_n 0, 1), (102, .getfield 66, 3), (105, .if_icmp .ge 117, 3), (108, .bipush 8, 2), (110, .iload 4, 2), (112, .imul, 1), (113, .iload_n 2, 1), (114, .iadd, 1), (115, .istore 5, 2), (117, .iload 4, 2), (119, .iload_n 1, 1), (120, .if_icmp .eq 96, 3), (123, .aload_n 0, 1), (124, .getfield 41, 3), (127, .iload 5, 2), (129, .baload, 1), (130, .ifCond .eq 86, 3), (133, .aload_n 0, 1), (134, .getfield 54, 3), (137, .iload 5, 2), (139, .iaload, 1), (140, .aload_n 0, 1), (141, .getfield 51, 3), (144, .bipush 8, 2), (146, .iload_n 1, 1), (147, .imul, 1), (148, .iload_n 2, 1), (149, .iadd, 1), (150, .iaload, 1), (151, .if_icmp .gt 65, 3), (154, .aload_n 0, 1), (155, .getfield 45, 3), (158, .iload 5, 2), (160, .iaload, 1), (161, .aload_n 0, 1), (162, .getfield 45, 3), (165, .bipush 8, 2), (167, .iload_n 1, 1), (168, .imul, 1), (169, .iload_n 2, 1), (170, .iadd, 1), (171, .iaload, 1), (172, .invokestatic 126, 3), (175, .aload_n 0, 1), (176, .getfield 123, 3), (179, .if_icmp .lt 6, 3), (182, .goto 34, 3), (185, .aload_n 0, 1), (186, .aload_n 0, 1), (187, .getfield 45, 3), (190, .iload 5, 2), (192, .iaload, 1), (193, .aload_n 0, 1), (194, .getfield 45, 3), (197, .bipush 8, 2), (199, .iload_n 1, 1), (200, .imul, 1), (201, .iload_n 2, 1), (202, .iadd, 1), (203, .iaload, 1), (204, .invokestatic 126, 3), (207, .putfield 123, 3), (210, .bipush (-2), 2), (212, .iload 4, 2), (214, .isub, 1), (215, .istore_n 3, 1), (216, .iinc 4 1, 3), (219, .goto (-120), 3), (222, .iload_n 3, 1), (223, .ireturn, 1)]
def sm_t83 : List (Nat × Instr × Nat) := [(0, .aload_n 0, 1), (1, .iconst 0, 1), (2, .putfield 60, 3), (5, .aload_n 0, 1), (6, .iload_n 1, 1), (7, .iload_n 2, 1), (8, .invokevirtual 119, 3), (11, .ifCond .eq 12, 3), (14, .aload_n 0, 1), (15, .iload_n 1, 1), (16, .iload_n 2, 1), (17, .invokevirtual 130, 3), (20, .goto 4, 3), (23, .iconst (-1), 1), (24, .ireturn, 1)]
def sm_t84 : List (Nat × Instr × Nat) := [(0, .aload_n 0, 1), (1, .iconst 0, 1), (2, .putfield 60, 3), (5, .aload_n 0, 1), (6, .iload_n 1, 1), (7, .invokevirtual 76, 3), (10, .ifCond .ne 5, 3), (13, .iconst (-1), 1), (14, .ireturn, 1), (15, .iconst 0, 1), (16, .istore_n 2, 1), (17, .iconst 0, 1), (18, .istore_n 3, 1), (19, .iload_n 3, 1), (20, .aload_n 0, 1), (21, .getfield 66, 3), (24, .if_icmp .ge 43, 3), (27, .aload_n 0, 1), (28, .getfield 41, 3), (31, .bipush 8, 2), (33, .iload_n 3, 1), (34, .imul, 1), (35, .iload_n 1, 1), (36, .iadd, 1), (37, .baload, 1), (38, .ifCond .ne 6, 3), (41, .goto 20, 3), (44, .aload_n 0, 1), (45, .iload_n 3, 1), (46, .iload_n 1, 1), (47, .invokevirtual 130, 3), (50, .iconst (-1), 1), (51, .if_icmp .eq 10, 3), (54, .iload_n 2, 1), (55, .aload_n 0, 1), (56, .getfield 123, 3), (59, .iadd, 1), (60, .istore_n 2, 1), (61, .iinc 3 1, 3), (64, .goto (-45), 3), (67, .iload_n 2, 1), (68, .ireturn, 1)]
def sm_t85 : List (Nat × Instr × Nat) := [(0, .aload_n 0, 1), (1, .iconst 0, 1), (2, .putfield 60, 3), (5, .aload_n 0, 1), (6, .iload_n 1, 1), (7, .invokevirtual 86, 3), (10, .ifCond .eq 11, 3), (13, .aload_n 0, 1), (14, .iload_n 2, 1), (15, .invokevirtual 86, 3), (18, .ifCond .ne 5, 3), (21, .iconst (-1), 1), (22, .ireturn, 1), (23, .iconst 0, 1), (24, .istore_n 3, 1), (25, .iconst 0, 1), (26, .istore 4, 2), (28, .iload 4, 2), (30, .aload_n 0, 1), (31, .getfield 7, 3), (34, .if_icmp .ge 74, 3), (37, .iload_n 3, 1), (38, .aload_n 0, 1), (39, .getfield 41, 3), (42, .bipush 8, 2), (44, .iload_n 1, 1), (45, .imul, 1), (46, .iload 4, 2), (48, .iadd, 1), (49, .baload, 1), (50, .ifCond .eq 49, 3), (53, .aload_n 0, 1), (54, .getfield 41, 3), (57, .bipush 8, 2), (59, .iload_n 2, 1), (60, .imul, 1), (61, .iload 4, 2), (63, .iadd, 1), (64, .baload, 1), (65, .ifCond .eq 34, 3), (68, .aload_n 0, 1), (69, .getfield 48, 3), (72, .bipush 8, 2), (74, .iload_n 1, 1), (75, .imul, 1), (76, .iload 4, 2), (78, .iadd, 1), (79, .iaload, 1), (80, .aload_n 0, 1), (81, .getfield 48, 3), (84, .bipush 8, 2), (86, .iload_n 2, 1), (87, .imul, 1), (88, .iload 4, 2), (90, .iadd, 1), (91, .iaload, 1), (92, .if_icmp .ne 7, 3), (95, .iconst 1, 1), (96, .goto 4, 3), (99, .iconst 0, 1), (100, .iadd, 1), (101, .istore_n 3, 1), (102, .iinc 4 1, 3), (105, .goto (-77), 3), (108, .iload_n 3, 1), (109, .ireturn, 1)]
def sm_t86 : List (Nat × Instr × Nat) := [(0, .aload_n 0, 1), (1, .iload_n 1, 1), (2, .putfield 60, 3), (5, .iconst 0, 1), (6, .ireturn, 1)]
def sm_t87 : List (Nat × Instr × Nat) := [(0, .aload_n 0, 1), (1, .iconst 0, 1), (2, .putfield 60, 3), (5, .aload_n 0, 1), (6, .iload_n 1, 1), (7, .invokevirtual 86, 3), (10, .ifCond .ne 9, 3), (13, .aload_n 0, 1), (14, .iconst 1, 1), (15, .invokevirtual 133, 3), (18, .ireturn, 1), (19, .iload_n 2, 1), (20, .tableswitch 95 0 4 #[36, 43, 75, 82, 88], 36), (56, .aload_n 0, 1), (57, .getfield 26, 3), (60, .iload_n 1, 1), (61, .iaload, 1), (62, .ireturn, 1), (63, .aload_n 0, 1), (64, .iload_n 1, 1), (65, .invokevirtual 89, 3), (68, .aload_n 0, 1), (69, .getfield 7, 3), (72, .if_icmp .ne 7, 3), (75, .iconst 2, 1), (76, .goto 18, 3), (79, .aload_n 0, 1), (80, .getfield 32, 3), (83, .iload_n 1, 1), (84, .iaload, 1), (85, .iconst (-1), 1), (86, .if_icmp .ne 7, 3), (89, .iconst 0, 1), (90, .goto 4, 3), (93, .iconst 1, 1), (94, .ireturn, 1), (95, .aload_n 0, 1), (96, .getfield 32, 3), (99, .iload_n 1, 1), (100, .iaload, 1), (101, .ireturn, 1), (102, .aload_n 0, 1), (103, .iload_n 1, 1), (104, .invokevirtual 89, 3), (107, .ireturn, 1), (108, .aload_n 0, 1), (109, .getfield 35, 3), (112, .iload_n 1, 1), (113, .iaload, 1), (114, .ireturn, 1), (115, .aload_n 0, 1), (116, .iconst 2, 1), (117, .invokevirtual 133, 3), (120, .ireturn, 1)]
def sm_t88 : List (Nat × Instr × Nat) := [(0, .aload_n 0, 1), (1, .iconst 0, 1), (2, .putfield 60, 3), (5, .aload_n 0, 1), (6, .iload_n 1, 1), (7, .invokevirtual 83, 3), (10, .ifCond .ne 5, 3), (13, .iconst (-1), 1), (14, .ireturn, 1), (15, .iload_n 2, 1), (16, .ifCond .ne 12, 3), (19, .aload_n 0, 1), (20, .getfield 13, 3), (23, .iload_n 1, 1), (24, .iaload, 1), (25, .goto 46, 3), (28, .iload_n 2, 1), (29, .iconst 1, 1), (30, .if_icmp .ne 12, 3), (33, .aload_n 0, 1), (34, .getfield 17, 3), (37, .iload_n 1, 1), (38, .iaload, 1), (39, .goto 32, 3), (42, .iload_n 2, 1), (43, .iconst 2, 1), (44, .if_icmp .ne 12, 3), (47, .aload_n 0, 1), (48, .getfield 20, 3), (51, .iload_n 1, 1), (52, .iaload, 1), (53, .goto 18, 3), (56, .iload_n 2, 1), (57, .iconst 3, 1), (58, .if_icmp .ne 12, 3), (61, .aload_n 0, 1), (62, .getfield 23, 3), (65, .iload_n 1, 1), (66, .iaload, 1), (67, .goto 4, 3), (70, .iconst (-1), 1), (71, .ireturn, 1)]
def sm_t89 : List (Nat × Instr × Nat) := [(0, .aload_n 0, 1), (1, .iconst 0, 1), (2, .putfield 60, 3), (5, .iconst 0, 1), (6, .istore_n 2, 1), (7, .iload_n 1, 1), (8, .tableswitch 94 0 4 #[36, 41, 46, 51, 56], 36), (44, .aload_n 0, 1), (45, .getfield 7, 3), (48, .ireturn, 1), (49, .aload_n 0, 1), (50, .getfield 63, 3), (53, .ireturn, 1), (54, .aload_n 0, 1), (55, .getfield 66, 3), (58, .ireturn, 1), (59, .aload_n 0, 1), (60, .getfield 69, 3), (63, .ireturn, 1), (64, .iconst 0, 1), (65, .istore_n 3, 1), (66, .iload_n 3, 1), (67, .aload_n 0, 1), (68, .getfield 66, 3), (71, .if_icmp .ge 29, 3), (74, .iload_n 2, 1), (75, .aload_n 0, 1), (76, .iload_n 3, 1), (77, .invokevirtual 89, 3), (80, .aload_n 0, 1), (81, .getfield 7, 3), (84, .if_icmp .ne 7, 3), (87, .iconst 1, 1), (88, .goto 4, 3), (91, .iconst 0, 1), (92, .iadd, 1), (93, .istore_n 2, 1), (94, .iinc 3 1, 3), (97, .goto (-31), 3), (100, .iload_n 2, 1), (101, .ireturn, 1), (102, .iconst (-1), 1), (103, .ireturn, 1)]
def sm_t90 : List (Nat × Instr × Nat) := [(0, .iload_n 0, 1), (1, .iload_n 1, 1), (2, .if_icmp .lt 7, 3), (5, .iload_n 0, 1), (6, .goto 4, 3), (9, .iload_n 1, 1), (10, .ireturn, 1)]
def sm_t91 : List (Nat × Instr × Nat) := [(0, .iload_n 0, 1), (1, .iload_n 1, 1), (2, .if_icmp .gt 7, 3), (5, .iload_n 0, 1), (6, .goto 4, 3), (9, .iload_n 1, 1), (10, .ireturn, 1)]
def sm_tabs : List (List (Nat × Instr × Nat)) := [sm_t0, sm_t1, sm_t2, sm_t3, sm_t4, sm_t5, sm_t6, sm_t7, sm_t8, sm_t9, sm_t10, sm_t11, sm_t12, sm_t13, sm_t14, sm_t15, sm_t16, sm_t17, sm_t18, sm_t19, sm_t20, sm_t21, sm_t22, sm_t23, sm_t24, sm_t25, sm_t26, sm_t27, sm_t28, sm_t29, sm_t30, sm_t31, sm_t32, sm_t33, sm_t34, sm_t35, sm_t36, sm_t37, sm_t38, sm_t39, sm_t40, sm_t41, sm_t42, sm_t43, sm_t44, sm_t45, sm_t46, sm_t47, sm_t48, sm_t49, sm_t50, sm_t51, sm_t52, sm_t53, sm_t54, sm_t55, sm_t56, sm_t57, sm_t58, sm_t59, sm_t60, sm_t61, sm_t62, sm_t63, sm_t64, sm_t65, sm_t66, sm_t67, sm_t68, sm_t69, sm_t70, sm_t71, sm_t72, sm_t73, sm_t74, sm_t75, sm_t76, sm_t77, sm_t78, sm_t79, sm_t80, sm_t81, sm_t82, sm_t83, sm_t84, sm_t85, sm_t86, sm_t87, sm_t88, sm_t89, sm_t90, sm_t91]
end
section
/-! ===== a small machine over a picture of the cells: ints by (kind, number, slot); references by (kind, number) ===== -/
abbrev AV : Type := Int32 ⊕ (Nat × Nat)
abbrev AHp : Type := Nat → Nat → Nat → Int32
def ah_up (h : AHp) (k i j : Nat) (v : Int32) : AHp := fun k' i' j' => if k' = k ∧ i' = i ∧ j' = j then v else h k' i' j'
/-- the class of a kind of object -/
def ah_cls (k : Nat) : Option Nat := match k with | 0 => some 2 | 3 => some 0 | 4 => some 1 | 10 => some 3 | _ => none
/-- which kind a field of references points to; 0: a field of ints -/
def ah_tgt (c j : Nat) : Nat := match c with
  | 2 => if j = 0 then 1 else if j = 1 then 2 else 0
  | 1 => if j < 5 then 5 + j else 0
  | 3 => if (2 ≤ j ∧ j ≤ 5) ∨ (7 ≤ j ∧ j ≤ 16) then 10 + j else 0
  | _ => 0
def ah_nf (c : Nat) : Nat := match c with | 0 => 4 | 1 => 12 | 2 => 8 | _ => 22
def ah_ilen (k : Nat) : Option Nat := if 5 ≤ k ∧ k ≤ 9 then some 8 else if 12 ≤ k ∧ k ≤ 15 then some 20 else if 17 ≤ k ∧ k ≤ 20 then some 8 else if k = 21 ∨ (23 ≤ k ∧ k ≤ 26) then some 64 else none
def ah_zlen (k : Nat) : Option Nat := if k = 22 then some 64 else none
def ah_rlen (k : Nat) : Option (Nat × Nat) := match k with | 1 => some (20, 3) | 2 => some (8, 4) | _ => none
def ah_fld (o idx : Nat) : Option (Nat × Nat) := (sm_fld.find? (fun q => q.1 == o && q.2.1 == idx)).map (fun q => q.2.2)
def ah_mth (o idx : Nat) : Option Nat := (sm_mth.find? (fun q => q.1 == o && q.2.1 == idx)).map (fun q => q.2.2)
def ah_cst (o idx : Nat) : Option Int32 := (sm_cst.find? (fun q => q.1 == o && q.2.1 == idx)).map (fun q => q.2.2)
def ah_ins (mi pc : Nat) : Option (Instr × Nat) := (sm_tabs.getD mi []).lookup pc
def ah_jmp (pc : Nat) (off : Int) : Nat := ((pc : Int) + off).toNat
def ah_jok (pc : Nat) (off : Int) : Bool := decide (0 ≤ (pc : Int) + off)
def ah_cmp (co : Jvm.ClassFile.Cond) (x y : Int32) : Bool := match co with
  | .eq => decide (x = y) | .ne => decide (¬ x = y) | .lt => decide (x < y) | .ge => decide (y ≤ x) | .gt => decide (y < x) | .le => decide (x ≤ y)
/-- the end of a method -/
def ah_end (mi : Nat) (i : Instr) (len : Nat) (st : List AV) (h : AHp) : Option (Option Int32 × AHp) := match i with
  | .ireturn => match st with
    | [.inl x] => if len = 1 ∧ (sm_ret.getD mi 9 = 1 ∨ (sm_ret.getD mi 9 = 2 ∧ (x = 0 ∨ x = 1))) then some (some x, h) else none
    | _ => none
  | .return_ => match st with
    | [] => if len = 1 ∧ sm_ret.getD mi 9 = 0 then some (none, h) else none
    | _ => none
  | _ => none
/-- a call: the callee, its arguments, the rest of the stack -/
def ah_call (mi : Nat) (i : Instr) (len : Nat) (st : List AV) : Option (Nat × List AV × List AV) := match i with
  | .invokevirtual idx => match ah_mth (sm_own.getD mi 9) idx with
    | some y => match st[sm_n.getD y 0]? with
      | some (.inr (k, _)) => if len = 3 ∧ mi < 92 ∧ y < 92 ∧ sm_st.getD y 9 = 0 ∧ ah_cls k = some (sm_own.getD y 9) ∧ sm_fr.getD y 99 + 1 ≤ sm_fr.getD mi 0 ∧ 8 + (sm_L.getD y 0 + 11) + sm_lo.getD y 999 ≤ sm_lo.getD mi 0 ∧ (st.drop (sm_n.getD y 0 + 1)).length ≤ 8 ∧ sm_n.getD y 0 + 1 ≤ sm_L.getD y 0
          then some (y, (st.take (sm_n.getD y 0 + 1)).reverse, st.drop (sm_n.getD y 0 + 1)) else none
      | _ => none
    | none => none
  | .invokestatic idx => match ah_mth (sm_own.getD mi 9) idx with
    | some y => if len = 3 ∧ mi < 92 ∧ y < 92 ∧ sm_st.getD y 9 = 1 ∧ sm_n.getD y 0 ≤ st.length ∧ sm_fr.getD y 99 + 1 ≤ sm_fr.getD mi 0 ∧ 8 + (sm_L.getD y 0 + 11) + sm_lo.getD y 999 ≤ sm_lo.getD mi 0 ∧ (st.drop (sm_n.getD y 0)).length ≤ 8 ∧ sm_n.getD y 0 ≤ sm_L.getD y 0
          then some (y, (st.take (sm_n.getD y 0)).reverse, st.drop (sm_n.getD y 0)) else none
    | none => none
  | _ => none
abbrev AF : Type := Nat × List (Option AV) × List AV × AHp
def ah_load (n len pc : Nat) (ls : List (Option AV)) (st : List AV) (h : AHp) (ref : Bool) : Option AF := match ls[n]? with
  | some (some v) => if v.isRight = ref then some (pc + len, ls, v :: st, h) else none
  | _ => none
def ah_store (n len pc : Nat) (ls : List (Option AV)) (st : List AV) (h : AHp) (ref : Bool) : Option AF := match st with
  | v :: st => if n < ls.length ∧ v.isRight = ref then some (pc + len, ls.set n (some v), st, h) else none
  | _ => none
def ah_bin (len pc : Nat) (ls : List (Option AV)) (st : List AV) (h : AHp) (f : Int32 → Int32 → Int32) : Option AF := match st with
  | .inl y :: .inl x :: st => some (pc + len, ls, .inl (f x y) :: st, h)
  | _ => none
def ah_step (mi : Nat) (i : Instr) (len pc : Nat) (ls : List (Option AV)) (st : List AV) (h : AHp) : Option AF := match i with
  | .iconst n => if len = 1 then some (pc + 1, ls, .inl (Int32.ofInt n) :: st, h) else none
  | .bipush n => if len = 2 then some (pc + 2, ls, .inl (Int8.ofInt n).toInt32 :: st, h) else none
  | .sipush n => if len = 3 then some (pc + 3, ls, .inl (Int16.ofInt n).toInt32 :: st, h) else none
  | .ldc idx => match ah_cst (sm_own.getD mi 9) idx with | some v => if len = 2 then some (pc + 2, ls, .inl v :: st, h) else none | none => none
  | .ldc_w idx => match ah_cst (sm_own.getD mi 9) idx with | some v => if len = 3 then some (pc + 3, ls, .inl v :: st, h) else none | none => none
  | .iload_n n => if len = 1 then ah_load n.val 1 pc ls st h false else none
  | .iload n => if len = 2 then ah_load n 2 pc ls st h false else none
  | .aload_n n => if len = 1 then ah_load n.val 1 pc ls st h true else none
  | .aload n => if len = 2 then ah_load n 2 pc ls st h true else none
  | .istore_n n => if len = 1 then ah_store n.val 1 pc ls st h false else none
  | .istore n => if len = 2 then ah_store n 2 pc ls st h false else none
  | .astore_n n => if len = 1 then ah_store n.val 1 pc ls st h true else none
  | .astore n => if len = 2 then ah_store n 2 pc ls st h true else none
  | .iinc n k => match ls[n]? with | some (some (.inl x)) => if len = 3 then some (pc + 3, ls.set n (some (.inl (x + Int32.ofInt k))), st, h) else none | _ => none
  | .iadd => if len = 1 then ah_bin 1 pc ls st h (fun x y => x + y) else none
  | .isub => if len = 1 then ah_bin 1 pc ls st h (fun x y => x - y) else none
  | .imul => if len = 1 then ah_bin 1 pc ls st h (fun x y => x * y) else none
  | .iand => if len = 1 then ah_bin 1 pc ls st h (fun x y => x &&& y) else none
  | .ixor => if len = 1 then ah_bin 1 pc ls st h (fun x y => x ^^^ y) else none
  | .ishr => if len = 1 then ah_bin 1 pc ls st h (fun x y => x >>> (y &&& 31)) else none
  | .iushr => if len = 1 then ah_bin 1 pc ls st h (fun x y => (x.toUInt32 >>> (y.toUInt32 &&& Int32.toUInt32 31)).toInt32) else none
  | .idiv => match st with | .inl y :: _ => if len = 1 ∧ ¬ y = 0 then ah_bin 1 pc ls st h (fun x y => x / y) else none | _ => none
  | .dup => match st with | v :: st => if len = 1 then some (pc + 1, ls, v :: v :: st, h) else none | _ => none
  | .dup2 => match st with | v :: w :: st => if len = 1 then some (pc + 1, ls, v :: w :: v :: w :: st, h) else none | _ => none
  | .goto off => if len = 3 ∧ ah_jok pc off = true then some (ah_jmp pc off, ls, st, h) else none
  | .ifCond co off => match st with | .inl x :: st => if len = 3 ∧ ah_jok pc off = true then (if ah_cmp co x 0 = true then some (ah_jmp pc off, ls, st, h) else some (pc + 3, ls, st, h)) else none | _ => none
  | .if_icmp co off => match st with | .inl y :: .inl x :: st => if len = 3 ∧ ah_jok pc off = true then (if ah_cmp co x y = true then some (ah_jmp pc off, ls, st, h) else some (pc + 3, ls, st, h)) else none | _ => none
  | .tableswitch d lo hi offs => match st with
    | .inl x :: st => if x.toInt < lo ∨ hi < x.toInt then (if ah_jok pc d = true then some (ah_jmp pc d, ls, st, h) else none)
        else match offs[(x.toInt - lo).toNat]? with | some off => if ah_jok pc off = true then some (ah_jmp pc off, ls, st, h) else none | none => none
    | _ => none
  | .getfield idx => match st with
    | .inr (k, n) :: st => match ah_fld (sm_own.getD mi 9) idx with
      | some (c, j) => if len = 3 ∧ ah_cls k = some c ∧ j < ah_nf c then some (pc + 3, ls, (if ah_tgt c j = 0 then .inl (h k n j) else .inr (ah_tgt c j, n)) :: st, h) else none
      | none => none
    | _ => none
  | .putfield idx => match st with
    | .inl v :: .inr (k, n) :: st => match ah_fld (sm_own.getD mi 9) idx with
      | some (c, j) => if len = 3 ∧ ah_cls k = some c ∧ j < ah_nf c ∧ ah_tgt c j = 0 then some (pc + 3, ls, st, ah_up h k n j v) else none
      | none => none
    | _ => none
  | .iaload => match st with
    | .inl x :: .inr (k, n) :: st => match ah_ilen k with | some N => if len = 1 ∧ ¬ (x < 0 ∨ N ≤ x.toNatClampNeg) then some (pc + 1, ls, .inl (h k n x.toNatClampNeg) :: st, h) else none | none => none
    | _ => none
  | .baload => match st with
    | .inl x :: .inr (k, n) :: st => match ah_zlen k with | some N => if len = 1 ∧ ¬ (x < 0 ∨ N ≤ x.toNatClampNeg) then some (pc + 1, ls, .inl (h k n x.toNatClampNeg) :: st, h) else none | none => none
    | _ => none
  | .aaload => match st with
    | .inl x :: .inr (k, _) :: st => match ah_rlen k with | some (N, kt) => if len = 1 ∧ ¬ (x < 0 ∨ N ≤ x.toNatClampNeg) then some (pc + 1, ls, .inr (kt, x.toNatClampNeg) :: st, h) else none | none => none
    | _ => none
  | .iastore => match st with
    | .inl v :: .inl x :: .inr (k, n) :: st => match ah_ilen k with | some N => if len = 1 ∧ ¬ (x < 0 ∨ N ≤ x.toNatClampNeg) then some (pc + 1, ls, st, ah_up h k n x.toNatClampNeg v) else none | none => none
    | _ => none
  | .bastore => match st with
    | .inl v :: .inl x :: .inr (k, n) :: st => match ah_zlen k with | some N => if len = 1 ∧ ¬ (x < 0 ∨ N ≤ x.toNatClampNeg) ∧ (v = 0 ∨ v = 1) then some (pc + 1, ls, st, ah_up h k n x.toNatClampNeg v) else none | none => none
    | _ => none
  | .arraylength => match st with
    | .inr (k, _) :: st => match ah_ilen k with | some N => if len = 1 then some (pc + 1, ls, .inl (Int32.ofNat N) :: st, h) else none | none => none
    | _ => none
  | _ => none
def ah_entry (y : Nat) (as : List AV) : List (Option AV) := as.map some ++ List.replicate (sm_L.getD y 0 - as.length) none
def ah_run : Nat → Nat → Nat → List (Option AV) → List AV → AHp → Option (Option Int32 × AHp)
  | 0, _, _, _, _, _ => none
  | n + 1, mi, pc, ls, st, h => match ah_ins mi pc with
    | none => none
    | some (i, len) => match ah_end mi i len st h with
      | some r => some r
      | none => match ah_call mi i len st with
        | some (y, as, rest) => match ah_run n y 0 (ah_entry y as) [] h with
          | some (r, h') => ah_run n mi (pc + 3) ls (r.toList.map Sum.inl ++ rest) h'
          | none => none
        | none => match ah_step mi i len pc ls st h with
          | some (pc', ls', st', h') => ah_run n mi pc' ls' st' h'
          | none => none
theorem ah_mono : ∀ (n : Nat) {mi pc : Nat} {ls : List (Option AV)} {st : List AV} {h : AHp} {r : Option Int32 × AHp}, ah_run n mi pc ls st h = some r → ∀ k, ah_run (n + k) mi pc ls st h = some r := by
  intro n
  induction n with
  | zero => intro mi pc ls st h r e; simp [ah_run] at e
  | succ n ih =>
    intro mi pc ls st h r e k
    rw [show n + 1 + k = (n + k) + 1 by omega]
    simp only [ah_run] at e ⊢
    cases hi : ah_ins mi pc with
    | none => rw [hi] at e; cases e
    | some il =>
      obtain ⟨i, len⟩ := il
      simp only [hi] at e ⊢
      cases he : ah_end mi i len st h with
      | some r' => simp only [he] at e ⊢; exact e
      | none =>
        simp only [he] at e ⊢
        cases hc : ah_call mi i len st with
        | some q =>
          obtain ⟨y, as, rest⟩ := q
          simp only [hc] at e ⊢
          cases h1 : ah_run n y 0 (ah_entry y as) [] h with
          | none => simp only [h1] at e; cases e
          | some q1 =>
            simp only [h1] at e
            rw [ih h1 k]
            exact ih e k
        | none =>
          simp only [hc] at e ⊢
          cases hs : ah_step mi i len pc ls st h with
          | none => simp only [hs] at e; cases e
          | some q =>
            simp only [hs] at e ⊢
            exact ih e k
/-- from here on the method comes to its end, with Q of answer and cells -/
def VV (mi : Nat) (h : AHp) (pc : Nat) (ls : List (Option AV)) (st : List AV) (Q : Option Int32 → AHp → Prop) : Prop := ∃ n r h', ah_run n mi pc ls st h = some (r, h') ∧ Q r h'
def Vi (mi : Nat) (h : AHp) (ls : List (Option AV)) (K : Int32 → AHp → Prop) : Prop := VV mi h 0 ls [] (fun r h' => ∃ x, r = some x ∧ K x h')
def Vv (mi : Nat) (h : AHp) (ls : List (Option AV)) (K : AHp → Prop) : Prop := VV mi h 0 ls [] (fun r h' => r = none ∧ K h')
theorem VV_mono {mi pc : Nat} {h : AHp} {ls : List (Option AV)} {st : List AV} {Q Q' : Option Int32 → AHp → Prop} (hq : ∀ r h', Q r h' → Q' r h') (v : VV mi h pc ls st Q) : VV mi h pc ls st Q' := by
  obtain ⟨n, r, h', e, q⟩ := v
  exact ⟨n, r, h', e, hq _ _ q⟩
theorem Vi_mono {mi : Nat} {h : AHp} {ls : List (Option AV)} {K K' : Int32 → AHp → Prop} (hk : ∀ x h', K x h' → K' x h') (v : Vi mi h ls K) : Vi mi h ls K' := VV_mono (fun _ h' q => by obtain ⟨x, e, k⟩ := q; exact ⟨x, e, hk x h' k⟩) v
theorem Vv_mono {mi : Nat} {h : AHp} {ls : List (Option AV)} {K K' : AHp → Prop} (hk : ∀ h', K h' → K' h') (v : Vv mi h ls K) : Vv mi h ls K' := VV_mono (fun _ h' q => ⟨q.1, hk h' q.2⟩) v
theorem ah_det {mi pc n1 n2 : Nat} {h : AHp} {ls : List (Option AV)} {st : List AV} {r1 r2 : Option Int32 × AHp} (e1 : ah_run n1 mi pc ls st h = some r1) (e2 : ah_run n2 mi pc ls st h = some r2) : r1 = r2 := by
  have a := ah_mono n1 e1 n2
  have b := ah_mono n2 e2 n1
  rw [Nat.add_comm] at b
  exact Option.some.inj (a.symm.trans b)
theorem Vi_iff {mi : Nat} {h h0 : AHp} {ls : List (Option AV)} {x0 : Int32} (v : Vi mi h ls (fun x h' => x = x0 ∧ h' = h0)) (K : Int32 → AHp → Prop) : Vi mi h ls K ↔ K x0 h0 := by
  obtain ⟨n, r, h', e, x, rfl, rfl, rfl⟩ := v
  constructor
  · intro ⟨n2, r2, h2, e2, x2, er, k⟩
    have := ah_det e e2
    cases this
    cases er
    exact k
  · intro k
    exact ⟨n, _, _, e, _, rfl, k⟩
theorem Vv_iff {mi : Nat} {h h0 : AHp} {ls : List (Option AV)} (v : Vv mi h ls (fun h' => h' = h0)) (K : AHp → Prop) : Vv mi h ls K ↔ K h0 := by
  obtain ⟨n, r, h', e, rfl, rfl⟩ := v
  constructor
  · intro ⟨n2, r2, h2, e2, er, k⟩
    have := ah_det e e2
    cases this
    exact k
  · intro k
    exact ⟨n, _, _, e, rfl, k⟩
theorem VV_end {mi pc len : Nat} {i : Instr} {h : AHp} {ls : List (Option AV)} {st : List AV} {Q : Option Int32 → AHp → Prop} {r : Option Int32} (hi : ah_ins mi pc = some (i, len)) (he : ah_end mi i len st h = some (r, h)) : VV mi h pc ls st Q ↔ Q r h := by
  constructor
  · intro ⟨n, r2, h2, e, q⟩
    cases n with
    | zero => simp [ah_run] at e
    | succ n =>
      simp only [ah_run, hi, he] at e
      cases e
      exact q
  · intro q
    exact ⟨1, r, h, by simp only [ah_run, hi, he], q⟩
theorem VV_step {mi pc len pc' : Nat} {i : Instr} {h h' : AHp} {ls ls' : List (Option AV)} {st st' : List AV} {Q : Option Int32 → AHp → Prop} (hi : ah_ins mi pc = some (i, len)) (he : ah_end mi i len st h = none) (hc : ah_call mi i len st = none) (hs : ah_step mi i len pc ls st h = some (pc', ls', st', h')) : VV mi h pc ls st Q ↔ VV mi h' pc' ls' st' Q := by
  constructor
  · intro ⟨n, r2, h2, e, q⟩
    cases n with
    | zero => simp [ah_run] at e
    | succ n =>
      simp only [ah_run, hi, he, hc, hs] at e
      exact ⟨n, r2, h2, e, q⟩
  · intro ⟨n, r2, h2, e, q⟩
    exact ⟨n + 1, r2, h2, by simp only [ah_run, hi, he, hc, hs]; exact e, q⟩
theorem VV_no {mi pc len : Nat} {i : Instr} {h : AHp} {ls : List (Option AV)} {st : List AV} {Q : Option Int32 → AHp → Prop} (hi : ah_ins mi pc = some (i, len)) (he : ah_end mi i len st h = none) (hc : ah_call mi i len st = none) (hs : ah_step mi i len pc ls st h = none) : ¬ VV mi h pc ls st Q := by
  intro ⟨n, r2, h2, e, q⟩
  cases n with
  | zero => simp [ah_run] at e
  | succ n => simp only [ah_run, hi, he, hc, hs] at e; cases e
theorem VV_calli {mi pc len y : Nat} {i : Instr} {h : AHp} {ls : List (Option AV)} {st as rest : List AV} {Q : Option Int32 → AHp → Prop} (hi : ah_ins mi pc = some (i, len)) (he : ah_end mi i len st h = none) (hc : ah_call mi i len st = some (y, as, rest)) (hv : ∀ n h1 h2, ah_run n y 0 (ah_entry y as) [] h1 = some (none, h2) → False) : VV mi h pc ls st Q ↔ Vi y h (ah_entry y as) (fun x h' => VV mi h' (pc + 3) ls (.inl x :: rest) Q) := by
  constructor
  · intro ⟨n, r2, h2, e, q⟩
    cases n with
    | zero => simp [ah_run] at e
    | succ n =>
      simp only [ah_run, hi, he, hc] at e
      cases h1 : ah_run n y 0 (ah_entry y as) [] h with
      | none => simp only [h1] at e; cases e
      | some q1 =>
        obtain ⟨r, h'⟩ := q1
        simp only [h1] at e
        cases r with
        | none => exact (hv _ _ _ h1).elim
        | some x => exact ⟨n, some x, h', h1, x, rfl, n, r2, h2, e, q⟩
  · intro ⟨n, r, h', e1, x, er, n2, r2, h2, e2, q⟩
    subst er
    refine ⟨(n + n2) + 1, r2, h2, ?_, q⟩
    simp only [ah_run, hi, he, hc]
    rw [ah_mono n e1 n2]
    have := ah_mono n2 e2 n
    rw [Nat.add_comm] at this
    exact this
theorem VV_callv {mi pc len y : Nat} {i : Instr} {h : AHp} {ls : List (Option AV)} {st as rest : List AV} {Q : Option Int32 → AHp → Prop} (hi : ah_ins mi pc = some (i, len)) (he : ah_end mi i len st h = none) (hc : ah_call mi i len st = some (y, as, rest)) (hv : ∀ n h1 x h2, ah_run n y 0 (ah_entry y as) [] h1 = some (some x, h2) → False) : VV mi h pc ls st Q ↔ Vv y h (ah_entry y as) (fun h' => VV mi h' (pc + 3) ls rest Q) := by
  constructor
  · intro ⟨n, r2, h2, e, q⟩
    cases n with
    | zero => simp [ah_run] at e
    | succ n =>
      simp only [ah_run, hi, he, hc] at e
      cases h1 : ah_run n y 0 (ah_entry y as) [] h with
      | none => simp only [h1] at e; cases e
      | some q1 =>
        obtain ⟨r, h'⟩ := q1
        simp only [h1] at e
        cases r with
        | some x => exact (hv _ _ _ _ h1).elim
        | none => exact ⟨n, none, h', h1, rfl, n, r2, h2, e, q⟩
  · intro ⟨n, r, h', e1, er, n2, r2, h2, e2, q⟩
    subst er
    refine ⟨(n + n2) + 1, r2, h2, ?_, q⟩
    simp only [ah_run, hi, he, hc]
    rw [ah_mono n e1 n2]
    have := ah_mono n2 e2 n
    rw [Nat.add_comm] at this
    exact this
/-- what a method gives back is as its head says -/
theorem ah_kind : ∀ (n : Nat) {mi pc : Nat} {ls : List (Option AV)} {st : List AV} {h : AHp} {r : Option Int32} {h' : AHp}, ah_run n mi pc ls st h = some (r, h') → (r = none ↔ sm_ret.getD mi 9 = 0) := by
  intro n
  induction n with
  | zero => intro mi pc ls st h r h' e; simp [ah_run] at e
  | succ n ih =>
    intro mi pc ls st h r h' e
    simp only [ah_run] at e
    cases hi : ah_ins mi pc with
    | none => rw [hi] at e; cases e
    | some il =>
      obtain ⟨i, len⟩ := il
      simp only [hi] at e
      cases he : ah_end mi i len st h with
      | some r' =>
        simp only [he] at e
        cases e
        unfold ah_end at he
        split at he
        · split at he
          · split at he
            · rename_i hh
              cases he
              constructor
              · intro z; cases z
              · intro z; rw [z] at hh; simp at hh
            · cases he
          · cases he
        · split at he
          · split at he
            · rename_i hh
              cases he
              exact ⟨fun _ => hh.2, fun _ => rfl⟩
            · cases he
          · cases he
        · cases he
      | none =>
        simp only [he] at e
        cases hc : ah_call mi i len st with
        | some q =>
          obtain ⟨y, as, rest⟩ := q
          simp only [hc] at e
          cases h1 : ah_run n y 0 (ah_entry y as) [] h with
          | none => simp only [h1] at e; cases e
          | some q1 =>
            simp only [h1] at e
            exact ih e
        | none =>
          simp only [hc] at e
          cases hs : ah_step mi i len pc ls st h with
          | none => simp only [hs] at e; cases e
          | some q =>
            simp only [hs] at e
            exact ih e
theorem ah_noV {y : Nat} (hy : ¬ sm_ret.getD y 9 = 0) {as : List AV} : ∀ n h1 h2, ah_run n y 0 (ah_entry y as) [] h1 = some (none, h2) → False := fun n _ _ e => hy ((ah_kind n e).mp rfl)
theorem ah_noI {y : Nat} (hy : sm_ret.getD y 9 = 0) {as : List AV} : ∀ n h1 x h2, ah_run n y 0 (ah_entry y as) [] h1 = some (some x, h2) → False := fun n _ _ _ e => by
  have := (ah_kind n e).mpr hy
  cases this
end
section
/-! ===== what the tables say, checked by the kernel ===== -/
def ck_cn : Nat → Nat := fun k => match k with | 3 => 20 | 4 => 8 | 5 => 8 | 6 => 8 | 7 => 8 | 8 => 8 | 9 => 8 | 11 => 0 | 16 => 0 | _ => 1
/-- all cells of the picture -/
def ck_wl : List (Nat × Nat) := (List.range 27).flatMap (fun k => (List.range (ck_cn k)).map (fun i => (k, i)))
theorem ck_nodup : ck_wl.Nodup := by decide +kernel
theorem ck_tgt : ∀ q ∈ ck_wl, ∀ j, j < 22 → ((ah_cls q.1).all (fun c => decide (ah_tgt c j = 0) || decide ((ah_tgt c j, q.2) ∈ ck_wl))) = true := by decide +kernel
theorem ck_q : ∀ i, i < 20 → (3, i) ∈ ck_wl := by decide +kernel
theorem ck_s : ∀ i, i < 8 → (4, i) ∈ ck_wl := by decide +kernel
theorem ck_c0 : Cond.code yX0_begin cX0_begin 3 none ∈ sm_W := List.mem_of_getElem? (i := 0) rfl
theorem ck_c1 : Cond.code yX0_isOnShelf cX0_isOnShelf 1 (some .boolean) ∈ sm_W := List.mem_of_getElem? (i := 5) rfl
theorem ck_c2 : Cond.code yJ7_fill_53178 cJ7_fill_53178 4 none ∈ sm_W := List.mem_of_getElem? (i := 6) rfl
theorem ck_c3 : Cond.code yX1_begin cX1_begin 3 none ∈ sm_W := List.mem_of_getElem? (i := 7) rfl
theorem ck_c4 : Cond.code yX1_isIdle cX1_isIdle 1 (some .boolean) ∈ sm_W := List.mem_of_getElem? (i := 17) rfl
theorem ck_c5 : Cond.code yX1_has cX1_has 2 (some .boolean) ∈ sm_W := List.mem_of_getElem? (i := 18) rfl
theorem ck_c6 : Cond.code yX1_hadBy cX1_hadBy 3 (some .boolean) ∈ sm_W := List.mem_of_getElem? (i := 19) rfl
theorem ck_c7 : Cond.code yX1_isWriting cX1_isWriting 2 (some .boolean) ∈ sm_W := List.mem_of_getElem? (i := 25) rfl
theorem ck_c8 : Cond.code yX1_endDay cX1_endDay 1 (some .int) ∈ sm_W := List.mem_of_getElem? (i := 30) rfl
theorem ck_c9 : Cond.code yX1_take cX1_take 4 none ∈ sm_W := List.mem_of_getElem? (i := 32) rfl
theorem ck_c10 : Cond.code yX1_handIn cX1_handIn 2 none ∈ sm_W := List.mem_of_getElem? (i := 36) rfl
theorem ck_c11 : Cond.code yX2_text cX2_text 2 (some .boolean) ∈ sm_W := List.mem_of_getElem? (i := 39) rfl
theorem ck_c12 : Cond.code yX2_rule cX2_rule 2 (some .boolean) ∈ sm_W := List.mem_of_getElem? (i := 44) rfl
theorem ck_c13 : Cond.code yX2_wear cX2_wear 2 (some .boolean) ∈ sm_W := List.mem_of_getElem? (i := 46) rfl
theorem ck_c14 : Cond.code yX2_isPiece cX2_isPiece 2 (some .boolean) ∈ sm_W := List.mem_of_getElem? (i := 48) rfl
theorem ck_c15 : Cond.code yX2_isBits cX2_isBits 1 (some .boolean) ∈ sm_W := List.mem_of_getElem? (i := 49) rfl
theorem ck_c16 : Cond.code yX2_quire cX2_quire 3 (some .int) ∈ sm_W := List.mem_of_getElem? (i := 51) rfl
theorem ck_c17 : Cond.code yX2_isQuire cX2_isQuire 2 (some .boolean) ∈ sm_W := List.mem_of_getElem? (i := 63) rfl
theorem ck_c18 : Cond.code yX2_isScribe cX2_isScribe 2 (some .boolean) ∈ sm_W := List.mem_of_getElem? (i := 64) rfl
theorem ck_c19 : Cond.code yX2_hasPage cX2_hasPage 3 (some .boolean) ∈ sm_W := List.mem_of_getElem? (i := 65) rfl
theorem ck_c20 : Cond.code yX2_modelErrors cX2_modelErrors 4 (some .int) ∈ sm_W := List.mem_of_getElem? (i := 80) rfl
theorem ck_c21 : Cond.code yX2_anew cX2_anew 6 (some .int) ∈ sm_W := List.mem_of_getElem? (i := 87) rfl
theorem ck_c22 : Cond.code yX2_scribe cX2_scribe 2 (some .int) ∈ sm_W := List.mem_of_getElem? (i := 88) rfl
theorem ck_c23 : Cond.code yX2_slip cX2_slip 4 (some .boolean) ∈ sm_W := List.mem_of_getElem? (i := 92) rfl
theorem ck_c24 : Cond.code yX2_mayPass cX2_mayPass 3 (some .boolean) ∈ sm_W := List.mem_of_getElem? (i := 94) rfl
theorem ck_c25 : Cond.code yX2_handInPages cX2_handInPages 3 none ∈ sm_W := List.mem_of_getElem? (i := 104) rfl
theorem ck_c26 : Cond.code yX2_hasEnded cX2_hasEnded 2 (some .boolean) ∈ sm_W := List.mem_of_getElem? (i := 105) rfl
theorem ck_c27 : Cond.code yX2_lineKey cX2_lineKey 2 (some .int) ∈ sm_W := List.mem_of_getElem? (i := 107) rfl
theorem ck_c28 : Cond.code yX2_nextInLine cX2_nextInLine 5 (some .int) ∈ sm_W := List.mem_of_getElem? (i := 109) rfl
theorem ck_c29 : Cond.code yX2_isWorn cX2_isWorn 2 (some .boolean) ∈ sm_W := List.mem_of_getElem? (i := 116) rfl
theorem ck_c30 : Cond.code yX2_leastUsedOnShelf cX2_leastUsedOnShelf 5 (some .int) ∈ sm_W := List.mem_of_getElem? (i := 118) rfl
theorem ck_c31 : Cond.code yX2_unwornQuiresOf cX2_unwornQuiresOf 4 (some .int) ∈ sm_W := List.mem_of_getElem? (i := 122) rfl
theorem ck_c32 : Cond.code yX2_chosenQuire cX2_chosenQuire 7 (some .int) ∈ sm_W := List.mem_of_getElem? (i := 129) rfl
theorem ck_c33 : Cond.code yX2_lendQuires cX2_lendQuires 5 none ∈ sm_W := List.mem_of_getElem? (i := 139) rfl
theorem ck_c34 : Cond.code yX2_passDay cX2_passDay 1 none ∈ sm_W := List.mem_of_getElem? (i := 146) rfl
theorem ck_c35 : Cond.code yX2_skipQuietDays cX2_skipQuietDays 4 none ∈ sm_W := List.mem_of_getElem? (i := 147) rfl
theorem ck_c36 : Cond.code yX2_days cX2_days 4 (some .int) ∈ sm_W := List.mem_of_getElem? (i := 164) rfl
theorem ck_c37 : Cond.code yX2_endedBooks cX2_endedBooks 3 (some .int) ∈ sm_W := List.mem_of_getElem? (i := 165) rfl
theorem ck_c38 : Cond.code yX2_allEnded cX2_allEnded 1 (some .boolean) ∈ sm_W := List.mem_of_getElem? (i := 166) rfl
theorem ck_c39 : Cond.code yX2_finish cX2_finish 4 (some .int) ∈ sm_W := List.mem_of_getElem? (i := 173) rfl
theorem ck_c40 : Cond.code yX2_soonestEnd cX2_soonestEnd 3 (some .int) ∈ sm_W := List.mem_of_getElem? (i := 174) rfl
theorem ck_c41 : Cond.code yX2_workLeft cX2_workLeft 5 (some .int) ∈ sm_W := List.mem_of_getElem? (i := 179) rfl
theorem ck_c42 : Cond.code yX2_quiresOf cX2_quiresOf 4 (some .int) ∈ sm_W := List.mem_of_getElem? (i := 180) rfl
theorem ck_c43 : Cond.code yX2_bound cX2_bound 5 (some .int) ∈ sm_W := List.mem_of_getElem? (i := 190) rfl
theorem ck_c44 : Cond.code yX2_page cX2_page 5 (some .int) ∈ sm_W := List.mem_of_getElem? (i := 194) rfl
theorem ck_c45 : Cond.code yJ6_bitCount_0f7a4 cJ6_bitCount_0f7a4 1 (some .int) ∈ sm_W := List.mem_of_getElem? (i := 195) rfl
theorem ck_c46 : Cond.code yX2_nearestModel cX2_nearestModel 8 (some .int) ∈ sm_W := List.mem_of_getElem? (i := 205) rfl
theorem ck_c47 : Cond.code yX2_parent cX2_parent 3 (some .int) ∈ sm_W := List.mem_of_getElem? (i := 209) rfl
theorem ck_c48 : Cond.code yX2_unlikePlaces cX2_unlikePlaces 5 (some .int) ∈ sm_W := List.mem_of_getElem? (i := 210) rfl
theorem ck_c49 : Cond.code yX2_changes cX2_changes 4 (some .int) ∈ sm_W := List.mem_of_getElem? (i := 214) rfl
theorem ck_c50 : Cond.code yX2_met cX2_met 5 (some .int) ∈ sm_W := List.mem_of_getElem? (i := 215) rfl
theorem ck_c51 : Cond.code yX2_stateOf cX2_stateOf 2 (some .int) ∈ sm_W := List.mem_of_getElem? (i := 216) rfl
theorem ck_c52 : Cond.code yX2_look cX2_look 4 (some .int) ∈ sm_W := List.mem_of_getElem? (i := 220) rfl
theorem ck_c53 : Cond.code yX2_stock cX2_stock 4 (some .int) ∈ sm_W := List.mem_of_getElem? (i := 221) rfl
theorem ck_c54 : Cond.code yX2_count cX2_count 2 (some .int) ∈ sm_W := List.mem_of_getElem? (i := 222) rfl
theorem ck_c55 : Cond.code yX3_thrown cX3_thrown 1 (some .int) ∈ sm_W := List.mem_of_getElem? (i := 223) rfl
theorem ck_c56 : Cond.code yX3_text cX3_text 2 (some .boolean) ∈ sm_W := List.mem_of_getElem? (i := 225) rfl
theorem ck_c57 : Cond.code yX3_rule cX3_rule 2 (some .boolean) ∈ sm_W := List.mem_of_getElem? (i := 230) rfl
theorem ck_c58 : Cond.code yX3_wear cX3_wear 2 (some .boolean) ∈ sm_W := List.mem_of_getElem? (i := 232) rfl
theorem ck_c59 : Cond.code yX3_areBits cX3_areBits 1 (some .boolean) ∈ sm_W := List.mem_of_getElem? (i := 234) rfl
theorem ck_c60 : Cond.code yX3_isQuire cX3_isQuire 2 (some .boolean) ∈ sm_W := List.mem_of_getElem? (i := 236) rfl
theorem ck_c61 : Cond.code yX3_isScribe cX3_isScribe 2 (some .boolean) ∈ sm_W := List.mem_of_getElem? (i := 237) rfl
theorem ck_c62 : Cond.code yX3_isPiece cX3_isPiece 2 (some .boolean) ∈ sm_W := List.mem_of_getElem? (i := 238) rfl
theorem ck_c63 : Cond.code yX3_quire cX3_quire 3 (some .int) ∈ sm_W := List.mem_of_getElem? (i := 239) rfl
theorem ck_c64 : Cond.code yX3_anew cX3_anew 6 (some .int) ∈ sm_W := List.mem_of_getElem? (i := 250) rfl
theorem ck_c65 : Cond.code yX3_scribe cX3_scribe 3 (some .int) ∈ sm_W := List.mem_of_getElem? (i := 259) rfl
theorem ck_c66 : Cond.code yX3_slip cX3_slip 4 (some .boolean) ∈ sm_W := List.mem_of_getElem? (i := 265) rfl
theorem ck_c67 : Cond.code yX3_hasMany cX3_hasMany 4 (some .int) ∈ sm_W := List.mem_of_getElem? (i := 266) rfl
theorem ck_c68 : Cond.code yX3_handsIn cX3_handsIn 4 none ∈ sm_W := List.mem_of_getElem? (i := 267) rfl
theorem ck_c69 : Cond.code yX3_isThere cX3_isThere 2 (some .boolean) ∈ sm_W := List.mem_of_getElem? (i := 272) rfl
theorem ck_c70 : Cond.code yX3_isOnShelf cX3_isOnShelf 3 (some .boolean) ∈ sm_W := List.mem_of_getElem? (i := 273) rfl
theorem ck_c71 : Cond.code yX3_sound cX3_sound 4 (some .int) ∈ sm_W := List.mem_of_getElem? (i := 277) rfl
theorem ck_c72 : Cond.code yX3_takes cX3_takes 5 none ∈ sm_W := List.mem_of_getElem? (i := 286) rfl
theorem ck_c73 : Cond.code yX3_ends cX3_ends 2 (some .int) ∈ sm_W := List.mem_of_getElem? (i := 287) rfl
theorem ck_c74 : Cond.code yX3_oneDay cX3_oneDay 3 none ∈ sm_W := List.mem_of_getElem? (i := 297) rfl
theorem ck_c75 : Cond.code yX3_days cX3_days 3 (some .int) ∈ sm_W := List.mem_of_getElem? (i := 301) rfl
theorem ck_c76 : Cond.code yX3_allEnded cX3_allEnded 2 (some .boolean) ∈ sm_W := List.mem_of_getElem? (i := 302) rfl
theorem ck_c77 : Cond.code yX3_finish cX3_finish 3 (some .int) ∈ sm_W := List.mem_of_getElem? (i := 306) rfl
theorem ck_c78 : Cond.code yX3_bound cX3_bound 7 (some .int) ∈ sm_W := List.mem_of_getElem? (i := 307) rfl
theorem ck_c79 : Cond.code yX3_isPage cX3_isPage 3 (some .boolean) ∈ sm_W := List.mem_of_getElem? (i := 308) rfl
theorem ck_c80 : Cond.code yX3_page cX3_page 5 (some .int) ∈ sm_W := List.mem_of_getElem? (i := 309) rfl
theorem ck_c81 : Cond.code yX3_unlike cX3_unlike 4 (some .int) ∈ sm_W := List.mem_of_getElem? (i := 313) rfl
theorem ck_c82 : Cond.code yX3_parentOf cX3_parentOf 6 (some .int) ∈ sm_W := List.mem_of_getElem? (i := 314) rfl
theorem ck_c83 : Cond.code yX3_parent cX3_parent 3 (some .int) ∈ sm_W := List.mem_of_getElem? (i := 321) rfl
theorem ck_c84 : Cond.code yX3_changes cX3_changes 4 (some .int) ∈ sm_W := List.mem_of_getElem? (i := 322) rfl
theorem ck_c85 : Cond.code yX3_met cX3_met 5 (some .int) ∈ sm_W := List.mem_of_getElem? (i := 323) rfl
theorem ck_c86 : Cond.code yX3_fails cX3_fails 2 (some .int) ∈ sm_W := List.mem_of_getElem? (i := 324) rfl
theorem ck_c87 : Cond.code yX3_look cX3_look 3 (some .int) ∈ sm_W := List.mem_of_getElem? (i := 325) rfl
theorem ck_c88 : Cond.code yX3_stock cX3_stock 3 (some .int) ∈ sm_W := List.mem_of_getElem? (i := 329) rfl
theorem ck_c89 : Cond.code yX3_count cX3_count 4 (some .int) ∈ sm_W := List.mem_of_getElem? (i := 330) rfl
theorem ck_c90 : Cond.code yJ9_max_7cf53 cJ9_max_7cf53 2 (some .int) ∈ sm_W := List.mem_of_getElem? (i := 154) rfl
theorem ck_c91 : Cond.code yJ9_min_7cf53 cJ9_min_7cf53 2 (some .int) ∈ sm_W := List.mem_of_getElem? (i := 151) rfl
theorem ck_code : ∀ y, y < 92 → (Cond.code (sm_y.getD y ⟨"", "", ""⟩) (sm_c.getD y ⟨#[]⟩) (sm_L.getD y 0) (match sm_ret.getD y 9 with | 0 => none | 1 => some .int | _ => some .boolean)) ∈ sm_W := by
  intro y hy
  match y, hy with
  | 0, _ => exact ck_c0
  | 1, _ => exact ck_c1
  | 2, _ => exact ck_c2
  | 3, _ => exact ck_c3
  | 4, _ => exact ck_c4
  | 5, _ => exact ck_c5
  | 6, _ => exact ck_c6
  | 7, _ => exact ck_c7
  | 8, _ => exact ck_c8
  | 9, _ => exact ck_c9
  | 10, _ => exact ck_c10
  | 11, _ => exact ck_c11
  | 12, _ => exact ck_c12
  | 13, _ => exact ck_c13
  | 14, _ => exact ck_c14
  | 15, _ => exact ck_c15
  | 16, _ => exact ck_c16
  | 17, _ => exact ck_c17
  | 18, _ => exact ck_c18
  | 19, _ => exact ck_c19
  | 20, _ => exact ck_c20
  | 21, _ => exact ck_c21
  | 22, _ => exact ck_c22
  | 23, _ => exact ck_c23
  | 24, _ => exact ck_c24
  | 25, _ => exact ck_c25
  | 26, _ => exact ck_c26
  | 27, _ => exact ck_c27
  | 28, _ => exact ck_c28
  | 29, _ => exact ck_c29
  | 30, _ => exact ck_c30
  | 31, _ => exact ck_c31
  | 32, _ => exact ck_c32
  | 33, _ => exact ck_c33
  | 34, _ => exact ck_c34
  | 35, _ => exact ck_c35
  | 36, _ => exact ck_c36
  | 37, _ => exact ck_c37
  | 38, _ => exact ck_c38
  | 39, _ => exact ck_c39
  | 40, _ => exact ck_c40
  | 41, _ => exact ck_c41
  | 42, _ => exact ck_c42
  | 43, _ => exact ck_c43
  | 44, _ => exact ck_c44
  | 45, _ => exact ck_c45
  | 46, _ => exact ck_c46
  | 47, _ => exact ck_c47
  | 48, _ => exact ck_c48
  | 49, _ => exact ck_c49
  | 50, _ => exact ck_c50
  | 51, _ => exact ck_c51
  | 52, _ => exact ck_c52
  | 53, _ => exact ck_c53
  | 54, _ => exact ck_c54
  | 55, _ => exact ck_c55
  | 56, _ => exact ck_c56
  | 57, _ => exact ck_c57
  | 58, _ => exact ck_c58
  | 59, _ => exact ck_c59
  | 60, _ => exact ck_c60
  | 61, _ => exact ck_c61
  | 62, _ => exact ck_c62
  | 63, _ => exact ck_c63
  | 64, _ => exact ck_c64
  | 65, _ => exact ck_c65
  | 66, _ => exact ck_c66
  | 67, _ => exact ck_c67
  | 68, _ => exact ck_c68
  | 69, _ => exact ck_c69
  | 70, _ => exact ck_c70
  | 71, _ => exact ck_c71
  | 72, _ => exact ck_c72
  | 73, _ => exact ck_c73
  | 74, _ => exact ck_c74
  | 75, _ => exact ck_c75
  | 76, _ => exact ck_c76
  | 77, _ => exact ck_c77
  | 78, _ => exact ck_c78
  | 79, _ => exact ck_c79
  | 80, _ => exact ck_c80
  | 81, _ => exact ck_c81
  | 82, _ => exact ck_c82
  | 83, _ => exact ck_c83
  | 84, _ => exact ck_c84
  | 85, _ => exact ck_c85
  | 86, _ => exact ck_c86
  | 87, _ => exact ck_c87
  | 88, _ => exact ck_c88
  | 89, _ => exact ck_c89
  | 90, _ => exact ck_c90
  | 91, _ => exact ck_c91
  | n + 92, h => exact absurd h (by omega)
theorem ck_fld : ∀ q ∈ sm_fld, (Cond.fieldLink (sm_R q.1) q.2.1 ((sm_cl.getD q.2.2.1 (RX0, TX0, 4)).1) ((sm_cl.getD q.2.2.1 (RX0, TX0, 4)).2.1 q.2.2.2).2.1 ((sm_cl.getD q.2.2.1 (RX0, TX0, 4)).2.1 q.2.2.2).2.2.1) ∈ sm_W ∧ ((sm_cl.getD q.2.2.1 (RX0, TX0, 4)).2.1 q.2.2.2).1 = (sm_cl.getD q.2.2.1 (RX0, TX0, 4)).1 ∧ q.2.2.1 < 4 ∧ q.2.2.2 < ah_nf q.2.2.1 := by decide +kernel
theorem ck_cst : ∀ q ∈ sm_cst, (Cond.constant (sm_R q.1) q.2.1 q.2.2) ∈ sm_W := by decide +kernel
theorem ck_mthV : ∀ q ∈ sm_mth, sm_st.getD q.2.2 9 = 0 → q.2.2 < 92 ∧ sm_own.getD q.2.2 9 < 4 ∧ (sm_y.getD q.2.2 ⟨"", "", ""⟩).cls = (sm_cl.getD (sm_own.getD q.2.2 9) (RX0, TX0, 4)).1 ∧ Cond.methodLink (sm_R q.1) q.2.1 (sm_y.getD q.2.2 ⟨"", "", ""⟩) ∈ sm_W ∧ Cond.instanceMethod (sm_y.getD q.2.2 ⟨"", "", ""⟩) ∈ sm_W ∧ Cond.selects ((sm_cl.getD (sm_own.getD q.2.2 9) (RX0, TX0, 4)).1) (sm_y.getD q.2.2 ⟨"", "", ""⟩) (sm_y.getD q.2.2 ⟨"", "", ""⟩) ∈ sm_W ∧ Cond.initialized ((sm_cl.getD (sm_own.getD q.2.2 9) (RX0, TX0, 4)).1) ∈ sm_W := by decide +kernel
theorem ck_mthS : ∀ q ∈ sm_mth, sm_st.getD q.2.2 9 = 1 → q.2.2 < 92 ∧ Cond.methodLink (sm_R q.1) q.2.1 (sm_y.getD q.2.2 ⟨"", "", ""⟩) ∈ sm_W ∧ Cond.static (sm_y.getD q.2.2 ⟨"", "", ""⟩) ∈ sm_W ∧ Cond.initialized (sm_y.getD q.2.2 ⟨"", "", ""⟩).cls ∈ sm_W := by decide +kernel
theorem ck_name : ∀ y, y < 92 → plainFor (sm_y.getD y ⟨"", "", ""⟩) = true ∧ (sm_y.getD y ⟨"", "", ""⟩).cls = sm_R (sm_own.getD y 9) ∧ (sm_y.getD y ⟨"", "", ""⟩).cls ≠ "java/lang/invoke/MethodHandle" ∧ (sm_y.getD y ⟨"", "", ""⟩).cls ≠ "java/lang/invoke/VarHandle" ∧ (parseMethodDescriptor (sm_y.getD y ⟨"", "", ""⟩).desc).map (fun d => d.parameters.length) = some (sm_n.getD y 0) := by decide +kernel
theorem ck_x0 : ∀ w ∈ wsX00, w ∈ sm_W := by decide +kernel
theorem ck_x1 : ∀ w ∈ wsX10, w ∈ sm_W := by decide +kernel
theorem ck_x2 : ∀ w ∈ wsX20, w ∈ sm_W := by decide +kernel
theorem ck_x3 : ∀ w ∈ wsX30, w ∈ sm_W := by decide +kernel
theorem ck_good : sm_W.all goodWord = true := by decide +kernel
end
section
theorem ck_d0 : ∀ q ∈ sm_t0, decode cX0_begin q.1 = .ok q.2 := by decide +kernel
theorem ck_d1 : ∀ q ∈ sm_t1, decode cX0_isOnShelf q.1 = .ok q.2 := by decide +kernel
theorem ck_d2 : ∀ q ∈ sm_t2, decode cJ7_fill_53178 q.1 = .ok q.2 := by decide +kernel
theorem ck_d3 : ∀ q ∈ sm_t3, decode cX1_begin q.1 = .ok q.2 := by decide +kernel
theorem ck_d4 : ∀ q ∈ sm_t4, decode cX1_isIdle q.1 = .ok q.2 := by decide +kernel
theorem ck_d5 : ∀ q ∈ sm_t5, decode cX1_has q.1 = .ok q.2 := by decide +kernel
theorem ck_d6 : ∀ q ∈ sm_t6, decode cX1_hadBy q.1 = .ok q.2 := by decide +kernel
theorem ck_d7 : ∀ q ∈ sm_t7, decode cX1_isWriting q.1 = .ok q.2 := by decide +kernel
theorem ck_d8 : ∀ q ∈ sm_t8, decode cX1_endDay q.1 = .ok q.2 := by decide +kernel
theorem ck_d9 : ∀ q ∈ sm_t9, decode cX1_take q.1 = .ok q.2 := by decide +kernel
theorem ck_d10 : ∀ q ∈ sm_t10, decode cX1_handIn q.1 = .ok q.2 := by decide +kernel
theorem ck_d11 : ∀ q ∈ sm_t11, decode cX2_text q.1 = .ok q.2 := by decide +kernel
theorem ck_d12 : ∀ q ∈ sm_t12, decode cX2_rule q.1 = .ok q.2 := by decide +kernel
theorem ck_d13 : ∀ q ∈ sm_t13, decode cX2_wear q.1 = .ok q.2 := by decide +kernel
theorem ck_d14 : ∀ q ∈ sm_t14, decode cX2_isPiece q.1 = .ok q.2 := by decide +kernel
theorem ck_d15 : ∀ q ∈ sm_t15, decode cX2_isBits q.1 = .ok q.2 := by decide +kernel
theorem ck_d16 : ∀ q ∈ sm_t16, decode cX2_quire q.1 = .ok q.2 := by decide +kernel
theorem ck_d17 : ∀ q ∈ sm_t17, decode cX2_isQuire q.1 = .ok q.2 := by decide +kernel
theorem ck_d18 : ∀ q ∈ sm_t18, decode cX2_isScribe q.1 = .ok q.2 := by decide +kernel
theorem ck_d19 : ∀ q ∈ sm_t19, decode cX2_hasPage q.1 = .ok q.2 := by decide +kernel
theorem ck_d20 : ∀ q ∈ sm_t20, decode cX2_modelErrors q.1 = .ok q.2 := by decide +kernel
theorem ck_d21 : ∀ q ∈ sm_t21, decode cX2_anew q.1 = .ok q.2 := by decide +kernel
theorem ck_d22 : ∀ q ∈ sm_t22, decode cX2_scribe q.1 = .ok q.2 := by decide +kernel
theorem ck_d23 : ∀ q ∈ sm_t23, decode cX2_slip q.1 = .ok q.2 := by decide +kernel
theorem ck_d24 : ∀ q ∈ sm_t24, decode cX2_mayPass q.1 = .ok q.2 := by decide +kernel
theorem ck_d25 : ∀ q ∈ sm_t25, decode cX2_handInPages q.1 = .ok q.2 := by decide +kernel
theorem ck_d26 : ∀ q ∈ sm_t26, decode cX2_hasEnded q.1 = .ok q.2 := by decide +kernel
theorem ck_d27 : ∀ q ∈ sm_t27, decode cX2_lineKey q.1 = .ok q.2 := by decide +kernel
theorem ck_d28 : ∀ q ∈ sm_t28, decode cX2_nextInLine q.1 = .ok q.2 := by decide +kernel
theorem ck_d29 : ∀ q ∈ sm_t29, decode cX2_isWorn q.1 = .ok q.2 := by decide +kernel
theorem ck_d30 : ∀ q ∈ sm_t30, decode cX2_leastUsedOnShelf q.1 = .ok q.2 := by decide +kernel
theorem ck_d31 : ∀ q ∈ sm_t31, decode cX2_unwornQuiresOf q.1 = .ok q.2 := by decide +kernel
theorem ck_d32 : ∀ q ∈ sm_t32, decode cX2_chosenQuire q.1 = .ok q.2 := by decide +kernel
theorem ck_d33 : ∀ q ∈ sm_t33, decode cX2_lendQuires q.1 = .ok q.2 := by decide +kernel
theorem ck_d34 : ∀ q ∈ sm_t34, decode cX2_passDay q.1 = .ok q.2 := by decide +kernel
theorem ck_d35 : ∀ q ∈ sm_t35, decode cX2_skipQuietDays q.1 = .ok q.2 := by decide +kernel
theorem ck_d36 : ∀ q ∈ sm_t36, decode cX2_days q.1 = .ok q.2 := by decide +kernel
theorem ck_d37 : ∀ q ∈ sm_t37, decode cX2_endedBooks q.1 = .ok q.2 := by decide +kernel
theorem ck_d38 : ∀ q ∈ sm_t38, decode cX2_allEnded q.1 = .ok q.2 := by decide +kernel
theorem ck_d39 : ∀ q ∈ sm_t39, decode cX2_finish q.1 = .ok q.2 := by decide +kernel
theorem ck_d40 : ∀ q ∈ sm_t40, decode cX2_soonestEnd q.1 = .ok q.2 := by decide +kernel
theorem ck_d41 : ∀ q ∈ sm_t41, decode cX2_workLeft q.1 = .ok q.2 := by decide +kernel
theorem ck_d42 : ∀ q ∈ sm_t42, decode cX2_quiresOf q.1 = .ok q.2 := by decide +kernel
theorem ck_d43 : ∀ q ∈ sm_t43, decode cX2_bound q.1 = .ok q.2 := by decide +kernel
theorem ck_d44 : ∀ q ∈ sm_t44, decode cX2_page q.1 = .ok q.2 := by decide +kernel
theorem ck_d45 : ∀ q ∈ sm_t45, decode cJ6_bitCount_0f7a4 q.1 = .ok q.2 := by decide +kernel
theorem ck_d46 : ∀ q ∈ sm_t46, decode cX2_nearestModel q.1 = .ok q.2 := by decide +kernel
theorem ck_d47 : ∀ q ∈ sm_t47, decode cX2_parent q.1 = .ok q.2 := by decide +kernel
theorem ck_d48 : ∀ q ∈ sm_t48, decode cX2_unlikePlaces q.1 = .ok q.2 := by decide +kernel
theorem ck_d49 : ∀ q ∈ sm_t49, decode cX2_changes q.1 = .ok q.2 := by decide +kernel
theorem ck_d50 : ∀ q ∈ sm_t50, decode cX2_met q.1 = .ok q.2 := by decide +kernel
theorem ck_d51 : ∀ q ∈ sm_t51, decode cX2_stateOf q.1 = .ok q.2 := by decide +kernel
theorem ck_d52 : ∀ q ∈ sm_t52, decode cX2_look q.1 = .ok q.2 := by decide +kernel
theorem ck_d53 : ∀ q ∈ sm_t53, decode cX2_stock q.1 = .ok q.2 := by decide +kernel
theorem ck_d54 : ∀ q ∈ sm_t54, decode cX2_count q.1 = .ok q.2 := by decide +kernel
theorem ck_d55 : ∀ q ∈ sm_t55, decode cX3_thrown q.1 = .ok q.2 := by decide +kernel
theorem ck_d56 : ∀ q ∈ sm_t56, decode cX3_text q.1 = .ok q.2 := by decide +kernel
theorem ck_d57 : ∀ q ∈ sm_t57, decode cX3_rule q.1 = .ok q.2 := by decide +kernel
theorem ck_d58 : ∀ q ∈ sm_t58, decode cX3_wear q.1 = .ok q.2 := by decide +kernel
theorem ck_d59 : ∀ q ∈ sm_t59, decode cX3_areBits q.1 = .ok q.2 := by decide +kernel
theorem ck_d60 : ∀ q ∈ sm_t60, decode cX3_isQuire q.1 = .ok q.2 := by decide +kernel
theorem ck_d61 : ∀ q ∈ sm_t61, decode cX3_isScribe q.1 = .ok q.2 := by decide +kernel
theorem ck_d62 : ∀ q ∈ sm_t62, decode cX3_isPiece q.1 = .ok q.2 := by decide +kernel
theorem ck_d63 : ∀ q ∈ sm_t63, decode cX3_quire q.1 = .ok q.2 := by decide +kernel
theorem ck_d64 : ∀ q ∈ sm_t64, decode cX3_anew q.1 = .ok q.2 := by decide +kernel
theorem ck_d65 : ∀ q ∈ sm_t65, decode cX3_scribe q.1 = .ok q.2 := by decide +kernel
theorem ck_d66 : ∀ q ∈ sm_t66, decode cX3_slip q.1 = .ok q.2 := by decide +kernel
theorem ck_d67 : ∀ q ∈ sm_t67, decode cX3_hasMany q.1 = .ok q.2 := by decide +kernel
theorem ck_d68 : ∀ q ∈ sm_t68, decode cX3_handsIn q.1 = .ok q.2 := by decide +kernel
theorem ck_d69 : ∀ q ∈ sm_t69, decode cX3_isThere q.1 = .ok q.2 := by decide +kernel
theorem ck_d70 : ∀ q ∈ sm_t70, decode cX3_isOnShelf q.1 = .ok q.2 := by decide +kernel
theorem ck_d71 : ∀ q ∈ sm_t71, decode cX3_sound q.1 = .ok q.2 := by decide +kernel
theorem ck_d72 : ∀ q ∈ sm_t72, decode cX3_takes q.1 = .ok q.2 := by decide +kernel
theorem ck_d73 : ∀ q ∈ sm_t73, decode cX3_ends q.1 = .ok q.2 := by decide +kernel
theorem ck_d74 : ∀ q ∈ sm_t74, decode cX3_oneDay q.1 = .ok q.2 := by decide +kernel
theorem ck_d75 : ∀ q ∈ sm_t75, decode cX3_days q.1 = .ok q.2 := by decide +kernel
theorem ck_d76 : ∀ q ∈ sm_t76, decode cX3_allEnded q.1 = .ok q.2 := by decide +kernel
theorem ck_d77 : ∀ q ∈ sm_t77, decode cX3_finish q.1 = .ok q.2 := by decide +kernel
theorem ck_d78 : ∀ q ∈ sm_t78, decode cX3_bound q.1 = .ok q.2 := by decide +kernel
theorem ck_d79 : ∀ q ∈ sm_t79, decode cX3_isPage q.1 = .ok q.2 := by decide +kernel
theorem ck_d80 : ∀ q ∈ sm_t80, decode cX3_page q.1 = .ok q.2 := by decide +kernel
theorem ck_d81 : ∀ q ∈ sm_t81, decode cX3_unlike q.1 = .ok q.2 := by decide +kernel
theorem ck_d82 : ∀ q ∈ sm_t82, decode cX3_parentOf q.1 = .ok q.2 := by decide +kernel
theorem ck_d83 : ∀ q ∈ sm_t83, decode cX3_parent q.1 = .ok q.2 := by decide +kernel
theorem ck_d84 : ∀ q ∈ sm_t84, decode cX3_changes q.1 = .ok q.2 := by decide +kernel
theorem ck_d85 : ∀ q ∈ sm_t85, decode cX3_met q.1 = .ok q.2 := by decide +kernel
theorem ck_d86 : ∀ q ∈ sm_t86, decode cX3_fails q.1 = .ok q.2 := by decide +kernel
theorem ck_d87 : ∀ q ∈ sm_t87, decode cX3_look q.1 = .ok q.2 := by decide +kernel
theorem ck_d88 : ∀ q ∈ sm_t88, decode cX3_stock q.1 = .ok q.2 := by decide +kernel
theorem ck_d89 : ∀ q ∈ sm_t89, decode cX3_count q.1 = .ok q.2 := by decide +kernel
theorem ck_d90 : ∀ q ∈ sm_t90, decode cJ9_max_7cf53 q.1 = .ok q.2 := by decide +kernel
theorem ck_d91 : ∀ q ∈ sm_t91, decode cJ9_min_7cf53 q.1 = .ok q.2 := by decide +kernel
theorem ck_dec : ∀ y, y < 92 → ∀ q ∈ sm_tabs.getD y [], decode (sm_c.getD y ⟨#[]⟩) q.1 = .ok q.2 := by
  intro y hy
  match y, hy with
  | 0, _ => exact ck_d0
  | 1, _ => exact ck_d1
  | 2, _ => exact ck_d2
  | 3, _ => exact ck_d3
  | 4, _ => exact ck_d4
  | 5, _ => exact ck_d5
  | 6, _ => exact ck_d6
  | 7, _ => exact ck_d7
  | 8, _ => exact ck_d8
  | 9, _ => exact ck_d9
  | 10, _ => exact ck_d10
  | 11, _ => exact ck_d11
  | 12, _ => exact ck_d12
  | 13, _ => exact ck_d13
  | 14, _ => exact ck_d14
  | 15, _ => exact ck_d15
  | 16, _ => exact ck_d16
  | 17, _ => exact ck_d17
  | 18, _ => exact ck_d18
  | 19, _ => exact ck_d19
  | 20, _ => exact ck_d20
  | 21, _ => exact ck_d21
  | 22, _ => exact ck_d22
  | 23, _ => exact ck_d23
  | 24, _ => exact ck_d24
  | 25, _ => exact ck_d25
  | 26, _ => exact ck_d26
  | 27, _ => exact ck_d27
  | 28, _ => exact ck_d28
  | 29, _ => exact ck_d29
  | 30, _ => exact ck_d30
  | 31, _ => exact ck_d31
  | 32, _ => exact ck_d32
  | 33, _ => exact ck_d33
  | 34, _ => exact ck_d34
  | 35, _ => exact ck_d35
  | 36, _ => exact ck_d36
  | 37, _ => exact ck_d37
  | 38, _ => exact ck_d38
  | 39, _ => exact ck_d39
  | 40, _ => exact ck_d40
  | 41, _ => exact ck_d41
  | 42, _ => exact ck_d42
  | 43, _ => exact ck_d43
  | 44, _ => exact ck_d44
  | 45, _ => exact ck_d45
  | 46, _ => exact ck_d46
  | 47, _ => exact ck_d47
  | 48, _ => exact ck_d48
  | 49, _ => exact ck_d49
  | 50, _ => exact ck_d50
  | 51, _ => exact ck_d51
  | 52, _ => exact ck_d52
  | 53, _ => exact ck_d53
  | 54, _ => exact ck_d54
  | 55, _ => exact ck_d55
  | 56, _ => exact ck_d56
  | 57, _ => exact ck_d57
  | 58, _ => exact ck_d58
  | 59, _ => exact ck_d59
  | 60, _ => exact ck_d60
  | 61, _ => exact ck_d61
  | 62, _ => exact ck_d62
  | 63, _ => exact ck_d63
  | 64, _ => exact ck_d64
  | 65, _ => exact ck_d65
  | 66, _ => exact ck_d66
  | 67, _ => exact ck_d67
  | 68, _ => exact ck_d68
  | 69, _ => exact ck_d69
  | 70, _ => exact ck_d70
  | 71, _ => exact ck_d71
  | 72, _ => exact ck_d72
  | 73, _ => exact ck_d73
  | 74, _ => exact ck_d74
  | 75, _ => exact ck_d75
  | 76, _ => exact ck_d76
  | 77, _ => exact ck_d77
  | 78, _ => exact ck_d78
  | 79, _ => exact ck_d79
  | 80, _ => exact ck_d80
  | 81, _ => exact ck_d81
  | 82, _ => exact ck_d82
  | 83, _ => exact ck_d83
  | 84, _ => exact ck_d84
  | 85, _ => exact ck_d85
  | 86, _ => exact ck_d86
  | 87, _ => exact ck_d87
  | 88, _ => exact ck_d88
  | 89, _ => exact ck_d89
  | 90, _ => exact ck_d90
  | 91, _ => exact ck_d91
  | n + 92, h => exact absurd h (by omega)
end
section
/-! ===== the picture's cells in the heap ===== -/
def sw_conc (ad : Nat → Nat → Nat) (v : AV) : Value := match v with | .inl x => .int x | .inr q => .ref (ad q.1 q.2)
def sw_ok (v : AV) : Prop := match v with | .inl _ => True | .inr q => q ∈ ck_wl
def sw_rt (mi : Nat) : Option FieldType := match sm_ret.getD mi 9 with | 0 => none | 1 => some .int | _ => some .boolean
def sw_tys (cI cZ cQ cS : ClassId) : List (ClassId × FieldType) := [(cI, .int), (cZ, .boolean), (cQ, .object RX0), (cS, .object RX1)]
def sw_fs (ad : Nat → Nat → Nat) (h : AHp) (q : Nat × Nat) (c : Nat) : List Value := (List.range (ah_nf c)).map (fun j => if ah_tgt c j = 0 then .int (h q.1 q.2 j) else .ref (ad (ah_tgt c j) q.2))
def sw_e (cI cZ cQ cS : ClassId) (ad : Nat → Nat → Nat) (h : AHp) (q : Nat × Nat) : va_E :=
  match ah_cls q.1 with
  | some c => .inr (c, sw_fs ad h q c)
  | none => match ah_ilen q.1 with
    | some N => .inl (cI, N, .inl (h q.1 q.2))
    | none => match ah_zlen q.1 with
      | some N => .inl (cZ, N, .inl (h q.1 q.2))
      | none => match ah_rlen q.1 with
        | some (N, kt) => .inl (if kt = 3 then cQ else cS, N, .inr (.inr (.inr (.inr (fun j => some (ad kt j))))))
        | none => .inl (cI, 0, .inl (h q.1 q.2))
def sw_E (cI cZ cQ cS : ClassId) (ad : Nat → Nat → Nat) (h : AHp) (q : Nat × Nat) : Nat × va_E := (ad q.1 q.2, sw_e cI cZ cQ cS ad h q)
def sw_ws (cI cZ cQ cS : ClassId) (ad : Nat → Nat → Nat) (h : AHp) : va_W := ck_wl.map (sw_E cI cZ cQ cS ad h)
def sw_A (ad : Nat → Nat → Nat) : Nat → Prop := fun a => ∃ q ∈ ck_wl, a = ad q.1 q.2
def sw_inj (ad : Nat → Nat → Nat) : Prop := ∀ q ∈ ck_wl, ∀ q' ∈ ck_wl, ad q.1 q.2 = ad q'.1 q'.2 → q = q'
theorem sw_cat (ad : Nat → Nat → Nat) (v : AV) : (sw_conc ad v).category = 1 := by cases v <;> rfl
section SWP
variable {cI cZ cQ cS : ClassId} {ad : Nat → Nat → Nat} {h : AHp} {q : Nat × Nat} {n j N c : Nat} {v : Int32}
theorem sw_place (hq : q ∈ ck_wl) : ∃ n : Nat, ck_wl[n]? = some q ∧ (sw_ws cI cZ cQ cS ad h)[n]? = some (ad q.1 q.2, sw_e cI cZ cQ cS ad h q) := by
  obtain ⟨n, hn⟩ := List.getElem?_of_mem hq
  exact ⟨n, hn, by rw [sw_ws, List.getElem?_map, hn]; rfl⟩
theorem ck_at {a b : Nat} {q : Nat × Nat} (h1 : ck_wl[a]? = some q) (h2 : ck_wl[b]? = some q) : a = b := by
  obtain ⟨l1, e1⟩ := List.getElem?_eq_some_iff.mp h1
  obtain ⟨l2, e2⟩ := List.getElem?_eq_some_iff.mp h2
  have hp := List.pairwise_iff_getElem.mp ck_nodup
  rcases Nat.lt_trichotomy a b with z | z | z
  · exact absurd (e1.trans e2.symm) (hp a b l1 l2 z)
  · exact z
  · exact absurd (e2.trans e1.symm) (hp b a l2 l1 z)
theorem sw_e_other {k i : Nat} (hne : q ≠ (k, i)) : sw_e cI cZ cQ cS ad (ah_up h k i j v) q = sw_e cI cZ cQ cS ad h q := by
  have e : ah_up h k i j v q.1 q.2 = h q.1 q.2 := by
    funext j'
    unfold ah_up
    rw [if_neg]
    intro ⟨a, b, _⟩
    exact hne (Prod.ext a b)
  simp only [sw_e, sw_fs, e]
theorem sw_set (hn : ck_wl[n]? = some q) : (sw_ws cI cZ cQ cS ad h).set n (ad q.1 q.2, sw_e cI cZ cQ cS ad (ah_up h q.1 q.2 j v) q) = sw_ws cI cZ cQ cS ad (ah_up h q.1 q.2 j v) := by
  have hl : n < ck_wl.length := (List.getElem?_eq_some_iff.mp hn).1
  apply List.ext_getElem?
  intro k
  by_cases hk : k = n
  · subst hk
    rw [List.getElem?_set_self (by rw [sw_ws, List.length_map]; exact hl), sw_ws, List.getElem?_map, hn]
    rfl
  · rw [List.getElem?_set_ne (Ne.symm hk), sw_ws, sw_ws, List.getElem?_map, List.getElem?_map]
    cases hq : ck_wl[k]? with
    | none => rfl
    | some q' =>
      have hne : q' ≠ (q.1, q.2) := fun z => hk (ck_at (by rw [hq, z]) hn)
      show some (sw_E cI cZ cQ cS ad h q') = some (sw_E cI cZ cQ cS ad (ah_up h q.1 q.2 j v) q')
      unfold sw_E
      rw [sw_e_other hne]
theorem sw_fs_set (hj : j < ah_nf c) (ht : ah_tgt c j = 0) : (sw_fs ad h q c).set j (.int v) = sw_fs ad (ah_up h q.1 q.2 j v) q c := by
  apply List.ext_getElem?
  intro k
  unfold sw_fs
  by_cases hk : k = j
  · subst hk
    rw [List.getElem?_set_self (by simp; exact hj)]
    simp [hj, ht, ah_up]
  · rw [List.getElem?_set_ne (Ne.symm hk)]
    simp only [List.getElem?_map]
    cases hr : (List.range (ah_nf c))[k]? with
    | none => rfl
    | some k' =>
      have : k' = k := by
        obtain ⟨l, e⟩ := List.getElem?_eq_some_iff.mp hr
        simp at e
        exact e.symm
      subst this
      simp [ah_up, hk]
theorem sw_fs_get (hj : j < ah_nf c) : (sw_fs ad h q c)[j]? = some (if ah_tgt c j = 0 then .int (h q.1 q.2 j) else .ref (ad (ah_tgt c j) q.2)) := by
  unfold sw_fs
  simp [hj]
theorem sw_fs_len : (sw_fs ad h q c).length = ah_nf c := by unfold sw_fs; simp
theorem sw_arr_set : (upd (h q.1 q.2) j v) = (ah_up h q.1 q.2 j v) q.1 q.2 := by
  funext k
  simp [upd, ah_up]
theorem sw_eC {c : Nat} (hc : ah_cls q.1 = some c) : sw_e cI cZ cQ cS ad h q = .inr (c, sw_fs ad h q c) := by unfold sw_e; rw [hc]
theorem ck_in : ∀ q ∈ ck_wl, q.1 < 27 := by decide +kernel
theorem ck_il : ∀ k, k < 27 → (ah_ilen k).isSome = true → ah_cls k = none := by decide +kernel
theorem ck_zl : ∀ k, k < 27 → (ah_zlen k).isSome = true → ah_cls k = none ∧ ah_ilen k = none := by decide +kernel
theorem ck_rl : ∀ k, k < 27 → (ah_rlen k).isSome = true → ah_cls k = none ∧ ah_ilen k = none ∧ ah_zlen k = none := by decide +kernel
theorem sw_eI (hq : q ∈ ck_wl) (hc : ah_ilen q.1 = some N) : sw_e cI cZ cQ cS ad h q = .inl (cI, N, .inl (h q.1 q.2)) := by
  unfold sw_e; rw [ck_il q.1 (ck_in q hq) (by rw [hc]; rfl), hc]
theorem sw_eZ (hq : q ∈ ck_wl) (hc : ah_zlen q.1 = some N) : sw_e cI cZ cQ cS ad h q = .inl (cZ, N, .inl (h q.1 q.2)) := by
  have a := ck_zl q.1 (ck_in q hq) (by rw [hc]; rfl)
  unfold sw_e; rw [a.1, a.2, hc]
theorem sw_eR {kt : Nat} (hq : q ∈ ck_wl) (hc : ah_rlen q.1 = some (N, kt)) : sw_e cI cZ cQ cS ad h q = .inl (if kt = 3 then cQ else cS, N, .inr (.inr (.inr (.inr (fun j => some (ad kt j)))))) := by
  have a := ck_rl q.1 (ck_in q hq) (by rw [hc]; rfl)
  unfold sw_e; rw [a.1, a.2.1, a.2.2, hc]
theorem sw_D (hi : sw_inj ad) : va_D (sw_A ad) (sw_ws cI cZ cQ cS ad h) := by
  have key : ∀ (k : Nat) (x : Nat × va_E), (sw_ws cI cZ cQ cS ad h)[k]? = some x → ∃ q, ck_wl[k]? = some q ∧ x.1 = ad q.1 q.2 := by
    intro k x hx
    rw [sw_ws, List.getElem?_map] at hx
    cases hq : ck_wl[k]? with
    | none => rw [hq] at hx; cases hx
    | some q => rw [hq] at hx; cases hx; exact ⟨q, rfl, rfl⟩
  refine ⟨fun i j x y hx hy e => ?_, fun k x hx => ?_⟩
  · obtain ⟨a, h1, h2⟩ := key i x hx
    obtain ⟨b, h3, h4⟩ := key j y hy
    have hab : a = b := hi a (List.mem_of_getElem? h1) b (List.mem_of_getElem? h3) (by rw [← h2, ← h4]; exact e)
    subst hab
    exact ck_at h1 h3
  · obtain ⟨a, h1, h2⟩ := key k x hx
    exact ⟨a, List.mem_of_getElem? h1, h2⟩
end SWP
/-! the locals -/
def sw_lv (ad : Nat → Nat → Nat) (ls : List (Option AV)) : List (Nat × Value) := (List.range ls.length).filterMap (fun i => match ls[i]? with | some (some v) => some (i, sw_conc ad v) | _ => none)
theorem sw_lv_mem {ad : Nat → Nat → Nat} {ls : List (Option AV)} {q : Nat × Value} : q ∈ sw_lv ad ls ↔ ∃ v, ls[q.1]? = some (some v) ∧ q.2 = sw_conc ad v := by
  unfold sw_lv
  rw [List.mem_filterMap]
  constructor
  · intro ⟨i, hi, e⟩
    split at e
    · rename_i v hv
      cases e
      exact ⟨v, hv, rfl⟩
    · cases e
  · intro ⟨v, h1, h2⟩
    refine ⟨q.1, List.mem_range.mpr (List.getElem?_eq_some_iff.mp h1).1, ?_⟩
    rw [h1]
    show some (q.1, sw_conc ad v) = some q
    rw [← h2]
theorem sw_lv_at {ad : Nat → Nat → Nat} {ls : List (Option AV)} {LS : Array Slot} {nL i : Nat} {v : AV} (h : lv_has LS nL (sw_lv ad ls)) (hv : ls[i]? = some (some v)) : LS[i]? = some (.val (sw_conc ad v)) := h.2.2 (i, sw_conc ad v) (sw_lv_mem.mpr ⟨v, hv, rfl⟩)
theorem sw_lv_set {ad : Nat → Nat → Nat} {ls : List (Option AV)} {LS : Array Slot} {nL i : Nat} {v : AV} (h : lv_has LS nL ((i, sw_conc ad v) :: (sw_lv ad ls).filter (fun q => !(q.1 == i) && !(q.1 + 1 == i && q.2.category == 2)))) : lv_has LS nL (sw_lv ad (ls.set i (some v))) := by
  refine ⟨h.1, h.2.1, fun q hq => h.2.2 q ?_⟩
  obtain ⟨w, h1, h2⟩ := sw_lv_mem.mp hq
  by_cases hi : q.1 = i
  · rw [hi] at h1
    have hl : i < ls.length := by
      have := (List.getElem?_eq_some_iff.mp h1).1
      rw [List.length_set] at this
      exact this
    rw [List.getElem?_set_self hl] at h1
    cases h1
    rw [List.mem_cons]
    left
    rw [← h2, ← hi]
  · rw [List.getElem?_set_ne (Ne.symm hi)] at h1
    rw [List.mem_cons]
    right
    rw [List.mem_filter]
    refine ⟨sw_lv_mem.mpr ⟨w, h1, h2⟩, ?_⟩
    rw [h2, sw_cat]
    simp [hi]
theorem sw_sl (ad : Nat → Nat → Nat) : ∀ as : List AV, lg_sl (as.map (sw_conc ad)) = (as.map (sw_conc ad)).map Slot.val
  | [] => rfl
  | a :: as => by
    have ih := sw_sl ad as
    unfold lg_sl at ih ⊢
    rw [List.map_cons, List.flatMap_cons, ih, sw_cat]
    rfl
theorem sw_args (ad : Nat → Nat → Nat) : ∀ (as : List AV) (i k : Nat) (v : AV), as[k]? = some v → (i + k, sw_conc ad v) ∈ lv_args i (as.map (sw_conc ad))
  | [], i, k, v, h => by simp at h
  | a :: as, i, 0, v, h => by
    simp at h
    subst h
    simp [lv_args]
  | a :: as, i, k + 1, v, h => by
    simp at h
    have := sw_args ad as (i + 1) k v h
    rw [List.map_cons, lv_args, sw_cat]
    simp only [List.mem_cons]
    right
    rw [if_neg (by omega), show i + (k + 1) = i + 1 + k by omega]
    exact this
theorem sw_entry (ad : Nat → Nat → Nat) (y : Nat) (as : List AV) (hn : as.length ≤ sm_L.getD y 0) : lv_has ((lg_sl (as.map (sw_conc ad)) ++ List.replicate (sm_L.getD y 0 - (lg_sl (as.map (sw_conc ad))).length) Slot.unset).toArray) (sm_L.getD y 0) (sw_lv ad (ah_entry y as)) := by
  have h := lv_entry (as.map (sw_conc ad)) (n := sm_L.getD y 0) (by rw [sw_sl]; simp; exact hn)
  refine ⟨h.1, h.2.1, fun q hq => h.2.2 q ?_⟩
  obtain ⟨v, h1, h2⟩ := sw_lv_mem.mp hq
  unfold ah_entry at h1
  by_cases hk : q.1 < as.length
  · rw [List.getElem?_append_left (by simp; exact hk), List.getElem?_map] at h1
    cases ha : as[q.1]? with
    | none => rw [ha] at h1; cases h1
    | some w =>
      rw [ha] at h1
      cases h1
      have := sw_args ad as 0 q.1 v ha
      rw [Nat.zero_add, ← h2] at this
      exact this
  · rw [List.getElem?_append_right (by simp; omega)] at h1
    have := List.mem_of_getElem? h1
    rw [List.mem_replicate] at this
    cases this.2
theorem sw_entry_ok {y : Nat} {as : List AV} (h : ∀ v ∈ as, sw_ok v) : ∀ v, some v ∈ ah_entry y as → sw_ok v := by
  intro v hv
  unfold ah_entry at hv
  rcases List.mem_append.mp hv with h1 | h1
  · obtain ⟨w, hw, e⟩ := List.mem_map.mp h1
    cases e
    exact h _ hw
  · have := (List.mem_replicate.mp h1).2
    cases this
end
section
/-! ===== a step of the small machine is a step of the machine ===== -/
/-- what holds throughout a method's body -/
def sw_C (D : va_G) (cI cZ cQ cS : ClassId) (p : Program) (s : State) (m : MethodId) (args : Array Value) (meth : Method) (c : Code) (mi : Nat) : Prop :=
  p.tables.exec = Jvm.exec ∧ c.code = sm_c.getD mi ⟨#[]⟩ ∧ meth.sig.returnType = sw_rt mi ∧ c.maxLocals = sm_L.getD mi 0 ∧ s.vm.findClass (sm_R (sm_own.getD mi 9)) = some m.cls ∧ (∀ w ∈ sm_W, w.before args s = true) ∧ va_K D sm_cl (sw_tys cI cZ cQ cS) s ∧ meth.locks = false
theorem sw_ucls {ws : List Cond} (h : ∀ w ∈ sm_W, w ∈ ws) : ∀ c, c < 4 → ∀ w ∈ u_ws (sm_cl.getD c (RX0, TX0, 4)).1 (sm_cl.getD c (RX0, TX0, 4)).2.1 (sm_cl.getD c (RX0, TX0, 4)).2.2, w ∈ ws := by
  intro c hc
  match c, hc with
  | 0, _ => exact fun w hw => h w (ck_x0 w hw)
  | 1, _ => exact fun w hw => h w (ck_x1 w hw)
  | 2, _ => exact fun w hw => h w (ck_x2 w hw)
  | 3, _ => exact fun w hw => h w (ck_x3 w hw)
def sw_ty (c : Nat) : Nat → FieldType := match c with | 0 => tyX0 | 1 => tyX1 | 2 => tyX2 | _ => tyX3
theorem sw_ty_ok : ∀ c, c < 4 → ∀ k, k < (sm_cl.getD c (RX0, TX0, 4)).2.2 → parseFieldDescriptor ((sm_cl.getD c (RX0, TX0, 4)).2.1 k).2.2.1 = some (sw_ty c k) := by
  intro c hc
  match c, hc with
  | 0, _ => exact tyX0_ok
  | 1, _ => exact tyX1_ok
  | 2, _ => exact tyX2_ok
  | 3, _ => exact tyX3_ok
theorem sw_nm : ∀ c, c < 4 → ∀ a, a < (sm_cl.getD c (RX0, TX0, 4)).2.2 → ∀ b, b < (sm_cl.getD c (RX0, TX0, 4)).2.2 → a ≠ b → ((sm_cl.getD c (RX0, TX0, 4)).2.1 a).2.1 ≠ ((sm_cl.getD c (RX0, TX0, 4)).2.1 b).2.1 := by
  intro c hc
  match c, hc with
  | 0, _ => exact nmX0
  | 1, _ => exact nmX1
  | 2, _ => exact nmX2
  | 3, _ => exact nmX3
theorem sw_cl_at : ∀ c, c < 4 → sm_cl[c]? = some (sm_cl.getD c (RX0, TX0, 4)) := by
  intro c hc
  match c, hc with
  | 0, _ => rfl
  | 1, _ => rfl
  | 2, _ => rfl
  | 3, _ => rfl
theorem sw_nf : ∀ c, c < 4 → (sm_cl.getD c (RX0, TX0, 4)).2.2 = ah_nf c := by decide +kernel
theorem sw_int : ∀ c, c < 4 → ∀ j, j < ah_nf c → ah_tgt c j = 0 → sw_ty c j = .int ∧ ((sm_cl.getD c (RX0, TX0, 4)).2.1 j).2.2.2 = false := by decide +kernel
theorem sw_fldM {o idx c j : Nat} (h : ah_fld o idx = some (c, j)) : (o, idx, c, j) ∈ sm_fld := by
  unfold ah_fld at h
  cases hf : sm_fld.find? (fun q => q.1 == o && q.2.1 == idx) with
  | none => rw [hf] at h; cases h
  | some q =>
    rw [hf] at h
    have h1 := List.mem_of_find?_eq_some hf
    have h2 := List.find?_some hf
    simp at h2
    obtain ⟨a, b, c', d⟩ := q
    cases h
    obtain ⟨rfl, rfl⟩ := h2
    exact h1
theorem sw_cstM {o idx : Nat} {v : Int32} (h : ah_cst o idx = some v) : (o, idx, v) ∈ sm_cst := by
  unfold ah_cst at h
  cases hf : sm_cst.find? (fun q => q.1 == o && q.2.1 == idx) with
  | none => rw [hf] at h; cases h
  | some q =>
    rw [hf] at h
    have h1 := List.mem_of_find?_eq_some hf
    have h2 := List.find?_some hf
    simp at h2
    obtain ⟨a, b, c'⟩ := q
    cases h
    obtain ⟨rfl, rfl⟩ := h2
    exact h1
theorem sw_mthM {o idx y : Nat} (h : ah_mth o idx = some y) : (o, idx, y) ∈ sm_mth := by
  unfold ah_mth at h
  cases hf : sm_mth.find? (fun q => q.1 == o && q.2.1 == idx) with
  | none => rw [hf] at h; cases h
  | some q =>
    rw [hf] at h
    have h1 := List.mem_of_find?_eq_some hf
    have h2 := List.find?_some hf
    simp at h2
    obtain ⟨a, b, c'⟩ := q
    cases h
    obtain ⟨rfl, rfl⟩ := h2
    exact h1
theorem sw_jmp {pc : Nat} {off : Int} (h : ah_jok pc off = true) : (pc : Int) + off = (ah_jmp pc off : Int) := by
  unfold ah_jok at h
  unfold ah_jmp
  have := of_decide_eq_true h
  omega
section SST
variable {D : va_G} {cI cZ cQ cS : ClassId} {ad : Nat → Nat → Nat} {p : Program} {l : Launch} {e : Env} {R : Room} {s : State} {m : MethodId} {args : Array Value} {below : List Frame} {meth : Method} {c : Code} {H : Heap} {locs : List Loc} {Q : State → Prop} {mi pc pc' len : Nat} {i : Instr} {ls ls' : List (Option AV)} {st st' : List AV} {h h' : AHp} {LS : Array Slot}
/-- the goals behind a step -/
def sw_K (D : va_G) (cI cZ cQ cS : ClassId) (ad : Nat → Nat → Nat) (p : Program) (l : Launch) (e : Env) (R : Room) (s : State) (m : MethodId) (args : Array Value) (below : List Frame) (meth : Method) (c : Code) (Q : State → Prop) (mi : Nat) (q : AF) : Prop :=
  ∀ (H' : Heap) (locs' : List Loc) (LS' : Array Slot), va_P D sm_cl (sw_ws cI cZ cQ cS ad q.2.2.2) H' → va_S (sw_A ad) s.heap H' locs' → lv_has LS' (sm_L.getD mi 0) (sw_lv ad q.2.1) → (∀ v ∈ q.2.2.1, sw_ok v) → (∀ v, some v ∈ q.2.1 → sw_ok v) → q.2.1.length = sm_L.getD mi 0 → W p l e R s m args below meth c H' locs' 0 0 Q (F0 m q.1 LS' (q.2.2.1.map (sw_conc ad)))
theorem sw_load {n len : Nat} {ref : Bool} (hok : ∀ v, some v ∈ ls → sw_ok v) (hst : ∀ v ∈ st, sw_ok v) (hLS : lv_has LS (sm_L.getD mi 0) (sw_lv ad ls)) (hlen : ls.length = sm_L.getD mi 0) (hP : va_P D sm_cl (sw_ws cI cZ cQ cS ad h) H) (hS : va_S (sw_A ad) s.heap H locs) {q : AF} (hs : ah_load n len pc ls st h ref = some q) (kk : sw_K D cI cZ cQ cS ad p l e R s m args below meth c Q mi q) :
    ∃ v, LS[n]? = some (.val (sw_conc ad v)) ∧ v.isRight = ref ∧ W p l e R s m args below meth c H locs 0 0 Q (F0 m (pc + len) LS (sw_conc ad v :: st.map (sw_conc ad))) := by
  unfold ah_load at hs
  split at hs
  · rename_i v hv
    split at hs
    · rename_i hr
      cases hs
      refine ⟨v, sw_lv_at hLS hv, hr, ?_⟩
      refine kk H locs LS hP hS hLS ?_ hok hlen
      intro w hw
      rcases List.mem_cons.mp hw with rfl | hw
      · exact hok _ (List.mem_of_getElem? hv)
      · exact hst w hw
    · cases hs
  · cases hs
theorem sw_store {n len : Nat} {ref : Bool} (hok : ∀ v, some v ∈ ls → sw_ok v) (hst : ∀ v ∈ st, sw_ok v) (hlen : ls.length = sm_L.getD mi 0) (hP : va_P D sm_cl (sw_ws cI cZ cQ cS ad h) H) (hS : va_S (sw_A ad) s.heap H locs) {q : AF} (hs : ah_store n len pc ls st h ref = some q) (kk : sw_K D cI cZ cQ cS ad p l e R s m args below meth c Q mi q) :
    ∃ v st1, st = v :: st1 ∧ v.isRight = ref ∧ n < sm_L.getD mi 0 ∧ ∀ LS', lv_has LS' (sm_L.getD mi 0) ((n, sw_conc ad v) :: (sw_lv ad ls).filter (fun q => !(q.1 == n) && !(q.1 + 1 == n && q.2.category == 2))) → W p l e R s m args below meth c H locs 0 0 Q (F0 m (pc + len) LS' (st1.map (sw_conc ad))) := by
  unfold ah_store at hs
  split at hs
  · rename_i v st1
    split at hs
    · rename_i hr
      cases hs
      refine ⟨v, st1, rfl, hr.2, by rw [← hlen]; exact hr.1, fun LS' h' => ?_⟩
      refine kk H locs LS' hP hS (sw_lv_set h') (fun w hw => hst w (List.mem_cons_of_mem _ hw)) ?_ (by show (ls.set n (some v)).length = _; rw [List.length_set]; exact hlen)
      intro w hw
      rcases List.mem_or_eq_of_mem_set hw with h1 | h1
      · exact hok w h1
      · cases h1; exact hst _ List.mem_cons_self
    · cases hs
  · cases hs
theorem sw_bin {len : Nat} {f : Int32 → Int32 → Int32} (hok : ∀ v, some v ∈ ls → sw_ok v) (hst : ∀ v ∈ st, sw_ok v) (hLS : lv_has LS (sm_L.getD mi 0) (sw_lv ad ls)) (hlen : ls.length = sm_L.getD mi 0) (hP : va_P D sm_cl (sw_ws cI cZ cQ cS ad h) H) (hS : va_S (sw_A ad) s.heap H locs) {q : AF} (hs : ah_bin len pc ls st h f = some q) (kk : sw_K D cI cZ cQ cS ad p l e R s m args below meth c Q mi q) :
    ∃ x y st1, st = .inl y :: .inl x :: st1 ∧ W p l e R s m args below meth c H locs 0 0 Q (F0 m (pc + len) LS (.int (f x y) :: st1.map (sw_conc ad))) := by
  unfold ah_bin at hs
  split at hs
  · rename_i y x st1
    cases hs
    refine ⟨x, y, st1, rfl, kk H locs LS hP hS hLS ?_ hok hlen⟩
    intro w hw
    rcases List.mem_cons.mp hw with rfl | hw
    · trivial
    · exact hst w (by simp [hw])
  · cases hs
set_option maxHeartbeats 4000000 in
theorem sw_step (X : sw_C D cI cZ cQ cS p s m args meth c mi) (hinj : sw_inj ad) (hdg : decode (sm_c.getD mi ⟨#[]⟩) pc = .ok (i, len)) (hst : ∀ v ∈ st, sw_ok v) (hok : ∀ v, some v ∈ ls → sw_ok v) (hlen : ls.length = sm_L.getD mi 0) (hLS : lv_has LS (sm_L.getD mi 0) (sw_lv ad ls)) (hP : va_P D sm_cl (sw_ws cI cZ cQ cS ad h) H) (hS : va_S (sw_A ad) s.heap H locs)
    {q : AF} (hs : ah_step mi i len pc ls st h = some q) (kk : sw_K D cI cZ cQ cS ad p l e R s m args below meth c Q mi q) : W p l e R s m args below meth c H locs 0 0 Q (F0 m pc LS (st.map (sw_conc ad))) := by
  obtain ⟨hx, hb, hr, hml, hown, hts, hK, hlk⟩ := X
  have hu := sw_ucls (ws := sm_W) (fun w h => h)
  have push : ∀ (v : AV) (st1 : List AV), (∀ w ∈ st1, w ∈ st) → sw_ok v → ∀ w ∈ v :: st1, sw_ok w := by
    intro v st1 hsub hv w hw
    rcases List.mem_cons.mp hw with rfl | hw
    · exact hv
    · exact hst w (hsub w hw)
  unfold ah_step at hs
  split at hs
  -- iconst
  · split at hs
    · rename_i hl; subst hl; cases hs
      exact lv_iconst hx hb hdg rfl (kk H locs LS hP hS hLS (push _ _ (fun w h => h) trivial) hok hlen)
    · cases hs
  · split at hs
    · rename_i hl; subst hl; cases hs
      exact lv_bipush hx hb hdg rfl (kk H locs LS hP hS hLS (push _ _ (fun w h => h) trivial) hok hlen)
    · cases hs
  · split at hs
    · rename_i hl; subst hl; cases hs
      exact lv_sipush hx hb hdg rfl (kk H locs LS hP hS hLS (push _ _ (fun w h => h) trivial) hok hlen)
    · cases hs
  -- ldc
  · split at hs
    · rename_i v hv
      split at hs
      · rename_i hl; subst hl; cases hs
        exact lv_ldc hx hb hown (hts _ (ck_cst _ (sw_cstM hv))) hdg (kk H locs LS hP hS hLS (push _ _ (fun w h => h) trivial) hok hlen)
      · cases hs
    · cases hs
  · split at hs
    · rename_i v hv
      split at hs
      · rename_i hl; subst hl; cases hs
        exact lv_ldcw hx hb hown (hts _ (ck_cst _ (sw_cstM hv))) hdg (kk H locs LS hP hS hLS (push _ _ (fun w h => h) trivial) hok hlen)
      · cases hs
    · cases hs
  -- loads
  · split at hs
    · rename_i hl; subst hl
      obtain ⟨v, h1, h2, h3⟩ := sw_load hok hst hLS hlen hP hS hs kk
      cases v with
      | inl x => exact lv_iload_n hx hb hdg rfl h1 h3
      | inr x => cases h2
    · cases hs
  · split at hs
    · rename_i hl; subst hl
      obtain ⟨v, h1, h2, h3⟩ := sw_load hok hst hLS hlen hP hS hs kk
      cases v with
      | inl x => exact lv_iload hx hb hdg h1 h3
      | inr x => cases h2
    · cases hs
  · split at hs
    · rename_i hl; subst hl
      obtain ⟨v, h1, h2, h3⟩ := sw_load hok hst hLS hlen hP hS hs kk
      cases v with
      | inl x => cases h2
      | inr x => exact lv_aload_n hx hb hdg rfl h1 h3
    · cases hs
  · split at hs
    · rename_i hl; subst hl
      obtain ⟨v, h1, h2, h3⟩ := sw_load hok hst hLS hlen hP hS hs kk
      cases v with
      | inl x => cases h2
      | inr x => exact lv_aload hx hb hdg h1 h3
    · cases hs
  -- stores
  · split at hs
    · rename_i hl; subst hl
      obtain ⟨v, st1, rfl, h2, h3, h4⟩ := sw_store hok hst hlen hP hS hs kk
      cases v with
      | inl x => exact lv_istore_n hx hb hdg rfl hLS h3 rfl h4
      | inr x => cases h2
    · cases hs
  · split at hs
    · rename_i hl; subst hl
      obtain ⟨v, st1, rfl, h2, h3, h4⟩ := sw_store hok hst hlen hP hS hs kk
      cases v with
      | inl x => exact lv_istore hx hb hdg hLS h3 rfl h4
      | inr x => cases h2
    · cases hs
  · split at hs
    · rename_i hl; subst hl
      obtain ⟨v, st1, rfl, h2, h3, h4⟩ := sw_store hok hst hlen hP hS hs kk
      cases v with
      | inl x => cases h2
      | inr x => exact lv_astore_n hx hb hdg rfl hLS h3 rfl h4
    · cases hs
  · split at hs
    · rename_i hl; subst hl
      obtain ⟨v, st1, rfl, h2, h3, h4⟩ := sw_store hok hst hlen hP hS hs kk
      cases v with
      | inl x => cases h2
      | inr x => exact lv_astore hx hb hdg hLS h3 rfl h4
    · cases hs
  -- iinc
  · split at hs
    · rename_i n k _ x hv
      split at hs
      · rename_i hl; subst hl; cases hs
        obtain ⟨kp, hkp⟩ := List.getElem?_of_mem (sw_lv_mem (ad := ad) (ls := ls) (q := (n, .int x)).mpr ⟨_, hv, rfl⟩)
        have hn : n < sm_L.getD mi 0 := by rw [← hlen]; exact (List.getElem?_eq_some_iff.mp hv).1
        refine lv_iinc hx hb hdg hLS hkp rfl hn rfl (fun LS' h' => ?_)
        refine kk H locs LS' hP hS (sw_lv_set (v := .inl (x + Int32.ofInt k)) h') hst ?_ (by show (ls.set n _).length = _; rw [List.length_set]; exact hlen)
        intro w hw
        rcases List.mem_or_eq_of_mem_set hw with h1 | h1
        · exact hok w h1
        · cases h1; trivial
      · cases hs
    · cases hs
  -- arithmetic
  · split at hs
    · rename_i hl; subst hl
      obtain ⟨x, y, st1, rfl, h3⟩ := sw_bin hok hst hLS hlen hP hS hs kk
      exact lv_iadd hx hb hdg h3
    · cases hs
  · split at hs
    · rename_i hl; subst hl
      obtain ⟨x, y, st1, rfl, h3⟩ := sw_bin hok hst hLS hlen hP hS hs kk
      exact lv_isub hx hb hdg h3
    · cases hs
  · split at hs
    · rename_i hl; subst hl
      obtain ⟨x, y, st1, rfl, h3⟩ := sw_bin hok hst hLS hlen hP hS hs kk
      exact lv_imul hx hb hdg h3
    · cases hs
  · split at hs
    · rename_i hl; subst hl
      obtain ⟨x, y, st1, rfl, h3⟩ := sw_bin hok hst hLS hlen hP hS hs kk
      exact lv_iand hx hb hdg h3
    · cases hs
  · split at hs
    · rename_i hl; subst hl
      obtain ⟨x, y, st1, rfl, h3⟩ := sw_bin hok hst hLS hlen hP hS hs kk
      exact lv_ixor hx hb hdg h3
    · cases hs
  · split at hs
    · rename_i hl; subst hl
      obtain ⟨x, y, st1, rfl, h3⟩ := sw_bin hok hst hLS hlen hP hS hs kk
      exact lv_ishr hx hb hdg h3
    · cases hs
  · split at hs
    · rename_i hl; subst hl
      obtain ⟨x, y, st1, rfl, h3⟩ := sw_bin hok hst hLS hlen hP hS hs kk
      exact lv_iushr hx hb hdg rfl h3
    · cases hs
  · split at hs
    · split at hs
      · rename_i hl
        obtain ⟨hl, hne⟩ := hl
        subst hl
        obtain ⟨x, y, st1, e1, h3⟩ := sw_bin hok hst hLS hlen hP hS hs kk
        cases e1
        exact lv_idiv hx hb hdg hne h3
      · cases hs
    · cases hs
  -- dup
  · split at hs
    · rename_i v st1
      split at hs
      · rename_i hl; subst hl; cases hs
        exact lv_dup hx hb hdg (sw_cat ad v) (kk H locs LS hP hS hLS (push _ _ (fun w h => h) (hst v List.mem_cons_self)) hok hlen)
      · cases hs
    · cases hs
  · split at hs
    · rename_i v w st1
      split at hs
      · rename_i hl; subst hl; cases hs
        refine lv_dup2_11 hx hb hdg (sw_cat ad v) (sw_cat ad w) (kk H locs LS hP hS hLS ?_ hok hlen)
        intro z hz
        simp only [List.mem_cons] at hz
        refine hst z ?_
        simp only [List.mem_cons]
        rcases hz with h | h | h | h | h <;> simp [h]
      · cases hs
    · cases hs
  -- goto
  · split at hs
    · rename_i hl
      obtain ⟨hl, hj⟩ := hl
      subst hl; cases hs
      exact lv_goto hx hb hdg (sw_jmp hj) (kk H locs LS hP hS hLS hst hok hlen)
    · cases hs
  -- ifCond
  · rename_i co off
    split at hs
    · rename_i x st1
      have hst1 : ∀ v ∈ st1, sw_ok v := fun v hv => hst v (List.mem_cons_of_mem _ hv)
      split at hs
      · rename_i hl
        obtain ⟨hl, hj⟩ := hl
        subst hl
        have kt : ah_cmp co x 0 = true → W p l e R s m args below meth c H locs 0 0 Q (F0 m (ah_jmp pc off) LS (st1.map (sw_conc ad))) := by
          intro hc; rw [if_pos hc] at hs; cases hs
          exact kk H locs LS hP hS hLS hst1 hok hlen
        have kf : ¬ ah_cmp co x 0 = true → W p l e R s m args below meth c H locs 0 0 Q (F0 m (pc + 3) LS (st1.map (sw_conc ad))) := by
          intro hc; rw [if_neg hc] at hs; cases hs
          exact kk H locs LS hP hS hLS hst1 hok hlen
        cases co with
        | eq => exact lv_if_eq hx hb hdg (sw_jmp hj) (fun z => kt (decide_eq_true z)) (fun z => kf (fun y => z (of_decide_eq_true y)))
        | ne => exact lv_if_ne hx hb hdg (sw_jmp hj) (fun z => kt (decide_eq_true z)) (fun z => kf (fun y => (of_decide_eq_true y) z))
        | lt => exact lv_if_lt hx hb hdg (sw_jmp hj) (fun z => kt (decide_eq_true z)) (fun z => kf (fun y => z (of_decide_eq_true y)))
        | ge => exact lv_if_ge hx hb hdg (sw_jmp hj) (fun z => kt (decide_eq_true z)) (fun z => kf (fun y => z (of_decide_eq_true y)))
        | gt => exact lv_if_gt hx hb hdg (sw_jmp hj) (fun z => kt (decide_eq_true z)) (fun z => kf (fun y => z (of_decide_eq_true y)))
        | le => exact lv_if_le hx hb hdg (sw_jmp hj) (fun z => kt (decide_eq_true z)) (fun z => kf (fun y => z (of_decide_eq_true y)))
      · cases hs
    · cases hs
  -- if_icmp
  · rename_i co off
    split at hs
    · rename_i y x st1
      have hst1 : ∀ v ∈ st1, sw_ok v := fun v hv => hst v (List.mem_cons_of_mem _ (List.mem_cons_of_mem _ hv))
      split at hs
      · rename_i hl
        obtain ⟨hl, hj⟩ := hl
        subst hl
        have kt : ah_cmp co x y = true → W p l e R s m args below meth c H locs 0 0 Q (F0 m (ah_jmp pc off) LS (st1.map (sw_conc ad))) := by
          intro hc; rw [if_pos hc] at hs; cases hs
          exact kk H locs LS hP hS hLS hst1 hok hlen
        have kf : ¬ ah_cmp co x y = true → W p l e R s m args below meth c H locs 0 0 Q (F0 m (pc + 3) LS (st1.map (sw_conc ad))) := by
          intro hc; rw [if_neg hc] at hs; cases hs
          exact kk H locs LS hP hS hLS hst1 hok hlen
        cases co with
        | eq => exact lv_icmp_eq hx hb hdg (sw_jmp hj) (fun z => kt (decide_eq_true z)) (fun z => kf (fun y => z (of_decide_eq_true y)))
        | ne => exact lv_icmp_ne hx hb hdg (sw_jmp hj) (fun z => kt (decide_eq_true z)) (fun z => kf (fun y => (of_decide_eq_true y) z))
        | lt => exact lv_icmp_lt hx hb hdg (sw_jmp hj) (fun z => kt (decide_eq_true z)) (fun z => kf (fun y => z (of_decide_eq_true y)))
        | ge => exact lv_icmp_ge hx hb hdg (sw_jmp hj) (fun z => kt (decide_eq_true z)) (fun z => kf (fun y => z (of_decide_eq_true y)))
        | gt => exact lv_icmp_gt hx hb hdg (sw_jmp hj) (fun z => kt (decide_eq_true z)) (fun z => kf (fun y => z (of_decide_eq_true y)))
        | le => exact lv_icmp_le hx hb hdg (sw_jmp hj) (fun z => kt (decide_eq_true z)) (fun z => kf (fun y => z (of_decide_eq_true y)))
      · cases hs
    · cases hs
  -- tableswitch
  · split at hs
    · rename_i x st1
      have hst1 : ∀ v ∈ st1, sw_ok v := fun v hv => hst v (List.mem_cons_of_mem _ hv)
      split at hs
      · rename_i ho
        split at hs
        · rename_i hj
          cases hs
          exact lv_tableOut hx hb hdg ho (sw_jmp hj) (kk H locs LS hP hS hLS hst1 hok hlen)
        · cases hs
      · rename_i ho
        split at hs
        · rename_i off hoff
          split at hs
          · rename_i hj
            cases hs
            exact lv_tableIn hx hb hdg (fun z => ho (Or.inl z)) (fun z => ho (Or.inr z)) hoff (sw_jmp hj) (kk H locs LS hP hS hLS hst1 hok hlen)
          · cases hs
        · cases hs
    · cases hs
  -- getfield
  · split at hs
    · rename_i k n st1
      have hst1 : ∀ v ∈ st1, sw_ok v := fun v hv => hst v (List.mem_cons_of_mem _ hv)
      have hq : (k, n) ∈ ck_wl := hst (.inr (k, n)) List.mem_cons_self
      split at hs
      · rename_i cn j hf
        split at hs
        · rename_i hl
          obtain ⟨hl, hcl, hj⟩ := hl
          subst hl; cases hs
          obtain ⟨w1, w2, w3, w4⟩ := ck_fld _ (sw_fldM hf)
          obtain ⟨q0, -, hp⟩ := sw_place (cI := cI) (cZ := cZ) (cQ := cQ) (cS := cS) (ad := ad) (h := h) hq
          rw [sw_eC (q := (k, n)) hcl] at hp
          refine va_get (ci := cn) hx hb hts (hu cn w3) hown hK hP q0 hp (sw_cl_at cn w3) j (by rw [sw_nf cn w3]; exact hj) (hts _ w1) (fun _ h9 => by rw [← w2]; exact h9) (sw_fs_get hj) hdg ?_
          have hk2 : ∀ w ∈ (if ah_tgt cn j = 0 then (.inl (h k n j) : AV) else .inr (ah_tgt cn j, n)) :: st1, sw_ok w := by
            intro w hw
            rcases List.mem_cons.mp hw with rfl | hw
            · split
              · trivial
              · rename_i ht
                have := ck_tgt (k, n) hq j (by have := hj; have h22 : ah_nf cn ≤ 22 := (by unfold ah_nf; split <;> decide); omega)
                rw [hcl] at this
                simp [ht] at this
                exact this
            · exact hst1 w hw
          have := kk H locs LS hP hS hLS hk2 hok hlen
          refine W.eq ?_ this
          congr 1
          show _ = sw_conc ad _ :: _
          split <;> rfl
        · cases hs
      · cases hs
    · cases hs
  -- putfield
  · split at hs
    · rename_i v k n st1
      have hst1 : ∀ v ∈ st1, sw_ok v := fun v hv => hst v (List.mem_cons_of_mem _ (List.mem_cons_of_mem _ hv))
      have hq : (k, n) ∈ ck_wl := hst (.inr (k, n)) (List.mem_cons_of_mem _ List.mem_cons_self)
      split at hs
      · rename_i cn j hf
        split at hs
        · rename_i hl
          obtain ⟨hl, hcl, hj, ht⟩ := hl
          subst hl; cases hs
          obtain ⟨w1, w2, w3, w4⟩ := ck_fld _ (sw_fldM hf)
          obtain ⟨q0, hq0, hp⟩ := sw_place (cI := cI) (cZ := cZ) (cQ := cQ) (cS := cS) (ad := ad) (h := h) hq
          rw [sw_eC (q := (k, n)) hcl] at hp
          obtain ⟨i1, i2⟩ := sw_int cn w3 j hj ht
          refine va_put (ci := cn) (ty := .int) hx hb hts (hu cn w3) (sw_ty cn) (sw_ty_ok cn w3) (sw_nm cn w3) hown hK hP (sw_D hinj) hS q0 hp (sw_cl_at cn w3) j (by rw [sw_nf cn w3]; exact hj) (hts _ w1) (fun _ h9 => by rw [← w2]; exact h9) i2 (by rw [sw_ty_ok cn w3 j (by rw [sw_nf cn w3]; exact hj), i1]) rfl rfl (by rw [sw_fs_len]; exact hj) hdg (fun H1 locs1 hP1 _ hS1 => ?_)
          have hP1 : va_P D sm_cl ((sw_ws cI cZ cQ cS ad h).set q0 (ad k n, .inr (cn, (sw_fs ad h (k, n) cn).set j (.int v)))) H1 := hP1
          rw [sw_fs_set (q := (k, n)) hj ht, ← sw_eC (cI := cI) (cZ := cZ) (cQ := cQ) (cS := cS) (q := (k, n)) hcl] at hP1
          rw [sw_set (q := (k, n)) hq0] at hP1
          exact kk H1 locs1 LS hP1 hS1 hLS hst1 hok hlen
        · cases hs
      · cases hs
    · cases hs
  -- iaload
  · split at hs
    · rename_i x k n st1
      have hq : (k, n) ∈ ck_wl := hst (.inr (k, n)) (List.mem_cons_of_mem _ List.mem_cons_self)
      split at hs
      · rename_i N hN
        split at hs
        · rename_i hl
          obtain ⟨hl, hin⟩ := hl
          subst hl; cases hs
          obtain ⟨q0, hq0, hp⟩ := sw_place (cI := cI) (cZ := cZ) (cQ := cQ) (cS := cS) (ad := ad) (h := h) hq
          rw [sw_eI hq hN] at hp
          exact va_iald hx hb hK hP q0 0 hp rfl hin hdg (kk H locs LS hP hS hLS (push _ _ (fun w h => by simp [h]) trivial) hok hlen)
        · cases hs
      · cases hs
    · cases hs
  -- baload
  · split at hs
    · rename_i x k n st1
      have hq : (k, n) ∈ ck_wl := hst (.inr (k, n)) (List.mem_cons_of_mem _ List.mem_cons_self)
      split at hs
      · rename_i N hN
        split at hs
        · rename_i hl
          obtain ⟨hl, hin⟩ := hl
          subst hl; cases hs
          obtain ⟨q0, hq0, hp⟩ := sw_place (cI := cI) (cZ := cZ) (cQ := cQ) (cS := cS) (ad := ad) (h := h) hq
          rw [sw_eZ hq hN] at hp
          exact va_zald hx hb hK hP q0 1 hp rfl hin hdg (kk H locs LS hP hS hLS (push _ _ (fun w h => by simp [h]) trivial) hok hlen)
        · cases hs
      · cases hs
    · cases hs
  -- aaload
  · split at hs
    · rename_i x k n st1
      have hq : (k, n) ∈ ck_wl := hst (.inr (k, n)) (List.mem_cons_of_mem _ List.mem_cons_self)
      split at hs
      · rename_i N kt hN
        split at hs
        · rename_i hl
          obtain ⟨hl, hin⟩ := hl
          subst hl; cases hs
          obtain ⟨q0, hq0, hp⟩ := sw_place (cI := cI) (cZ := cZ) (cQ := cQ) (cS := cS) (ad := ad) (h := h) hq
          rw [sw_eR hq hN] at hp
          have hlt : x.toNatClampNeg < N := Nat.not_le.mp fun q => hin (Or.inr q)
          have hk : (k = 1 ∧ N = 20 ∧ kt = 3) ∨ (k = 2 ∧ N = 8 ∧ kt = 4) := by
            unfold ah_rlen at hN
            split at hN
            · cases hN; simp
            · cases hN; simp
            · cases hN
          have hin2 : (kt, x.toNatClampNeg) ∈ ck_wl := by
            rcases hk with ⟨-, rfl, rfl⟩ | ⟨-, rfl, rfl⟩
            · exact ck_q _ hlt
            · exact ck_s _ hlt
          have kk2 := kk H locs LS hP hS hLS (push _ _ (fun w h => by simp [h]) hin2) hok hlen
          rcases hk with ⟨-, rfl, rfl⟩ | ⟨-, rfl, rfl⟩
          · exact va_aldq (C := RX0) hx hb hK hP q0 2 hp rfl hin hdg kk2
          · exact va_aldq (C := RX1) hx hb hK hP q0 3 hp rfl hin hdg kk2
        · cases hs
      · cases hs
    · cases hs
  -- iastore
  · split at hs
    · rename_i v x k n st1
      have hq : (k, n) ∈ ck_wl := hst (.inr (k, n)) (by simp)
      have hst1 : ∀ v ∈ st1, sw_ok v := fun v hv => hst v (by simp [hv])
      split at hs
      · rename_i N hN
        split at hs
        · rename_i hl
          obtain ⟨hl, hin⟩ := hl
          subst hl; cases hs
          obtain ⟨q0, hq0, hp⟩ := sw_place (cI := cI) (cZ := cZ) (cQ := cQ) (cS := cS) (ad := ad) (h := h) hq
          rw [sw_eI hq hN] at hp
          refine va_iast hx hb hK hP (sw_D hinj) hS q0 0 hp rfl hin hdg (fun H1 locs1 hP1 _ hS1 => ?_)
          rw [sw_arr_set (q := (k, n)), ← sw_eI (cI := cI) (cZ := cZ) (cQ := cQ) (cS := cS) (ad := ad) hq hN] at hP1
          rw [sw_set (q := (k, n)) hq0] at hP1
          exact kk H1 locs1 LS hP1 hS1 hLS hst1 hok hlen
        · cases hs
      · cases hs
    · cases hs
  -- bastore
  · split at hs
    · rename_i v x k n st1
      have hq : (k, n) ∈ ck_wl := hst (.inr (k, n)) (by simp)
      have hst1 : ∀ v ∈ st1, sw_ok v := fun v hv => hst v (by simp [hv])
      split at hs
      · rename_i N hN
        split at hs
        · rename_i hl
          obtain ⟨hl, hin, hv⟩ := hl
          subst hl; cases hs
          have hnar : vp_nar .boolean v = v := by rcases hv with rfl | rfl <;> decide
          obtain ⟨q0, hq0, hp⟩ := sw_place (cI := cI) (cZ := cZ) (cQ := cQ) (cS := cS) (ad := ad) (h := h) hq
          rw [sw_eZ hq hN] at hp
          refine va_zast hx hb hK hP (sw_D hinj) hS q0 1 hp rfl hin hdg (fun H1 locs1 hP1 _ hS1 => ?_)
          rw [hnar, sw_arr_set (q := (k, n)), ← sw_eZ (cI := cI) (cZ := cZ) (cQ := cQ) (cS := cS) (ad := ad) hq hN] at hP1
          rw [sw_set (q := (k, n)) hq0] at hP1
          exact kk H1 locs1 LS hP1 hS1 hLS hst1 hok hlen
        · cases hs
      · cases hs
    · cases hs
  -- arraylength
  · split at hs
    · rename_i k n st1
      have hq : (k, n) ∈ ck_wl := hst (.inr (k, n)) List.mem_cons_self
      split at hs
      · rename_i N hN
        split at hs
        · rename_i hl
          subst hl; cases hs
          obtain ⟨q0, hq0, hp⟩ := sw_place (cI := cI) (cZ := cZ) (cQ := cQ) (cS := cS) (ad := ad) (h := h) hq
          rw [sw_eI hq hN] at hp
          exact va_alen hx hb hK hP q0 0 hp rfl rfl hdg (kk H locs LS hP hS hLS (push _ _ (fun w h => by simp [h]) trivial) hok hlen)
        · cases hs
      · cases hs
    · cases hs
  · cases hs
end SST
end
section
/-! ===== a run of the small machine is a run of the machine ===== -/
def sw_rm (y : Nat) : Room := { frames := sm_fr.getD y 99, cells := 0, slots := 0, locals := sm_lo.getD y 999 }
def sw_wd (y : Nat) : List Cond := Cond.code (sm_y.getD y ⟨"", "", ""⟩) (sm_c.getD y ⟨#[]⟩) (sm_L.getD y 0) (sw_rt y) :: sm_W
def sw_Q (D : va_G) (cI cZ cQ cS : ClassId) (ad : Nat → Nat → Nat) (r : Option Int32) (h' : AHp) : Array Value → State → Outcome → State → Prop := fun _ st oc t => oc = .returned (r.map Value.int) ∧ va_P D sm_cl (sw_ws cI cZ cQ cS ad h') t.heap ∧ va_F (sw_A ad) st t
def sw_pre (D : va_G) (cI cZ cQ cS : ClassId) (ad : Nat → Nat → Nat) (as : List AV) (h : AHp) : Array Value → State → Prop := va_Pc (as.map (sw_conc ad)) (fun U => va_P D sm_cl (sw_ws cI cZ cQ cS ad h) U.heap ∧ va_K D sm_cl (sw_tys cI cZ cQ cS) U)
/-- the contract of method y, for one run of the small machine -/
def sw_Met (D : va_G) (cI cZ cQ cS : ClassId) (ad : Nat → Nat → Nat) (l : Launch) (y : Nat) (as : List AV) (h : AHp) (r : Option Int32) (h' : AHp) : Prop := Met l (sm_y.getD y ⟨"", "", ""⟩) (sw_wd y) (sw_rm y) (sw_pre D cI cZ cQ cS ad as h) (sw_Q D cI cZ cQ cS ad r h') 0 0 (sw_A ad)
theorem sw_code : ∀ y, y < 92 → Cond.code (sm_y.getD y ⟨"", "", ""⟩) (sm_c.getD y ⟨#[]⟩) (sm_L.getD y 0) (sw_rt y) ∈ sm_W := ck_code
theorem sw_good {big ws : List Cond} (hb : ∀ w ∈ sm_W, w ∈ big) (h : ∀ w ∈ ws, w ∈ sm_W) : GoodIn big ws := fun w hw => ⟨hb w (h w hw), good_of_word (List.all_eq_true.mp ck_good w (h w hw))⟩
theorem sw_wd_in {y : Nat} (hy : y < 92) : ∀ w ∈ sw_wd y, w ∈ sm_W := by
  intro w hw
  rcases List.mem_cons.mp hw with rfl | hw
  · exact sw_code y hy
  · exact hw
theorem sw_blind {D : va_G} {cI cZ cQ cS : ClassId} {ad : Nat → Nat → Nat} {as : List AV} {h : AHp} : FrameBlind (sw_pre D cI cZ cQ cS ad as h) := fun a U g mk q => ⟨q.1, q.2.1, va_K.moved (u := U) (U := U.calling g mk a) (Vm.Alike.refl U.vm) q.2.2⟩
section SSM
variable {D : va_G} {cI cZ cQ cS : ClassId} {ad : Nat → Nat → Nat} {p : Program} {l : Launch} {e : Env} {R : Room} {s : State} {m : MethodId} {args : Array Value} {below : List Frame} {meth : Method} {c : Code} {H : Heap} {locs : List Loc} {Q : State → Prop} {pc : Nat} {LS : Array Slot} {cells slots : Nat}
/-- behind a call -/
theorem sw_after {r : Option Int32} {h1 : AHp} {st0 rest : List Value} {a : Array Value} {A0 : Nat → Prop} (hA0 : ∀ q, sw_A ad q → A0 q) (hr : va_Run p l e R s m args below meth c H locs cells slots 0 0 (F0 m pc LS st0) rest (sw_Q D cI cZ cQ cS ad r h1 a) (sw_A ad)) (hS : va_S A0 s.heap H locs)
    (kk : ∀ (H1 : Heap) (locs1 : List Loc), va_P D sm_cl (sw_ws cI cZ cQ cS ad h1) H1 → va_S A0 s.heap H1 locs1 → H.size ≤ H1.size → (∀ q : Nat, q < H.size → ¬ sw_A ad q → H1[q]? = H[q]?) → W p l e R s m args below meth c H1 locs1 cells slots Q (F0 m (pc + 3) LS ((r.map Value.int).toList ++ rest))) : W p l e R s m args below meth c H locs cells slots Q (F0 m pc LS st0) := by
  intro T hT X
  obtain ⟨v, st₀, t, T', L, h0, X', hL, e1, e2, ⟨hv, hp, hz, hk⟩, st⟩ := hr T hT X
  cases hv
  rw [h0] at hz hk
  obtain ⟨t2, a1, b1⟩ := kk T'.heap (locs ++ L) (by rw [e1]; exact hp)
    ⟨Nat.le_trans hS.1 (by rw [e1]; exact hz), fun q g1 g2 => by rw [e1, hk q (Nat.lt_of_lt_of_le g1 hS.1) (fun z => g2 (hA0 q z))]; exact hS.2.1 q g1 g2, fun q hq => by
      rcases List.mem_append.mp hq with g | g
      · exact hS.2.2 q g
      · exact hA0 _ (hL q g)⟩ (by rw [e1]; exact hz) (fun q g1 g2 => by rw [e1]; exact hk q g1 g2) T' rfl X'
  exact ⟨t2, st t2 a1, b1⟩
end SSM
/-- what is proved of n steps -/
def sw_SIM (D : va_G) (cI cZ cQ cS : ClassId) (ad : Nat → Nat → Nat) (n : Nat) : Prop := ∀ (mi pc : Nat) (ls : List (Option AV)) (st : List AV) (h : AHp) (r : Option Int32) (h' : AHp), ah_run n mi pc ls st h = some (r, h') → mi < 92 → ∀ (p : Program) (l : Launch) (e : Env) (R : Room) (s : State) (m : MethodId) (args : Array Value) (below : List Frame) (meth : Method) (c : Code) (H : Heap) (locs : List Loc) (LS : Array Slot),
  sw_C D cI cZ cQ cS p s m args meth c mi → sm_fr.getD mi 0 ≤ R.frames → sm_lo.getD mi 0 ≤ R.locals → (∀ v ∈ st, sw_ok v) → (∀ v, some v ∈ ls → sw_ok v) → ls.length = sm_L.getD mi 0 → lv_has LS (sm_L.getD mi 0) (sw_lv ad ls) → va_P D sm_cl (sw_ws cI cZ cQ cS ad h) H → va_S (sw_A ad) s.heap H locs →
  W p l e R s m args below meth c H locs 0 0 (MQ below (sw_Q D cI cZ cQ cS ad r h') args s 0 0 (sw_A ad)) (F0 m pc LS (st.map (sw_conc ad)))
theorem sw_tab : sm_fr.length = 92 ∧ sm_lo.length = 92 ∧ sm_L.length = 92 := by decide +kernel
theorem sw_getD {L : List Nat} (hL : L.length = 92) {y : Nat} (hy : y < 92) (a b : Nat) : L.getD y a = L.getD y b := by
  rw [List.getD_eq_getElem?_getD, List.getD_eq_getElem?_getD, List.getElem?_eq_getElem (by rw [hL]; exact hy)]
  rfl
theorem sw_toMet {D : va_G} {cI cZ cQ cS : ClassId} {ad : Nat → Nat → Nat} {n : Nat} (S : sw_SIM D cI cZ cQ cS ad n) (l : Launch) {y : Nat} {as : List AV} {h h' : AHp} {r : Option Int32} (hy : y < 92) (hok : ∀ v ∈ as, sw_ok v) (hlen : as.length ≤ sm_L.getD y 0) (hrun : ah_run n y 0 (ah_entry y as) [] h = some (r, h')) : sw_Met D cI cZ cQ cS ad l y as h r h' := by
  obtain ⟨n1, n2, n3, n4, n5⟩ := ck_name y hy
  refine va_MetF (cc := sm_c.getD y ⟨#[]⟩) (maxL := sm_L.getD y 0) (ret := sw_rt y) n1 rfl ?_
  intro p e s m args below meth c s₁ B hml hv
  obtain ⟨rfl, hP, hK⟩ := hv
  have hown : s.vm.findClass (sm_y.getD y ⟨"", "", ""⟩).cls = some m.cls := findClass_of_methodNamed B.named
  rw [n2] at hown
  have hts := atoms_spec (ws := sw_wd y) B.pre
  rw [lg_entry_eq]
  have hent := sw_entry ad y as hlen
  generalize (lg_sl (as.map (sw_conc ad)) ++ List.replicate (sm_L.getD y 0 - (lg_sl (as.map (sw_conc ad))).length) Slot.unset).toArray = LS at hent ⊢
  refine S y 0 (ah_entry y as) [] h r h' hrun hy p l e _ s m _ below meth c s.heap [] LS ⟨B.exec, B.bytes, B.returns, hml, hown, fun w hw => hts w (List.mem_cons_of_mem _ hw), hK, B.notSynchronized⟩ ?_ ?_ (fun v hv => by cases hv) (sw_entry_ok hok) ?_ hent hP va_S.rf
  · show sm_fr.getD y 0 ≤ sm_fr.getD y 99
    rw [sw_getD sw_tab.1 hy 0 99]
    exact Nat.le_refl _
  · show sm_lo.getD y 0 ≤ sm_lo.getD y 999
    rw [sw_getD sw_tab.2.1 hy 0 999]
    exact Nat.le_refl _
  · unfold ah_entry
    rw [List.length_append, List.length_map, List.length_replicate]
    omega
theorem sw_lookup {α : Type} : ∀ (L : List (Nat × α)) (k : Nat) (x : α), L.lookup k = some x → (k, x) ∈ L
  | [], k, x, h => by simp at h
  | (a, b) :: L, k, x, h => by
    rw [List.lookup_cons] at h
    by_cases hk : k = a
    · subst hk
      simp at h
      subst h
      exact List.mem_cons_self
    · have : (k == a) = false := by simp [hk]
      rw [this] at h
      exact List.mem_cons_of_mem _ (sw_lookup L k x h)
theorem sw_dec {mi pc len : Nat} {i : Instr} (hmi : mi < 92) (hi : ah_ins mi pc = some (i, len)) : decode (sm_c.getD mi ⟨#[]⟩) pc = .ok (i, len) := ck_dec mi hmi (pc, (i, len)) (sw_lookup (sm_tabs.getD mi []) pc (i, len) hi)
theorem sw_cats (ad : Nat → Nat → Nat) : ∀ st : List AV, ((st.map (sw_conc ad)).map fun v => v.category).sum = st.length
  | [] => rfl
  | v :: st => by
    have := sw_cats ad st
    rw [List.map_cons, List.map_cons, List.sum_cons, sw_cat, this, List.length_cons]
    omega
set_option maxHeartbeats 4000000 in
theorem sw_sim (D : va_G) (cI cZ cQ cS : ClassId) (ad : Nat → Nat → Nat) (hinj : sw_inj ad) : ∀ n, sw_SIM D cI cZ cQ cS ad n := by
  intro n
  induction n with
  | zero => intro mi pc ls st h r h' e; simp [ah_run] at e
  | succ n ih =>
    intro mi pc ls st h r h' hrun hmi p l e R s m args below meth c H locs LS X hfr hlo hst hok hlen hLS hP hS
    simp only [ah_run] at hrun
    cases hi : ah_ins mi pc with
    | none => rw [hi] at hrun; cases hrun
    | some il =>
      obtain ⟨i, len⟩ := il
      have hdg : decode (sm_c.getD mi ⟨#[]⟩) pc = .ok (i, len) := sw_dec hmi hi
      simp only [hi] at hrun
      cases he : ah_end mi i len st h with
      | some r' =>
        simp only [he] at hrun
        cases hrun
        obtain ⟨hx, hb, hr, hml, hown, hts, hK, hlk⟩ := X
        unfold ah_end at he
        split at he
        · split at he
          · rename_i x
            split at he
            · rename_i hc
              cases he
              obtain ⟨hl, hc⟩ := hc
              subst hl
              have hq : ∀ t : State, t.heap = H → s.WarmedH t.vm → sw_Q D cI cZ cQ cS ad (some x) h args s (.returned (some (.int x))) t := fun t ht _ => ⟨rfl, by rw [ht]; exact hP, hS.F ht⟩
              rcases hc with hc | ⟨hc, hx01⟩
              · refine W.zret (ty := .int) hx hb (by rw [hr, sw_rt, hc] <;> rfl) rfl hq hS.2.2 hdg
              · refine W.zret (ty := .boolean) hx hb (by rw [hr, sw_rt, hc] <;> rfl) (by rcases hx01 with rfl | rfl <;> decide) hq hS.2.2 hdg
            · cases he
          · cases he
        · split at he
          · split at he
            · rename_i hc
              cases he
              obtain ⟨hl, hc⟩ := hc
              subst hl
              have hq : ∀ t : State, t.heap = H → s.WarmedH t.vm → sw_Q D cI cZ cQ cS ad none h args s (.returned none) t := fun t ht _ => ⟨rfl, by rw [ht]; exact hP, hS.F ht⟩
              exact W.vret hx hb (by rw [hr, sw_rt, hc] <;> rfl) hq hS.2.2 hdg
            · cases he
          · cases he
        · cases he
      | none =>
        simp only [he] at hrun
        cases hc : ah_call mi i len st with
        | some q =>
          obtain ⟨y, as, rest⟩ := q
          simp only [hc] at hrun
          cases h1 : ah_run n y 0 (ah_entry y as) [] h with
          | none => simp only [h1] at hrun; cases hrun
          | some q1 =>
            obtain ⟨r1, h1'⟩ := q1
            simp only [h1] at hrun
            have X0 := X
            obtain ⟨hx, hb, hr, hml, hown, hts, hK, hlk⟩ := X
            unfold ah_call at hc
            split at hc
            -- virtual
            · rename_i idx
              split at hc
              · rename_i y' hy'
                split at hc
                · rename_i k nr hrec
                  split at hc
                  · rename_i hh
                    obtain ⟨hl, -, hy92, hstc, hcls, hf1, hl1, hrest, hnL⟩ := hh
                    cases hc
                    subst hl
                    obtain ⟨v1, v2, v3, v4, v5, v6, v7⟩ := ck_mthV _ (sw_mthM hy') hstc
                    obtain ⟨n1, n2, n3, n4, n5⟩ := ck_name y hy92
                    have hlt : sm_n.getD y 0 < st.length := (List.getElem?_eq_some_iff.mp hrec).1
                    have hsplit : st = st.take (sm_n.getD y 0) ++ (.inr (k, nr) :: st.drop (sm_n.getD y 0 + 1)) := by
                      have e1 : st[sm_n.getD y 0] = .inr (k, nr) := (List.getElem?_eq_some_iff.mp hrec).2
                      rw [← e1, List.getElem_cons_drop, List.take_append_drop]
                    have hrev : (st.take (sm_n.getD y 0 + 1)).reverse = .inr (k, nr) :: (st.take (sm_n.getD y 0)).reverse := by
                      rw [List.take_add_one, hrec]
                      simp
                    have hokas : ∀ v ∈ (st.take (sm_n.getD y 0 + 1)).reverse, sw_ok v := fun v hv => hst v (List.mem_of_mem_take (List.mem_reverse.mp hv))
                    have hM := sw_toMet ih l hy92 hokas (by rw [List.length_reverse, List.length_take]; omega) h1
                    have hq : (k, nr) ∈ ck_wl := hst (.inr (k, nr)) (List.mem_of_getElem? hrec)
                    obtain ⟨q0, -, hp⟩ := sw_place (cI := cI) (cZ := cZ) (cQ := cQ) (cS := cS) (ad := ad) (h := h) hq
                    rw [sw_eC (q := (k, nr)) hcls] at hp
                    have hlenAs : (((st.take (sm_n.getD y 0)).reverse).map (sw_conc ad)).length = sm_n.getD y 0 := by
                      rw [List.length_map, List.length_reverse, List.length_take]; omega
                    refine sw_after (fun _ z => z) (va_runV (As := ((st.take (sm_n.getD y 0)).reverse).map (sw_conc ad)) (rest := (st.drop (sm_n.getD y 0 + 1)).map (sw_conc ad)) (b := ad k nr) (C := (sm_cl.getD (sm_own.getD y 9) (RX0, TX0, 4)).1) ⟨hx, hb, hml, hown, hts⟩ hM
                      (cwV (sm_n.getD y 0) hts (sw_good (fun w h => h) (fun w hw => ?_)) rfl rfl rfl ⟨v3, n3, n4, n5⟩ ⟨Nat.le_trans hf1 hfr, Nat.le_trans hl1 hlo⟩)
                      ⟨sw_blind, va_recv hK hP (sw_cl_at _ v2) hp, fun U hU hW => ⟨by rw [hrev]; rfl, by rw [hU]; exact hP, va_K.moved hW.alike hK⟩⟩ rfl hlenAs hLS.1 ?_ (lv_room (by rw [sw_cats]; exact hrest)) hdg ⟨Nat.zero_le _, Nat.zero_le _⟩) hS (fun H1 locs1 hP1 hS1 _ _ => ?_)
                    · unfold wsV at hw
                      rcases List.mem_append.mp hw with hw | hw
                      · simp only [List.mem_cons, List.not_mem_nil, or_false] at hw
                        rcases hw with rfl | rfl | rfl | rfl
                        · exact v4
                        · exact v5
                        · exact v6
                        · exact v7
                      · exact sw_wd_in hy92 w hw
                    · show st.map (sw_conc ad) = _
                      conv => lhs; rw [hsplit]
                      simp [sw_conc]
                    · have := ih mi (pc + 3) ls _ h1' r h' hrun hmi p l e R s m args below meth c H1 locs1 LS X0 hfr hlo ?_ hok hlen hLS hP1 hS1
                      · refine W.eq ?_ this
                        cases r1 <;> simp [sw_conc]
                      · intro v hv
                        rcases List.mem_append.mp hv with hv | hv
                        · obtain ⟨z, -, rfl⟩ := List.mem_map.mp hv
                          trivial
                        · exact hst v (List.mem_of_mem_drop hv)
                  · cases hc
                · cases hc
              · cases hc
            -- static
            · rename_i idx
              split at hc
              · rename_i y' hy'
                split at hc
                · rename_i hh
                  obtain ⟨hl, -, hy92, hstc, hle, hf1, hl1, hrest, hnL⟩ := hh
                  cases hc
                  subst hl
                  obtain ⟨v1, v2, v3, v4⟩ := ck_mthS _ (sw_mthM hy') hstc
                  obtain ⟨n1, n2, n3, n4, n5⟩ := ck_name y hy92
                  have hokas : ∀ v ∈ (st.take (sm_n.getD y 0)).reverse, sw_ok v := fun v hv => hst v (List.mem_of_mem_take (List.mem_reverse.mp hv))
                  have hM := sw_toMet ih l hy92 hokas (by rw [List.length_reverse, List.length_take]; omega) h1
                  have hlenAs : (((st.take (sm_n.getD y 0)).reverse).map (sw_conc ad)).length = sm_n.getD y 0 := by
                    rw [List.length_map, List.length_reverse, List.length_take]; omega
                  refine sw_after (fun _ z => z) (va_runS (As := ((st.take (sm_n.getD y 0)).reverse).map (sw_conc ad)) (rest := (st.drop (sm_n.getD y 0)).map (sw_conc ad)) ⟨hx, hb, hml, hown, hts⟩ hM
                    (va_cwS (sm_n.getD y 0) hts (sw_good (fun w h => h) (fun w hw => ?_)) rfl rfl rfl ⟨n3, n4, n5⟩ ⟨Nat.le_trans hf1 hfr, Nat.le_trans hl1 hlo⟩)
                    ⟨sw_blind, fun U hU hW => ⟨rfl, by rw [hU]; exact hP, va_K.moved hW.alike hK⟩⟩ rfl hlenAs hLS.1 ?_ (lv_room (by rw [sw_cats]; exact hrest)) hdg ⟨Nat.zero_le _, Nat.zero_le _⟩) hS (fun H1 locs1 hP1 hS1 _ _ => ?_)
                  · unfold va_wsS at hw
                    rcases List.mem_append.mp hw with hw | hw
                    · simp only [List.mem_cons, List.not_mem_nil, or_false] at hw
                      rcases hw with rfl | rfl | rfl
                      · exact v2
                      · exact v3
                      · exact v4
                    · exact sw_wd_in hy92 w hw
                  · show st.map (sw_conc ad) = _
                    conv => lhs; rw [← List.take_append_drop (sm_n.getD y 0) st]
                    simp
                  · have := ih mi (pc + 3) ls _ h1' r h' hrun hmi p l e R s m args below meth c H1 locs1 LS X0 hfr hlo ?_ hok hlen hLS hP1 hS1
                    · refine W.eq ?_ this
                      cases r1 <;> simp [sw_conc]
                    · intro v hv
                      rcases List.mem_append.mp hv with hv | hv
                      · obtain ⟨z, -, rfl⟩ := List.mem_map.mp hv
                        trivial
                      · exact hst v (List.mem_of_mem_drop hv)
                · cases hc
              · cases hc
            · cases hc
        | none =>
          simp only [hc] at hrun
          cases hs : ah_step mi i len pc ls st h with
          | none => simp only [hs] at hrun; cases hrun
          | some q =>
            obtain ⟨pc', ls', st', h2⟩ := q
            simp only [hs] at hrun
            refine sw_step X hinj hdg hst hok hlen hLS hP hS hs ?_
            intro H' locs' LS' a1 a2 a3 a4 a5 a6
            exact ih mi pc' ls' st' h2 r h' hrun hmi p l e R s m args below meth c H' locs' LS' X hfr hlo a4 a5 a6 a3 a1 a2
/-- a method's contract out of the small machine's run -/
theorem sw_met {D : va_G} {cI cZ cQ cS : ClassId} {ad : Nat → Nat → Nat} (hinj : sw_inj ad) (l : Launch) {n y : Nat} {as : List AV} {h h' : AHp} {r : Option Int32} (hy : y < 92) (hok : ∀ v ∈ as, sw_ok v) (hlen : as.length ≤ sm_L.getD y 0) (hrun : ah_run n y 0 (ah_entry y as) [] h = some (r, h')) : sw_Met D cI cZ cQ cS ad l y as h r h' := sw_toMet (sw_sim D cI cZ cQ cS ad hinj n) l hy hok hlen hrun
end
section
/-! ===== rules of the small machine for the x rows ===== -/
theorem VV_br {mi pc tgt : Nat} {co : Jvm.ClassFile.Cond} {off : Int} {h : AHp} {ls : List (Option AV)} {st : List AV} {x : Int32} {P : Prop} {Q : Option Int32 → AHp → Prop} (hi : ah_ins mi pc = some (.ifCond co off, 3)) (hj : ah_jok pc off = true) (ht : ah_jmp pc off = tgt) (hP : ah_cmp co x 0 = true ↔ P) : VV mi h pc ls (.inl x :: st) Q ↔ (P → VV mi h tgt ls st Q) ∧ (¬ P → VV mi h (pc + 3) ls st Q) := by
  subst ht
  by_cases hp : P
  · have hs : ah_step mi (.ifCond co off) 3 pc ls (.inl x :: st) h = some (ah_jmp pc off, ls, st, h) := by
      simp only [ah_step, hj, and_self, if_true, if_pos (hP.mpr hp)]
    rw [VV_step hi rfl rfl hs]
    exact ⟨fun v => ⟨fun _ => v, fun n => absurd hp n⟩, fun v => v.1 hp⟩
  · have hs : ah_step mi (.ifCond co off) 3 pc ls (.inl x :: st) h = some (pc + 3, ls, st, h) := by
      simp only [ah_step, hj, and_self, if_true, if_neg (fun z => hp (hP.mp z))]
    rw [VV_step hi rfl rfl hs]
    exact ⟨fun v => ⟨fun n => absurd n hp, fun _ => v⟩, fun v => v.2 hp⟩
theorem VV_br2 {mi pc tgt : Nat} {co : Jvm.ClassFile.Cond} {off : Int} {h : AHp} {ls : List (Option AV)} {st : List AV} {x y : Int32} {P : Prop} {Q : Option Int32 → AHp → Prop} (hi : ah_ins mi pc = some (.if_icmp co off, 3)) (hj : ah_jok pc off = true) (ht : ah_jmp pc off = tgt) (hP : ah_cmp co x y = true ↔ P) : VV mi h pc ls (.inl y :: .inl x :: st) Q ↔ (P → VV mi h tgt ls st Q) ∧ (¬ P → VV mi h (pc + 3) ls st Q) := by
  subst ht
  by_cases hp : P
  · have hs : ah_step mi (.if_icmp co off) 3 pc ls (.inl y :: .inl x :: st) h = some (ah_jmp pc off, ls, st, h) := by
      simp only [ah_step, hj, and_self, if_true, if_pos (hP.mpr hp)]
    rw [VV_step hi rfl rfl hs]
    exact ⟨fun v => ⟨fun _ => v, fun n => absurd hp n⟩, fun v => v.1 hp⟩
  · have hs : ah_step mi (.if_icmp co off) 3 pc ls (.inl y :: .inl x :: st) h = some (pc + 3, ls, st, h) := by
      simp only [ah_step, hj, and_self, if_true, if_neg (fun z => hp (hP.mp z))]
    rw [VV_step hi rfl rfl hs]
    exact ⟨fun v => ⟨fun n => absurd n hp, fun _ => v⟩, fun v => v.2 hp⟩
/-- an index into the int array of kind k, the boolean array, the array of references -/
def ix_i (k : Nat) (x : Int32) : Prop := match ah_ilen k with | some N => vp_in x N | none => False
def ix_z (k : Nat) (x : Int32) : Prop := match ah_zlen k with | some N => vp_in x N | none => False
def ix_r (k : Nat) (x : Int32) : Prop := match ah_rlen k with | some q => vp_in x q.1 | none => False
theorem VV_iald {mi pc k n : Nat} {h : AHp} {ls : List (Option AV)} {st : List AV} {x : Int32} {Q : Option Int32 → AHp → Prop} (hi : ah_ins mi pc = some (.iaload, 1)) : VV mi h pc ls (.inl x :: .inr (k, n) :: st) Q ↔ ix_i k x ∧ VV mi h (pc + 1) ls (.inl (h k n x.toNatClampNeg) :: st) Q := by
  unfold ix_i
  cases hN : ah_ilen k with
  | none => exact ⟨fun v => absurd v (VV_no hi rfl rfl (by simp only [ah_step, hN])), fun v => v.1.elim⟩
  | some N =>
    by_cases hv : vp_in x N
    · have hs : ah_step mi .iaload 1 pc ls (.inl x :: .inr (k, n) :: st) h = some (pc + 1, ls, .inl (h k n x.toNatClampNeg) :: st, h) := by
        simp only [ah_step, hN]; exact if_pos ⟨trivial, hv⟩
      rw [VV_step hi rfl rfl hs]
      exact ⟨fun v => ⟨hv, v⟩, fun v => v.2⟩
    · exact ⟨fun v => absurd v (VV_no hi rfl rfl (by simp only [ah_step, hN]; exact if_neg (fun z => hv z.2))), fun v => absurd v.1 hv⟩
theorem VV_bald {mi pc k n : Nat} {h : AHp} {ls : List (Option AV)} {st : List AV} {x : Int32} {Q : Option Int32 → AHp → Prop} (hi : ah_ins mi pc = some (.baload, 1)) : VV mi h pc ls (.inl x :: .inr (k, n) :: st) Q ↔ ix_z k x ∧ VV mi h (pc + 1) ls (.inl (h k n x.toNatClampNeg) :: st) Q := by
  unfold ix_z
  cases hN : ah_zlen k with
  | none => exact ⟨fun v => absurd v (VV_no hi rfl rfl (by simp only [ah_step, hN])), fun v => v.1.elim⟩
  | some N =>
    by_cases hv : vp_in x N
    · have hs : ah_step mi .baload 1 pc ls (.inl x :: .inr (k, n) :: st) h = some (pc + 1, ls, .inl (h k n x.toNatClampNeg) :: st, h) := by
        simp only [ah_step, hN]; exact if_pos ⟨trivial, hv⟩
      rw [VV_step hi rfl rfl hs]
      exact ⟨fun v => ⟨hv, v⟩, fun v => v.2⟩
    · exact ⟨fun v => absurd v (VV_no hi rfl rfl (by simp only [ah_step, hN]; exact if_neg (fun z => hv z.2))), fun v => absurd v.1 hv⟩
theorem VV_aald {mi pc k n kt N : Nat} {h : AHp} {ls : List (Option AV)} {st : List AV} {x : Int32} {Q : Option Int32 → AHp → Prop} (hi : ah_ins mi pc = some (.aaload, 1)) (hN : ah_rlen k = some (N, kt)) : VV mi h pc ls (.inl x :: .inr (k, n) :: st) Q ↔ vp_in x N ∧ VV mi h (pc + 1) ls (.inr (kt, x.toNatClampNeg) :: st) Q := by
  by_cases hv : vp_in x N
  · have hs : ah_step mi .aaload 1 pc ls (.inl x :: .inr (k, n) :: st) h = some (pc + 1, ls, .inr (kt, x.toNatClampNeg) :: st, h) := by
      simp only [ah_step, hN]; exact if_pos ⟨trivial, hv⟩
    rw [VV_step hi rfl rfl hs]
    exact ⟨fun v => ⟨hv, v⟩, fun v => v.2⟩
  · exact ⟨fun v => absurd v (VV_no hi rfl rfl (by simp only [ah_step, hN]; exact if_neg (fun z => hv z.2))), fun v => absurd v.1 hv⟩
theorem VV_iast {mi pc k n : Nat} {h : AHp} {ls : List (Option AV)} {st : List AV} {x y : Int32} {Q : Option Int32 → AHp → Prop} (hi : ah_ins mi pc = some (.iastore, 1)) : VV mi h pc ls (.inl y :: .inl x :: .inr (k, n) :: st) Q ↔ ix_i k x ∧ VV mi (ah_up h k n x.toNatClampNeg y) (pc + 1) ls st Q := by
  unfold ix_i
  cases hN : ah_ilen k with
  | none => exact ⟨fun v => absurd v (VV_no hi rfl rfl (by simp only [ah_step, hN])), fun v => v.1.elim⟩
  | some N =>
    by_cases hv : vp_in x N
    · have hs : ah_step mi .iastore 1 pc ls (.inl y :: .inl x :: .inr (k, n) :: st) h = some (pc + 1, ls, st, ah_up h k n x.toNatClampNeg y) := by
        simp only [ah_step, hN]; exact if_pos ⟨trivial, hv⟩
      rw [VV_step hi rfl rfl hs]
      exact ⟨fun v => ⟨hv, v⟩, fun v => v.2⟩
    · exact ⟨fun v => absurd v (VV_no hi rfl rfl (by simp only [ah_step, hN]; exact if_neg (fun z => hv z.2))), fun v => absurd v.1 hv⟩
theorem VV_bast {mi pc k n : Nat} {h : AHp} {ls : List (Option AV)} {st : List AV} {x y : Int32} {Q : Option Int32 → AHp → Prop} (hi : ah_ins mi pc = some (.bastore, 1)) : VV mi h pc ls (.inl y :: .inl x :: .inr (k, n) :: st) Q ↔ (ix_z k x ∧ (y = 0 ∨ y = 1)) ∧ VV mi (ah_up h k n x.toNatClampNeg y) (pc + 1) ls st Q := by
  unfold ix_z
  cases hN : ah_zlen k with
  | none => exact ⟨fun v => absurd v (VV_no hi rfl rfl (by simp only [ah_step, hN])), fun v => v.1.1.elim⟩
  | some N =>
    by_cases hv : vp_in x N ∧ (y = 0 ∨ y = 1)
    · have hs : ah_step mi .bastore 1 pc ls (.inl y :: .inl x :: .inr (k, n) :: st) h = some (pc + 1, ls, st, ah_up h k n x.toNatClampNeg y) := by
        simp only [ah_step, hN]; exact if_pos ⟨trivial, hv.1, hv.2⟩
      rw [VV_step hi rfl rfl hs]
      exact ⟨fun v => ⟨hv, v⟩, fun v => v.2⟩
    · exact ⟨fun v => absurd v (VV_no hi rfl rfl (by simp only [ah_step, hN]; exact if_neg (fun z => hv z.2))), fun v => absurd v.1 hv⟩
theorem VV_alen {mi pc k n : Nat} {h : AHp} {ls : List (Option AV)} {st : List AV} {Q : Option Int32 → AHp → Prop} {N : Nat} (hi : ah_ins mi pc = some (.arraylength, 1)) (hN : ah_ilen k = some N) : VV mi h pc ls (.inr (k, n) :: st) Q ↔ VV mi h (pc + 1) ls (.inl (nI N) :: st) Q := by
  have hs : ah_step mi .arraylength 1 pc ls (.inr (k, n) :: st) h = some (pc + 1, ls, .inl (nI N) :: st, h) := by
    simp only [ah_step, hN]; rfl
  rw [VV_step hi rfl rfl hs]
theorem VV_zret {mi pc : Nat} {h : AHp} {ls : List (Option AV)} {x : Int32} {Q : Option Int32 → AHp → Prop} (hi : ah_ins mi pc = some (.ireturn, 1)) (hr : sm_ret.getD mi 9 = 2) : VV mi h pc ls [.inl x] Q ↔ (x = 0 ∨ x = 1) ∧ Q (some x) h := by
  by_cases hv : x = 0 ∨ x = 1
  · have he : ah_end mi .ireturn 1 [.inl x] h = some (some x, h) := by
      simp only [ah_end]
      exact if_pos ⟨trivial, Or.inr ⟨hr, hv⟩⟩
    rw [VV_end hi he]
    exact ⟨fun v => ⟨hv, v⟩, fun v => v.2⟩
  · refine ⟨fun v => absurd v (VV_no hi ?_ rfl rfl), fun v => absurd v.1 hv⟩
    simp only [ah_end]
    refine if_neg (fun z => ?_)
    rcases z.2 with z | z
    · rw [hr] at z; cases z
    · exact hv z.2
theorem VV_idiv {mi pc : Nat} {h : AHp} {ls : List (Option AV)} {st : List AV} {x y : Int32} {Q : Option Int32 → AHp → Prop} (hi : ah_ins mi pc = some (.idiv, 1)) : VV mi h pc ls (.inl y :: .inl x :: st) Q ↔ ¬ y = 0 ∧ VV mi h (pc + 1) ls (.inl (x / y) :: st) Q := by
  by_cases hv : y = 0
  · exact ⟨fun v => absurd v (VV_no hi rfl rfl (by simp only [ah_step]; exact if_neg (fun z => z.2 hv))), fun v => absurd hv v.1⟩
  · have hs : ah_step mi .idiv 1 pc ls (.inl y :: .inl x :: st) h = some (pc + 1, ls, .inl (x / y) :: st, h) := by
      simp only [ah_step]; exact if_pos ⟨trivial, hv⟩
    rw [VV_step hi rfl rfl hs]
    exact ⟨fun v => ⟨hv, v⟩, fun v => v.2⟩
theorem VV_tsw {mi pc len : Nat} {d lo hh off : Int} {offs : Array Int} {h : AHp} {ls : List (Option AV)} {st : List AV} {x : Int32} {Q : Option Int32 → AHp → Prop} {tgt : Nat} (hi : ah_ins mi pc = some (.tableswitch d lo hh offs, len)) (hx : (if x.toInt < lo ∨ hh < x.toInt then some d else offs[(x.toInt - lo).toNat]?) = some off) (hj : ah_jok pc off = true) (ht : ah_jmp pc off = tgt) : VV mi h pc ls (.inl x :: st) Q ↔ VV mi h tgt ls st Q := by
  subst ht
  have hs : ah_step mi (.tableswitch d lo hh offs) len pc ls (.inl x :: st) h = some (ah_jmp pc off, ls, st, h) := by
    simp only [ah_step]
    by_cases ho : x.toInt < lo ∨ hh < x.toInt
    · rw [if_pos ho] at hx ⊢
      cases hx
      exact if_pos hj
    · rw [if_neg ho] at hx ⊢
      rw [hx]
      exact if_pos hj
  rw [VV_step hi rfl rfl hs]
theorem ix_i5 (x : Int32) : ix_i 5 x ↔ vp_in x 8 := Iff.rfl
theorem ix_i6 (x : Int32) : ix_i 6 x ↔ vp_in x 8 := Iff.rfl
theorem ix_i7 (x : Int32) : ix_i 7 x ↔ vp_in x 8 := Iff.rfl
theorem ix_i8 (x : Int32) : ix_i 8 x ↔ vp_in x 8 := Iff.rfl
theorem ix_i9 (x : Int32) : ix_i 9 x ↔ vp_in x 8 := Iff.rfl
theorem ix_i17 (x : Int32) : ix_i 17 x ↔ vp_in x 8 := Iff.rfl
theorem ix_i18 (x : Int32) : ix_i 18 x ↔ vp_in x 8 := Iff.rfl
theorem ix_i19 (x : Int32) : ix_i 19 x ↔ vp_in x 8 := Iff.rfl
theorem ix_i20 (x : Int32) : ix_i 20 x ↔ vp_in x 8 := Iff.rfl
theorem ix_i12 (x : Int32) : ix_i 12 x ↔ vp_in x 20 := Iff.rfl
theorem ix_i13 (x : Int32) : ix_i 13 x ↔ vp_in x 20 := Iff.rfl
theorem ix_i14 (x : Int32) : ix_i 14 x ↔ vp_in x 20 := Iff.rfl
theorem ix_i15 (x : Int32) : ix_i 15 x ↔ vp_in x 20 := Iff.rfl
theorem ix_i21 (x : Int32) : ix_i 21 x ↔ vp_in x 64 := Iff.rfl
theorem ix_i23 (x : Int32) : ix_i 23 x ↔ vp_in x 64 := Iff.rfl
theorem ix_i24 (x : Int32) : ix_i 24 x ↔ vp_in x 64 := Iff.rfl
theorem ix_i25 (x : Int32) : ix_i 25 x ↔ vp_in x 64 := Iff.rfl
theorem ix_i26 (x : Int32) : ix_i 26 x ↔ vp_in x 64 := Iff.rfl
theorem ix_z22 (x : Int32) : ix_z 22 x ↔ vp_in x 64 := Iff.rfl
end
section
theorem xr_0_0 (h : AHp) (Q : Option Int32 → AHp → Prop) (l1 l2 : Option AV) (x : Nat × Nat) (st : List AV) : VV 0 h 0 [some (.inr x), l1, l2] st Q ↔ VV 0 h 1 [some (.inr x), l1, l2] (.inr x :: st) Q := VV_step rfl rfl rfl rfl
theorem xr_0_1 (h : AHp) (Q : Option Int32 → AHp → Prop) (l0 l2 : Option AV) (x : Int32) (st : List AV) : VV 0 h 1 [l0, some (.inl x), l2] st Q ↔ VV 0 h 2 [l0, some (.inl x), l2] (.inl x :: st) Q := VV_step rfl rfl rfl rfl
theorem xr_0_2 (h : AHp) (Q : Option Int32 → AHp → Prop) (l0 l1 l2 : Option AV) (v : Int32) (i : Nat) (st : List AV) : VV 0 h 2 [l0, l1, l2] (.inl v :: .inr (3, i) :: st) Q ↔ VV 0 (ah_up h 3 i 0 v) 5 [l0, l1, l2] st Q := VV_step rfl rfl rfl rfl
theorem xr_0_5 (h : AHp) (Q : Option Int32 → AHp → Prop) (l1 l2 : Option AV) (x : Nat × Nat) (st : List AV) : VV 0 h 5 [some (.inr x), l1, l2] st Q ↔ VV 0 h 6 [some (.inr x), l1, l2] (.inr x :: st) Q := VV_step rfl rfl rfl rfl
theorem xr_0_6 (h : AHp) (Q : Option Int32 → AHp → Prop) (l0 l1 : Option AV) (x : Int32) (st : List AV) : VV 0 h 6 [l0, l1, some (.inl x)] st Q ↔ VV 0 h 7 [l0, l1, some (.inl x)] (.inl x :: st) Q := VV_step rfl rfl rfl rfl
theorem xr_0_7 (h : AHp) (Q : Option Int32 → AHp → Prop) (l0 l1 l2 : Option AV) (v : Int32) (i : Nat) (st : List AV) : VV 0 h 7 [l0, l1, l2] (.inl v :: .inr (3, i) :: st) Q ↔ VV 0 (ah_up h 3 i 1 v) 10 [l0, l1, l2] st Q := VV_step rfl rfl rfl rfl
theorem xr_0_10 (h : AHp) (Q : Option Int32 → AHp → Prop) (l1 l2 : Option AV) (x : Nat × Nat) (st : List AV) : VV 0 h 10 [some (.inr x), l1, l2] st Q ↔ VV 0 h 11 [some (.inr x), l1, l2] (.inr x :: st) Q := VV_step rfl rfl rfl rfl
theorem xr_0_11 (h : AHp) (Q : Option Int32 → AHp → Prop) (l0 l1 l2 : Option AV) (st : List AV) : VV 0 h 11 [l0, l1, l2] st Q ↔ VV 0 h 12 [l0, l1, l2] (.inl (0 : Int32) :: st) Q := VV_step rfl rfl rfl rfl
theorem xr_0_12 (h : AHp) (Q : Option Int32 → AHp → Prop) (l0 l1 l2 : Option AV) (v : Int32) (i : Nat) (st : List AV) : VV 0 h 12 [l0, l1, l2] (.inl v :: .inr (3, i) :: st) Q ↔ VV 0 (ah_up h 3 i 2 v) 15 [l0, l1, l2] st Q := VV_step rfl rfl rfl rfl
theorem xr_0_15 (h : AHp) (Q : Option Int32 → AHp → Prop) (l1 l2 : Option AV) (x : Nat × Nat) (st : List AV) : VV 0 h 15 [some (.inr x), l1, l2] st Q ↔ VV 0 h 16 [some (.inr x), l1, l2] (.inr x :: st) Q := VV_step rfl rfl rfl rfl
theorem xr_0_16 (h : AHp) (Q : Option Int32 → AHp → Prop) (l0 l1 l2 : Option AV) (st : List AV) : VV 0 h 16 [l0, l1, l2] st Q ↔ VV 0 h 17 [l0, l1, l2] (.inl (-1 : Int32) :: st) Q := VV_step rfl rfl rfl rfl
theorem xr_0_17 (h : AHp) (Q : Option Int32 → AHp → Prop) (l0 l1 l2 : Option AV) (v : Int32) (i : Nat) (st : List AV) : VV 0 h 17 [l0, l1, l2] (.inl v :: .inr (3, i) :: st) Q ↔ VV 0 (ah_up h 3 i 3 v) 20 [l0, l1, l2] st Q := VV_step rfl rfl rfl rfl
theorem xr_0_20 (h : AHp) (Q : Option Int32 → AHp → Prop) (l0 l1 l2 : Option AV) : VV 0 h 20 [l0, l1, l2] [] Q ↔ Q none h := VV_end rfl rfl
theorem xr_1_0 (h : AHp) (Q : Option Int32 → AHp → Prop) (x : Nat × Nat) (st : List AV) : VV 1 h 0 [some (.inr x)] st Q ↔ VV 1 h 1 [some (.inr x)] (.inr x :: st) Q := VV_step rfl rfl rfl rfl
theorem xr_1_1 (h : AHp) (Q : Option Int32 → AHp → Prop) (l0 : Option AV) (i : Nat) (st : List AV) : VV 1 h 1 [l0] (.inr (3, i) :: st) Q ↔ VV 1 h 4 [l0] (.inl (h 3 i 3) :: st) Q := VV_step rfl rfl rfl rfl
theorem xr_1_4 (h : AHp) (Q : Option Int32 → AHp → Prop) (l0 : Option AV) (st : List AV) : VV 1 h 4 [l0] st Q ↔ VV 1 h 5 [l0] (.inl (-1 : Int32) :: st) Q := VV_step rfl rfl rfl rfl
theorem xr_1_5 (h : AHp) (Q : Option Int32 → AHp → Prop) (l0 : Option AV) (x y : Int32) (st : List AV) : VV 1 h 5 [l0] (.inl y :: .inl x :: st) Q ↔ (¬ x = y → VV 1 h 12 [l0] st Q) ∧ (¬ (¬ x = y) → VV 1 h 8 [l0] st Q) := VV_br2 rfl rfl rfl decide_eq_true_iff
theorem xr_1_8 (h : AHp) (Q : Option Int32 → AHp → Prop) (l0 : Option AV) (st : List AV) : VV 1 h 8 [l0] st Q ↔ VV 1 h 9 [l0] (.inl (1 : Int32) :: st) Q := VV_step rfl rfl rfl rfl
theorem xr_1_9 (h : AHp) (Q : Option Int32 → AHp → Prop) (l0 : Option AV) (st : List AV) : VV 1 h 9 [l0] st Q ↔ VV 1 h 13 [l0] st Q := VV_step rfl rfl rfl rfl
theorem xr_1_12 (h : AHp) (Q : Option Int32 → AHp → Prop) (l0 : Option AV) (st : List AV) : VV 1 h 12 [l0] st Q ↔ VV 1 h 13 [l0] (.inl (0 : Int32) :: st) Q := VV_step rfl rfl rfl rfl
theorem xr_1_13 (h : AHp) (Q : Option Int32 → AHp → Prop) (l0 : Option AV) (x : Int32) : VV 1 h 13 [l0] [.inl x] Q ↔ (x = 0 ∨ x = 1) ∧ Q (some x) h := VV_zret rfl rfl
theorem xr_2_0 (h : AHp) (Q : Option Int32 → AHp → Prop) (l0 l1 l2 l3 : Option AV) (st : List AV) : VV 2 h 0 [l0, l1, l2, l3] st Q ↔ VV 2 h 1 [l0, l1, l2, l3] (.inl (0 : Int32) :: st) Q := VV_step rfl rfl rfl rfl
theorem xr_2_1 (h : AHp) (Q : Option Int32 → AHp → Prop) (l0 l1 l2 l3 : Option AV) (x : Int32) (st : List AV) : VV 2 h 1 [l0, l1, l2, l3] (.inl x :: st) Q ↔ VV 2 h 2 [l0, l1, some (.inl x), l3] st Q := VV_step rfl rfl rfl rfl
theorem xr_2_2 (h : AHp) (Q : Option Int32 → AHp → Prop) (l1 l2 l3 : Option AV) (x : Nat × Nat) (st : List AV) : VV 2 h 2 [some (.inr x), l1, l2, l3] st Q ↔ VV 2 h 3 [some (.inr x), l1, l2, l3] (.inr x :: st) Q := VV_step rfl rfl rfl rfl
theorem xr_2_3_5 (h : AHp) (Q : Option Int32 → AHp → Prop) (l0 l1 l2 l3 : Option AV) (i : Nat) (st : List AV) : VV 2 h 3 [l0, l1, l2, l3] (.inr (5, i) :: st) Q ↔ VV 2 h 4 [l0, l1, l2, l3] (.inl (nI 8) :: st) Q := VV_alen rfl rfl
theorem xr_2_3_7 (h : AHp) (Q : Option Int32 → AHp → Prop) (l0 l1 l2 l3 : Option AV) (i : Nat) (st : List AV) : VV 2 h 3 [l0, l1, l2, l3] (.inr (7, i) :: st) Q ↔ VV 2 h 4 [l0, l1, l2, l3] (.inl (nI 8) :: st) Q := VV_alen rfl rfl
theorem xr_2_4 (h : AHp) (Q : Option Int32 → AHp → Prop) (l0 l1 l2 l3 : Option AV) (x : Int32) (st : List AV) : VV 2 h 4 [l0, l1, l2, l3] (.inl x :: st) Q ↔ VV 2 h 5 [l0, l1, l2, some (.inl x)] st Q := VV_step rfl rfl rfl rfl
theorem xr_2_5 (h : AHp) (Q : Option Int32 → AHp → Prop) (l0 l1 l3 : Option AV) (x : Int32) (st : List AV) : VV 2 h 5 [l0, l1, some (.inl x), l3] st Q ↔ VV 2 h 6 [l0, l1, some (.inl x), l3] (.inl x :: st) Q := VV_step rfl rfl rfl rfl
theorem xr_2_6 (h : AHp) (Q : Option Int32 → AHp → Prop) (l0 l1 l2 : Option AV) (x : Int32) (st : List AV) : VV 2 h 6 [l0, l1, l2, some (.inl x)] st Q ↔ VV 2 h 7 [l0, l1, l2, some (.inl x)] (.inl x :: st) Q := VV_step rfl rfl rfl rfl
theorem xr_2_7 (h : AHp) (Q : Option Int32 → AHp → Prop) (l0 l1 l2 l3 : Option AV) (x y : Int32) (st : List AV) : VV 2 h 7 [l0, l1, l2, l3] (.inl y :: .inl x :: st) Q ↔ (y ≤ x → VV 2 h 20 [l0, l1, l2, l3] st Q) ∧ (¬ (y ≤ x) → VV 2 h 10 [l0, l1, l2, l3] st Q) := VV_br2 rfl rfl rfl decide_eq_true_iff
theorem xr_2_10 (h : AHp) (Q : Option Int32 → AHp → Prop) (l1 l2 l3 : Option AV) (x : Nat × Nat) (st : List AV) : VV 2 h 10 [some (.inr x), l1, l2, l3] st Q ↔ VV 2 h 11 [some (.inr x), l1, l2, l3] (.inr x :: st) Q := VV_step rfl rfl rfl rfl
theorem xr_2_11 (h : AHp) (Q : Option Int32 → AHp → Prop) (l0 l1 l3 : Option AV) (x : Int32) (st : List AV) : VV 2 h 11 [l0, l1, some (.inl x), l3] st Q ↔ VV 2 h 12 [l0, l1, some (.inl x), l3] (.inl x :: st) Q := VV_step rfl rfl rfl rfl
theorem xr_2_12 (h : AHp) (Q : Option Int32 → AHp → Prop) (l0 l2 l3 : Option AV) (x : Int32) (st : List AV) : VV 2 h 12 [l0, some (.inl x), l2, l3] st Q ↔ VV 2 h 13 [l0, some (.inl x), l2, l3] (.inl x :: st) Q := VV_step rfl rfl rfl rfl
theorem xr_2_13 (h : AHp) (Q : Option Int32 → AHp → Prop) (l0 l1 l2 l3 : Option AV) (x v : Int32) (k i : Nat) (st : List AV) : VV 2 h 13 [l0, l1, l2, l3] (.inl v :: .inl x :: .inr (k, i) :: st) Q ↔ ix_i k x ∧ VV 2 (ah_up h k i x.toNatClampNeg v) 14 [l0, l1, l2, l3] st Q := VV_iast rfl
theorem xr_2_14 (h : AHp) (Q : Option Int32 → AHp → Prop) (l0 l1 l3 : Option AV) (x : Int32) (st : List AV) : VV 2 h 14 [l0, l1, some (.inl x), l3] st Q ↔ VV 2 h 17 [l0, l1, some (.inl (x + (1 : Int32))), l3] st Q := VV_step rfl rfl rfl rfl
theorem xr_2_17 (h : AHp) (Q : Option Int32 → AHp → Prop) (l0 l1 l2 l3 : Option AV) (st : List AV) : VV 2 h 17 [l0, l1, l2, l3] st Q ↔ VV 2 h 5 [l0, l1, l2, l3] st Q := VV_step rfl rfl rfl rfl
theorem xr_2_20 (h : AHp) (Q : Option Int32 → AHp → Prop) (l0 l1 l2 l3 : Option AV) : VV 2 h 20 [l0, l1, l2, l3] [] Q ↔ Q none h := VV_end rfl rfl
theorem xr_3_0 (h : AHp) (Q : Option Int32 → AHp → Prop) (l1 l2 : Option AV) (x : Nat × Nat) (st : List AV) : VV 3 h 0 [some (.inr x), l1, l2] st Q ↔ VV 3 h 1 [some (.inr x), l1, l2] (.inr x :: st) Q := VV_step rfl rfl rfl rfl
theorem xr_3_1 (h : AHp) (Q : Option Int32 → AHp → Prop) (l0 l1 l2 : Option AV) (i : Nat) (st : List AV) : VV 3 h 1 [l0, l1, l2] (.inr (4, i) :: st) Q ↔ VV 3 h 4 [l0, l1, l2] (.inr (5, i) :: st) Q := VV_step rfl rfl rfl rfl
theorem xr_3_4 (h : AHp) (Q : Option Int32 → AHp → Prop) (l0 l1 l2 : Option AV) (st : List AV) : VV 3 h 4 [l0, l1, l2] st Q ↔ VV 3 h 5 [l0, l1, l2] (.inl (0 : Int32) :: st) Q := VV_step rfl rfl rfl rfl
theorem xr_3_5 (h : AHp) (Q : Option Int32 → AHp → Prop) (l0 l1 l2 : Option AV) (a0 a1 : AV) : VV 3 h 5 [l0, l1, l2] [a1, a0] Q ↔ Vv 2 h [some a0, some a1, none, none] (fun h2 => VV 3 h2 8 [l0, l1, l2] [] Q) := VV_callv (y := 2) (as := [a0, a1]) (rest := []) rfl rfl rfl (ah_noI (y := 2) rfl)
theorem xr_3_8 (h : AHp) (Q : Option Int32 → AHp → Prop) (l1 l2 : Option AV) (x : Nat × Nat) (st : List AV) : VV 3 h 8 [some (.inr x), l1, l2] st Q ↔ VV 3 h 9 [some (.inr x), l1, l2] (.inr x :: st) Q := VV_step rfl rfl rfl rfl
theorem xr_3_9 (h : AHp) (Q : Option Int32 → AHp → Prop) (l0 l1 l2 : Option AV) (i : Nat) (st : List AV) : VV 3 h 9 [l0, l1, l2] (.inr (4, i) :: st) Q ↔ VV 3 h 12 [l0, l1, l2] (.inr (7, i) :: st) Q := VV_step rfl rfl rfl rfl
theorem xr_3_12 (h : AHp) (Q : Option Int32 → AHp → Prop) (l0 l1 l2 : Option AV) (st : List AV) : VV 3 h 12 [l0, l1, l2] st Q ↔ VV 3 h 13 [l0, l1, l2] (.inl (-1 : Int32) :: st) Q := VV_step rfl rfl rfl rfl
theorem xr_3_13 (h : AHp) (Q : Option Int32 → AHp → Prop) (l0 l1 l2 : Option AV) (a0 a1 : AV) : VV 3 h 13 [l0, l1, l2] [a1, a0] Q ↔ Vv 2 h [some a0, some a1, none, none] (fun h2 => VV 3 h2 16 [l0, l1, l2] [] Q) := VV_callv (y := 2) (as := [a0, a1]) (rest := []) rfl rfl rfl (ah_noI (y := 2) rfl)
theorem xr_3_16 (h : AHp) (Q : Option Int32 → AHp → Prop) (l1 l2 : Option AV) (x : Nat × Nat) (st : List AV) : VV 3 h 16 [some (.inr x), l1, l2] st Q ↔ VV 3 h 17 [some (.inr x), l1, l2] (.inr x :: st) Q := VV_step rfl rfl rfl rfl
theorem xr_3_17 (h : AHp) (Q : Option Int32 → AHp → Prop) (l0 l2 : Option AV) (x : Int32) (st : List AV) : VV 3 h 17 [l0, some (.inl x), l2] st Q ↔ VV 3 h 18 [l0, some (.inl x), l2] (.inl x :: st) Q := VV_step rfl rfl rfl rfl
theorem xr_3_18 (h : AHp) (Q : Option Int32 → AHp → Prop) (l0 l1 l2 : Option AV) (v : Int32) (i : Nat) (st : List AV) : VV 3 h 18 [l0, l1, l2] (.inl v :: .inr (4, i) :: st) Q ↔ VV 3 (ah_up h 4 i 5 v) 21 [l0, l1, l2] st Q := VV_step rfl rfl rfl rfl
theorem xr_3_21 (h : AHp) (Q : Option Int32 → AHp → Prop) (l1 l2 : Option AV) (x : Nat × Nat) (st : List AV) : VV 3 h 21 [some (.inr x), l1, l2] st Q ↔ VV 3 h 22 [some (.inr x), l1, l2] (.inr x :: st) Q := VV_step rfl rfl rfl rfl
theorem xr_3_22 (h : AHp) (Q : Option Int32 → AHp → Prop) (l0 l1 l2 : Option AV) (st : List AV) : VV 3 h 22 [l0, l1, l2] st Q ↔ VV 3 h 23 [l0, l1, l2] (.inl (0 : Int32) :: st) Q := VV_step rfl rfl rfl rfl
theorem xr_3_23 (h : AHp) (Q : Option Int32 → AHp → Prop) (l0 l1 l2 : Option AV) (v : Int32) (i : Nat) (st : List AV) : VV 3 h 23 [l0, l1, l2] (.inl v :: .inr (4, i) :: st) Q ↔ VV 3 (ah_up h 4 i 6 v) 26 [l0, l1, l2] st Q := VV_step rfl rfl rfl rfl
theorem xr_3_26 (h : AHp) (Q : Option Int32 → AHp → Prop) (l1 l2 : Option AV) (x : Nat × Nat) (st : List AV) : VV 3 h 26 [some (.inr x), l1, l2] st Q ↔ VV 3 h 27 [some (.inr x), l1, l2] (.inr x :: st) Q := VV_step rfl rfl rfl rfl
theorem xr_3_27 (h : AHp) (Q : Option Int32 → AHp → Prop) (l0 l1 : Option AV) (x : Int32) (st : List AV) : VV 3 h 27 [l0, l1, some (.inl x)] st Q ↔ VV 3 h 28 [l0, l1, some (.inl x)] (.inl x :: st) Q := VV_step rfl rfl rfl rfl
theorem xr_3_28 (h : AHp) (Q : Option Int32 → AHp → Prop) (l0 l1 l2 : Option AV) (v : Int32) (i : Nat) (st : List AV) : VV 3 h 28 [l0, l1, l2] (.inl v :: .inr (4, i) :: st) Q ↔ VV 3 (ah_up h 4 i 7 v) 31 [l0, l1, l2] st Q := VV_step rfl rfl rfl rfl
theorem xr_3_31 (h : AHp) (Q : Option Int32 → AHp → Prop) (l1 l2 : Option AV) (x : Nat × Nat) (st : List AV) : VV 3 h 31 [some (.inr x), l1, l2] st Q ↔ VV 3 h 32 [some (.inr x), l1, l2] (.inr x :: st) Q := VV_step rfl rfl rfl rfl
theorem xr_3_32 (h : AHp) (Q : Option Int32 → AHp → Prop) (l0 l1 l2 : Option AV) (st : List AV) : VV 3 h 32 [l0, l1, l2] st Q ↔ VV 3 h 33 [l0, l1, l2] (.inl (-1 : Int32) :: st) Q := VV_step rfl rfl rfl rfl
theorem xr_3_33 (h : AHp) (Q : Option Int32 → AHp → Prop) (l0 l1 l2 : Option AV) (v : Int32) (i : Nat) (st : List AV) : VV 3 h 33 [l0, l1, l2] (.inl v :: .inr (4, i) :: st) Q ↔ VV 3 (ah_up h 4 i 8 v) 36 [l0, l1, l2] st Q := VV_step rfl rfl rfl rfl
theorem xr_3_36 (h : AHp) (Q : Option Int32 → AHp → Prop) (l0 l1 l2 : Option AV) : VV 3 h 36 [l0, l1, l2] [] Q ↔ Q none h := VV_end rfl rfl
theorem xr_4_0 (h : AHp) (Q : Option Int32 → AHp → Prop) (x : Nat × Nat) (st : List AV) : VV 4 h 0 [some (.inr x)] st Q ↔ VV 4 h 1 [some (.inr x)] (.inr x :: st) Q := VV_step rfl rfl rfl rfl
theorem xr_4_1 (h : AHp) (Q : Option Int32 → AHp → Prop) (l0 : Option AV) (i : Nat) (st : List AV) : VV 4 h 1 [l0] (.inr (4, i) :: st) Q ↔ VV 4 h 4 [l0] (.inl (h 4 i 8) :: st) Q := VV_step rfl rfl rfl rfl
theorem xr_4_4 (h : AHp) (Q : Option Int32 → AHp → Prop) (l0 : Option AV) (st : List AV) : VV 4 h 4 [l0] st Q ↔ VV 4 h 5 [l0] (.inl (-1 : Int32) :: st) Q := VV_step rfl rfl rfl rfl
theorem xr_4_5 (h : AHp) (Q : Option Int32 → AHp → Prop) (l0 : Option AV) (x y : Int32) (st : List AV) : VV 4 h 5 [l0] (.inl y :: .inl x :: st) Q ↔ (¬ x = y → VV 4 h 12 [l0] st Q) ∧ (¬ (¬ x = y) → VV 4 h 8 [l0] st Q) := VV_br2 rfl rfl rfl decide_eq_true_iff
theorem xr_4_8 (h : AHp) (Q : Option Int32 → AHp → Prop) (l0 : Option AV) (st : List AV) : VV 4 h 8 [l0] st Q ↔ VV 4 h 9 [l0] (.inl (1 : Int32) :: st) Q := VV_step rfl rfl rfl rfl
theorem xr_4_9 (h : AHp) (Q : Option Int32 → AHp → Prop) (l0 : Option AV) (st : List AV) : VV 4 h 9 [l0] st Q ↔ VV 4 h 13 [l0] st Q := VV_step rfl rfl rfl rfl
theorem xr_4_12 (h : AHp) (Q : Option Int32 → AHp → Prop) (l0 : Option AV) (st : List AV) : VV 4 h 12 [l0] st Q ↔ VV 4 h 13 [l0] (.inl (0 : Int32) :: st) Q := VV_step rfl rfl rfl rfl
theorem xr_4_13 (h : AHp) (Q : Option Int32 → AHp → Prop) (l0 : Option AV) (x : Int32) : VV 4 h 13 [l0] [.inl x] Q ↔ (x = 0 ∨ x = 1) ∧ Q (some x) h := VV_zret rfl rfl
theorem xr_5_0 (h : AHp) (Q : Option Int32 → AHp → Prop) (l1 : Option AV) (x : Nat × Nat) (st : List AV) : VV 5 h 0 [some (.inr x), l1] st Q ↔ VV 5 h 1 [some (.inr x), l1] (.inr x :: st) Q := VV_step rfl rfl rfl rfl
theorem xr_5_1 (h : AHp) (Q : Option Int32 → AHp → Prop) (l0 l1 : Option AV) (i : Nat) (st : List AV) : VV 5 h 1 [l0, l1] (.inr (4, i) :: st) Q ↔ VV 5 h 4 [l0, l1] (.inr (7, i) :: st) Q := VV_step rfl rfl rfl rfl
theorem xr_5_4 (h : AHp) (Q : Option Int32 → AHp → Prop) (l0 : Option AV) (x : Int32) (st : List AV) : VV 5 h 4 [l0, some (.inl x)] st Q ↔ VV 5 h 5 [l0, some (.inl x)] (.inl x :: st) Q := VV_step rfl rfl rfl rfl
theorem xr_5_5 (h : AHp) (Q : Option Int32 → AHp → Prop) (l0 l1 : Option AV) (x : Int32) (k i : Nat) (st : List AV) : VV 5 h 5 [l0, l1] (.inl x :: .inr (k, i) :: st) Q ↔ ix_i k x ∧ VV 5 h 6 [l0, l1] (.inl (h k i x.toNatClampNeg) :: st) Q := VV_iald rfl
theorem xr_5_6 (h : AHp) (Q : Option Int32 → AHp → Prop) (l0 l1 : Option AV) (st : List AV) : VV 5 h 6 [l0, l1] st Q ↔ VV 5 h 7 [l0, l1] (.inl (-1 : Int32) :: st) Q := VV_step rfl rfl rfl rfl
theorem xr_5_7 (h : AHp) (Q : Option Int32 → AHp → Prop) (l0 l1 : Option AV) (x y : Int32) (st : List AV) : VV 5 h 7 [l0, l1] (.inl y :: .inl x :: st) Q ↔ (x = y → VV 5 h 14 [l0, l1] st Q) ∧ (¬ (x = y) → VV 5 h 10 [l0, l1] st Q) := VV_br2 rfl rfl rfl decide_eq_true_iff
theorem xr_5_10 (h : AHp) (Q : Option Int32 → AHp → Prop) (l0 l1 : Option AV) (st : List AV) : VV 5 h 10 [l0, l1] st Q ↔ VV 5 h 11 [l0, l1] (.inl (1 : Int32) :: st) Q := VV_step rfl rfl rfl rfl
theorem xr_5_11 (h : AHp) (Q : Option Int32 → AHp → Prop) (l0 l1 : Option AV) (st : List AV) : VV 5 h 11 [l0, l1] st Q ↔ VV 5 h 15 [l0, l1] st Q := VV_step rfl rfl rfl rfl
theorem xr_5_14 (h : AHp) (Q : Option Int32 → AHp → Prop) (l0 l1 : Option AV) (st : List AV) : VV 5 h 14 [l0, l1] st Q ↔ VV 5 h 15 [l0, l1] (.inl (0 : Int32) :: st) Q := VV_step rfl rfl rfl rfl
theorem xr_5_15 (h : AHp) (Q : Option Int32 → AHp → Prop) (l0 l1 : Option AV) (x : Int32) : VV 5 h 15 [l0, l1] [.inl x] Q ↔ (x = 0 ∨ x = 1) ∧ Q (some x) h := VV_zret rfl rfl
theorem xr_6_0 (h : AHp) (Q : Option Int32 → AHp → Prop) (l1 l2 : Option AV) (x : Nat × Nat) (st : List AV) : VV 6 h 0 [some (.inr x), l1, l2] st Q ↔ VV 6 h 1 [some (.inr x), l1, l2] (.inr x :: st) Q := VV_step rfl rfl rfl rfl
theorem xr_6_1 (h : AHp) (Q : Option Int32 → AHp → Prop) (l0 l2 : Option AV) (x : Int32) (st : List AV) : VV 6 h 1 [l0, some (.inl x), l2] st Q ↔ VV 6 h 2 [l0, some (.inl x), l2] (.inl x :: st) Q := VV_step rfl rfl rfl rfl
theorem xr_6_2 (h : AHp) (Q : Option Int32 → AHp → Prop) (l0 l1 l2 : Option AV) (a0 : AV) (i : Nat) : VV 6 h 2 [l0, l1, l2] [a0, .inr (4, i)] Q ↔ Vi 5 h [some (.inr (4, i)), some a0] (fun z h2 => VV 6 h2 5 [l0, l1, l2] [.inl z] Q) := VV_calli (y := 5) (as := [.inr (4, i), a0]) (rest := []) rfl rfl rfl (ah_noV (y := 5) (by decide))
theorem xr_6_5 (h : AHp) (Q : Option Int32 → AHp → Prop) (l0 l1 l2 : Option AV) (x : Int32) (st : List AV) : VV 6 h 5 [l0, l1, l2] (.inl x :: st) Q ↔ (x = 0 → VV 6 h 22 [l0, l1, l2] st Q) ∧ (¬ (x = 0) → VV 6 h 8 [l0, l1, l2] st Q) := VV_br rfl rfl rfl decide_eq_true_iff
theorem xr_6_8 (h : AHp) (Q : Option Int32 → AHp → Prop) (l1 l2 : Option AV) (x : Nat × Nat) (st : List AV) : VV 6 h 8 [some (.inr x), l1, l2] st Q ↔ VV 6 h 9 [some (.inr x), l1, l2] (.inr x :: st) Q := VV_step rfl rfl rfl rfl
theorem xr_6_9 (h : AHp) (Q : Option Int32 → AHp → Prop) (l0 l1 l2 : Option AV) (i : Nat) (st : List AV) : VV 6 h 9 [l0, l1, l2] (.inr (4, i) :: st) Q ↔ VV 6 h 12 [l0, l1, l2] (.inr (9, i) :: st) Q := VV_step rfl rfl rfl rfl
theorem xr_6_12 (h : AHp) (Q : Option Int32 → AHp → Prop) (l0 l2 : Option AV) (x : Int32) (st : List AV) : VV 6 h 12 [l0, some (.inl x), l2] st Q ↔ VV 6 h 13 [l0, some (.inl x), l2] (.inl x :: st) Q := VV_step rfl rfl rfl rfl
theorem xr_6_13 (h : AHp) (Q : Option Int32 → AHp → Prop) (l0 l1 l2 : Option AV) (x : Int32) (k i : Nat) (st : List AV) : VV 6 h 13 [l0, l1, l2] (.inl x :: .inr (k, i) :: st) Q ↔ ix_i k x ∧ VV 6 h 14 [l0, l1, l2] (.inl (h k i x.toNatClampNeg) :: st) Q := VV_iald rfl
theorem xr_6_14 (h : AHp) (Q : Option Int32 → AHp → Prop) (l0 l1 : Option AV) (x : Int32) (st : List AV) : VV 6 h 14 [l0, l1, some (.inl x)] st Q ↔ VV 6 h 15 [l0, l1, some (.inl x)] (.inl x :: st) Q := VV_step rfl rfl rfl rfl
theorem xr_6_15 (h : AHp) (Q : Option Int32 → AHp → Prop) (l0 l1 l2 : Option AV) (x y : Int32) (st : List AV) : VV 6 h 15 [l0, l1, l2] (.inl y :: .inl x :: st) Q ↔ (y < x → VV 6 h 22 [l0, l1, l2] st Q) ∧ (¬ (y < x) → VV 6 h 18 [l0, l1, l2] st Q) := VV_br2 rfl rfl rfl decide_eq_true_iff
theorem xr_6_18 (h : AHp) (Q : Option Int32 → AHp → Prop) (l0 l1 l2 : Option AV) (st : List AV) : VV 6 h 18 [l0, l1, l2] st Q ↔ VV 6 h 19 [l0, l1, l2] (.inl (1 : Int32) :: st) Q := VV_step rfl rfl rfl rfl
theorem xr_6_19 (h : AHp) (Q : Option Int32 → AHp → Prop) (l0 l1 l2 : Option AV) (st : List AV) : VV 6 h 19 [l0, l1, l2] st Q ↔ VV 6 h 23 [l0, l1, l2] st Q := VV_step rfl rfl rfl rfl
theorem xr_6_22 (h : AHp) (Q : Option Int32 → AHp → Prop) (l0 l1 l2 : Option AV) (st : List AV) : VV 6 h 22 [l0, l1, l2] st Q ↔ VV 6 h 23 [l0, l1, l2] (.inl (0 : Int32) :: st) Q := VV_step rfl rfl rfl rfl
theorem xr_6_23 (h : AHp) (Q : Option Int32 → AHp → Prop) (l0 l1 l2 : Option AV) (x : Int32) : VV 6 h 23 [l0, l1, l2] [.inl x] Q ↔ (x = 0 ∨ x = 1) ∧ Q (some x) h := VV_zret rfl rfl
theorem xr_7_0 (h : AHp) (Q : Option Int32 → AHp → Prop) (l1 : Option AV) (x : Nat × Nat) (st : List AV) : VV 7 h 0 [some (.inr x), l1] st Q ↔ VV 7 h 1 [some (.inr x), l1] (.inr x :: st) Q := VV_step rfl rfl rfl rfl
theorem xr_7_1 (h : AHp) (Q : Option Int32 → AHp → Prop) (l0 l1 : Option AV) (i : Nat) : VV 7 h 1 [l0, l1] [.inr (4, i)] Q ↔ Vi 4 h [some (.inr (4, i))] (fun z h2 => VV 7 h2 4 [l0, l1] [.inl z] Q) := VV_calli (y := 4) (as := [.inr (4, i)]) (rest := []) rfl rfl rfl (ah_noV (y := 4) (by decide))
theorem xr_7_4 (h : AHp) (Q : Option Int32 → AHp → Prop) (l0 l1 : Option AV) (x : Int32) (st : List AV) : VV 7 h 4 [l0, l1] (.inl x :: st) Q ↔ (¬ x = 0 → VV 7 h 19 [l0, l1] st Q) ∧ (¬ (¬ x = 0) → VV 7 h 7 [l0, l1] st Q) := VV_br rfl rfl rfl decide_eq_true_iff
theorem xr_7_7 (h : AHp) (Q : Option Int32 → AHp → Prop) (l1 : Option AV) (x : Nat × Nat) (st : List AV) : VV 7 h 7 [some (.inr x), l1] st Q ↔ VV 7 h 8 [some (.inr x), l1] (.inr x :: st) Q := VV_step rfl rfl rfl rfl
theorem xr_7_8 (h : AHp) (Q : Option Int32 → AHp → Prop) (l0 l1 : Option AV) (i : Nat) (st : List AV) : VV 7 h 8 [l0, l1] (.inr (4, i) :: st) Q ↔ VV 7 h 11 [l0, l1] (.inl (h 4 i 9) :: st) Q := VV_step rfl rfl rfl rfl
theorem xr_7_11 (h : AHp) (Q : Option Int32 → AHp → Prop) (l0 : Option AV) (x : Int32) (st : List AV) : VV 7 h 11 [l0, some (.inl x)] st Q ↔ VV 7 h 12 [l0, some (.inl x)] (.inl x :: st) Q := VV_step rfl rfl rfl rfl
theorem xr_7_12 (h : AHp) (Q : Option Int32 → AHp → Prop) (l0 l1 : Option AV) (x y : Int32) (st : List AV) : VV 7 h 12 [l0, l1] (.inl y :: .inl x :: st) Q ↔ (¬ x = y → VV 7 h 19 [l0, l1] st Q) ∧ (¬ (¬ x = y) → VV 7 h 15 [l0, l1] st Q) := VV_br2 rfl rfl rfl decide_eq_true_iff
theorem xr_7_15 (h : AHp) (Q : Option Int32 → AHp → Prop) (l0 l1 : Option AV) (st : List AV) : VV 7 h 15 [l0, l1] st Q ↔ VV 7 h 16 [l0, l1] (.inl (1 : Int32) :: st) Q := VV_step rfl rfl rfl rfl
theorem xr_7_16 (h : AHp) (Q : Option Int32 → AHp → Prop) (l0 l1 : Option AV) (st : List AV) : VV 7 h 16 [l0, l1] st Q ↔ VV 7 h 20 [l0, l1] st Q := VV_step rfl rfl rfl rfl
theorem xr_7_19 (h : AHp) (Q : Option Int32 → AHp → Prop) (l0 l1 : Option AV) (st : List AV) : VV 7 h 19 [l0, l1] st Q ↔ VV 7 h 20 [l0, l1] (.inl (0 : Int32) :: st) Q := VV_step rfl rfl rfl rfl
theorem xr_7_20 (h : AHp) (Q : Option Int32 → AHp → Prop) (l0 l1 : Option AV) (x : Int32) : VV 7 h 20 [l0, l1] [.inl x] Q ↔ (x = 0 ∨ x = 1) ∧ Q (some x) h := VV_zret rfl rfl
theorem xr_8_0 (h : AHp) (Q : Option Int32 → AHp → Prop) (x : Nat × Nat) (st : List AV) : VV 8 h 0 [some (.inr x)] st Q ↔ VV 8 h 1 [some (.inr x)] (.inr x :: st) Q := VV_step rfl rfl rfl rfl
theorem xr_8_1 (h : AHp) (Q : Option Int32 → AHp → Prop) (l0 : Option AV) (i : Nat) (st : List AV) : VV 8 h 1 [l0] (.inr (4, i) :: st) Q ↔ VV 8 h 4 [l0] (.inl (h 4 i 11) :: st) Q := VV_step rfl rfl rfl rfl
theorem xr_8_4 (h : AHp) (Q : Option Int32 → AHp → Prop) (x : Nat × Nat) (st : List AV) : VV 8 h 4 [some (.inr x)] st Q ↔ VV 8 h 5 [some (.inr x)] (.inr x :: st) Q := VV_step rfl rfl rfl rfl
theorem xr_8_5 (h : AHp) (Q : Option Int32 → AHp → Prop) (l0 : Option AV) (i : Nat) (st : List AV) : VV 8 h 5 [l0] (.inr (4, i) :: st) Q ↔ VV 8 h 8 [l0] (.inl (h 4 i 5) :: st) Q := VV_step rfl rfl rfl rfl
theorem xr_8_8 (h : AHp) (Q : Option Int32 → AHp → Prop) (l0 : Option AV) (x y : Int32) (st : List AV) : VV 8 h 8 [l0] (.inl y :: .inl x :: st) Q ↔ VV 8 h 9 [l0] (.inl (x + y) :: st) Q := VV_step rfl rfl rfl rfl
theorem xr_8_9 (h : AHp) (Q : Option Int32 → AHp → Prop) (l0 : Option AV) (x : Int32) : VV 8 h 9 [l0] [.inl x] Q ↔ Q (some x) h := VV_end rfl rfl
theorem xr_9_0 (h : AHp) (Q : Option Int32 → AHp → Prop) (l1 l2 l3 : Option AV) (x : Nat × Nat) (st : List AV) : VV 9 h 0 [some (.inr x), l1, l2, l3] st Q ↔ VV 9 h 1 [some (.inr x), l1, l2, l3] (.inr x :: st) Q := VV_step rfl rfl rfl rfl
theorem xr_9_1 (h : AHp) (Q : Option Int32 → AHp → Prop) (l0 l2 l3 : Option AV) (x : Int32) (st : List AV) : VV 9 h 1 [l0, some (.inl x), l2, l3] st Q ↔ VV 9 h 2 [l0, some (.inl x), l2, l3] (.inl x :: st) Q := VV_step rfl rfl rfl rfl
theorem xr_9_2 (h : AHp) (Q : Option Int32 → AHp → Prop) (l0 l1 l2 l3 : Option AV) (v : Int32) (i : Nat) (st : List AV) : VV 9 h 2 [l0, l1, l2, l3] (.inl v :: .inr (4, i) :: st) Q ↔ VV 9 (ah_up h 4 i 8 v) 5 [l0, l1, l2, l3] st Q := VV_step rfl rfl rfl rfl
theorem xr_9_5 (h : AHp) (Q : Option Int32 → AHp → Prop) (l1 l2 l3 : Option AV) (x : Nat × Nat) (st : List AV) : VV 9 h 5 [some (.inr x), l1, l2, l3] st Q ↔ VV 9 h 6 [some (.inr x), l1, l2, l3] (.inr x :: st) Q := VV_step rfl rfl rfl rfl
theorem xr_9_6 (h : AHp) (Q : Option Int32 → AHp → Prop) (l0 l1 l3 : Option AV) (x : Nat × Nat) (st : List AV) : VV 9 h 6 [l0, l1, some (.inr x), l3] st Q ↔ VV 9 h 7 [l0, l1, some (.inr x), l3] (.inr x :: st) Q := VV_step rfl rfl rfl rfl
theorem xr_9_7 (h : AHp) (Q : Option Int32 → AHp → Prop) (l0 l1 l2 l3 : Option AV) (i : Nat) (st : List AV) : VV 9 h 7 [l0, l1, l2, l3] (.inr (3, i) :: st) Q ↔ VV 9 h 10 [l0, l1, l2, l3] (.inl (h 3 i 0) :: st) Q := VV_step rfl rfl rfl rfl
theorem xr_9_10 (h : AHp) (Q : Option Int32 → AHp → Prop) (l0 l1 l2 l3 : Option AV) (v : Int32) (i : Nat) (st : List AV) : VV 9 h 10 [l0, l1, l2, l3] (.inl v :: .inr (4, i) :: st) Q ↔ VV 9 (ah_up h 4 i 9 v) 13 [l0, l1, l2, l3] st Q := VV_step rfl rfl rfl rfl
theorem xr_9_13 (h : AHp) (Q : Option Int32 → AHp → Prop) (l1 l2 l3 : Option AV) (x : Nat × Nat) (st : List AV) : VV 9 h 13 [some (.inr x), l1, l2, l3] st Q ↔ VV 9 h 14 [some (.inr x), l1, l2, l3] (.inr x :: st) Q := VV_step rfl rfl rfl rfl
theorem xr_9_14 (h : AHp) (Q : Option Int32 → AHp → Prop) (l0 l1 l3 : Option AV) (x : Nat × Nat) (st : List AV) : VV 9 h 14 [l0, l1, some (.inr x), l3] st Q ↔ VV 9 h 15 [l0, l1, some (.inr x), l3] (.inr x :: st) Q := VV_step rfl rfl rfl rfl
theorem xr_9_15 (h : AHp) (Q : Option Int32 → AHp → Prop) (l0 l1 l2 l3 : Option AV) (i : Nat) (st : List AV) : VV 9 h 15 [l0, l1, l2, l3] (.inr (3, i) :: st) Q ↔ VV 9 h 18 [l0, l1, l2, l3] (.inl (h 3 i 1) :: st) Q := VV_step rfl rfl rfl rfl
theorem xr_9_18 (h : AHp) (Q : Option Int32 → AHp → Prop) (l0 l1 l2 l3 : Option AV) (v : Int32) (i : Nat) (st : List AV) : VV 9 h 18 [l0, l1, l2, l3] (.inl v :: .inr (4, i) :: st) Q ↔ VV 9 (ah_up h 4 i 10 v) 21 [l0, l1, l2, l3] st Q := VV_step rfl rfl rfl rfl
theorem xr_9_21 (h : AHp) (Q : Option Int32 → AHp → Prop) (l1 l2 l3 : Option AV) (x : Nat × Nat) (st : List AV) : VV 9 h 21 [some (.inr x), l1, l2, l3] st Q ↔ VV 9 h 22 [some (.inr x), l1, l2, l3] (.inr x :: st) Q := VV_step rfl rfl rfl rfl
theorem xr_9_22 (h : AHp) (Q : Option Int32 → AHp → Prop) (l0 l1 l2 : Option AV) (x : Int32) (st : List AV) : VV 9 h 22 [l0, l1, l2, some (.inl x)] st Q ↔ VV 9 h 23 [l0, l1, l2, some (.inl x)] (.inl x :: st) Q := VV_step rfl rfl rfl rfl
theorem xr_9_23 (h : AHp) (Q : Option Int32 → AHp → Prop) (l0 l1 l2 l3 : Option AV) (v : Int32) (i : Nat) (st : List AV) : VV 9 h 23 [l0, l1, l2, l3] (.inl v :: .inr (4, i) :: st) Q ↔ VV 9 (ah_up h 4 i 11 v) 26 [l0, l1, l2, l3] st Q := VV_step rfl rfl rfl rfl
theorem xr_9_26 (h : AHp) (Q : Option Int32 → AHp → Prop) (l0 l1 l2 l3 : Option AV) : VV 9 h 26 [l0, l1, l2, l3] [] Q ↔ Q none h := VV_end rfl rfl
theorem xr_10_0 (h : AHp) (Q : Option Int32 → AHp → Prop) (l1 : Option AV) (x : Nat × Nat) (st : List AV) : VV 10 h 0 [some (.inr x), l1] st Q ↔ VV 10 h 1 [some (.inr x), l1] (.inr x :: st) Q := VV_step rfl rfl rfl rfl
theorem xr_10_1 (h : AHp) (Q : Option Int32 → AHp → Prop) (l0 l1 : Option AV) (i : Nat) (st : List AV) : VV 10 h 1 [l0, l1] (.inr (4, i) :: st) Q ↔ VV 10 h 4 [l0, l1] (.inr (6, i) :: st) Q := VV_step rfl rfl rfl rfl
theorem xr_10_4 (h : AHp) (Q : Option Int32 → AHp → Prop) (l1 : Option AV) (x : Nat × Nat) (st : List AV) : VV 10 h 4 [some (.inr x), l1] st Q ↔ VV 10 h 5 [some (.inr x), l1] (.inr x :: st) Q := VV_step rfl rfl rfl rfl
theorem xr_10_5 (h : AHp) (Q : Option Int32 → AHp → Prop) (l0 l1 : Option AV) (i : Nat) (st : List AV) : VV 10 h 5 [l0, l1] (.inr (4, i) :: st) Q ↔ VV 10 h 8 [l0, l1] (.inl (h 4 i 9) :: st) Q := VV_step rfl rfl rfl rfl
theorem xr_10_8 (h : AHp) (Q : Option Int32 → AHp → Prop) (l1 : Option AV) (x : Nat × Nat) (st : List AV) : VV 10 h 8 [some (.inr x), l1] st Q ↔ VV 10 h 9 [some (.inr x), l1] (.inr x :: st) Q := VV_step rfl rfl rfl rfl
theorem xr_10_9 (h : AHp) (Q : Option Int32 → AHp → Prop) (l0 l1 : Option AV) (i : Nat) (st : List AV) : VV 10 h 9 [l0, l1] (.inr (4, i) :: st) Q ↔ VV 10 h 12 [l0, l1] (.inl (h 4 i 10) :: st) Q := VV_step rfl rfl rfl rfl
theorem xr_10_12 (h : AHp) (Q : Option Int32 → AHp → Prop) (l1 : Option AV) (x : Nat × Nat) (st : List AV) : VV 10 h 12 [some (.inr x), l1] st Q ↔ VV 10 h 13 [some (.inr x), l1] (.inr x :: st) Q := VV_step rfl rfl rfl rfl
theorem xr_10_13 (h : AHp) (Q : Option Int32 → AHp → Prop) (l0 l1 : Option AV) (i : Nat) (st : List AV) : VV 10 h 13 [l0, l1] (.inr (4, i) :: st) Q ↔ VV 10 h 16 [l0, l1] (.inr (5, i) :: st) Q := VV_step rfl rfl rfl rfl
theorem xr_10_16 (h : AHp) (Q : Option Int32 → AHp → Prop) (l1 : Option AV) (x : Nat × Nat) (st : List AV) : VV 10 h 16 [some (.inr x), l1] st Q ↔ VV 10 h 17 [some (.inr x), l1] (.inr x :: st) Q := VV_step rfl rfl rfl rfl
theorem xr_10_17 (h : AHp) (Q : Option Int32 → AHp → Prop) (l0 l1 : Option AV) (i : Nat) (st : List AV) : VV 10 h 17 [l0, l1] (.inr (4, i) :: st) Q ↔ VV 10 h 20 [l0, l1] (.inl (h 4 i 9) :: st) Q := VV_step rfl rfl rfl rfl
theorem xr_10_20 (h : AHp) (Q : Option Int32 → AHp → Prop) (l0 l1 : Option AV) (x : Int32) (k i : Nat) (st : List AV) : VV 10 h 20 [l0, l1] (.inl x :: .inr (k, i) :: st) Q ↔ ix_i k x ∧ VV 10 h 21 [l0, l1] (.inl (h k i x.toNatClampNeg) :: st) Q := VV_iald rfl
theorem xr_10_21 (h : AHp) (Q : Option Int32 → AHp → Prop) (l0 l1 : Option AV) (x y : Int32) (st : List AV) : VV 10 h 21 [l0, l1] (.inl y :: .inl x :: st) Q ↔ VV 10 h 22 [l0, l1] (.inl (x ^^^ y) :: st) Q := VV_step rfl rfl rfl rfl
theorem xr_10_22 (h : AHp) (Q : Option Int32 → AHp → Prop) (l0 l1 : Option AV) (x v : Int32) (k i : Nat) (st : List AV) : VV 10 h 22 [l0, l1] (.inl v :: .inl x :: .inr (k, i) :: st) Q ↔ ix_i k x ∧ VV 10 (ah_up h k i x.toNatClampNeg v) 23 [l0, l1] st Q := VV_iast rfl
theorem xr_10_23 (h : AHp) (Q : Option Int32 → AHp → Prop) (l1 : Option AV) (x : Nat × Nat) (st : List AV) : VV 10 h 23 [some (.inr x), l1] st Q ↔ VV 10 h 24 [some (.inr x), l1] (.inr x :: st) Q := VV_step rfl rfl rfl rfl
theorem xr_10_24 (h : AHp) (Q : Option Int32 → AHp → Prop) (l0 l1 : Option AV) (i : Nat) (st : List AV) : VV 10 h 24 [l0, l1] (.inr (4, i) :: st) Q ↔ VV 10 h 27 [l0, l1] (.inr (7, i) :: st) Q := VV_step rfl rfl rfl rfl
theorem xr_10_27 (h : AHp) (Q : Option Int32 → AHp → Prop) (l1 : Option AV) (x : Nat × Nat) (st : List AV) : VV 10 h 27 [some (.inr x), l1] st Q ↔ VV 10 h 28 [some (.inr x), l1] (.inr x :: st) Q := VV_step rfl rfl rfl rfl
theorem xr_10_28 (h : AHp) (Q : Option Int32 → AHp → Prop) (l0 l1 : Option AV) (i : Nat) (st : List AV) : VV 10 h 28 [l0, l1] (.inr (4, i) :: st) Q ↔ VV 10 h 31 [l0, l1] (.inl (h 4 i 9) :: st) Q := VV_step rfl rfl rfl rfl
theorem xr_10_31 (h : AHp) (Q : Option Int32 → AHp → Prop) (l1 : Option AV) (x : Nat × Nat) (st : List AV) : VV 10 h 31 [some (.inr x), l1] st Q ↔ VV 10 h 32 [some (.inr x), l1] (.inr x :: st) Q := VV_step rfl rfl rfl rfl
theorem xr_10_32 (h : AHp) (Q : Option Int32 → AHp → Prop) (l0 l1 : Option AV) (i : Nat) (st : List AV) : VV 10 h 32 [l0, l1] (.inr (4, i) :: st) Q ↔ VV 10 h 35 [l0, l1] (.inl (h 4 i 8) :: st) Q := VV_step rfl rfl rfl rfl
theorem xr_10_35 (h : AHp) (Q : Option Int32 → AHp → Prop) (l0 l1 : Option AV) (x v : Int32) (k i : Nat) (st : List AV) : VV 10 h 35 [l0, l1] (.inl v :: .inl x :: .inr (k, i) :: st) Q ↔ ix_i k x ∧ VV 10 (ah_up h k i x.toNatClampNeg v) 36 [l0, l1] st Q := VV_iast rfl
theorem xr_10_36 (h : AHp) (Q : Option Int32 → AHp → Prop) (l1 : Option AV) (x : Nat × Nat) (st : List AV) : VV 10 h 36 [some (.inr x), l1] st Q ↔ VV 10 h 37 [some (.inr x), l1] (.inr x :: st) Q := VV_step rfl rfl rfl rfl
theorem xr_10_37 (h : AHp) (Q : Option Int32 → AHp → Prop) (l0 l1 : Option AV) (i : Nat) (st : List AV) : VV 10 h 37 [l0, l1] (.inr (4, i) :: st) Q ↔ VV 10 h 40 [l0, l1] (.inr (8, i) :: st) Q := VV_step rfl rfl rfl rfl
theorem xr_10_40 (h : AHp) (Q : Option Int32 → AHp → Prop) (l1 : Option AV) (x : Nat × Nat) (st : List AV) : VV 10 h 40 [some (.inr x), l1] st Q ↔ VV 10 h 41 [some (.inr x), l1] (.inr x :: st) Q := VV_step rfl rfl rfl rfl
theorem xr_10_41 (h : AHp) (Q : Option Int32 → AHp → Prop) (l0 l1 : Option AV) (i : Nat) (st : List AV) : VV 10 h 41 [l0, l1] (.inr (4, i) :: st) Q ↔ VV 10 h 44 [l0, l1] (.inl (h 4 i 9) :: st) Q := VV_step rfl rfl rfl rfl
theorem xr_10_44 (h : AHp) (Q : Option Int32 → AHp → Prop) (l1 : Option AV) (x : Nat × Nat) (st : List AV) : VV 10 h 44 [some (.inr x), l1] st Q ↔ VV 10 h 45 [some (.inr x), l1] (.inr x :: st) Q := VV_step rfl rfl rfl rfl
theorem xr_10_45 (h : AHp) (Q : Option Int32 → AHp → Prop) (l0 l1 : Option AV) (i : Nat) (st : List AV) : VV 10 h 45 [l0, l1] (.inr (4, i) :: st) Q ↔ VV 10 h 48 [l0, l1] (.inl (h 4 i 11) :: st) Q := VV_step rfl rfl rfl rfl
theorem xr_10_48 (h : AHp) (Q : Option Int32 → AHp → Prop) (l0 l1 : Option AV) (x v : Int32) (k i : Nat) (st : List AV) : VV 10 h 48 [l0, l1] (.inl v :: .inl x :: .inr (k, i) :: st) Q ↔ ix_i k x ∧ VV 10 (ah_up h k i x.toNatClampNeg v) 49 [l0, l1] st Q := VV_iast rfl
theorem xr_10_49 (h : AHp) (Q : Option Int32 → AHp → Prop) (l1 : Option AV) (x : Nat × Nat) (st : List AV) : VV 10 h 49 [some (.inr x), l1] st Q ↔ VV 10 h 50 [some (.inr x), l1] (.inr x :: st) Q := VV_step rfl rfl rfl rfl
theorem xr_10_50 (h : AHp) (Q : Option Int32 → AHp → Prop) (l0 l1 : Option AV) (i : Nat) (st : List AV) : VV 10 h 50 [l0, l1] (.inr (4, i) :: st) Q ↔ VV 10 h 53 [l0, l1] (.inr (9, i) :: st) Q := VV_step rfl rfl rfl rfl
theorem xr_10_53 (h : AHp) (Q : Option Int32 → AHp → Prop) (l1 : Option AV) (x : Nat × Nat) (st : List AV) : VV 10 h 53 [some (.inr x), l1] st Q ↔ VV 10 h 54 [some (.inr x), l1] (.inr x :: st) Q := VV_step rfl rfl rfl rfl
theorem xr_10_54 (h : AHp) (Q : Option Int32 → AHp → Prop) (l0 l1 : Option AV) (i : Nat) (st : List AV) : VV 10 h 54 [l0, l1] (.inr (4, i) :: st) Q ↔ VV 10 h 57 [l0, l1] (.inl (h 4 i 9) :: st) Q := VV_step rfl rfl rfl rfl
theorem xr_10_57 (h : AHp) (Q : Option Int32 → AHp → Prop) (l0 : Option AV) (x : Int32) (st : List AV) : VV 10 h 57 [l0, some (.inl x)] st Q ↔ VV 10 h 58 [l0, some (.inl x)] (.inl x :: st) Q := VV_step rfl rfl rfl rfl
theorem xr_10_58 (h : AHp) (Q : Option Int32 → AHp → Prop) (l0 l1 : Option AV) (x v : Int32) (k i : Nat) (st : List AV) : VV 10 h 58 [l0, l1] (.inl v :: .inl x :: .inr (k, i) :: st) Q ↔ ix_i k x ∧ VV 10 (ah_up h k i x.toNatClampNeg v) 59 [l0, l1] st Q := VV_iast rfl
theorem xr_10_59 (h : AHp) (Q : Option Int32 → AHp → Prop) (l1 : Option AV) (x : Nat × Nat) (st : List AV) : VV 10 h 59 [some (.inr x), l1] st Q ↔ VV 10 h 60 [some (.inr x), l1] (.inr x :: st) Q := VV_step rfl rfl rfl rfl
theorem xr_10_60 (h : AHp) (Q : Option Int32 → AHp → Prop) (l0 l1 : Option AV) (v : AV) (st : List AV) : VV 10 h 60 [l0, l1] (v :: st) Q ↔ VV 10 h 61 [l0, l1] (v :: v :: st) Q := VV_step rfl rfl rfl rfl
theorem xr_10_61 (h : AHp) (Q : Option Int32 → AHp → Prop) (l0 l1 : Option AV) (i : Nat) (st : List AV) : VV 10 h 61 [l0, l1] (.inr (4, i) :: st) Q ↔ VV 10 h 64 [l0, l1] (.inl (h 4 i 6) :: st) Q := VV_step rfl rfl rfl rfl
theorem xr_10_64 (h : AHp) (Q : Option Int32 → AHp → Prop) (l0 l1 : Option AV) (st : List AV) : VV 10 h 64 [l0, l1] st Q ↔ VV 10 h 65 [l0, l1] (.inl (1 : Int32) :: st) Q := VV_step rfl rfl rfl rfl
theorem xr_10_65 (h : AHp) (Q : Option Int32 → AHp → Prop) (l0 l1 : Option AV) (x y : Int32) (st : List AV) : VV 10 h 65 [l0, l1] (.inl y :: .inl x :: st) Q ↔ VV 10 h 66 [l0, l1] (.inl (x + y) :: st) Q := VV_step rfl rfl rfl rfl
theorem xr_10_66 (h : AHp) (Q : Option Int32 → AHp → Prop) (l0 l1 : Option AV) (v : Int32) (i : Nat) (st : List AV) : VV 10 h 66 [l0, l1] (.inl v :: .inr (4, i) :: st) Q ↔ VV 10 (ah_up h 4 i 6 v) 69 [l0, l1] st Q := VV_step rfl rfl rfl rfl
theorem xr_10_69 (h : AHp) (Q : Option Int32 → AHp → Prop) (l1 : Option AV) (x : Nat × Nat) (st : List AV) : VV 10 h 69 [some (.inr x), l1] st Q ↔ VV 10 h 70 [some (.inr x), l1] (.inr x :: st) Q := VV_step rfl rfl rfl rfl
theorem xr_10_70 (h : AHp) (Q : Option Int32 → AHp → Prop) (l0 : Option AV) (x : Int32) (st : List AV) : VV 10 h 70 [l0, some (.inl x)] st Q ↔ VV 10 h 71 [l0, some (.inl x)] (.inl x :: st) Q := VV_step rfl rfl rfl rfl
theorem xr_10_71 (h : AHp) (Q : Option Int32 → AHp → Prop) (l0 l1 : Option AV) (v : Int32) (i : Nat) (st : List AV) : VV 10 h 71 [l0, l1] (.inl v :: .inr (4, i) :: st) Q ↔ VV 10 (ah_up h 4 i 7 v) 74 [l0, l1] st Q := VV_step rfl rfl rfl rfl
theorem xr_10_74 (h : AHp) (Q : Option Int32 → AHp → Prop) (l1 : Option AV) (x : Nat × Nat) (st : List AV) : VV 10 h 74 [some (.inr x), l1] st Q ↔ VV 10 h 75 [some (.inr x), l1] (.inr x :: st) Q := VV_step rfl rfl rfl rfl
theorem xr_10_75 (h : AHp) (Q : Option Int32 → AHp → Prop) (l0 l1 : Option AV) (st : List AV) : VV 10 h 75 [l0, l1] st Q ↔ VV 10 h 76 [l0, l1] (.inl (-1 : Int32) :: st) Q := VV_step rfl rfl rfl rfl
theorem xr_10_76 (h : AHp) (Q : Option Int32 → AHp → Prop) (l0 l1 : Option AV) (v : Int32) (i : Nat) (st : List AV) : VV 10 h 76 [l0, l1] (.inl v :: .inr (4, i) :: st) Q ↔ VV 10 (ah_up h 4 i 8 v) 79 [l0, l1] st Q := VV_step rfl rfl rfl rfl
theorem xr_10_79 (h : AHp) (Q : Option Int32 → AHp → Prop) (l0 l1 : Option AV) : VV 10 h 79 [l0, l1] [] Q ↔ Q none h := VV_end rfl rfl
theorem xr_45_0 (h : AHp) (Q : Option Int32 → AHp → Prop) (x : Int32) (st : List AV) : VV 45 h 0 [some (.inl x)] st Q ↔ VV 45 h 1 [some (.inl x)] (.inl x :: st) Q := VV_step rfl rfl rfl rfl
theorem xr_45_1 (h : AHp) (Q : Option Int32 → AHp → Prop) (x : Int32) (st : List AV) : VV 45 h 1 [some (.inl x)] st Q ↔ VV 45 h 2 [some (.inl x)] (.inl x :: st) Q := VV_step rfl rfl rfl rfl
theorem xr_45_2 (h : AHp) (Q : Option Int32 → AHp → Prop) (l0 : Option AV) (st : List AV) : VV 45 h 2 [l0] st Q ↔ VV 45 h 3 [l0] (.inl (1 : Int32) :: st) Q := VV_step rfl rfl rfl rfl
theorem xr_45_3 (h : AHp) (Q : Option Int32 → AHp → Prop) (l0 : Option AV) (x y : Int32) (st : List AV) : VV 45 h 3 [l0] (.inl y :: .inl x :: st) Q ↔ VV 45 h 4 [l0] (.inl ((x.toUInt32 >>> (y.toUInt32 &&& Int32.toUInt32 31)).toInt32) :: st) Q := VV_step rfl rfl rfl rfl
theorem xr_45_4 (h : AHp) (Q : Option Int32 → AHp → Prop) (l0 : Option AV) (st : List AV) : VV 45 h 4 [l0] st Q ↔ VV 45 h 7 [l0] (.inl (1431655765 : Int32) :: st) Q := VV_step rfl rfl rfl rfl
theorem xr_45_7 (h : AHp) (Q : Option Int32 → AHp → Prop) (l0 : Option AV) (x y : Int32) (st : List AV) : VV 45 h 7 [l0] (.inl y :: .inl x :: st) Q ↔ VV 45 h 8 [l0] (.inl (x &&& y) :: st) Q := VV_step rfl rfl rfl rfl
theorem xr_45_8 (h : AHp) (Q : Option Int32 → AHp → Prop) (l0 : Option AV) (x y : Int32) (st : List AV) : VV 45 h 8 [l0] (.inl y :: .inl x :: st) Q ↔ VV 45 h 9 [l0] (.inl (x - y) :: st) Q := VV_step rfl rfl rfl rfl
theorem xr_45_9 (h : AHp) (Q : Option Int32 → AHp → Prop) (l0 : Option AV) (x : Int32) (st : List AV) : VV 45 h 9 [l0] (.inl x :: st) Q ↔ VV 45 h 10 [some (.inl x)] st Q := VV_step rfl rfl rfl rfl
theorem xr_45_10 (h : AHp) (Q : Option Int32 → AHp → Prop) (x : Int32) (st : List AV) : VV 45 h 10 [some (.inl x)] st Q ↔ VV 45 h 11 [some (.inl x)] (.inl x :: st) Q := VV_step rfl rfl rfl rfl
theorem xr_45_11 (h : AHp) (Q : Option Int32 → AHp → Prop) (l0 : Option AV) (st : List AV) : VV 45 h 11 [l0] st Q ↔ VV 45 h 14 [l0] (.inl (858993459 : Int32) :: st) Q := VV_step rfl rfl rfl rfl
theorem xr_45_14 (h : AHp) (Q : Option Int32 → AHp → Prop) (l0 : Option AV) (x y : Int32) (st : List AV) : VV 45 h 14 [l0] (.inl y :: .inl x :: st) Q ↔ VV 45 h 15 [l0] (.inl (x &&& y) :: st) Q := VV_step rfl rfl rfl rfl
theorem xr_45_15 (h : AHp) (Q : Option Int32 → AHp → Prop) (x : Int32) (st : List AV) : VV 45 h 15 [some (.inl x)] st Q ↔ VV 45 h 16 [some (.inl x)] (.inl x :: st) Q := VV_step rfl rfl rfl rfl
theorem xr_45_16 (h : AHp) (Q : Option Int32 → AHp → Prop) (l0 : Option AV) (st : List AV) : VV 45 h 16 [l0] st Q ↔ VV 45 h 17 [l0] (.inl (2 : Int32) :: st) Q := VV_step rfl rfl rfl rfl
theorem xr_45_17 (h : AHp) (Q : Option Int32 → AHp → Prop) (l0 : Option AV) (x y : Int32) (st : List AV) : VV 45 h 17 [l0] (.inl y :: .inl x :: st) Q ↔ VV 45 h 18 [l0] (.inl ((x.toUInt32 >>> (y.toUInt32 &&& Int32.toUInt32 31)).toInt32) :: st) Q := VV_step rfl rfl rfl rfl
theorem xr_45_18 (h : AHp) (Q : Option Int32 → AHp → Prop) (l0 : Option AV) (st : List AV) : VV 45 h 18 [l0] st Q ↔ VV 45 h 21 [l0] (.inl (858993459 : Int32) :: st) Q := VV_step rfl rfl rfl rfl
theorem xr_45_21 (h : AHp) (Q : Option Int32 → AHp → Prop) (l0 : Option AV) (x y : Int32) (st : List AV) : VV 45 h 21 [l0] (.inl y :: .inl x :: st) Q ↔ VV 45 h 22 [l0] (.inl (x &&& y) :: st) Q := VV_step rfl rfl rfl rfl
theorem xr_45_22 (h : AHp) (Q : Option Int32 → AHp → Prop) (l0 : Option AV) (x y : Int32) (st : List AV) : VV 45 h 22 [l0] (.inl y :: .inl x :: st) Q ↔ VV 45 h 23 [l0] (.inl (x + y) :: st) Q := VV_step rfl rfl rfl rfl
theorem xr_45_23 (h : AHp) (Q : Option Int32 → AHp → Prop) (l0 : Option AV) (x : Int32) (st : List AV) : VV 45 h 23 [l0] (.inl x :: st) Q ↔ VV 45 h 24 [some (.inl x)] st Q := VV_step rfl rfl rfl rfl
theorem xr_45_24 (h : AHp) (Q : Option Int32 → AHp → Prop) (x : Int32) (st : List AV) : VV 45 h 24 [some (.inl x)] st Q ↔ VV 45 h 25 [some (.inl x)] (.inl x :: st) Q := VV_step rfl rfl rfl rfl
theorem xr_45_25 (h : AHp) (Q : Option Int32 → AHp → Prop) (x : Int32) (st : List AV) : VV 45 h 25 [some (.inl x)] st Q ↔ VV 45 h 26 [some (.inl x)] (.inl x :: st) Q := VV_step rfl rfl rfl rfl
theorem xr_45_26 (h : AHp) (Q : Option Int32 → AHp → Prop) (l0 : Option AV) (st : List AV) : VV 45 h 26 [l0] st Q ↔ VV 45 h 27 [l0] (.inl (4 : Int32) :: st) Q := VV_step rfl rfl rfl rfl
theorem xr_45_27 (h : AHp) (Q : Option Int32 → AHp → Prop) (l0 : Option AV) (x y : Int32) (st : List AV) : VV 45 h 27 [l0] (.inl y :: .inl x :: st) Q ↔ VV 45 h 28 [l0] (.inl ((x.toUInt32 >>> (y.toUInt32 &&& Int32.toUInt32 31)).toInt32) :: st) Q := VV_step rfl rfl rfl rfl
theorem xr_45_28 (h : AHp) (Q : Option Int32 → AHp → Prop) (l0 : Option AV) (x y : Int32) (st : List AV) : VV 45 h 28 [l0] (.inl y :: .inl x :: st) Q ↔ VV 45 h 29 [l0] (.inl (x + y) :: st) Q := VV_step rfl rfl rfl rfl
theorem xr_45_29 (h : AHp) (Q : Option Int32 → AHp → Prop) (l0 : Option AV) (st : List AV) : VV 45 h 29 [l0] st Q ↔ VV 45 h 32 [l0] (.inl (252645135 : Int32) :: st) Q := VV_step rfl rfl rfl rfl
theorem xr_45_32 (h : AHp) (Q : Option Int32 → AHp → Prop) (l0 : Option AV) (x y : Int32) (st : List AV) : VV 45 h 32 [l0] (.inl y :: .inl x :: st) Q ↔ VV 45 h 33 [l0] (.inl (x &&& y) :: st) Q := VV_step rfl rfl rfl rfl
theorem xr_45_33 (h : AHp) (Q : Option Int32 → AHp → Prop) (l0 : Option AV) (x : Int32) (st : List AV) : VV 45 h 33 [l0] (.inl x :: st) Q ↔ VV 45 h 34 [some (.inl x)] st Q := VV_step rfl rfl rfl rfl
theorem xr_45_34 (h : AHp) (Q : Option Int32 → AHp → Prop) (x : Int32) (st : List AV) : VV 45 h 34 [some (.inl x)] st Q ↔ VV 45 h 35 [some (.inl x)] (.inl x :: st) Q := VV_step rfl rfl rfl rfl
theorem xr_45_35 (h : AHp) (Q : Option Int32 → AHp → Prop) (x : Int32) (st : List AV) : VV 45 h 35 [some (.inl x)] st Q ↔ VV 45 h 36 [some (.inl x)] (.inl x :: st) Q := VV_step rfl rfl rfl rfl
theorem xr_45_36 (h : AHp) (Q : Option Int32 → AHp → Prop) (l0 : Option AV) (st : List AV) : VV 45 h 36 [l0] st Q ↔ VV 45 h 38 [l0] (.inl (8 : Int32) :: st) Q := VV_step rfl rfl rfl rfl
theorem xr_45_38 (h : AHp) (Q : Option Int32 → AHp → Prop) (l0 : Option AV) (x y : Int32) (st : List AV) : VV 45 h 38 [l0] (.inl y :: .inl x :: st) Q ↔ VV 45 h 39 [l0] (.inl ((x.toUInt32 >>> (y.toUInt32 &&& Int32.toUInt32 31)).toInt32) :: st) Q := VV_step rfl rfl rfl rfl
theorem xr_45_39 (h : AHp) (Q : Option Int32 → AHp → Prop) (l0 : Option AV) (x y : Int32) (st : List AV) : VV 45 h 39 [l0] (.inl y :: .inl x :: st) Q ↔ VV 45 h 40 [l0] (.inl (x + y) :: st) Q := VV_step rfl rfl rfl rfl
theorem xr_45_40 (h : AHp) (Q : Option Int32 → AHp → Prop) (l0 : Option AV) (x : Int32) (st : List AV) : VV 45 h 40 [l0] (.inl x :: st) Q ↔ VV 45 h 41 [some (.inl x)] st Q := VV_step rfl rfl rfl rfl
theorem xr_45_41 (h : AHp) (Q : Option Int32 → AHp → Prop) (x : Int32) (st : List AV) : VV 45 h 41 [some (.inl x)] st Q ↔ VV 45 h 42 [some (.inl x)] (.inl x :: st) Q := VV_step rfl rfl rfl rfl
theorem xr_45_42 (h : AHp) (Q : Option Int32 → AHp → Prop) (x : Int32) (st : List AV) : VV 45 h 42 [some (.inl x)] st Q ↔ VV 45 h 43 [some (.inl x)] (.inl x :: st) Q := VV_step rfl rfl rfl rfl
theorem xr_45_43 (h : AHp) (Q : Option Int32 → AHp → Prop) (l0 : Option AV) (st : List AV) : VV 45 h 43 [l0] st Q ↔ VV 45 h 45 [l0] (.inl (16 : Int32) :: st) Q := VV_step rfl rfl rfl rfl
theorem xr_45_45 (h : AHp) (Q : Option Int32 → AHp → Prop) (l0 : Option AV) (x y : Int32) (st : List AV) : VV 45 h 45 [l0] (.inl y :: .inl x :: st) Q ↔ VV 45 h 46 [l0] (.inl ((x.toUInt32 >>> (y.toUInt32 &&& Int32.toUInt32 31)).toInt32) :: st) Q := VV_step rfl rfl rfl rfl
theorem xr_45_46 (h : AHp) (Q : Option Int32 → AHp → Prop) (l0 : Option AV) (x y : Int32) (st : List AV) : VV 45 h 46 [l0] (.inl y :: .inl x :: st) Q ↔ VV 45 h 47 [l0] (.inl (x + y) :: st) Q := VV_step rfl rfl rfl rfl
theorem xr_45_47 (h : AHp) (Q : Option Int32 → AHp → Prop) (l0 : Option AV) (x : Int32) (st : List AV) : VV 45 h 47 [l0] (.inl x :: st) Q ↔ VV 45 h 48 [some (.inl x)] st Q := VV_step rfl rfl rfl rfl
theorem xr_45_48 (h : AHp) (Q : Option Int32 → AHp → Prop) (x : Int32) (st : List AV) : VV 45 h 48 [some (.inl x)] st Q ↔ VV 45 h 49 [some (.inl x)] (.inl x :: st) Q := VV_step rfl rfl rfl rfl
theorem xr_45_49 (h : AHp) (Q : Option Int32 → AHp → Prop) (l0 : Option AV) (st : List AV) : VV 45 h 49 [l0] st Q ↔ VV 45 h 51 [l0] (.inl (63 : Int32) :: st) Q := VV_step rfl rfl rfl rfl
theorem xr_45_51 (h : AHp) (Q : Option Int32 → AHp → Prop) (l0 : Option AV) (x y : Int32) (st : List AV) : VV 45 h 51 [l0] (.inl y :: .inl x :: st) Q ↔ VV 45 h 52 [l0] (.inl (x &&& y) :: st) Q := VV_step rfl rfl rfl rfl
theorem xr_45_52 (h : AHp) (Q : Option Int32 → AHp → Prop) (l0 : Option AV) (x : Int32) : VV 45 h 52 [l0] [.inl x] Q ↔ Q (some x) h := VV_end rfl rfl
theorem xr_90_0 (h : AHp) (Q : Option Int32 → AHp → Prop) (l1 : Option AV) (x : Int32) (st : List AV) : VV 90 h 0 [some (.inl x), l1] st Q ↔ VV 90 h 1 [some (.inl x), l1] (.inl x :: st) Q := VV_step rfl rfl rfl rfl
theorem xr_90_1 (h : AHp) (Q : Option Int32 → AHp → Prop) (l0 : Option AV) (x : Int32) (st : List AV) : VV 90 h 1 [l0, some (.inl x)] st Q ↔ VV 90 h 2 [l0, some (.inl x)] (.inl x :: st) Q := VV_step rfl rfl rfl rfl
theorem xr_90_2 (h : AHp) (Q : Option Int32 → AHp → Prop) (l0 l1 : Option AV) (x y : Int32) (st : List AV) : VV 90 h 2 [l0, l1] (.inl y :: .inl x :: st) Q ↔ (x < y → VV 90 h 9 [l0, l1] st Q) ∧ (¬ (x < y) → VV 90 h 5 [l0, l1] st Q) := VV_br2 rfl rfl rfl decide_eq_true_iff
theorem xr_90_5 (h : AHp) (Q : Option Int32 → AHp → Prop) (l1 : Option AV) (x : Int32) (st : List AV) : VV 90 h 5 [some (.inl x), l1] st Q ↔ VV 90 h 6 [some (.inl x), l1] (.inl x :: st) Q := VV_step rfl rfl rfl rfl
theorem xr_90_6 (h : AHp) (Q : Option Int32 → AHp → Prop) (l0 l1 : Option AV) (st : List AV) : VV 90 h 6 [l0, l1] st Q ↔ VV 90 h 10 [l0, l1] st Q := VV_step rfl rfl rfl rfl
theorem xr_90_9 (h : AHp) (Q : Option Int32 → AHp → Prop) (l0 : Option AV) (x : Int32) (st : List AV) : VV 90 h 9 [l0, some (.inl x)] st Q ↔ VV 90 h 10 [l0, some (.inl x)] (.inl x :: st) Q := VV_step rfl rfl rfl rfl
theorem xr_90_10 (h : AHp) (Q : Option Int32 → AHp → Prop) (l0 l1 : Option AV) (x : Int32) : VV 90 h 10 [l0, l1] [.inl x] Q ↔ Q (some x) h := VV_end rfl rfl
theorem xr_91_0 (h : AHp) (Q : Option Int32 → AHp → Prop) (l1 : Option AV) (x : Int32) (st : List AV) : VV 91 h 0 [some (.inl x), l1] st Q ↔ VV 91 h 1 [some (.inl x), l1] (.inl x :: st) Q := VV_step rfl rfl rfl rfl
theorem xr_91_1 (h : AHp) (Q : Option Int32 → AHp → Prop) (l0 : Option AV) (x : Int32) (st : List AV) : VV 91 h 1 [l0, some (.inl x)] st Q ↔ VV 91 h 2 [l0, some (.inl x)] (.inl x :: st) Q := VV_step rfl rfl rfl rfl
theorem xr_91_2 (h : AHp) (Q : Option Int32 → AHp → Prop) (l0 l1 : Option AV) (x y : Int32) (st : List AV) : VV 91 h 2 [l0, l1] (.inl y :: .inl x :: st) Q ↔ (y < x → VV 91 h 9 [l0, l1] st Q) ∧ (¬ (y < x) → VV 91 h 5 [l0, l1] st Q) := VV_br2 rfl rfl rfl decide_eq_true_iff
theorem xr_91_5 (h : AHp) (Q : Option Int32 → AHp → Prop) (l1 : Option AV) (x : Int32) (st : List AV) : VV 91 h 5 [some (.inl x), l1] st Q ↔ VV 91 h 6 [some (.inl x), l1] (.inl x :: st) Q := VV_step rfl rfl rfl rfl
theorem xr_91_6 (h : AHp) (Q : Option Int32 → AHp → Prop) (l0 l1 : Option AV) (st : List AV) : VV 91 h 6 [l0, l1] st Q ↔ VV 91 h 10 [l0, l1] st Q := VV_step rfl rfl rfl rfl
theorem xr_91_9 (h : AHp) (Q : Option Int32 → AHp → Prop) (l0 : Option AV) (x : Int32) (st : List AV) : VV 91 h 9 [l0, some (.inl x)] st Q ↔ VV 91 h 10 [l0, some (.inl x)] (.inl x :: st) Q := VV_step rfl rfl rfl rfl
theorem xr_91_10 (h : AHp) (Q : Option Int32 → AHp → Prop) (l0 l1 : Option AV) (x : Int32) : VV 91 h 10 [l0, l1] [.inl x] Q ↔ Q (some x) h := VV_end rfl rfl
end
section
theorem xr_11_0 (h : AHp) (Q : Option Int32 → AHp → Prop) (l0 : Option AV) (x : Int32) (st : List AV) : VV 11 h 0 [l0, some (.inl x)] st Q ↔ VV 11 h 1 [l0, some (.inl x)] (.inl x :: st) Q := VV_step rfl rfl rfl rfl
theorem xr_11_1 (h : AHp) (Q : Option Int32 → AHp → Prop) (l0 l1 : Option AV) (st : List AV) : VV 11 h 1 [l0, l1] st Q ↔ VV 11 h 2 [l0, l1] (.inl (1 : Int32) :: st) Q := VV_step rfl rfl rfl rfl
theorem xr_11_2 (h : AHp) (Q : Option Int32 → AHp → Prop) (l0 l1 : Option AV) (x y : Int32) (st : List AV) : VV 11 h 2 [l0, l1] (.inl y :: .inl x :: st) Q ↔ (x < y → VV 11 h 11 [l0, l1] st Q) ∧ (¬ (x < y) → VV 11 h 5 [l0, l1] st Q) := VV_br2 rfl rfl rfl decide_eq_true_iff
theorem xr_11_5 (h : AHp) (Q : Option Int32 → AHp → Prop) (l0 : Option AV) (x : Int32) (st : List AV) : VV 11 h 5 [l0, some (.inl x)] st Q ↔ VV 11 h 6 [l0, some (.inl x)] (.inl x :: st) Q := VV_step rfl rfl rfl rfl
theorem xr_11_6 (h : AHp) (Q : Option Int32 → AHp → Prop) (l0 l1 : Option AV) (st : List AV) : VV 11 h 6 [l0, l1] st Q ↔ VV 11 h 8 [l0, l1] (.inl (8 : Int32) :: st) Q := VV_step rfl rfl rfl rfl
theorem xr_11_8 (h : AHp) (Q : Option Int32 → AHp → Prop) (l0 l1 : Option AV) (x y : Int32) (st : List AV) : VV 11 h 8 [l0, l1] (.inl y :: .inl x :: st) Q ↔ (x ≤ y → VV 11 h 13 [l0, l1] st Q) ∧ (¬ (x ≤ y) → VV 11 h 11 [l0, l1] st Q) := VV_br2 rfl rfl rfl decide_eq_true_iff
theorem xr_11_11 (h : AHp) (Q : Option Int32 → AHp → Prop) (l0 l1 : Option AV) (st : List AV) : VV 11 h 11 [l0, l1] st Q ↔ VV 11 h 12 [l0, l1] (.inl (0 : Int32) :: st) Q := VV_step rfl rfl rfl rfl
theorem xr_11_12 (h : AHp) (Q : Option Int32 → AHp → Prop) (l0 l1 : Option AV) (x : Int32) : VV 11 h 12 [l0, l1] [.inl x] Q ↔ (x = 0 ∨ x = 1) ∧ Q (some x) h := VV_zret rfl rfl
theorem xr_11_13 (h : AHp) (Q : Option Int32 → AHp → Prop) (l1 : Option AV) (x : Nat × Nat) (st : List AV) : VV 11 h 13 [some (.inr x), l1] st Q ↔ VV 11 h 14 [some (.inr x), l1] (.inr x :: st) Q := VV_step rfl rfl rfl rfl
theorem xr_11_14 (h : AHp) (Q : Option Int32 → AHp → Prop) (l0 : Option AV) (x : Int32) (st : List AV) : VV 11 h 14 [l0, some (.inl x)] st Q ↔ VV 11 h 15 [l0, some (.inl x)] (.inl x :: st) Q := VV_step rfl rfl rfl rfl
theorem xr_11_15 (h : AHp) (Q : Option Int32 → AHp → Prop) (l0 l1 : Option AV) (v : Int32) (i : Nat) (st : List AV) : VV 11 h 15 [l0, l1] (.inl v :: .inr (0, i) :: st) Q ↔ VV 11 (ah_up h 0 i 2 v) 18 [l0, l1] st Q := VV_step rfl rfl rfl rfl
theorem xr_11_18 (h : AHp) (Q : Option Int32 → AHp → Prop) (l1 : Option AV) (x : Nat × Nat) (st : List AV) : VV 11 h 18 [some (.inr x), l1] st Q ↔ VV 11 h 19 [some (.inr x), l1] (.inr x :: st) Q := VV_step rfl rfl rfl rfl
theorem xr_11_19 (h : AHp) (Q : Option Int32 → AHp → Prop) (l0 l1 : Option AV) (st : List AV) : VV 11 h 19 [l0, l1] st Q ↔ VV 11 h 20 [l0, l1] (.inl (0 : Int32) :: st) Q := VV_step rfl rfl rfl rfl
theorem xr_11_20 (h : AHp) (Q : Option Int32 → AHp → Prop) (l0 l1 : Option AV) (v : Int32) (i : Nat) (st : List AV) : VV 11 h 20 [l0, l1] (.inl v :: .inr (0, i) :: st) Q ↔ VV 11 (ah_up h 0 i 3 v) 23 [l0, l1] st Q := VV_step rfl rfl rfl rfl
theorem xr_11_23 (h : AHp) (Q : Option Int32 → AHp → Prop) (l1 : Option AV) (x : Nat × Nat) (st : List AV) : VV 11 h 23 [some (.inr x), l1] st Q ↔ VV 11 h 24 [some (.inr x), l1] (.inr x :: st) Q := VV_step rfl rfl rfl rfl
theorem xr_11_24 (h : AHp) (Q : Option Int32 → AHp → Prop) (l0 l1 : Option AV) (st : List AV) : VV 11 h 24 [l0, l1] st Q ↔ VV 11 h 25 [l0, l1] (.inl (0 : Int32) :: st) Q := VV_step rfl rfl rfl rfl
theorem xr_11_25 (h : AHp) (Q : Option Int32 → AHp → Prop) (l0 l1 : Option AV) (v : Int32) (i : Nat) (st : List AV) : VV 11 h 25 [l0, l1] (.inl v :: .inr (0, i) :: st) Q ↔ VV 11 (ah_up h 0 i 4 v) 28 [l0, l1] st Q := VV_step rfl rfl rfl rfl
theorem xr_11_28 (h : AHp) (Q : Option Int32 → AHp → Prop) (l1 : Option AV) (x : Nat × Nat) (st : List AV) : VV 11 h 28 [some (.inr x), l1] st Q ↔ VV 11 h 29 [some (.inr x), l1] (.inr x :: st) Q := VV_step rfl rfl rfl rfl
theorem xr_11_29 (h : AHp) (Q : Option Int32 → AHp → Prop) (l0 l1 : Option AV) (st : List AV) : VV 11 h 29 [l0, l1] st Q ↔ VV 11 h 30 [l0, l1] (.inl (0 : Int32) :: st) Q := VV_step rfl rfl rfl rfl
theorem xr_11_30 (h : AHp) (Q : Option Int32 → AHp → Prop) (l0 l1 : Option AV) (v : Int32) (i : Nat) (st : List AV) : VV 11 h 30 [l0, l1] (.inl v :: .inr (0, i) :: st) Q ↔ VV 11 (ah_up h 0 i 5 v) 33 [l0, l1] st Q := VV_step rfl rfl rfl rfl
theorem xr_11_33 (h : AHp) (Q : Option Int32 → AHp → Prop) (l0 l1 : Option AV) (st : List AV) : VV 11 h 33 [l0, l1] st Q ↔ VV 11 h 34 [l0, l1] (.inl (1 : Int32) :: st) Q := VV_step rfl rfl rfl rfl
theorem xr_11_34 (h : AHp) (Q : Option Int32 → AHp → Prop) (l0 l1 : Option AV) (x : Int32) : VV 11 h 34 [l0, l1] [.inl x] Q ↔ (x = 0 ∨ x = 1) ∧ Q (some x) h := VV_zret rfl rfl
theorem xr_12_0 (h : AHp) (Q : Option Int32 → AHp → Prop) (l0 : Option AV) (x : Int32) (st : List AV) : VV 12 h 0 [l0, some (.inl x)] st Q ↔ VV 12 h 1 [l0, some (.inl x)] (.inl x :: st) Q := VV_step rfl rfl rfl rfl
theorem xr_12_1 (h : AHp) (Q : Option Int32 → AHp → Prop) (l0 l1 : Option AV) (x : Int32) (st : List AV) : VV 12 h 1 [l0, l1] (.inl x :: st) Q ↔ (x < 0 → VV 12 h 9 [l0, l1] st Q) ∧ (¬ (x < 0) → VV 12 h 4 [l0, l1] st Q) := VV_br rfl rfl rfl decide_eq_true_iff
theorem xr_12_4 (h : AHp) (Q : Option Int32 → AHp → Prop) (l0 : Option AV) (x : Int32) (st : List AV) : VV 12 h 4 [l0, some (.inl x)] st Q ↔ VV 12 h 5 [l0, some (.inl x)] (.inl x :: st) Q := VV_step rfl rfl rfl rfl
theorem xr_12_5 (h : AHp) (Q : Option Int32 → AHp → Prop) (l0 l1 : Option AV) (st : List AV) : VV 12 h 5 [l0, l1] st Q ↔ VV 12 h 6 [l0, l1] (.inl (1 : Int32) :: st) Q := VV_step rfl rfl rfl rfl
theorem xr_12_6 (h : AHp) (Q : Option Int32 → AHp → Prop) (l0 l1 : Option AV) (x y : Int32) (st : List AV) : VV 12 h 6 [l0, l1] (.inl y :: .inl x :: st) Q ↔ (x ≤ y → VV 12 h 11 [l0, l1] st Q) ∧ (¬ (x ≤ y) → VV 12 h 9 [l0, l1] st Q) := VV_br2 rfl rfl rfl decide_eq_true_iff
theorem xr_12_9 (h : AHp) (Q : Option Int32 → AHp → Prop) (l0 l1 : Option AV) (st : List AV) : VV 12 h 9 [l0, l1] st Q ↔ VV 12 h 10 [l0, l1] (.inl (0 : Int32) :: st) Q := VV_step rfl rfl rfl rfl
theorem xr_12_10 (h : AHp) (Q : Option Int32 → AHp → Prop) (l0 l1 : Option AV) (x : Int32) : VV 12 h 10 [l0, l1] [.inl x] Q ↔ (x = 0 ∨ x = 1) ∧ Q (some x) h := VV_zret rfl rfl
theorem xr_12_11 (h : AHp) (Q : Option Int32 → AHp → Prop) (l1 : Option AV) (x : Nat × Nat) (st : List AV) : VV 12 h 11 [some (.inr x), l1] st Q ↔ VV 12 h 12 [some (.inr x), l1] (.inr x :: st) Q := VV_step rfl rfl rfl rfl
theorem xr_12_12 (h : AHp) (Q : Option Int32 → AHp → Prop) (l0 : Option AV) (x : Int32) (st : List AV) : VV 12 h 12 [l0, some (.inl x)] st Q ↔ VV 12 h 13 [l0, some (.inl x)] (.inl x :: st) Q := VV_step rfl rfl rfl rfl
theorem xr_12_13 (h : AHp) (Q : Option Int32 → AHp → Prop) (l0 l1 : Option AV) (v : Int32) (i : Nat) (st : List AV) : VV 12 h 13 [l0, l1] (.inl v :: .inr (0, i) :: st) Q ↔ VV 12 (ah_up h 0 i 6 v) 16 [l0, l1] st Q := VV_step rfl rfl rfl rfl
theorem xr_12_16 (h : AHp) (Q : Option Int32 → AHp → Prop) (l0 l1 : Option AV) (st : List AV) : VV 12 h 16 [l0, l1] st Q ↔ VV 12 h 17 [l0, l1] (.inl (1 : Int32) :: st) Q := VV_step rfl rfl rfl rfl
theorem xr_12_17 (h : AHp) (Q : Option Int32 → AHp → Prop) (l0 l1 : Option AV) (x : Int32) : VV 12 h 17 [l0, l1] [.inl x] Q ↔ (x = 0 ∨ x = 1) ∧ Q (some x) h := VV_zret rfl rfl
theorem xr_13_0 (h : AHp) (Q : Option Int32 → AHp → Prop) (l0 : Option AV) (x : Int32) (st : List AV) : VV 13 h 0 [l0, some (.inl x)] st Q ↔ VV 13 h 1 [l0, some (.inl x)] (.inl x :: st) Q := VV_step rfl rfl rfl rfl
theorem xr_13_1 (h : AHp) (Q : Option Int32 → AHp → Prop) (l0 l1 : Option AV) (st : List AV) : VV 13 h 1 [l0, l1] st Q ↔ VV 13 h 2 [l0, l1] (.inl (1 : Int32) :: st) Q := VV_step rfl rfl rfl rfl
theorem xr_13_2 (h : AHp) (Q : Option Int32 → AHp → Prop) (l0 l1 : Option AV) (x y : Int32) (st : List AV) : VV 13 h 2 [l0, l1] (.inl y :: .inl x :: st) Q ↔ (x < y → VV 13 h 11 [l0, l1] st Q) ∧ (¬ (x < y) → VV 13 h 5 [l0, l1] st Q) := VV_br2 rfl rfl rfl decide_eq_true_iff
theorem xr_13_5 (h : AHp) (Q : Option Int32 → AHp → Prop) (l0 : Option AV) (x : Int32) (st : List AV) : VV 13 h 5 [l0, some (.inl x)] st Q ↔ VV 13 h 6 [l0, some (.inl x)] (.inl x :: st) Q := VV_step rfl rfl rfl rfl
theorem xr_13_6 (h : AHp) (Q : Option Int32 → AHp → Prop) (l0 l1 : Option AV) (st : List AV) : VV 13 h 6 [l0, l1] st Q ↔ VV 13 h 8 [l0, l1] (.inl (99 : Int32) :: st) Q := VV_step rfl rfl rfl rfl
theorem xr_13_8 (h : AHp) (Q : Option Int32 → AHp → Prop) (l0 l1 : Option AV) (x y : Int32) (st : List AV) : VV 13 h 8 [l0, l1] (.inl y :: .inl x :: st) Q ↔ (x ≤ y → VV 13 h 13 [l0, l1] st Q) ∧ (¬ (x ≤ y) → VV 13 h 11 [l0, l1] st Q) := VV_br2 rfl rfl rfl decide_eq_true_iff
theorem xr_13_11 (h : AHp) (Q : Option Int32 → AHp → Prop) (l0 l1 : Option AV) (st : List AV) : VV 13 h 11 [l0, l1] st Q ↔ VV 13 h 12 [l0, l1] (.inl (0 : Int32) :: st) Q := VV_step rfl rfl rfl rfl
theorem xr_13_12 (h : AHp) (Q : Option Int32 → AHp → Prop) (l0 l1 : Option AV) (x : Int32) : VV 13 h 12 [l0, l1] [.inl x] Q ↔ (x = 0 ∨ x = 1) ∧ Q (some x) h := VV_zret rfl rfl
theorem xr_13_13 (h : AHp) (Q : Option Int32 → AHp → Prop) (l1 : Option AV) (x : Nat × Nat) (st : List AV) : VV 13 h 13 [some (.inr x), l1] st Q ↔ VV 13 h 14 [some (.inr x), l1] (.inr x :: st) Q := VV_step rfl rfl rfl rfl
theorem xr_13_14 (h : AHp) (Q : Option Int32 → AHp → Prop) (l0 : Option AV) (x : Int32) (st : List AV) : VV 13 h 14 [l0, some (.inl x)] st Q ↔ VV 13 h 15 [l0, some (.inl x)] (.inl x :: st) Q := VV_step rfl rfl rfl rfl
theorem xr_13_15 (h : AHp) (Q : Option Int32 → AHp → Prop) (l0 l1 : Option AV) (v : Int32) (i : Nat) (st : List AV) : VV 13 h 15 [l0, l1] (.inl v :: .inr (0, i) :: st) Q ↔ VV 13 (ah_up h 0 i 7 v) 18 [l0, l1] st Q := VV_step rfl rfl rfl rfl
theorem xr_13_18 (h : AHp) (Q : Option Int32 → AHp → Prop) (l0 l1 : Option AV) (st : List AV) : VV 13 h 18 [l0, l1] st Q ↔ VV 13 h 19 [l0, l1] (.inl (1 : Int32) :: st) Q := VV_step rfl rfl rfl rfl
theorem xr_13_19 (h : AHp) (Q : Option Int32 → AHp → Prop) (l0 l1 : Option AV) (x : Int32) : VV 13 h 19 [l0, l1] [.inl x] Q ↔ (x = 0 ∨ x = 1) ∧ Q (some x) h := VV_zret rfl rfl
theorem xr_14_0 (h : AHp) (Q : Option Int32 → AHp → Prop) (l0 : Option AV) (x : Int32) (st : List AV) : VV 14 h 0 [l0, some (.inl x)] st Q ↔ VV 14 h 1 [l0, some (.inl x)] (.inl x :: st) Q := VV_step rfl rfl rfl rfl
theorem xr_14_1 (h : AHp) (Q : Option Int32 → AHp → Prop) (l0 l1 : Option AV) (x : Int32) (st : List AV) : VV 14 h 1 [l0, l1] (.inl x :: st) Q ↔ (x < 0 → VV 14 h 16 [l0, l1] st Q) ∧ (¬ (x < 0) → VV 14 h 4 [l0, l1] st Q) := VV_br rfl rfl rfl decide_eq_true_iff
theorem xr_14_4 (h : AHp) (Q : Option Int32 → AHp → Prop) (l0 : Option AV) (x : Int32) (st : List AV) : VV 14 h 4 [l0, some (.inl x)] st Q ↔ VV 14 h 5 [l0, some (.inl x)] (.inl x :: st) Q := VV_step rfl rfl rfl rfl
theorem xr_14_5 (h : AHp) (Q : Option Int32 → AHp → Prop) (l1 : Option AV) (x : Nat × Nat) (st : List AV) : VV 14 h 5 [some (.inr x), l1] st Q ↔ VV 14 h 6 [some (.inr x), l1] (.inr x :: st) Q := VV_step rfl rfl rfl rfl
theorem xr_14_6 (h : AHp) (Q : Option Int32 → AHp → Prop) (l0 l1 : Option AV) (i : Nat) (st : List AV) : VV 14 h 6 [l0, l1] (.inr (0, i) :: st) Q ↔ VV 14 h 9 [l0, l1] (.inl (h 0 i 2) :: st) Q := VV_step rfl rfl rfl rfl
theorem xr_14_9 (h : AHp) (Q : Option Int32 → AHp → Prop) (l0 l1 : Option AV) (x y : Int32) (st : List AV) : VV 14 h 9 [l0, l1] (.inl y :: .inl x :: st) Q ↔ (y ≤ x → VV 14 h 16 [l0, l1] st Q) ∧ (¬ (y ≤ x) → VV 14 h 12 [l0, l1] st Q) := VV_br2 rfl rfl rfl decide_eq_true_iff
theorem xr_14_12 (h : AHp) (Q : Option Int32 → AHp → Prop) (l0 l1 : Option AV) (st : List AV) : VV 14 h 12 [l0, l1] st Q ↔ VV 14 h 13 [l0, l1] (.inl (1 : Int32) :: st) Q := VV_step rfl rfl rfl rfl
theorem xr_14_13 (h : AHp) (Q : Option Int32 → AHp → Prop) (l0 l1 : Option AV) (st : List AV) : VV 14 h 13 [l0, l1] st Q ↔ VV 14 h 17 [l0, l1] st Q := VV_step rfl rfl rfl rfl
theorem xr_14_16 (h : AHp) (Q : Option Int32 → AHp → Prop) (l0 l1 : Option AV) (st : List AV) : VV 14 h 16 [l0, l1] st Q ↔ VV 14 h 17 [l0, l1] (.inl (0 : Int32) :: st) Q := VV_step rfl rfl rfl rfl
theorem xr_14_17 (h : AHp) (Q : Option Int32 → AHp → Prop) (l0 l1 : Option AV) (x : Int32) : VV 14 h 17 [l0, l1] [.inl x] Q ↔ (x = 0 ∨ x = 1) ∧ Q (some x) h := VV_zret rfl rfl
theorem xr_15_0 (h : AHp) (Q : Option Int32 → AHp → Prop) (x : Int32) (st : List AV) : VV 15 h 0 [some (.inl x)] st Q ↔ VV 15 h 1 [some (.inl x)] (.inl x :: st) Q := VV_step rfl rfl rfl rfl
theorem xr_15_1 (h : AHp) (Q : Option Int32 → AHp → Prop) (l0 : Option AV) (x : Int32) (st : List AV) : VV 15 h 1 [l0] (.inl x :: st) Q ↔ (x < 0 → VV 15 h 14 [l0] st Q) ∧ (¬ (x < 0) → VV 15 h 4 [l0] st Q) := VV_br rfl rfl rfl decide_eq_true_iff
theorem xr_15_4 (h : AHp) (Q : Option Int32 → AHp → Prop) (x : Int32) (st : List AV) : VV 15 h 4 [some (.inl x)] st Q ↔ VV 15 h 5 [some (.inl x)] (.inl x :: st) Q := VV_step rfl rfl rfl rfl
theorem xr_15_5 (h : AHp) (Q : Option Int32 → AHp → Prop) (l0 : Option AV) (st : List AV) : VV 15 h 5 [l0] st Q ↔ VV 15 h 7 [l0] (.inl (65535 : Int32) :: st) Q := VV_step rfl rfl rfl rfl
theorem xr_15_7 (h : AHp) (Q : Option Int32 → AHp → Prop) (l0 : Option AV) (x y : Int32) (st : List AV) : VV 15 h 7 [l0] (.inl y :: .inl x :: st) Q ↔ (y < x → VV 15 h 14 [l0] st Q) ∧ (¬ (y < x) → VV 15 h 10 [l0] st Q) := VV_br2 rfl rfl rfl decide_eq_true_iff
theorem xr_15_10 (h : AHp) (Q : Option Int32 → AHp → Prop) (l0 : Option AV) (st : List AV) : VV 15 h 10 [l0] st Q ↔ VV 15 h 11 [l0] (.inl (1 : Int32) :: st) Q := VV_step rfl rfl rfl rfl
theorem xr_15_11 (h : AHp) (Q : Option Int32 → AHp → Prop) (l0 : Option AV) (st : List AV) : VV 15 h 11 [l0] st Q ↔ VV 15 h 15 [l0] st Q := VV_step rfl rfl rfl rfl
theorem xr_15_14 (h : AHp) (Q : Option Int32 → AHp → Prop) (l0 : Option AV) (st : List AV) : VV 15 h 14 [l0] st Q ↔ VV 15 h 15 [l0] (.inl (0 : Int32) :: st) Q := VV_step rfl rfl rfl rfl
theorem xr_15_15 (h : AHp) (Q : Option Int32 → AHp → Prop) (l0 : Option AV) (x : Int32) : VV 15 h 15 [l0] [.inl x] Q ↔ (x = 0 ∨ x = 1) ∧ Q (some x) h := VV_zret rfl rfl
theorem xr_16_0 (h : AHp) (Q : Option Int32 → AHp → Prop) (l1 l2 : Option AV) (x : Nat × Nat) (st : List AV) : VV 16 h 0 [some (.inr x), l1, l2] st Q ↔ VV 16 h 1 [some (.inr x), l1, l2] (.inr x :: st) Q := VV_step rfl rfl rfl rfl
theorem xr_16_1 (h : AHp) (Q : Option Int32 → AHp → Prop) (l0 l2 : Option AV) (x : Int32) (st : List AV) : VV 16 h 1 [l0, some (.inl x), l2] st Q ↔ VV 16 h 2 [l0, some (.inl x), l2] (.inl x :: st) Q := VV_step rfl rfl rfl rfl
theorem xr_16_2 (h : AHp) (Q : Option Int32 → AHp → Prop) (l0 l1 l2 : Option AV) (a0 : AV) (i : Nat) : VV 16 h 2 [l0, l1, l2] [a0, .inr (0, i)] Q ↔ Vi 14 h [some (.inr (0, i)), some a0] (fun z h2 => VV 16 h2 5 [l0, l1, l2] [.inl z] Q) := VV_calli (y := 14) (as := [.inr (0, i), a0]) (rest := []) rfl rfl rfl (ah_noV (y := 14) (by decide))
theorem xr_16_5 (h : AHp) (Q : Option Int32 → AHp → Prop) (l0 l1 l2 : Option AV) (x : Int32) (st : List AV) : VV 16 h 5 [l0, l1, l2] (.inl x :: st) Q ↔ (x = 0 → VV 16 h 24 [l0, l1, l2] st Q) ∧ (¬ (x = 0) → VV 16 h 8 [l0, l1, l2] st Q) := VV_br rfl rfl rfl decide_eq_true_iff
theorem xr_16_8 (h : AHp) (Q : Option Int32 → AHp → Prop) (l0 l1 : Option AV) (x : Int32) (st : List AV) : VV 16 h 8 [l0, l1, some (.inl x)] st Q ↔ VV 16 h 9 [l0, l1, some (.inl x)] (.inl x :: st) Q := VV_step rfl rfl rfl rfl
theorem xr_16_9 (h : AHp) (Q : Option Int32 → AHp → Prop) (l0 l1 l2 : Option AV) (a0 : AV) : VV 16 h 9 [l0, l1, l2] [a0] Q ↔ Vi 15 h [some a0] (fun z h2 => VV 16 h2 12 [l0, l1, l2] [.inl z] Q) := VV_calli (y := 15) (as := [a0]) (rest := []) rfl rfl rfl (ah_noV (y := 15) (by decide))
theorem xr_16_12 (h : AHp) (Q : Option Int32 → AHp → Prop) (l0 l1 l2 : Option AV) (x : Int32) (st : List AV) : VV 16 h 12 [l0, l1, l2] (.inl x :: st) Q ↔ (x = 0 → VV 16 h 24 [l0, l1, l2] st Q) ∧ (¬ (x = 0) → VV 16 h 15 [l0, l1, l2] st Q) := VV_br rfl rfl rfl decide_eq_true_iff
theorem xr_16_15 (h : AHp) (Q : Option Int32 → AHp → Prop) (l1 l2 : Option AV) (x : Nat × Nat) (st : List AV) : VV 16 h 15 [some (.inr x), l1, l2] st Q ↔ VV 16 h 16 [some (.inr x), l1, l2] (.inr x :: st) Q := VV_step rfl rfl rfl rfl
theorem xr_16_16 (h : AHp) (Q : Option Int32 → AHp → Prop) (l0 l1 l2 : Option AV) (i : Nat) (st : List AV) : VV 16 h 16 [l0, l1, l2] (.inr (0, i) :: st) Q ↔ VV 16 h 19 [l0, l1, l2] (.inl (h 0 i 3) :: st) Q := VV_step rfl rfl rfl rfl
theorem xr_16_19 (h : AHp) (Q : Option Int32 → AHp → Prop) (l0 l1 l2 : Option AV) (st : List AV) : VV 16 h 19 [l0, l1, l2] st Q ↔ VV 16 h 21 [l0, l1, l2] (.inl (20 : Int32) :: st) Q := VV_step rfl rfl rfl rfl
theorem xr_16_21 (h : AHp) (Q : Option Int32 → AHp → Prop) (l0 l1 l2 : Option AV) (x y : Int32) (st : List AV) : VV 16 h 21 [l0, l1, l2] (.inl y :: .inl x :: st) Q ↔ (x < y → VV 16 h 26 [l0, l1, l2] st Q) ∧ (¬ (x < y) → VV 16 h 24 [l0, l1, l2] st Q) := VV_br2 rfl rfl rfl decide_eq_true_iff
theorem xr_16_24 (h : AHp) (Q : Option Int32 → AHp → Prop) (l0 l1 l2 : Option AV) (st : List AV) : VV 16 h 24 [l0, l1, l2] st Q ↔ VV 16 h 25 [l0, l1, l2] (.inl (-1 : Int32) :: st) Q := VV_step rfl rfl rfl rfl
theorem xr_16_25 (h : AHp) (Q : Option Int32 → AHp → Prop) (l0 l1 l2 : Option AV) (x : Int32) : VV 16 h 25 [l0, l1, l2] [.inl x] Q ↔ Q (some x) h := VV_end rfl rfl
theorem xr_16_26 (h : AHp) (Q : Option Int32 → AHp → Prop) (l1 l2 : Option AV) (x : Nat × Nat) (st : List AV) : VV 16 h 26 [some (.inr x), l1, l2] st Q ↔ VV 16 h 27 [some (.inr x), l1, l2] (.inr x :: st) Q := VV_step rfl rfl rfl rfl
theorem xr_16_27 (h : AHp) (Q : Option Int32 → AHp → Prop) (l0 l1 l2 : Option AV) (i : Nat) (st : List AV) : VV 16 h 27 [l0, l1, l2] (.inr (0, i) :: st) Q ↔ VV 16 h 30 [l0, l1, l2] (.inr (1, i) :: st) Q := VV_step rfl rfl rfl rfl
theorem xr_16_30 (h : AHp) (Q : Option Int32 → AHp → Prop) (l1 l2 : Option AV) (x : Nat × Nat) (st : List AV) : VV 16 h 30 [some (.inr x), l1, l2] st Q ↔ VV 16 h 31 [some (.inr x), l1, l2] (.inr x :: st) Q := VV_step rfl rfl rfl rfl
theorem xr_16_31 (h : AHp) (Q : Option Int32 → AHp → Prop) (l0 l1 l2 : Option AV) (i : Nat) (st : List AV) : VV 16 h 31 [l0, l1, l2] (.inr (0, i) :: st) Q ↔ VV 16 h 34 [l0, l1, l2] (.inl (h 0 i 3) :: st) Q := VV_step rfl rfl rfl rfl
theorem xr_16_34_1 (h : AHp) (Q : Option Int32 → AHp → Prop) (l0 l1 l2 : Option AV) (x : Int32) (i : Nat) (st : List AV) : VV 16 h 34 [l0, l1, l2] (.inl x :: .inr (1, i) :: st) Q ↔ vp_in x 20 ∧ VV 16 h 35 [l0, l1, l2] (.inr (3, x.toNatClampNeg) :: st) Q := VV_aald rfl rfl
theorem xr_16_34_2 (h : AHp) (Q : Option Int32 → AHp → Prop) (l0 l1 l2 : Option AV) (x : Int32) (i : Nat) (st : List AV) : VV 16 h 34 [l0, l1, l2] (.inl x :: .inr (2, i) :: st) Q ↔ vp_in x 8 ∧ VV 16 h 35 [l0, l1, l2] (.inr (4, x.toNatClampNeg) :: st) Q := VV_aald rfl rfl
theorem xr_16_35 (h : AHp) (Q : Option Int32 → AHp → Prop) (l0 l2 : Option AV) (x : Int32) (st : List AV) : VV 16 h 35 [l0, some (.inl x), l2] st Q ↔ VV 16 h 36 [l0, some (.inl x), l2] (.inl x :: st) Q := VV_step rfl rfl rfl rfl
theorem xr_16_36 (h : AHp) (Q : Option Int32 → AHp → Prop) (l0 l1 : Option AV) (x : Int32) (st : List AV) : VV 16 h 36 [l0, l1, some (.inl x)] st Q ↔ VV 16 h 37 [l0, l1, some (.inl x)] (.inl x :: st) Q := VV_step rfl rfl rfl rfl
theorem xr_16_37 (h : AHp) (Q : Option Int32 → AHp → Prop) (l0 l1 l2 : Option AV) (a0 a1 : AV) (i : Nat) : VV 16 h 37 [l0, l1, l2] [a1, a0, .inr (3, i)] Q ↔ Vv 0 h [some (.inr (3, i)), some a0, some a1] (fun h2 => VV 16 h2 40 [l0, l1, l2] [] Q) := VV_callv (y := 0) (as := [.inr (3, i), a0, a1]) (rest := []) rfl rfl rfl (ah_noI (y := 0) rfl)
theorem xr_16_40 (h : AHp) (Q : Option Int32 → AHp → Prop) (l1 l2 : Option AV) (x : Nat × Nat) (st : List AV) : VV 16 h 40 [some (.inr x), l1, l2] st Q ↔ VV 16 h 41 [some (.inr x), l1, l2] (.inr x :: st) Q := VV_step rfl rfl rfl rfl
theorem xr_16_41 (h : AHp) (Q : Option Int32 → AHp → Prop) (l0 l1 l2 : Option AV) (v : AV) (st : List AV) : VV 16 h 41 [l0, l1, l2] (v :: st) Q ↔ VV 16 h 42 [l0, l1, l2] (v :: v :: st) Q := VV_step rfl rfl rfl rfl
theorem xr_16_42 (h : AHp) (Q : Option Int32 → AHp → Prop) (l0 l1 l2 : Option AV) (i : Nat) (st : List AV) : VV 16 h 42 [l0, l1, l2] (.inr (0, i) :: st) Q ↔ VV 16 h 45 [l0, l1, l2] (.inl (h 0 i 3) :: st) Q := VV_step rfl rfl rfl rfl
theorem xr_16_45 (h : AHp) (Q : Option Int32 → AHp → Prop) (l0 l1 l2 : Option AV) (st : List AV) : VV 16 h 45 [l0, l1, l2] st Q ↔ VV 16 h 46 [l0, l1, l2] (.inl (1 : Int32) :: st) Q := VV_step rfl rfl rfl rfl
theorem xr_16_46 (h : AHp) (Q : Option Int32 → AHp → Prop) (l0 l1 l2 : Option AV) (x y : Int32) (st : List AV) : VV 16 h 46 [l0, l1, l2] (.inl y :: .inl x :: st) Q ↔ VV 16 h 47 [l0, l1, l2] (.inl (x + y) :: st) Q := VV_step rfl rfl rfl rfl
theorem xr_16_47 (h : AHp) (Q : Option Int32 → AHp → Prop) (l0 l1 l2 : Option AV) (v : Int32) (i : Nat) (st : List AV) : VV 16 h 47 [l0, l1, l2] (.inl v :: .inr (0, i) :: st) Q ↔ VV 16 (ah_up h 0 i 3 v) 50 [l0, l1, l2] st Q := VV_step rfl rfl rfl rfl
theorem xr_16_50 (h : AHp) (Q : Option Int32 → AHp → Prop) (l1 l2 : Option AV) (x : Nat × Nat) (st : List AV) : VV 16 h 50 [some (.inr x), l1, l2] st Q ↔ VV 16 h 51 [some (.inr x), l1, l2] (.inr x :: st) Q := VV_step rfl rfl rfl rfl
theorem xr_16_51 (h : AHp) (Q : Option Int32 → AHp → Prop) (l0 l1 l2 : Option AV) (i : Nat) (st : List AV) : VV 16 h 51 [l0, l1, l2] (.inr (0, i) :: st) Q ↔ VV 16 h 54 [l0, l1, l2] (.inl (h 0 i 3) :: st) Q := VV_step rfl rfl rfl rfl
theorem xr_16_54 (h : AHp) (Q : Option Int32 → AHp → Prop) (l0 l1 l2 : Option AV) (st : List AV) : VV 16 h 54 [l0, l1, l2] st Q ↔ VV 16 h 55 [l0, l1, l2] (.inl (1 : Int32) :: st) Q := VV_step rfl rfl rfl rfl
theorem xr_16_55 (h : AHp) (Q : Option Int32 → AHp → Prop) (l0 l1 l2 : Option AV) (x y : Int32) (st : List AV) : VV 16 h 55 [l0, l1, l2] (.inl y :: .inl x :: st) Q ↔ VV 16 h 56 [l0, l1, l2] (.inl (x - y) :: st) Q := VV_step rfl rfl rfl rfl
theorem xr_16_56 (h : AHp) (Q : Option Int32 → AHp → Prop) (l0 l1 l2 : Option AV) (x : Int32) : VV 16 h 56 [l0, l1, l2] [.inl x] Q ↔ Q (some x) h := VV_end rfl rfl
theorem xr_17_0 (h : AHp) (Q : Option Int32 → AHp → Prop) (l0 : Option AV) (x : Int32) (st : List AV) : VV 17 h 0 [l0, some (.inl x)] st Q ↔ VV 17 h 1 [l0, some (.inl x)] (.inl x :: st) Q := VV_step rfl rfl rfl rfl
theorem xr_17_1 (h : AHp) (Q : Option Int32 → AHp → Prop) (l0 l1 : Option AV) (x : Int32) (st : List AV) : VV 17 h 1 [l0, l1] (.inl x :: st) Q ↔ (x < 0 → VV 17 h 16 [l0, l1] st Q) ∧ (¬ (x < 0) → VV 17 h 4 [l0, l1] st Q) := VV_br rfl rfl rfl decide_eq_true_iff
theorem xr_17_4 (h : AHp) (Q : Option Int32 → AHp → Prop) (l0 : Option AV) (x : Int32) (st : List AV) : VV 17 h 4 [l0, some (.inl x)] st Q ↔ VV 17 h 5 [l0, some (.inl x)] (.inl x :: st) Q := VV_step rfl rfl rfl rfl
theorem xr_17_5 (h : AHp) (Q : Option Int32 → AHp → Prop) (l1 : Option AV) (x : Nat × Nat) (st : List AV) : VV 17 h 5 [some (.inr x), l1] st Q ↔ VV 17 h 6 [some (.inr x), l1] (.inr x :: st) Q := VV_step rfl rfl rfl rfl
theorem xr_17_6 (h : AHp) (Q : Option Int32 → AHp → Prop) (l0 l1 : Option AV) (i : Nat) (st : List AV) : VV 17 h 6 [l0, l1] (.inr (0, i) :: st) Q ↔ VV 17 h 9 [l0, l1] (.inl (h 0 i 3) :: st) Q := VV_step rfl rfl rfl rfl
theorem xr_17_9 (h : AHp) (Q : Option Int32 → AHp → Prop) (l0 l1 : Option AV) (x y : Int32) (st : List AV) : VV 17 h 9 [l0, l1] (.inl y :: .inl x :: st) Q ↔ (y ≤ x → VV 17 h 16 [l0, l1] st Q) ∧ (¬ (y ≤ x) → VV 17 h 12 [l0, l1] st Q) := VV_br2 rfl rfl rfl decide_eq_true_iff
theorem xr_17_12 (h : AHp) (Q : Option Int32 → AHp → Prop) (l0 l1 : Option AV) (st : List AV) : VV 17 h 12 [l0, l1] st Q ↔ VV 17 h 13 [l0, l1] (.inl (1 : Int32) :: st) Q := VV_step rfl rfl rfl rfl
theorem xr_17_13 (h : AHp) (Q : Option Int32 → AHp → Prop) (l0 l1 : Option AV) (st : List AV) : VV 17 h 13 [l0, l1] st Q ↔ VV 17 h 17 [l0, l1] st Q := VV_step rfl rfl rfl rfl
theorem xr_17_16 (h : AHp) (Q : Option Int32 → AHp → Prop) (l0 l1 : Option AV) (st : List AV) : VV 17 h 16 [l0, l1] st Q ↔ VV 17 h 17 [l0, l1] (.inl (0 : Int32) :: st) Q := VV_step rfl rfl rfl rfl
theorem xr_17_17 (h : AHp) (Q : Option Int32 → AHp → Prop) (l0 l1 : Option AV) (x : Int32) : VV 17 h 17 [l0, l1] [.inl x] Q ↔ (x = 0 ∨ x = 1) ∧ Q (some x) h := VV_zret rfl rfl
theorem xr_18_0 (h : AHp) (Q : Option Int32 → AHp → Prop) (l0 : Option AV) (x : Int32) (st : List AV) : VV 18 h 0 [l0, some (.inl x)] st Q ↔ VV 18 h 1 [l0, some (.inl x)] (.inl x :: st) Q := VV_step rfl rfl rfl rfl
theorem xr_18_1 (h : AHp) (Q : Option Int32 → AHp → Prop) (l0 l1 : Option AV) (x : Int32) (st : List AV) : VV 18 h 1 [l0, l1] (.inl x :: st) Q ↔ (x < 0 → VV 18 h 16 [l0, l1] st Q) ∧ (¬ (x < 0) → VV 18 h 4 [l0, l1] st Q) := VV_br rfl rfl rfl decide_eq_true_iff
theorem xr_18_4 (h : AHp) (Q : Option Int32 → AHp → Prop) (l0 : Option AV) (x : Int32) (st : List AV) : VV 18 h 4 [l0, some (.inl x)] st Q ↔ VV 18 h 5 [l0, some (.inl x)] (.inl x :: st) Q := VV_step rfl rfl rfl rfl
theorem xr_18_5 (h : AHp) (Q : Option Int32 → AHp → Prop) (l1 : Option AV) (x : Nat × Nat) (st : List AV) : VV 18 h 5 [some (.inr x), l1] st Q ↔ VV 18 h 6 [some (.inr x), l1] (.inr x :: st) Q := VV_step rfl rfl rfl rfl
theorem xr_18_6 (h : AHp) (Q : Option Int32 → AHp → Prop) (l0 l1 : Option AV) (i : Nat) (st : List AV) : VV 18 h 6 [l0, l1] (.inr (0, i) :: st) Q ↔ VV 18 h 9 [l0, l1] (.inl (h 0 i 4) :: st) Q := VV_step rfl rfl rfl rfl
theorem xr_18_9 (h : AHp) (Q : Option Int32 → AHp → Prop) (l0 l1 : Option AV) (x y : Int32) (st : List AV) : VV 18 h 9 [l0, l1] (.inl y :: .inl x :: st) Q ↔ (y ≤ x → VV 18 h 16 [l0, l1] st Q) ∧ (¬ (y ≤ x) → VV 18 h 12 [l0, l1] st Q) := VV_br2 rfl rfl rfl decide_eq_true_iff
theorem xr_18_12 (h : AHp) (Q : Option Int32 → AHp → Prop) (l0 l1 : Option AV) (st : List AV) : VV 18 h 12 [l0, l1] st Q ↔ VV 18 h 13 [l0, l1] (.inl (1 : Int32) :: st) Q := VV_step rfl rfl rfl rfl
theorem xr_18_13 (h : AHp) (Q : Option Int32 → AHp → Prop) (l0 l1 : Option AV) (st : List AV) : VV 18 h 13 [l0, l1] st Q ↔ VV 18 h 17 [l0, l1] st Q := VV_step rfl rfl rfl rfl
theorem xr_18_16 (h : AHp) (Q : Option Int32 → AHp → Prop) (l0 l1 : Option AV) (st : List AV) : VV 18 h 16 [l0, l1] st Q ↔ VV 18 h 17 [l0, l1] (.inl (0 : Int32) :: st) Q := VV_step rfl rfl rfl rfl
theorem xr_18_17 (h : AHp) (Q : Option Int32 → AHp → Prop) (l0 l1 : Option AV) (x : Int32) : VV 18 h 17 [l0, l1] [.inl x] Q ↔ (x = 0 ∨ x = 1) ∧ Q (some x) h := VV_zret rfl rfl
theorem xr_19_0 (h : AHp) (Q : Option Int32 → AHp → Prop) (l1 l2 : Option AV) (x : Nat × Nat) (st : List AV) : VV 19 h 0 [some (.inr x), l1, l2] st Q ↔ VV 19 h 1 [some (.inr x), l1, l2] (.inr x :: st) Q := VV_step rfl rfl rfl rfl
theorem xr_19_1 (h : AHp) (Q : Option Int32 → AHp → Prop) (l0 l2 : Option AV) (x : Int32) (st : List AV) : VV 19 h 1 [l0, some (.inl x), l2] st Q ↔ VV 19 h 2 [l0, some (.inl x), l2] (.inl x :: st) Q := VV_step rfl rfl rfl rfl
theorem xr_19_2 (h : AHp) (Q : Option Int32 → AHp → Prop) (l0 l1 l2 : Option AV) (a0 : AV) (i : Nat) : VV 19 h 2 [l0, l1, l2] [a0, .inr (0, i)] Q ↔ Vi 18 h [some (.inr (0, i)), some a0] (fun z h2 => VV 19 h2 5 [l0, l1, l2] [.inl z] Q) := VV_calli (y := 18) (as := [.inr (0, i), a0]) (rest := []) rfl rfl rfl (ah_noV (y := 18) (by decide))
theorem xr_19_5 (h : AHp) (Q : Option Int32 → AHp → Prop) (l0 l1 l2 : Option AV) (x : Int32) (st : List AV) : VV 19 h 5 [l0, l1, l2] (.inl x :: st) Q ↔ (x = 0 → VV 19 h 33 [l0, l1, l2] st Q) ∧ (¬ (x = 0) → VV 19 h 8 [l0, l1, l2] st Q) := VV_br rfl rfl rfl decide_eq_true_iff
theorem xr_19_8 (h : AHp) (Q : Option Int32 → AHp → Prop) (l1 l2 : Option AV) (x : Nat × Nat) (st : List AV) : VV 19 h 8 [some (.inr x), l1, l2] st Q ↔ VV 19 h 9 [some (.inr x), l1, l2] (.inr x :: st) Q := VV_step rfl rfl rfl rfl
theorem xr_19_9 (h : AHp) (Q : Option Int32 → AHp → Prop) (l0 l1 : Option AV) (x : Int32) (st : List AV) : VV 19 h 9 [l0, l1, some (.inl x)] st Q ↔ VV 19 h 10 [l0, l1, some (.inl x)] (.inl x :: st) Q := VV_step rfl rfl rfl rfl
theorem xr_19_10 (h : AHp) (Q : Option Int32 → AHp → Prop) (l0 l1 l2 : Option AV) (a0 : AV) (i : Nat) : VV 19 h 10 [l0, l1, l2] [a0, .inr (0, i)] Q ↔ Vi 14 h [some (.inr (0, i)), some a0] (fun z h2 => VV 19 h2 13 [l0, l1, l2] [.inl z] Q) := VV_calli (y := 14) (as := [.inr (0, i), a0]) (rest := []) rfl rfl rfl (ah_noV (y := 14) (by decide))
theorem xr_19_13 (h : AHp) (Q : Option Int32 → AHp → Prop) (l0 l1 l2 : Option AV) (x : Int32) (st : List AV) : VV 19 h 13 [l0, l1, l2] (.inl x :: st) Q ↔ (x = 0 → VV 19 h 33 [l0, l1, l2] st Q) ∧ (¬ (x = 0) → VV 19 h 16 [l0, l1, l2] st Q) := VV_br rfl rfl rfl decide_eq_true_iff
theorem xr_19_16 (h : AHp) (Q : Option Int32 → AHp → Prop) (l1 l2 : Option AV) (x : Nat × Nat) (st : List AV) : VV 19 h 16 [some (.inr x), l1, l2] st Q ↔ VV 19 h 17 [some (.inr x), l1, l2] (.inr x :: st) Q := VV_step rfl rfl rfl rfl
theorem xr_19_17 (h : AHp) (Q : Option Int32 → AHp → Prop) (l0 l1 l2 : Option AV) (i : Nat) (st : List AV) : VV 19 h 17 [l0, l1, l2] (.inr (0, i) :: st) Q ↔ VV 19 h 20 [l0, l1, l2] (.inr (2, i) :: st) Q := VV_step rfl rfl rfl rfl
theorem xr_19_20 (h : AHp) (Q : Option Int32 → AHp → Prop) (l0 l2 : Option AV) (x : Int32) (st : List AV) : VV 19 h 20 [l0, some (.inl x), l2] st Q ↔ VV 19 h 21 [l0, some (.inl x), l2] (.inl x :: st) Q := VV_step rfl rfl rfl rfl
theorem xr_19_21_1 (h : AHp) (Q : Option Int32 → AHp → Prop) (l0 l1 l2 : Option AV) (x : Int32) (i : Nat) (st : List AV) : VV 19 h 21 [l0, l1, l2] (.inl x :: .inr (1, i) :: st) Q ↔ vp_in x 20 ∧ VV 19 h 22 [l0, l1, l2] (.inr (3, x.toNatClampNeg) :: st) Q := VV_aald rfl rfl
theorem xr_19_21_2 (h : AHp) (Q : Option Int32 → AHp → Prop) (l0 l1 l2 : Option AV) (x : Int32) (i : Nat) (st : List AV) : VV 19 h 21 [l0, l1, l2] (.inl x :: .inr (2, i) :: st) Q ↔ vp_in x 8 ∧ VV 19 h 22 [l0, l1, l2] (.inr (4, x.toNatClampNeg) :: st) Q := VV_aald rfl rfl
theorem xr_19_22 (h : AHp) (Q : Option Int32 → AHp → Prop) (l0 l1 : Option AV) (x : Int32) (st : List AV) : VV 19 h 22 [l0, l1, some (.inl x)] st Q ↔ VV 19 h 23 [l0, l1, some (.inl x)] (.inl x :: st) Q := VV_step rfl rfl rfl rfl
theorem xr_19_23 (h : AHp) (Q : Option Int32 → AHp → Prop) (l0 l1 l2 : Option AV) (a0 : AV) (i : Nat) : VV 19 h 23 [l0, l1, l2] [a0, .inr (4, i)] Q ↔ Vi 5 h [some (.inr (4, i)), some a0] (fun z h2 => VV 19 h2 26 [l0, l1, l2] [.inl z] Q) := VV_calli (y := 5) (as := [.inr (4, i), a0]) (rest := []) rfl rfl rfl (ah_noV (y := 5) (by decide))
theorem xr_19_26 (h : AHp) (Q : Option Int32 → AHp → Prop) (l0 l1 l2 : Option AV) (x : Int32) (st : List AV) : VV 19 h 26 [l0, l1, l2] (.inl x :: st) Q ↔ (x = 0 → VV 19 h 33 [l0, l1, l2] st Q) ∧ (¬ (x = 0) → VV 19 h 29 [l0, l1, l2] st Q) := VV_br rfl rfl rfl decide_eq_true_iff
theorem xr_19_29 (h : AHp) (Q : Option Int32 → AHp → Prop) (l0 l1 l2 : Option AV) (st : List AV) : VV 19 h 29 [l0, l1, l2] st Q ↔ VV 19 h 30 [l0, l1, l2] (.inl (1 : Int32) :: st) Q := VV_step rfl rfl rfl rfl
theorem xr_19_30 (h : AHp) (Q : Option Int32 → AHp → Prop) (l0 l1 l2 : Option AV) (st : List AV) : VV 19 h 30 [l0, l1, l2] st Q ↔ VV 19 h 34 [l0, l1, l2] st Q := VV_step rfl rfl rfl rfl
theorem xr_19_33 (h : AHp) (Q : Option Int32 → AHp → Prop) (l0 l1 l2 : Option AV) (st : List AV) : VV 19 h 33 [l0, l1, l2] st Q ↔ VV 19 h 34 [l0, l1, l2] (.inl (0 : Int32) :: st) Q := VV_step rfl rfl rfl rfl
theorem xr_19_34 (h : AHp) (Q : Option Int32 → AHp → Prop) (l0 l1 l2 : Option AV) (x : Int32) : VV 19 h 34 [l0, l1, l2] [.inl x] Q ↔ (x = 0 ∨ x = 1) ∧ Q (some x) h := VV_zret rfl rfl
theorem xr_20_0 (h : AHp) (Q : Option Int32 → AHp → Prop) (l0 l1 l3 : Option AV) (x : Int32) (st : List AV) : VV 20 h 0 [l0, l1, some (.inl x), l3] st Q ↔ VV 20 h 1 [l0, l1, some (.inl x), l3] (.inl x :: st) Q := VV_step rfl rfl rfl rfl
theorem xr_20_1 (h : AHp) (Q : Option Int32 → AHp → Prop) (l0 l1 l2 l3 : Option AV) (x : Int32) (st : List AV) : VV 20 h 1 [l0, l1, l2, l3] (.inl x :: st) Q ↔ (x < 0 → VV 20 h 39 [l0, l1, l2, l3] st Q) ∧ (¬ (x < 0) → VV 20 h 4 [l0, l1, l2, l3] st Q) := VV_br rfl rfl rfl decide_eq_true_iff
theorem xr_20_4 (h : AHp) (Q : Option Int32 → AHp → Prop) (l1 l2 l3 : Option AV) (x : Nat × Nat) (st : List AV) : VV 20 h 4 [some (.inr x), l1, l2, l3] st Q ↔ VV 20 h 5 [some (.inr x), l1, l2, l3] (.inr x :: st) Q := VV_step rfl rfl rfl rfl
theorem xr_20_5 (h : AHp) (Q : Option Int32 → AHp → Prop) (l0 l1 l3 : Option AV) (x : Int32) (st : List AV) : VV 20 h 5 [l0, l1, some (.inl x), l3] st Q ↔ VV 20 h 6 [l0, l1, some (.inl x), l3] (.inl x :: st) Q := VV_step rfl rfl rfl rfl
theorem xr_20_6 (h : AHp) (Q : Option Int32 → AHp → Prop) (l0 l1 l2 l3 : Option AV) (a0 : AV) (i : Nat) : VV 20 h 6 [l0, l1, l2, l3] [a0, .inr (0, i)] Q ↔ Vi 17 h [some (.inr (0, i)), some a0] (fun z h2 => VV 20 h2 9 [l0, l1, l2, l3] [.inl z] Q) := VV_calli (y := 17) (as := [.inr (0, i), a0]) (rest := []) rfl rfl rfl (ah_noV (y := 17) (by decide))
theorem xr_20_9 (h : AHp) (Q : Option Int32 → AHp → Prop) (l0 l1 l2 l3 : Option AV) (x : Int32) (st : List AV) : VV 20 h 9 [l0, l1, l2, l3] (.inl x :: st) Q ↔ (x = 0 → VV 20 h 37 [l0, l1, l2, l3] st Q) ∧ (¬ (x = 0) → VV 20 h 12 [l0, l1, l2, l3] st Q) := VV_br rfl rfl rfl decide_eq_true_iff
theorem xr_20_12 (h : AHp) (Q : Option Int32 → AHp → Prop) (l1 l2 l3 : Option AV) (x : Nat × Nat) (st : List AV) : VV 20 h 12 [some (.inr x), l1, l2, l3] st Q ↔ VV 20 h 13 [some (.inr x), l1, l2, l3] (.inr x :: st) Q := VV_step rfl rfl rfl rfl
theorem xr_20_13 (h : AHp) (Q : Option Int32 → AHp → Prop) (l0 l1 l2 l3 : Option AV) (i : Nat) (st : List AV) : VV 20 h 13 [l0, l1, l2, l3] (.inr (0, i) :: st) Q ↔ VV 20 h 16 [l0, l1, l2, l3] (.inr (1, i) :: st) Q := VV_step rfl rfl rfl rfl
theorem xr_20_16 (h : AHp) (Q : Option Int32 → AHp → Prop) (l0 l1 l3 : Option AV) (x : Int32) (st : List AV) : VV 20 h 16 [l0, l1, some (.inl x), l3] st Q ↔ VV 20 h 17 [l0, l1, some (.inl x), l3] (.inl x :: st) Q := VV_step rfl rfl rfl rfl
theorem xr_20_17_1 (h : AHp) (Q : Option Int32 → AHp → Prop) (l0 l1 l2 l3 : Option AV) (x : Int32) (i : Nat) (st : List AV) : VV 20 h 17 [l0, l1, l2, l3] (.inl x :: .inr (1, i) :: st) Q ↔ vp_in x 20 ∧ VV 20 h 18 [l0, l1, l2, l3] (.inr (3, x.toNatClampNeg) :: st) Q := VV_aald rfl rfl
theorem xr_20_17_2 (h : AHp) (Q : Option Int32 → AHp → Prop) (l0 l1 l2 l3 : Option AV) (x : Int32) (i : Nat) (st : List AV) : VV 20 h 17 [l0, l1, l2, l3] (.inl x :: .inr (2, i) :: st) Q ↔ vp_in x 8 ∧ VV 20 h 18 [l0, l1, l2, l3] (.inr (4, x.toNatClampNeg) :: st) Q := VV_aald rfl rfl
theorem xr_20_18 (h : AHp) (Q : Option Int32 → AHp → Prop) (l0 l1 l2 l3 : Option AV) (i : Nat) (st : List AV) : VV 20 h 18 [l0, l1, l2, l3] (.inr (3, i) :: st) Q ↔ VV 20 h 21 [l0, l1, l2, l3] (.inl (h 3 i 0) :: st) Q := VV_step rfl rfl rfl rfl
theorem xr_20_21 (h : AHp) (Q : Option Int32 → AHp → Prop) (l0 l2 l3 : Option AV) (x : Int32) (st : List AV) : VV 20 h 21 [l0, some (.inl x), l2, l3] st Q ↔ VV 20 h 22 [l0, some (.inl x), l2, l3] (.inl x :: st) Q := VV_step rfl rfl rfl rfl
theorem xr_20_22 (h : AHp) (Q : Option Int32 → AHp → Prop) (l0 l1 l2 l3 : Option AV) (x y : Int32) (st : List AV) : VV 20 h 22 [l0, l1, l2, l3] (.inl y :: .inl x :: st) Q ↔ (¬ x = y → VV 20 h 37 [l0, l1, l2, l3] st Q) ∧ (¬ (¬ x = y) → VV 20 h 25 [l0, l1, l2, l3] st Q) := VV_br2 rfl rfl rfl decide_eq_true_iff
theorem xr_20_25 (h : AHp) (Q : Option Int32 → AHp → Prop) (l1 l2 l3 : Option AV) (x : Nat × Nat) (st : List AV) : VV 20 h 25 [some (.inr x), l1, l2, l3] st Q ↔ VV 20 h 26 [some (.inr x), l1, l2, l3] (.inr x :: st) Q := VV_step rfl rfl rfl rfl
theorem xr_20_26 (h : AHp) (Q : Option Int32 → AHp → Prop) (l0 l1 l2 l3 : Option AV) (i : Nat) (st : List AV) : VV 20 h 26 [l0, l1, l2, l3] (.inr (0, i) :: st) Q ↔ VV 20 h 29 [l0, l1, l2, l3] (.inr (1, i) :: st) Q := VV_step rfl rfl rfl rfl
theorem xr_20_29 (h : AHp) (Q : Option Int32 → AHp → Prop) (l0 l1 l3 : Option AV) (x : Int32) (st : List AV) : VV 20 h 29 [l0, l1, some (.inl x), l3] st Q ↔ VV 20 h 30 [l0, l1, some (.inl x), l3] (.inl x :: st) Q := VV_step rfl rfl rfl rfl
theorem xr_20_30_1 (h : AHp) (Q : Option Int32 → AHp → Prop) (l0 l1 l2 l3 : Option AV) (x : Int32) (i : Nat) (st : List AV) : VV 20 h 30 [l0, l1, l2, l3] (.inl x :: .inr (1, i) :: st) Q ↔ vp_in x 20 ∧ VV 20 h 31 [l0, l1, l2, l3] (.inr (3, x.toNatClampNeg) :: st) Q := VV_aald rfl rfl
theorem xr_20_30_2 (h : AHp) (Q : Option Int32 → AHp → Prop) (l0 l1 l2 l3 : Option AV) (x : Int32) (i : Nat) (st : List AV) : VV 20 h 30 [l0, l1, l2, l3] (.inl x :: .inr (2, i) :: st) Q ↔ vp_in x 8 ∧ VV 20 h 31 [l0, l1, l2, l3] (.inr (4, x.toNatClampNeg) :: st) Q := VV_aald rfl rfl
theorem xr_20_31 (h : AHp) (Q : Option Int32 → AHp → Prop) (l0 l1 l2 l3 : Option AV) (i : Nat) (st : List AV) : VV 20 h 31 [l0, l1, l2, l3] (.inr (3, i) :: st) Q ↔ VV 20 h 34 [l0, l1, l2, l3] (.inl (h 3 i 1) :: st) Q := VV_step rfl rfl rfl rfl
theorem xr_20_34 (h : AHp) (Q : Option Int32 → AHp → Prop) (l0 l1 l2 l3 : Option AV) (st : List AV) : VV 20 h 34 [l0, l1, l2, l3] st Q ↔ VV 20 h 38 [l0, l1, l2, l3] st Q := VV_step rfl rfl rfl rfl
theorem xr_20_37 (h : AHp) (Q : Option Int32 → AHp → Prop) (l0 l1 l2 l3 : Option AV) (st : List AV) : VV 20 h 37 [l0, l1, l2, l3] st Q ↔ VV 20 h 38 [l0, l1, l2, l3] (.inl (-1 : Int32) :: st) Q := VV_step rfl rfl rfl rfl
theorem xr_20_38 (h : AHp) (Q : Option Int32 → AHp → Prop) (l0 l1 l2 l3 : Option AV) (x : Int32) : VV 20 h 38 [l0, l1, l2, l3] [.inl x] Q ↔ Q (some x) h := VV_end rfl rfl
theorem xr_20_39 (h : AHp) (Q : Option Int32 → AHp → Prop) (l0 l1 l2 l3 : Option AV) (st : List AV) : VV 20 h 39 [l0, l1, l2, l3] st Q ↔ VV 20 h 40 [l0, l1, l2, l3] (.inl (-1 : Int32) :: st) Q := VV_step rfl rfl rfl rfl
theorem xr_20_40 (h : AHp) (Q : Option Int32 → AHp → Prop) (l0 l1 l3 : Option AV) (x : Int32) (st : List AV) : VV 20 h 40 [l0, l1, some (.inl x), l3] st Q ↔ VV 20 h 41 [l0, l1, some (.inl x), l3] (.inl x :: st) Q := VV_step rfl rfl rfl rfl
theorem xr_20_41 (h : AHp) (Q : Option Int32 → AHp → Prop) (l0 l1 l2 l3 : Option AV) (x y : Int32) (st : List AV) : VV 20 h 41 [l0, l1, l2, l3] (.inl y :: .inl x :: st) Q ↔ VV 20 h 42 [l0, l1, l2, l3] (.inl (x - y) :: st) Q := VV_step rfl rfl rfl rfl
theorem xr_20_42 (h : AHp) (Q : Option Int32 → AHp → Prop) (l0 l1 l2 l3 : Option AV) (x : Int32) (st : List AV) : VV 20 h 42 [l0, l1, l2, l3] (.inl x :: st) Q ↔ VV 20 h 43 [l0, l1, l2, some (.inl x)] st Q := VV_step rfl rfl rfl rfl
theorem xr_20_43 (h : AHp) (Q : Option Int32 → AHp → Prop) (l1 l2 l3 : Option AV) (x : Nat × Nat) (st : List AV) : VV 20 h 43 [some (.inr x), l1, l2, l3] st Q ↔ VV 20 h 44 [some (.inr x), l1, l2, l3] (.inr x :: st) Q := VV_step rfl rfl rfl rfl
theorem xr_20_44 (h : AHp) (Q : Option Int32 → AHp → Prop) (l0 l1 l2 : Option AV) (x : Int32) (st : List AV) : VV 20 h 44 [l0, l1, l2, some (.inl x)] st Q ↔ VV 20 h 45 [l0, l1, l2, some (.inl x)] (.inl x :: st) Q := VV_step rfl rfl rfl rfl
theorem xr_20_45 (h : AHp) (Q : Option Int32 → AHp → Prop) (l0 l2 l3 : Option AV) (x : Int32) (st : List AV) : VV 20 h 45 [l0, some (.inl x), l2, l3] st Q ↔ VV 20 h 46 [l0, some (.inl x), l2, l3] (.inl x :: st) Q := VV_step rfl rfl rfl rfl
theorem xr_20_46 (h : AHp) (Q : Option Int32 → AHp → Prop) (l0 l1 l2 l3 : Option AV) (a0 a1 : AV) (i : Nat) : VV 20 h 46 [l0, l1, l2, l3] [a1, a0, .inr (0, i)] Q ↔ Vi 19 h [some (.inr (0, i)), some a0, some a1] (fun z h2 => VV 20 h2 49 [l0, l1, l2, l3] [.inl z] Q) := VV_calli (y := 19) (as := [.inr (0, i), a0, a1]) (rest := []) rfl rfl rfl (ah_noV (y := 19) (by decide))
theorem xr_20_49 (h : AHp) (Q : Option Int32 → AHp → Prop) (l0 l1 l2 l3 : Option AV) (x : Int32) (st : List AV) : VV 20 h 49 [l0, l1, l2, l3] (.inl x :: st) Q ↔ (x = 0 → VV 20 h 66 [l0, l1, l2, l3] st Q) ∧ (¬ (x = 0) → VV 20 h 52 [l0, l1, l2, l3] st Q) := VV_br rfl rfl rfl decide_eq_true_iff
theorem xr_20_52 (h : AHp) (Q : Option Int32 → AHp → Prop) (l1 l2 l3 : Option AV) (x : Nat × Nat) (st : List AV) : VV 20 h 52 [some (.inr x), l1, l2, l3] st Q ↔ VV 20 h 53 [some (.inr x), l1, l2, l3] (.inr x :: st) Q := VV_step rfl rfl rfl rfl
theorem xr_20_53 (h : AHp) (Q : Option Int32 → AHp → Prop) (l0 l1 l2 l3 : Option AV) (i : Nat) (st : List AV) : VV 20 h 53 [l0, l1, l2, l3] (.inr (0, i) :: st) Q ↔ VV 20 h 56 [l0, l1, l2, l3] (.inr (2, i) :: st) Q := VV_step rfl rfl rfl rfl
theorem xr_20_56 (h : AHp) (Q : Option Int32 → AHp → Prop) (l0 l1 l2 : Option AV) (x : Int32) (st : List AV) : VV 20 h 56 [l0, l1, l2, some (.inl x)] st Q ↔ VV 20 h 57 [l0, l1, l2, some (.inl x)] (.inl x :: st) Q := VV_step rfl rfl rfl rfl
theorem xr_20_57_1 (h : AHp) (Q : Option Int32 → AHp → Prop) (l0 l1 l2 l3 : Option AV) (x : Int32) (i : Nat) (st : List AV) : VV 20 h 57 [l0, l1, l2, l3] (.inl x :: .inr (1, i) :: st) Q ↔ vp_in x 20 ∧ VV 20 h 58 [l0, l1, l2, l3] (.inr (3, x.toNatClampNeg) :: st) Q := VV_aald rfl rfl
theorem xr_20_57_2 (h : AHp) (Q : Option Int32 → AHp → Prop) (l0 l1 l2 l3 : Option AV) (x : Int32) (i : Nat) (st : List AV) : VV 20 h 57 [l0, l1, l2, l3] (.inl x :: .inr (2, i) :: st) Q ↔ vp_in x 8 ∧ VV 20 h 58 [l0, l1, l2, l3] (.inr (4, x.toNatClampNeg) :: st) Q := VV_aald rfl rfl
theorem xr_20_58 (h : AHp) (Q : Option Int32 → AHp → Prop) (l0 l1 l2 l3 : Option AV) (i : Nat) (st : List AV) : VV 20 h 58 [l0, l1, l2, l3] (.inr (4, i) :: st) Q ↔ VV 20 h 61 [l0, l1, l2, l3] (.inr (6, i) :: st) Q := VV_step rfl rfl rfl rfl
theorem xr_20_61 (h : AHp) (Q : Option Int32 → AHp → Prop) (l0 l2 l3 : Option AV) (x : Int32) (st : List AV) : VV 20 h 61 [l0, some (.inl x), l2, l3] st Q ↔ VV 20 h 62 [l0, some (.inl x), l2, l3] (.inl x :: st) Q := VV_step rfl rfl rfl rfl
theorem xr_20_62 (h : AHp) (Q : Option Int32 → AHp → Prop) (l0 l1 l2 l3 : Option AV) (x : Int32) (k i : Nat) (st : List AV) : VV 20 h 62 [l0, l1, l2, l3] (.inl x :: .inr (k, i) :: st) Q ↔ ix_i k x ∧ VV 20 h 63 [l0, l1, l2, l3] (.inl (h k i x.toNatClampNeg) :: st) Q := VV_iald rfl
theorem xr_20_63 (h : AHp) (Q : Option Int32 → AHp → Prop) (l0 l1 l2 l3 : Option AV) (st : List AV) : VV 20 h 63 [l0, l1, l2, l3] st Q ↔ VV 20 h 67 [l0, l1, l2, l3] st Q := VV_step rfl rfl rfl rfl
theorem xr_20_66 (h : AHp) (Q : Option Int32 → AHp → Prop) (l0 l1 l2 l3 : Option AV) (st : List AV) : VV 20 h 66 [l0, l1, l2, l3] st Q ↔ VV 20 h 67 [l0, l1, l2, l3] (.inl (-1 : Int32) :: st) Q := VV_step rfl rfl rfl rfl
theorem xr_20_67 (h : AHp) (Q : Option Int32 → AHp → Prop) (l0 l1 l2 l3 : Option AV) (x : Int32) : VV 20 h 67 [l0, l1, l2, l3] [.inl x] Q ↔ Q (some x) h := VV_end rfl rfl
theorem xr_21_0 (h : AHp) (Q : Option Int32 → AHp → Prop) (l1 l2 l3 l4 l5 : Option AV) (x : Nat × Nat) (st : List AV) : VV 21 h 0 [some (.inr x), l1, l2, l3, l4, l5] st Q ↔ VV 21 h 1 [some (.inr x), l1, l2, l3, l4, l5] (.inr x :: st) Q := VV_step rfl rfl rfl rfl
theorem xr_21_1 (h : AHp) (Q : Option Int32 → AHp → Prop) (l0 l2 l3 l4 l5 : Option AV) (x : Int32) (st : List AV) : VV 21 h 1 [l0, some (.inl x), l2, l3, l4, l5] st Q ↔ VV 21 h 2 [l0, some (.inl x), l2, l3, l4, l5] (.inl x :: st) Q := VV_step rfl rfl rfl rfl
theorem xr_21_2 (h : AHp) (Q : Option Int32 → AHp → Prop) (l0 l1 l2 l3 l4 l5 : Option AV) (a0 : AV) (i : Nat) : VV 21 h 2 [l0, l1, l2, l3, l4, l5] [a0, .inr (0, i)] Q ↔ Vi 17 h [some (.inr (0, i)), some a0] (fun z h2 => VV 21 h2 5 [l0, l1, l2, l3, l4, l5] [.inl z] Q) := VV_calli (y := 17) (as := [.inr (0, i), a0]) (rest := []) rfl rfl rfl (ah_noV (y := 17) (by decide))
theorem xr_21_5 (h : AHp) (Q : Option Int32 → AHp → Prop) (l0 l1 l2 l3 l4 l5 : Option AV) (x : Int32) (st : List AV) : VV 21 h 5 [l0, l1, l2, l3, l4, l5] (.inl x :: st) Q ↔ (x = 0 → VV 21 h 15 [l0, l1, l2, l3, l4, l5] st Q) ∧ (¬ (x = 0) → VV 21 h 8 [l0, l1, l2, l3, l4, l5] st Q) := VV_br rfl rfl rfl decide_eq_true_iff
theorem xr_21_8 (h : AHp) (Q : Option Int32 → AHp → Prop) (l0 l1 l2 l4 l5 : Option AV) (x : Int32) (st : List AV) : VV 21 h 8 [l0, l1, l2, some (.inl x), l4, l5] st Q ↔ VV 21 h 9 [l0, l1, l2, some (.inl x), l4, l5] (.inl x :: st) Q := VV_step rfl rfl rfl rfl
theorem xr_21_9 (h : AHp) (Q : Option Int32 → AHp → Prop) (l0 l1 l2 l3 l4 l5 : Option AV) (a0 : AV) : VV 21 h 9 [l0, l1, l2, l3, l4, l5] [a0] Q ↔ Vi 15 h [some a0] (fun z h2 => VV 21 h2 12 [l0, l1, l2, l3, l4, l5] [.inl z] Q) := VV_calli (y := 15) (as := [a0]) (rest := []) rfl rfl rfl (ah_noV (y := 15) (by decide))
theorem xr_21_12 (h : AHp) (Q : Option Int32 → AHp → Prop) (l0 l1 l2 l3 l4 l5 : Option AV) (x : Int32) (st : List AV) : VV 21 h 12 [l0, l1, l2, l3, l4, l5] (.inl x :: st) Q ↔ (¬ x = 0 → VV 21 h 17 [l0, l1, l2, l3, l4, l5] st Q) ∧ (¬ (¬ x = 0) → VV 21 h 15 [l0, l1, l2, l3, l4, l5] st Q) := VV_br rfl rfl rfl decide_eq_true_iff
theorem xr_21_15 (h : AHp) (Q : Option Int32 → AHp → Prop) (l0 l1 l2 l3 l4 l5 : Option AV) (st : List AV) : VV 21 h 15 [l0, l1, l2, l3, l4, l5] st Q ↔ VV 21 h 16 [l0, l1, l2, l3, l4, l5] (.inl (-1 : Int32) :: st) Q := VV_step rfl rfl rfl rfl
theorem xr_21_16 (h : AHp) (Q : Option Int32 → AHp → Prop) (l0 l1 l2 l3 l4 l5 : Option AV) (x : Int32) : VV 21 h 16 [l0, l1, l2, l3, l4, l5] [.inl x] Q ↔ Q (some x) h := VV_end rfl rfl
theorem xr_21_17 (h : AHp) (Q : Option Int32 → AHp → Prop) (l1 l2 l3 l4 l5 : Option AV) (x : Nat × Nat) (st : List AV) : VV 21 h 17 [some (.inr x), l1, l2, l3, l4, l5] st Q ↔ VV 21 h 18 [some (.inr x), l1, l2, l3, l4, l5] (.inr x :: st) Q := VV_step rfl rfl rfl rfl
theorem xr_21_18 (h : AHp) (Q : Option Int32 → AHp → Prop) (l0 l1 l2 l3 l4 l5 : Option AV) (i : Nat) (st : List AV) : VV 21 h 18 [l0, l1, l2, l3, l4, l5] (.inr (0, i) :: st) Q ↔ VV 21 h 21 [l0, l1, l2, l3, l4, l5] (.inr (1, i) :: st) Q := VV_step rfl rfl rfl rfl
theorem xr_21_21 (h : AHp) (Q : Option Int32 → AHp → Prop) (l0 l2 l3 l4 l5 : Option AV) (x : Int32) (st : List AV) : VV 21 h 21 [l0, some (.inl x), l2, l3, l4, l5] st Q ↔ VV 21 h 22 [l0, some (.inl x), l2, l3, l4, l5] (.inl x :: st) Q := VV_step rfl rfl rfl rfl
theorem xr_21_22_1 (h : AHp) (Q : Option Int32 → AHp → Prop) (l0 l1 l2 l3 l4 l5 : Option AV) (x : Int32) (i : Nat) (st : List AV) : VV 21 h 22 [l0, l1, l2, l3, l4, l5] (.inl x :: .inr (1, i) :: st) Q ↔ vp_in x 20 ∧ VV 21 h 23 [l0, l1, l2, l3, l4, l5] (.inr (3, x.toNatClampNeg) :: st) Q := VV_aald rfl rfl
theorem xr_21_22_2 (h : AHp) (Q : Option Int32 → AHp → Prop) (l0 l1 l2 l3 l4 l5 : Option AV) (x : Int32) (i : Nat) (st : List AV) : VV 21 h 22 [l0, l1, l2, l3, l4, l5] (.inl x :: .inr (2, i) :: st) Q ↔ vp_in x 8 ∧ VV 21 h 23 [l0, l1, l2, l3, l4, l5] (.inr (4, x.toNatClampNeg) :: st) Q := VV_aald rfl rfl
theorem xr_21_23 (h : AHp) (Q : Option Int32 → AHp → Prop) (l0 l1 l2 l3 l4 l5 : Option AV) (x : Nat × Nat) (st : List AV) : VV 21 h 23 [l0, l1, l2, l3, l4, l5] (.inr x :: st) Q ↔ VV 21 h 25 [l0, l1, l2, l3, some (.inr x), l5] st Q := VV_step rfl rfl rfl rfl
theorem xr_21_25 (h : AHp) (Q : Option Int32 → AHp → Prop) (l1 l2 l3 l4 l5 : Option AV) (x : Nat × Nat) (st : List AV) : VV 21 h 25 [some (.inr x), l1, l2, l3, l4, l5] st Q ↔ VV 21 h 26 [some (.inr x), l1, l2, l3, l4, l5] (.inr x :: st) Q := VV_step rfl rfl rfl rfl
theorem xr_21_26 (h : AHp) (Q : Option Int32 → AHp → Prop) (l0 l1 l2 l3 l5 : Option AV) (x : Nat × Nat) (st : List AV) : VV 21 h 26 [l0, l1, l2, l3, some (.inr x), l5] st Q ↔ VV 21 h 28 [l0, l1, l2, l3, some (.inr x), l5] (.inr x :: st) Q := VV_step rfl rfl rfl rfl
theorem xr_21_28 (h : AHp) (Q : Option Int32 → AHp → Prop) (l0 l1 l2 l3 l4 l5 : Option AV) (i : Nat) (st : List AV) : VV 21 h 28 [l0, l1, l2, l3, l4, l5] (.inr (3, i) :: st) Q ↔ VV 21 h 31 [l0, l1, l2, l3, l4, l5] (.inl (h 3 i 0) :: st) Q := VV_step rfl rfl rfl rfl
theorem xr_21_31 (h : AHp) (Q : Option Int32 → AHp → Prop) (l0 l1 l3 l4 l5 : Option AV) (x : Int32) (st : List AV) : VV 21 h 31 [l0, l1, some (.inl x), l3, l4, l5] st Q ↔ VV 21 h 32 [l0, l1, some (.inl x), l3, l4, l5] (.inl x :: st) Q := VV_step rfl rfl rfl rfl
theorem xr_21_32 (h : AHp) (Q : Option Int32 → AHp → Prop) (l0 l1 l2 l3 l4 l5 : Option AV) (a0 a1 : AV) (i : Nat) : VV 21 h 32 [l0, l1, l2, l3, l4, l5] [a1, a0, .inr (0, i)] Q ↔ Vi 20 h [some (.inr (0, i)), some a0, some a1, none] (fun z h2 => VV 21 h2 35 [l0, l1, l2, l3, l4, l5] [.inl z] Q) := VV_calli (y := 20) (as := [.inr (0, i), a0, a1]) (rest := []) rfl rfl rfl (ah_noV (y := 20) (by decide))
theorem xr_21_35 (h : AHp) (Q : Option Int32 → AHp → Prop) (l0 l1 l2 l3 l4 l5 : Option AV) (x : Int32) (st : List AV) : VV 21 h 35 [l0, l1, l2, l3, l4, l5] (.inl x :: st) Q ↔ VV 21 h 37 [l0, l1, l2, l3, l4, some (.inl x)] st Q := VV_step rfl rfl rfl rfl
theorem xr_21_37 (h : AHp) (Q : Option Int32 → AHp → Prop) (l0 l1 l2 l3 l5 : Option AV) (x : Nat × Nat) (st : List AV) : VV 21 h 37 [l0, l1, l2, l3, some (.inr x), l5] st Q ↔ VV 21 h 39 [l0, l1, l2, l3, some (.inr x), l5] (.inr x :: st) Q := VV_step rfl rfl rfl rfl
theorem xr_21_39 (h : AHp) (Q : Option Int32 → AHp → Prop) (l0 l1 l2 l3 l4 l5 : Option AV) (i : Nat) : VV 21 h 39 [l0, l1, l2, l3, l4, l5] [.inr (3, i)] Q ↔ Vi 1 h [some (.inr (3, i))] (fun z h2 => VV 21 h2 42 [l0, l1, l2, l3, l4, l5] [.inl z] Q) := VV_calli (y := 1) (as := [.inr (3, i)]) (rest := []) rfl rfl rfl (ah_noV (y := 1) (by decide))
theorem xr_21_42 (h : AHp) (Q : Option Int32 → AHp → Prop) (l0 l1 l2 l3 l4 l5 : Option AV) (x : Int32) (st : List AV) : VV 21 h 42 [l0, l1, l2, l3, l4, l5] (.inl x :: st) Q ↔ (x = 0 → VV 21 h 51 [l0, l1, l2, l3, l4, l5] st Q) ∧ (¬ (x = 0) → VV 21 h 45 [l0, l1, l2, l3, l4, l5] st Q) := VV_br rfl rfl rfl decide_eq_true_iff
theorem xr_21_45 (h : AHp) (Q : Option Int32 → AHp → Prop) (l0 l1 l2 l3 l4 : Option AV) (x : Int32) (st : List AV) : VV 21 h 45 [l0, l1, l2, l3, l4, some (.inl x)] st Q ↔ VV 21 h 47 [l0, l1, l2, l3, l4, some (.inl x)] (.inl x :: st) Q := VV_step rfl rfl rfl rfl
theorem xr_21_47 (h : AHp) (Q : Option Int32 → AHp → Prop) (l0 l1 l2 l3 l4 l5 : Option AV) (st : List AV) : VV 21 h 47 [l0, l1, l2, l3, l4, l5] st Q ↔ VV 21 h 48 [l0, l1, l2, l3, l4, l5] (.inl (-1 : Int32) :: st) Q := VV_step rfl rfl rfl rfl
theorem xr_21_48 (h : AHp) (Q : Option Int32 → AHp → Prop) (l0 l1 l2 l3 l4 l5 : Option AV) (x y : Int32) (st : List AV) : VV 21 h 48 [l0, l1, l2, l3, l4, l5] (.inl y :: .inl x :: st) Q ↔ (¬ x = y → VV 21 h 53 [l0, l1, l2, l3, l4, l5] st Q) ∧ (¬ (¬ x = y) → VV 21 h 51 [l0, l1, l2, l3, l4, l5] st Q) := VV_br2 rfl rfl rfl decide_eq_true_iff
theorem xr_21_51 (h : AHp) (Q : Option Int32 → AHp → Prop) (l0 l1 l2 l3 l4 l5 : Option AV) (st : List AV) : VV 21 h 51 [l0, l1, l2, l3, l4, l5] st Q ↔ VV 21 h 52 [l0, l1, l2, l3, l4, l5] (.inl (-1 : Int32) :: st) Q := VV_step rfl rfl rfl rfl
theorem xr_21_52 (h : AHp) (Q : Option Int32 → AHp → Prop) (l0 l1 l2 l3 l4 l5 : Option AV) (x : Int32) : VV 21 h 52 [l0, l1, l2, l3, l4, l5] [.inl x] Q ↔ Q (some x) h := VV_end rfl rfl
theorem xr_21_53 (h : AHp) (Q : Option Int32 → AHp → Prop) (l0 l1 l2 l3 l5 : Option AV) (x : Nat × Nat) (st : List AV) : VV 21 h 53 [l0, l1, l2, l3, some (.inr x), l5] st Q ↔ VV 21 h 55 [l0, l1, l2, l3, some (.inr x), l5] (.inr x :: st) Q := VV_step rfl rfl rfl rfl
theorem xr_21_55 (h : AHp) (Q : Option Int32 → AHp → Prop) (l0 l1 l2 l3 l5 : Option AV) (x : Nat × Nat) (st : List AV) : VV 21 h 55 [l0, l1, l2, l3, some (.inr x), l5] st Q ↔ VV 21 h 57 [l0, l1, l2, l3, some (.inr x), l5] (.inr x :: st) Q := VV_step rfl rfl rfl rfl
theorem xr_21_57 (h : AHp) (Q : Option Int32 → AHp → Prop) (l0 l1 l2 l3 l4 l5 : Option AV) (i : Nat) (st : List AV) : VV 21 h 57 [l0, l1, l2, l3, l4, l5] (.inr (3, i) :: st) Q ↔ VV 21 h 60 [l0, l1, l2, l3, l4, l5] (.inl (h 3 i 0) :: st) Q := VV_step rfl rfl rfl rfl
theorem xr_21_60 (h : AHp) (Q : Option Int32 → AHp → Prop) (l0 l1 l2 l3 l4 : Option AV) (x : Int32) (st : List AV) : VV 21 h 60 [l0, l1, l2, l3, l4, some (.inl x)] st Q ↔ VV 21 h 62 [l0, l1, l2, l3, l4, some (.inl x)] (.inl x :: st) Q := VV_step rfl rfl rfl rfl
theorem xr_21_62 (h : AHp) (Q : Option Int32 → AHp → Prop) (l0 l1 l2 l4 l5 : Option AV) (x : Int32) (st : List AV) : VV 21 h 62 [l0, l1, l2, some (.inl x), l4, l5] st Q ↔ VV 21 h 63 [l0, l1, l2, some (.inl x), l4, l5] (.inl x :: st) Q := VV_step rfl rfl rfl rfl
theorem xr_21_63 (h : AHp) (Q : Option Int32 → AHp → Prop) (l0 l1 l2 l3 l4 l5 : Option AV) (x y : Int32) (st : List AV) : VV 21 h 63 [l0, l1, l2, l3, l4, l5] (.inl y :: .inl x :: st) Q ↔ VV 21 h 64 [l0, l1, l2, l3, l4, l5] (.inl (x ^^^ y) :: st) Q := VV_step rfl rfl rfl rfl
theorem xr_21_64 (h : AHp) (Q : Option Int32 → AHp → Prop) (l0 l1 l2 l3 l4 l5 : Option AV) (a0 a1 : AV) (i : Nat) : VV 21 h 64 [l0, l1, l2, l3, l4, l5] [a1, a0, .inr (3, i)] Q ↔ Vv 0 h [some (.inr (3, i)), some a0, some a1] (fun h2 => VV 21 h2 67 [l0, l1, l2, l3, l4, l5] [] Q) := VV_callv (y := 0) (as := [.inr (3, i), a0, a1]) (rest := []) rfl rfl rfl (ah_noI (y := 0) rfl)
theorem xr_21_67 (h : AHp) (Q : Option Int32 → AHp → Prop) (l0 l1 l2 l3 l5 : Option AV) (x : Nat × Nat) (st : List AV) : VV 21 h 67 [l0, l1, l2, l3, some (.inr x), l5] st Q ↔ VV 21 h 69 [l0, l1, l2, l3, some (.inr x), l5] (.inr x :: st) Q := VV_step rfl rfl rfl rfl
theorem xr_21_69 (h : AHp) (Q : Option Int32 → AHp → Prop) (l0 l1 l2 l3 l4 l5 : Option AV) (i : Nat) (st : List AV) : VV 21 h 69 [l0, l1, l2, l3, l4, l5] (.inr (3, i) :: st) Q ↔ VV 21 h 72 [l0, l1, l2, l3, l4, l5] (.inl (h 3 i 1) :: st) Q := VV_step rfl rfl rfl rfl
theorem xr_21_72 (h : AHp) (Q : Option Int32 → AHp → Prop) (l0 l1 l2 l3 l4 l5 : Option AV) (x : Int32) : VV 21 h 72 [l0, l1, l2, l3, l4, l5] [.inl x] Q ↔ Q (some x) h := VV_end rfl rfl
theorem xr_22_0 (h : AHp) (Q : Option Int32 → AHp → Prop) (l0 : Option AV) (x : Int32) (st : List AV) : VV 22 h 0 [l0, some (.inl x)] st Q ↔ VV 22 h 1 [l0, some (.inl x)] (.inl x :: st) Q := VV_step rfl rfl rfl rfl
theorem xr_22_1 (h : AHp) (Q : Option Int32 → AHp → Prop) (l0 l1 : Option AV) (st : List AV) : VV 22 h 1 [l0, l1] st Q ↔ VV 22 h 2 [l0, l1] (.inl (1 : Int32) :: st) Q := VV_step rfl rfl rfl rfl
theorem xr_22_2 (h : AHp) (Q : Option Int32 → AHp → Prop) (l0 l1 : Option AV) (x y : Int32) (st : List AV) : VV 22 h 2 [l0, l1] (.inl y :: .inl x :: st) Q ↔ (x < y → VV 22 h 20 [l0, l1] st Q) ∧ (¬ (x < y) → VV 22 h 5 [l0, l1] st Q) := VV_br2 rfl rfl rfl decide_eq_true_iff
theorem xr_22_5 (h : AHp) (Q : Option Int32 → AHp → Prop) (l0 : Option AV) (x : Int32) (st : List AV) : VV 22 h 5 [l0, some (.inl x)] st Q ↔ VV 22 h 6 [l0, some (.inl x)] (.inl x :: st) Q := VV_step rfl rfl rfl rfl
theorem xr_22_6 (h : AHp) (Q : Option Int32 → AHp → Prop) (l0 l1 : Option AV) (st : List AV) : VV 22 h 6 [l0, l1] st Q ↔ VV 22 h 8 [l0, l1] (.inl (9 : Int32) :: st) Q := VV_step rfl rfl rfl rfl
theorem xr_22_8 (h : AHp) (Q : Option Int32 → AHp → Prop) (l0 l1 : Option AV) (x y : Int32) (st : List AV) : VV 22 h 8 [l0, l1] (.inl y :: .inl x :: st) Q ↔ (y < x → VV 22 h 20 [l0, l1] st Q) ∧ (¬ (y < x) → VV 22 h 11 [l0, l1] st Q) := VV_br2 rfl rfl rfl decide_eq_true_iff
theorem xr_22_11 (h : AHp) (Q : Option Int32 → AHp → Prop) (l1 : Option AV) (x : Nat × Nat) (st : List AV) : VV 22 h 11 [some (.inr x), l1] st Q ↔ VV 22 h 12 [some (.inr x), l1] (.inr x :: st) Q := VV_step rfl rfl rfl rfl
theorem xr_22_12 (h : AHp) (Q : Option Int32 → AHp → Prop) (l0 l1 : Option AV) (i : Nat) (st : List AV) : VV 22 h 12 [l0, l1] (.inr (0, i) :: st) Q ↔ VV 22 h 15 [l0, l1] (.inl (h 0 i 4) :: st) Q := VV_step rfl rfl rfl rfl
theorem xr_22_15 (h : AHp) (Q : Option Int32 → AHp → Prop) (l0 l1 : Option AV) (st : List AV) : VV 22 h 15 [l0, l1] st Q ↔ VV 22 h 17 [l0, l1] (.inl (8 : Int32) :: st) Q := VV_step rfl rfl rfl rfl
theorem xr_22_17 (h : AHp) (Q : Option Int32 → AHp → Prop) (l0 l1 : Option AV) (x y : Int32) (st : List AV) : VV 22 h 17 [l0, l1] (.inl y :: .inl x :: st) Q ↔ (x < y → VV 22 h 22 [l0, l1] st Q) ∧ (¬ (x < y) → VV 22 h 20 [l0, l1] st Q) := VV_br2 rfl rfl rfl decide_eq_true_iff
theorem xr_22_20 (h : AHp) (Q : Option Int32 → AHp → Prop) (l0 l1 : Option AV) (st : List AV) : VV 22 h 20 [l0, l1] st Q ↔ VV 22 h 21 [l0, l1] (.inl (-1 : Int32) :: st) Q := VV_step rfl rfl rfl rfl
theorem xr_22_21 (h : AHp) (Q : Option Int32 → AHp → Prop) (l0 l1 : Option AV) (x : Int32) : VV 22 h 21 [l0, l1] [.inl x] Q ↔ Q (some x) h := VV_end rfl rfl
theorem xr_22_22 (h : AHp) (Q : Option Int32 → AHp → Prop) (l1 : Option AV) (x : Nat × Nat) (st : List AV) : VV 22 h 22 [some (.inr x), l1] st Q ↔ VV 22 h 23 [some (.inr x), l1] (.inr x :: st) Q := VV_step rfl rfl rfl rfl
theorem xr_22_23 (h : AHp) (Q : Option Int32 → AHp → Prop) (l0 l1 : Option AV) (i : Nat) (st : List AV) : VV 22 h 23 [l0, l1] (.inr (0, i) :: st) Q ↔ VV 22 h 26 [l0, l1] (.inr (2, i) :: st) Q := VV_step rfl rfl rfl rfl
theorem xr_22_26 (h : AHp) (Q : Option Int32 → AHp → Prop) (l1 : Option AV) (x : Nat × Nat) (st : List AV) : VV 22 h 26 [some (.inr x), l1] st Q ↔ VV 22 h 27 [some (.inr x), l1] (.inr x :: st) Q := VV_step rfl rfl rfl rfl
theorem xr_22_27 (h : AHp) (Q : Option Int32 → AHp → Prop) (l0 l1 : Option AV) (i : Nat) (st : List AV) : VV 22 h 27 [l0, l1] (.inr (0, i) :: st) Q ↔ VV 22 h 30 [l0, l1] (.inl (h 0 i 4) :: st) Q := VV_step rfl rfl rfl rfl
theorem xr_22_30_1 (h : AHp) (Q : Option Int32 → AHp → Prop) (l0 l1 : Option AV) (x : Int32) (i : Nat) (st : List AV) : VV 22 h 30 [l0, l1] (.inl x :: .inr (1, i) :: st) Q ↔ vp_in x 20 ∧ VV 22 h 31 [l0, l1] (.inr (3, x.toNatClampNeg) :: st) Q := VV_aald rfl rfl
theorem xr_22_30_2 (h : AHp) (Q : Option Int32 → AHp → Prop) (l0 l1 : Option AV) (x : Int32) (i : Nat) (st : List AV) : VV 22 h 30 [l0, l1] (.inl x :: .inr (2, i) :: st) Q ↔ vp_in x 8 ∧ VV 22 h 31 [l0, l1] (.inr (4, x.toNatClampNeg) :: st) Q := VV_aald rfl rfl
theorem xr_22_31 (h : AHp) (Q : Option Int32 → AHp → Prop) (l0 : Option AV) (x : Int32) (st : List AV) : VV 22 h 31 [l0, some (.inl x)] st Q ↔ VV 22 h 32 [l0, some (.inl x)] (.inl x :: st) Q := VV_step rfl rfl rfl rfl
theorem xr_22_32 (h : AHp) (Q : Option Int32 → AHp → Prop) (l1 : Option AV) (x : Nat × Nat) (st : List AV) : VV 22 h 32 [some (.inr x), l1] st Q ↔ VV 22 h 33 [some (.inr x), l1] (.inr x :: st) Q := VV_step rfl rfl rfl rfl
theorem xr_22_33 (h : AHp) (Q : Option Int32 → AHp → Prop) (l0 l1 : Option AV) (i : Nat) (st : List AV) : VV 22 h 33 [l0, l1] (.inr (0, i) :: st) Q ↔ VV 22 h 36 [l0, l1] (.inl (h 0 i 5) :: st) Q := VV_step rfl rfl rfl rfl
theorem xr_22_36 (h : AHp) (Q : Option Int32 → AHp → Prop) (l0 l1 : Option AV) (a0 a1 : AV) (i : Nat) : VV 22 h 36 [l0, l1] [a1, a0, .inr (4, i)] Q ↔ Vv 3 h [some (.inr (4, i)), some a0, some a1] (fun h2 => VV 22 h2 39 [l0, l1] [] Q) := VV_callv (y := 3) (as := [.inr (4, i), a0, a1]) (rest := []) rfl rfl rfl (ah_noI (y := 3) rfl)
theorem xr_22_39 (h : AHp) (Q : Option Int32 → AHp → Prop) (l1 : Option AV) (x : Nat × Nat) (st : List AV) : VV 22 h 39 [some (.inr x), l1] st Q ↔ VV 22 h 40 [some (.inr x), l1] (.inr x :: st) Q := VV_step rfl rfl rfl rfl
theorem xr_22_40 (h : AHp) (Q : Option Int32 → AHp → Prop) (l0 l1 : Option AV) (v : AV) (st : List AV) : VV 22 h 40 [l0, l1] (v :: st) Q ↔ VV 22 h 41 [l0, l1] (v :: v :: st) Q := VV_step rfl rfl rfl rfl
theorem xr_22_41 (h : AHp) (Q : Option Int32 → AHp → Prop) (l0 l1 : Option AV) (i : Nat) (st : List AV) : VV 22 h 41 [l0, l1] (.inr (0, i) :: st) Q ↔ VV 22 h 44 [l0, l1] (.inl (h 0 i 4) :: st) Q := VV_step rfl rfl rfl rfl
theorem xr_22_44 (h : AHp) (Q : Option Int32 → AHp → Prop) (l0 l1 : Option AV) (st : List AV) : VV 22 h 44 [l0, l1] st Q ↔ VV 22 h 45 [l0, l1] (.inl (1 : Int32) :: st) Q := VV_step rfl rfl rfl rfl
theorem xr_22_45 (h : AHp) (Q : Option Int32 → AHp → Prop) (l0 l1 : Option AV) (x y : Int32) (st : List AV) : VV 22 h 45 [l0, l1] (.inl y :: .inl x :: st) Q ↔ VV 22 h 46 [l0, l1] (.inl (x + y) :: st) Q := VV_step rfl rfl rfl rfl
theorem xr_22_46 (h : AHp) (Q : Option Int32 → AHp → Prop) (l0 l1 : Option AV) (v : Int32) (i : Nat) (st : List AV) : VV 22 h 46 [l0, l1] (.inl v :: .inr (0, i) :: st) Q ↔ VV 22 (ah_up h 0 i 4 v) 49 [l0, l1] st Q := VV_step rfl rfl rfl rfl
theorem xr_22_49 (h : AHp) (Q : Option Int32 → AHp → Prop) (l1 : Option AV) (x : Nat × Nat) (st : List AV) : VV 22 h 49 [some (.inr x), l1] st Q ↔ VV 22 h 50 [some (.inr x), l1] (.inr x :: st) Q := VV_step rfl rfl rfl rfl
theorem xr_22_50 (h : AHp) (Q : Option Int32 → AHp → Prop) (l0 l1 : Option AV) (i : Nat) (st : List AV) : VV 22 h 50 [l0, l1] (.inr (0, i) :: st) Q ↔ VV 22 h 53 [l0, l1] (.inl (h 0 i 4) :: st) Q := VV_step rfl rfl rfl rfl
theorem xr_22_53 (h : AHp) (Q : Option Int32 → AHp → Prop) (l0 l1 : Option AV) (st : List AV) : VV 22 h 53 [l0, l1] st Q ↔ VV 22 h 54 [l0, l1] (.inl (1 : Int32) :: st) Q := VV_step rfl rfl rfl rfl
theorem xr_22_54 (h : AHp) (Q : Option Int32 → AHp → Prop) (l0 l1 : Option AV) (x y : Int32) (st : List AV) : VV 22 h 54 [l0, l1] (.inl y :: .inl x :: st) Q ↔ VV 22 h 55 [l0, l1] (.inl (x - y) :: st) Q := VV_step rfl rfl rfl rfl
theorem xr_22_55 (h : AHp) (Q : Option Int32 → AHp → Prop) (l0 l1 : Option AV) (x : Int32) : VV 22 h 55 [l0, l1] [.inl x] Q ↔ Q (some x) h := VV_end rfl rfl
theorem xr_23_0 (h : AHp) (Q : Option Int32 → AHp → Prop) (l1 l2 l3 : Option AV) (x : Nat × Nat) (st : List AV) : VV 23 h 0 [some (.inr x), l1, l2, l3] st Q ↔ VV 23 h 1 [some (.inr x), l1, l2, l3] (.inr x :: st) Q := VV_step rfl rfl rfl rfl
theorem xr_23_1 (h : AHp) (Q : Option Int32 → AHp → Prop) (l0 l2 l3 : Option AV) (x : Int32) (st : List AV) : VV 23 h 1 [l0, some (.inl x), l2, l3] st Q ↔ VV 23 h 2 [l0, some (.inl x), l2, l3] (.inl x :: st) Q := VV_step rfl rfl rfl rfl
theorem xr_23_2 (h : AHp) (Q : Option Int32 → AHp → Prop) (l0 l1 l2 l3 : Option AV) (a0 : AV) (i : Nat) : VV 23 h 2 [l0, l1, l2, l3] [a0, .inr (0, i)] Q ↔ Vi 18 h [some (.inr (0, i)), some a0] (fun z h2 => VV 23 h2 5 [l0, l1, l2, l3] [.inl z] Q) := VV_calli (y := 18) (as := [.inr (0, i), a0]) (rest := []) rfl rfl rfl (ah_noV (y := 18) (by decide))
theorem xr_23_5 (h : AHp) (Q : Option Int32 → AHp → Prop) (l0 l1 l2 l3 : Option AV) (x : Int32) (st : List AV) : VV 23 h 5 [l0, l1, l2, l3] (.inl x :: st) Q ↔ (x = 0 → VV 23 h 36 [l0, l1, l2, l3] st Q) ∧ (¬ (x = 0) → VV 23 h 8 [l0, l1, l2, l3] st Q) := VV_br rfl rfl rfl decide_eq_true_iff
theorem xr_23_8 (h : AHp) (Q : Option Int32 → AHp → Prop) (l1 l2 l3 : Option AV) (x : Nat × Nat) (st : List AV) : VV 23 h 8 [some (.inr x), l1, l2, l3] st Q ↔ VV 23 h 9 [some (.inr x), l1, l2, l3] (.inr x :: st) Q := VV_step rfl rfl rfl rfl
theorem xr_23_9 (h : AHp) (Q : Option Int32 → AHp → Prop) (l0 l1 l3 : Option AV) (x : Int32) (st : List AV) : VV 23 h 9 [l0, l1, some (.inl x), l3] st Q ↔ VV 23 h 10 [l0, l1, some (.inl x), l3] (.inl x :: st) Q := VV_step rfl rfl rfl rfl
theorem xr_23_10 (h : AHp) (Q : Option Int32 → AHp → Prop) (l0 l1 l2 l3 : Option AV) (a0 : AV) (i : Nat) : VV 23 h 10 [l0, l1, l2, l3] [a0, .inr (0, i)] Q ↔ Vi 14 h [some (.inr (0, i)), some a0] (fun z h2 => VV 23 h2 13 [l0, l1, l2, l3] [.inl z] Q) := VV_calli (y := 14) (as := [.inr (0, i), a0]) (rest := []) rfl rfl rfl (ah_noV (y := 14) (by decide))
theorem xr_23_13 (h : AHp) (Q : Option Int32 → AHp → Prop) (l0 l1 l2 l3 : Option AV) (x : Int32) (st : List AV) : VV 23 h 13 [l0, l1, l2, l3] (.inl x :: st) Q ↔ (x = 0 → VV 23 h 36 [l0, l1, l2, l3] st Q) ∧ (¬ (x = 0) → VV 23 h 16 [l0, l1, l2, l3] st Q) := VV_br rfl rfl rfl decide_eq_true_iff
theorem xr_23_16 (h : AHp) (Q : Option Int32 → AHp → Prop) (l0 l1 l2 : Option AV) (x : Int32) (st : List AV) : VV 23 h 16 [l0, l1, l2, some (.inl x)] st Q ↔ VV 23 h 17 [l0, l1, l2, some (.inl x)] (.inl x :: st) Q := VV_step rfl rfl rfl rfl
theorem xr_23_17 (h : AHp) (Q : Option Int32 → AHp → Prop) (l0 l1 l2 l3 : Option AV) (a0 : AV) : VV 23 h 17 [l0, l1, l2, l3] [a0] Q ↔ Vi 15 h [some a0] (fun z h2 => VV 23 h2 20 [l0, l1, l2, l3] [.inl z] Q) := VV_calli (y := 15) (as := [a0]) (rest := []) rfl rfl rfl (ah_noV (y := 15) (by decide))
theorem xr_23_20 (h : AHp) (Q : Option Int32 → AHp → Prop) (l0 l1 l2 l3 : Option AV) (x : Int32) (st : List AV) : VV 23 h 20 [l0, l1, l2, l3] (.inl x :: st) Q ↔ (x = 0 → VV 23 h 36 [l0, l1, l2, l3] st Q) ∧ (¬ (x = 0) → VV 23 h 23 [l0, l1, l2, l3] st Q) := VV_br rfl rfl rfl decide_eq_true_iff
theorem xr_23_23 (h : AHp) (Q : Option Int32 → AHp → Prop) (l1 l2 l3 : Option AV) (x : Nat × Nat) (st : List AV) : VV 23 h 23 [some (.inr x), l1, l2, l3] st Q ↔ VV 23 h 24 [some (.inr x), l1, l2, l3] (.inr x :: st) Q := VV_step rfl rfl rfl rfl
theorem xr_23_24 (h : AHp) (Q : Option Int32 → AHp → Prop) (l0 l1 l2 l3 : Option AV) (i : Nat) (st : List AV) : VV 23 h 24 [l0, l1, l2, l3] (.inr (0, i) :: st) Q ↔ VV 23 h 27 [l0, l1, l2, l3] (.inr (2, i) :: st) Q := VV_step rfl rfl rfl rfl
theorem xr_23_27 (h : AHp) (Q : Option Int32 → AHp → Prop) (l0 l2 l3 : Option AV) (x : Int32) (st : List AV) : VV 23 h 27 [l0, some (.inl x), l2, l3] st Q ↔ VV 23 h 28 [l0, some (.inl x), l2, l3] (.inl x :: st) Q := VV_step rfl rfl rfl rfl
theorem xr_23_28_1 (h : AHp) (Q : Option Int32 → AHp → Prop) (l0 l1 l2 l3 : Option AV) (x : Int32) (i : Nat) (st : List AV) : VV 23 h 28 [l0, l1, l2, l3] (.inl x :: .inr (1, i) :: st) Q ↔ vp_in x 20 ∧ VV 23 h 29 [l0, l1, l2, l3] (.inr (3, x.toNatClampNeg) :: st) Q := VV_aald rfl rfl
theorem xr_23_28_2 (h : AHp) (Q : Option Int32 → AHp → Prop) (l0 l1 l2 l3 : Option AV) (x : Int32) (i : Nat) (st : List AV) : VV 23 h 28 [l0, l1, l2, l3] (.inl x :: .inr (2, i) :: st) Q ↔ vp_in x 8 ∧ VV 23 h 29 [l0, l1, l2, l3] (.inr (4, x.toNatClampNeg) :: st) Q := VV_aald rfl rfl
theorem xr_23_29 (h : AHp) (Q : Option Int32 → AHp → Prop) (l0 l1 l3 : Option AV) (x : Int32) (st : List AV) : VV 23 h 29 [l0, l1, some (.inl x), l3] st Q ↔ VV 23 h 30 [l0, l1, some (.inl x), l3] (.inl x :: st) Q := VV_step rfl rfl rfl rfl
theorem xr_23_30 (h : AHp) (Q : Option Int32 → AHp → Prop) (l0 l1 l2 l3 : Option AV) (a0 : AV) (i : Nat) : VV 23 h 30 [l0, l1, l2, l3] [a0, .inr (4, i)] Q ↔ Vi 5 h [some (.inr (4, i)), some a0] (fun z h2 => VV 23 h2 33 [l0, l1, l2, l3] [.inl z] Q) := VV_calli (y := 5) (as := [.inr (4, i), a0]) (rest := []) rfl rfl rfl (ah_noV (y := 5) (by decide))
theorem xr_23_33 (h : AHp) (Q : Option Int32 → AHp → Prop) (l0 l1 l2 l3 : Option AV) (x : Int32) (st : List AV) : VV 23 h 33 [l0, l1, l2, l3] (.inl x :: st) Q ↔ (x = 0 → VV 23 h 38 [l0, l1, l2, l3] st Q) ∧ (¬ (x = 0) → VV 23 h 36 [l0, l1, l2, l3] st Q) := VV_br rfl rfl rfl decide_eq_true_iff
theorem xr_23_36 (h : AHp) (Q : Option Int32 → AHp → Prop) (l0 l1 l2 l3 : Option AV) (st : List AV) : VV 23 h 36 [l0, l1, l2, l3] st Q ↔ VV 23 h 37 [l0, l1, l2, l3] (.inl (0 : Int32) :: st) Q := VV_step rfl rfl rfl rfl
theorem xr_23_37 (h : AHp) (Q : Option Int32 → AHp → Prop) (l0 l1 l2 l3 : Option AV) (x : Int32) : VV 23 h 37 [l0, l1, l2, l3] [.inl x] Q ↔ (x = 0 ∨ x = 1) ∧ Q (some x) h := VV_zret rfl rfl
theorem xr_23_38 (h : AHp) (Q : Option Int32 → AHp → Prop) (l1 l2 l3 : Option AV) (x : Nat × Nat) (st : List AV) : VV 23 h 38 [some (.inr x), l1, l2, l3] st Q ↔ VV 23 h 39 [some (.inr x), l1, l2, l3] (.inr x :: st) Q := VV_step rfl rfl rfl rfl
theorem xr_23_39 (h : AHp) (Q : Option Int32 → AHp → Prop) (l0 l1 l2 l3 : Option AV) (i : Nat) (st : List AV) : VV 23 h 39 [l0, l1, l2, l3] (.inr (0, i) :: st) Q ↔ VV 23 h 42 [l0, l1, l2, l3] (.inr (2, i) :: st) Q := VV_step rfl rfl rfl rfl
theorem xr_23_42 (h : AHp) (Q : Option Int32 → AHp → Prop) (l0 l2 l3 : Option AV) (x : Int32) (st : List AV) : VV 23 h 42 [l0, some (.inl x), l2, l3] st Q ↔ VV 23 h 43 [l0, some (.inl x), l2, l3] (.inl x :: st) Q := VV_step rfl rfl rfl rfl
theorem xr_23_43_1 (h : AHp) (Q : Option Int32 → AHp → Prop) (l0 l1 l2 l3 : Option AV) (x : Int32) (i : Nat) (st : List AV) : VV 23 h 43 [l0, l1, l2, l3] (.inl x :: .inr (1, i) :: st) Q ↔ vp_in x 20 ∧ VV 23 h 44 [l0, l1, l2, l3] (.inr (3, x.toNatClampNeg) :: st) Q := VV_aald rfl rfl
theorem xr_23_43_2 (h : AHp) (Q : Option Int32 → AHp → Prop) (l0 l1 l2 l3 : Option AV) (x : Int32) (i : Nat) (st : List AV) : VV 23 h 43 [l0, l1, l2, l3] (.inl x :: .inr (2, i) :: st) Q ↔ vp_in x 8 ∧ VV 23 h 44 [l0, l1, l2, l3] (.inr (4, x.toNatClampNeg) :: st) Q := VV_aald rfl rfl
theorem xr_23_44 (h : AHp) (Q : Option Int32 → AHp → Prop) (l0 l1 l2 l3 : Option AV) (i : Nat) (st : List AV) : VV 23 h 44 [l0, l1, l2, l3] (.inr (4, i) :: st) Q ↔ VV 23 h 47 [l0, l1, l2, l3] (.inr (5, i) :: st) Q := VV_step rfl rfl rfl rfl
theorem xr_23_47 (h : AHp) (Q : Option Int32 → AHp → Prop) (l0 l1 l3 : Option AV) (x : Int32) (st : List AV) : VV 23 h 47 [l0, l1, some (.inl x), l3] st Q ↔ VV 23 h 48 [l0, l1, some (.inl x), l3] (.inl x :: st) Q := VV_step rfl rfl rfl rfl
theorem xr_23_48 (h : AHp) (Q : Option Int32 → AHp → Prop) (l0 l1 l2 : Option AV) (x : Int32) (st : List AV) : VV 23 h 48 [l0, l1, l2, some (.inl x)] st Q ↔ VV 23 h 49 [l0, l1, l2, some (.inl x)] (.inl x :: st) Q := VV_step rfl rfl rfl rfl
theorem xr_23_49 (h : AHp) (Q : Option Int32 → AHp → Prop) (l0 l1 l2 l3 : Option AV) (x v : Int32) (k i : Nat) (st : List AV) : VV 23 h 49 [l0, l1, l2, l3] (.inl v :: .inl x :: .inr (k, i) :: st) Q ↔ ix_i k x ∧ VV 23 (ah_up h k i x.toNatClampNeg v) 50 [l0, l1, l2, l3] st Q := VV_iast rfl
theorem xr_23_50 (h : AHp) (Q : Option Int32 → AHp → Prop) (l0 l1 l2 l3 : Option AV) (st : List AV) : VV 23 h 50 [l0, l1, l2, l3] st Q ↔ VV 23 h 51 [l0, l1, l2, l3] (.inl (1 : Int32) :: st) Q := VV_step rfl rfl rfl rfl
theorem xr_23_51 (h : AHp) (Q : Option Int32 → AHp → Prop) (l0 l1 l2 l3 : Option AV) (x : Int32) : VV 23 h 51 [l0, l1, l2, l3] [.inl x] Q ↔ (x = 0 ∨ x = 1) ∧ Q (some x) h := VV_zret rfl rfl
theorem xr_24_0 (h : AHp) (Q : Option Int32 → AHp → Prop) (l0 l2 : Option AV) (x : Int32) (st : List AV) : VV 24 h 0 [l0, some (.inl x), l2] st Q ↔ VV 24 h 1 [l0, some (.inl x), l2] (.inl x :: st) Q := VV_step rfl rfl rfl rfl
theorem xr_24_1 (h : AHp) (Q : Option Int32 → AHp → Prop) (l0 l1 l2 : Option AV) (st : List AV) : VV 24 h 1 [l0, l1, l2] st Q ↔ VV 24 h 2 [l0, l1, l2] (.inl (1 : Int32) :: st) Q := VV_step rfl rfl rfl rfl
theorem xr_24_2 (h : AHp) (Q : Option Int32 → AHp → Prop) (l0 l1 l2 : Option AV) (x y : Int32) (st : List AV) : VV 24 h 2 [l0, l1, l2] (.inl y :: .inl x :: st) Q ↔ (x < y → VV 24 h 26 [l0, l1, l2] st Q) ∧ (¬ (x < y) → VV 24 h 5 [l0, l1, l2] st Q) := VV_br2 rfl rfl rfl decide_eq_true_iff
theorem xr_24_5 (h : AHp) (Q : Option Int32 → AHp → Prop) (l0 l2 : Option AV) (x : Int32) (st : List AV) : VV 24 h 5 [l0, some (.inl x), l2] st Q ↔ VV 24 h 6 [l0, some (.inl x), l2] (.inl x :: st) Q := VV_step rfl rfl rfl rfl
theorem xr_24_6 (h : AHp) (Q : Option Int32 → AHp → Prop) (l0 l1 : Option AV) (x : Int32) (st : List AV) : VV 24 h 6 [l0, l1, some (.inl x)] st Q ↔ VV 24 h 7 [l0, l1, some (.inl x)] (.inl x :: st) Q := VV_step rfl rfl rfl rfl
theorem xr_24_7 (h : AHp) (Q : Option Int32 → AHp → Prop) (l0 l1 l2 : Option AV) (x y : Int32) (st : List AV) : VV 24 h 7 [l0, l1, l2] (.inl y :: .inl x :: st) Q ↔ (y < x → VV 24 h 26 [l0, l1, l2] st Q) ∧ (¬ (y < x) → VV 24 h 10 [l0, l1, l2] st Q) := VV_br2 rfl rfl rfl decide_eq_true_iff
theorem xr_24_10 (h : AHp) (Q : Option Int32 → AHp → Prop) (l1 l2 : Option AV) (x : Nat × Nat) (st : List AV) : VV 24 h 10 [some (.inr x), l1, l2] st Q ↔ VV 24 h 11 [some (.inr x), l1, l2] (.inr x :: st) Q := VV_step rfl rfl rfl rfl
theorem xr_24_11 (h : AHp) (Q : Option Int32 → AHp → Prop) (l0 l1 l2 : Option AV) (i : Nat) (st : List AV) : VV 24 h 11 [l0, l1, l2] (.inr (0, i) :: st) Q ↔ VV 24 h 14 [l0, l1, l2] (.inl (h 0 i 5) :: st) Q := VV_step rfl rfl rfl rfl
theorem xr_24_14 (h : AHp) (Q : Option Int32 → AHp → Prop) (l0 l2 : Option AV) (x : Int32) (st : List AV) : VV 24 h 14 [l0, some (.inl x), l2] st Q ↔ VV 24 h 15 [l0, some (.inl x), l2] (.inl x :: st) Q := VV_step rfl rfl rfl rfl
theorem xr_24_15 (h : AHp) (Q : Option Int32 → AHp → Prop) (l0 l1 l2 : Option AV) (x y : Int32) (st : List AV) : VV 24 h 15 [l0, l1, l2] (.inl y :: .inl x :: st) Q ↔ VV 24 h 16 [l0, l1, l2] (.inl (x + y) :: st) Q := VV_step rfl rfl rfl rfl
theorem xr_24_16 (h : AHp) (Q : Option Int32 → AHp → Prop) (l0 l1 l2 : Option AV) (st : List AV) : VV 24 h 16 [l0, l1, l2] st Q ↔ VV 24 h 19 [l0, l1, l2] (.inl (9999 : Int32) :: st) Q := VV_step rfl rfl rfl rfl
theorem xr_24_19 (h : AHp) (Q : Option Int32 → AHp → Prop) (l0 l1 l2 : Option AV) (x y : Int32) (st : List AV) : VV 24 h 19 [l0, l1, l2] (.inl y :: .inl x :: st) Q ↔ (y < x → VV 24 h 26 [l0, l1, l2] st Q) ∧ (¬ (y < x) → VV 24 h 22 [l0, l1, l2] st Q) := VV_br2 rfl rfl rfl decide_eq_true_iff
theorem xr_24_22 (h : AHp) (Q : Option Int32 → AHp → Prop) (l0 l1 l2 : Option AV) (st : List AV) : VV 24 h 22 [l0, l1, l2] st Q ↔ VV 24 h 23 [l0, l1, l2] (.inl (1 : Int32) :: st) Q := VV_step rfl rfl rfl rfl
theorem xr_24_23 (h : AHp) (Q : Option Int32 → AHp → Prop) (l0 l1 l2 : Option AV) (st : List AV) : VV 24 h 23 [l0, l1, l2] st Q ↔ VV 24 h 27 [l0, l1, l2] st Q := VV_step rfl rfl rfl rfl
theorem xr_24_26 (h : AHp) (Q : Option Int32 → AHp → Prop) (l0 l1 l2 : Option AV) (st : List AV) : VV 24 h 26 [l0, l1, l2] st Q ↔ VV 24 h 27 [l0, l1, l2] (.inl (0 : Int32) :: st) Q := VV_step rfl rfl rfl rfl
theorem xr_24_27 (h : AHp) (Q : Option Int32 → AHp → Prop) (l0 l1 l2 : Option AV) (x : Int32) : VV 24 h 27 [l0, l1, l2] [.inl x] Q ↔ (x = 0 ∨ x = 1) ∧ Q (some x) h := VV_zret rfl rfl
theorem xr_25_0 (h : AHp) (Q : Option Int32 → AHp → Prop) (l0 l1 l2 : Option AV) (st : List AV) : VV 25 h 0 [l0, l1, l2] st Q ↔ VV 25 h 1 [l0, l1, l2] (.inl (0 : Int32) :: st) Q := VV_step rfl rfl rfl rfl
theorem xr_25_1 (h : AHp) (Q : Option Int32 → AHp → Prop) (l0 l1 l2 : Option AV) (x : Int32) (st : List AV) : VV 25 h 1 [l0, l1, l2] (.inl x :: st) Q ↔ VV 25 h 2 [l0, some (.inl x), l2] st Q := VV_step rfl rfl rfl rfl
theorem xr_25_2 (h : AHp) (Q : Option Int32 → AHp → Prop) (l0 l2 : Option AV) (x : Int32) (st : List AV) : VV 25 h 2 [l0, some (.inl x), l2] st Q ↔ VV 25 h 3 [l0, some (.inl x), l2] (.inl x :: st) Q := VV_step rfl rfl rfl rfl
theorem xr_25_3 (h : AHp) (Q : Option Int32 → AHp → Prop) (l1 l2 : Option AV) (x : Nat × Nat) (st : List AV) : VV 25 h 3 [some (.inr x), l1, l2] st Q ↔ VV 25 h 4 [some (.inr x), l1, l2] (.inr x :: st) Q := VV_step rfl rfl rfl rfl
theorem xr_25_4 (h : AHp) (Q : Option Int32 → AHp → Prop) (l0 l1 l2 : Option AV) (i : Nat) (st : List AV) : VV 25 h 4 [l0, l1, l2] (.inr (0, i) :: st) Q ↔ VV 25 h 7 [l0, l1, l2] (.inl (h 0 i 4) :: st) Q := VV_step rfl rfl rfl rfl
theorem xr_25_7 (h : AHp) (Q : Option Int32 → AHp → Prop) (l0 l1 l2 : Option AV) (x y : Int32) (st : List AV) : VV 25 h 7 [l0, l1, l2] (.inl y :: .inl x :: st) Q ↔ (y ≤ x → VV 25 h 73 [l0, l1, l2] st Q) ∧ (¬ (y ≤ x) → VV 25 h 10 [l0, l1, l2] st Q) := VV_br2 rfl rfl rfl decide_eq_true_iff
theorem xr_25_10 (h : AHp) (Q : Option Int32 → AHp → Prop) (l1 l2 : Option AV) (x : Nat × Nat) (st : List AV) : VV 25 h 10 [some (.inr x), l1, l2] st Q ↔ VV 25 h 11 [some (.inr x), l1, l2] (.inr x :: st) Q := VV_step rfl rfl rfl rfl
theorem xr_25_11 (h : AHp) (Q : Option Int32 → AHp → Prop) (l0 l1 l2 : Option AV) (i : Nat) (st : List AV) : VV 25 h 11 [l0, l1, l2] (.inr (0, i) :: st) Q ↔ VV 25 h 14 [l0, l1, l2] (.inr (2, i) :: st) Q := VV_step rfl rfl rfl rfl
theorem xr_25_14 (h : AHp) (Q : Option Int32 → AHp → Prop) (l0 l2 : Option AV) (x : Int32) (st : List AV) : VV 25 h 14 [l0, some (.inl x), l2] st Q ↔ VV 25 h 15 [l0, some (.inl x), l2] (.inl x :: st) Q := VV_step rfl rfl rfl rfl
theorem xr_25_15_1 (h : AHp) (Q : Option Int32 → AHp → Prop) (l0 l1 l2 : Option AV) (x : Int32) (i : Nat) (st : List AV) : VV 25 h 15 [l0, l1, l2] (.inl x :: .inr (1, i) :: st) Q ↔ vp_in x 20 ∧ VV 25 h 16 [l0, l1, l2] (.inr (3, x.toNatClampNeg) :: st) Q := VV_aald rfl rfl
theorem xr_25_15_2 (h : AHp) (Q : Option Int32 → AHp → Prop) (l0 l1 l2 : Option AV) (x : Int32) (i : Nat) (st : List AV) : VV 25 h 15 [l0, l1, l2] (.inl x :: .inr (2, i) :: st) Q ↔ vp_in x 8 ∧ VV 25 h 16 [l0, l1, l2] (.inr (4, x.toNatClampNeg) :: st) Q := VV_aald rfl rfl
theorem xr_25_16 (h : AHp) (Q : Option Int32 → AHp → Prop) (l0 l1 l2 : Option AV) (x : Nat × Nat) (st : List AV) : VV 25 h 16 [l0, l1, l2] (.inr x :: st) Q ↔ VV 25 h 17 [l0, l1, some (.inr x)] st Q := VV_step rfl rfl rfl rfl
theorem xr_25_17 (h : AHp) (Q : Option Int32 → AHp → Prop) (l0 l1 : Option AV) (x : Nat × Nat) (st : List AV) : VV 25 h 17 [l0, l1, some (.inr x)] st Q ↔ VV 25 h 18 [l0, l1, some (.inr x)] (.inr x :: st) Q := VV_step rfl rfl rfl rfl
theorem xr_25_18 (h : AHp) (Q : Option Int32 → AHp → Prop) (l0 l1 l2 : Option AV) (i : Nat) : VV 25 h 18 [l0, l1, l2] [.inr (4, i)] Q ↔ Vi 4 h [some (.inr (4, i))] (fun z h2 => VV 25 h2 21 [l0, l1, l2] [.inl z] Q) := VV_calli (y := 4) (as := [.inr (4, i)]) (rest := []) rfl rfl rfl (ah_noV (y := 4) (by decide))
theorem xr_25_21 (h : AHp) (Q : Option Int32 → AHp → Prop) (l0 l1 l2 : Option AV) (x : Int32) (st : List AV) : VV 25 h 21 [l0, l1, l2] (.inl x :: st) Q ↔ (¬ x = 0 → VV 25 h 67 [l0, l1, l2] st Q) ∧ (¬ (¬ x = 0) → VV 25 h 24 [l0, l1, l2] st Q) := VV_br rfl rfl rfl decide_eq_true_iff
theorem xr_25_24 (h : AHp) (Q : Option Int32 → AHp → Prop) (l0 l1 : Option AV) (x : Nat × Nat) (st : List AV) : VV 25 h 24 [l0, l1, some (.inr x)] st Q ↔ VV 25 h 25 [l0, l1, some (.inr x)] (.inr x :: st) Q := VV_step rfl rfl rfl rfl
theorem xr_25_25 (h : AHp) (Q : Option Int32 → AHp → Prop) (l0 l1 l2 : Option AV) (i : Nat) : VV 25 h 25 [l0, l1, l2] [.inr (4, i)] Q ↔ Vi 8 h [some (.inr (4, i))] (fun z h2 => VV 25 h2 28 [l0, l1, l2] [.inl z] Q) := VV_calli (y := 8) (as := [.inr (4, i)]) (rest := []) rfl rfl rfl (ah_noV (y := 8) (by decide))
theorem xr_25_28 (h : AHp) (Q : Option Int32 → AHp → Prop) (l1 l2 : Option AV) (x : Nat × Nat) (st : List AV) : VV 25 h 28 [some (.inr x), l1, l2] st Q ↔ VV 25 h 29 [some (.inr x), l1, l2] (.inr x :: st) Q := VV_step rfl rfl rfl rfl
theorem xr_25_29 (h : AHp) (Q : Option Int32 → AHp → Prop) (l0 l1 l2 : Option AV) (i : Nat) (st : List AV) : VV 25 h 29 [l0, l1, l2] (.inr (0, i) :: st) Q ↔ VV 25 h 32 [l0, l1, l2] (.inl (h 0 i 5) :: st) Q := VV_step rfl rfl rfl rfl
theorem xr_25_32 (h : AHp) (Q : Option Int32 → AHp → Prop) (l0 l1 l2 : Option AV) (x y : Int32) (st : List AV) : VV 25 h 32 [l0, l1, l2] (.inl y :: .inl x :: st) Q ↔ (¬ x = y → VV 25 h 67 [l0, l1, l2] st Q) ∧ (¬ (¬ x = y) → VV 25 h 35 [l0, l1, l2] st Q) := VV_br2 rfl rfl rfl decide_eq_true_iff
theorem xr_25_35 (h : AHp) (Q : Option Int32 → AHp → Prop) (l1 l2 : Option AV) (x : Nat × Nat) (st : List AV) : VV 25 h 35 [some (.inr x), l1, l2] st Q ↔ VV 25 h 36 [some (.inr x), l1, l2] (.inr x :: st) Q := VV_step rfl rfl rfl rfl
theorem xr_25_36 (h : AHp) (Q : Option Int32 → AHp → Prop) (l0 l1 : Option AV) (x : Nat × Nat) (st : List AV) : VV 25 h 36 [l0, l1, some (.inr x)] st Q ↔ VV 25 h 37 [l0, l1, some (.inr x)] (.inr x :: st) Q := VV_step rfl rfl rfl rfl
theorem xr_25_37 (h : AHp) (Q : Option Int32 → AHp → Prop) (l0 l1 l2 : Option AV) (i : Nat) (st : List AV) : VV 25 h 37 [l0, l1, l2] (.inr (4, i) :: st) Q ↔ VV 25 h 40 [l0, l1, l2] (.inl (h 4 i 8) :: st) Q := VV_step rfl rfl rfl rfl
theorem xr_25_40 (h : AHp) (Q : Option Int32 → AHp → Prop) (l0 l1 l2 : Option AV) (a0 : AV) (i : Nat) : VV 25 h 40 [l0, l1, l2] [a0, .inr (0, i)] Q ↔ Vi 17 h [some (.inr (0, i)), some a0] (fun z h2 => VV 25 h2 43 [l0, l1, l2] [.inl z] Q) := VV_calli (y := 17) (as := [.inr (0, i), a0]) (rest := []) rfl rfl rfl (ah_noV (y := 17) (by decide))
theorem xr_25_43 (h : AHp) (Q : Option Int32 → AHp → Prop) (l0 l1 l2 : Option AV) (x : Int32) (st : List AV) : VV 25 h 43 [l0, l1, l2] (.inl x :: st) Q ↔ (x = 0 → VV 25 h 59 [l0, l1, l2] st Q) ∧ (¬ (x = 0) → VV 25 h 46 [l0, l1, l2] st Q) := VV_br rfl rfl rfl decide_eq_true_iff
theorem xr_25_46 (h : AHp) (Q : Option Int32 → AHp → Prop) (l1 l2 : Option AV) (x : Nat × Nat) (st : List AV) : VV 25 h 46 [some (.inr x), l1, l2] st Q ↔ VV 25 h 47 [some (.inr x), l1, l2] (.inr x :: st) Q := VV_step rfl rfl rfl rfl
theorem xr_25_47 (h : AHp) (Q : Option Int32 → AHp → Prop) (l0 l1 l2 : Option AV) (i : Nat) (st : List AV) : VV 25 h 47 [l0, l1, l2] (.inr (0, i) :: st) Q ↔ VV 25 h 50 [l0, l1, l2] (.inr (1, i) :: st) Q := VV_step rfl rfl rfl rfl
theorem xr_25_50 (h : AHp) (Q : Option Int32 → AHp → Prop) (l0 l1 : Option AV) (x : Nat × Nat) (st : List AV) : VV 25 h 50 [l0, l1, some (.inr x)] st Q ↔ VV 25 h 51 [l0, l1, some (.inr x)] (.inr x :: st) Q := VV_step rfl rfl rfl rfl
theorem xr_25_51 (h : AHp) (Q : Option Int32 → AHp → Prop) (l0 l1 l2 : Option AV) (i : Nat) (st : List AV) : VV 25 h 51 [l0, l1, l2] (.inr (4, i) :: st) Q ↔ VV 25 h 54 [l0, l1, l2] (.inl (h 4 i 8) :: st) Q := VV_step rfl rfl rfl rfl
theorem xr_25_54_1 (h : AHp) (Q : Option Int32 → AHp → Prop) (l0 l1 l2 : Option AV) (x : Int32) (i : Nat) (st : List AV) : VV 25 h 54 [l0, l1, l2] (.inl x :: .inr (1, i) :: st) Q ↔ vp_in x 20 ∧ VV 25 h 55 [l0, l1, l2] (.inr (3, x.toNatClampNeg) :: st) Q := VV_aald rfl rfl
theorem xr_25_54_2 (h : AHp) (Q : Option Int32 → AHp → Prop) (l0 l1 l2 : Option AV) (x : Int32) (i : Nat) (st : List AV) : VV 25 h 54 [l0, l1, l2] (.inl x :: .inr (2, i) :: st) Q ↔ vp_in x 8 ∧ VV 25 h 55 [l0, l1, l2] (.inr (4, x.toNatClampNeg) :: st) Q := VV_aald rfl rfl
theorem xr_25_55 (h : AHp) (Q : Option Int32 → AHp → Prop) (l0 l1 l2 : Option AV) (st : List AV) : VV 25 h 55 [l0, l1, l2] st Q ↔ VV 25 h 56 [l0, l1, l2] (.inl (-1 : Int32) :: st) Q := VV_step rfl rfl rfl rfl
theorem xr_25_56 (h : AHp) (Q : Option Int32 → AHp → Prop) (l0 l1 l2 : Option AV) (v : Int32) (i : Nat) (st : List AV) : VV 25 h 56 [l0, l1, l2] (.inl v :: .inr (3, i) :: st) Q ↔ VV 25 (ah_up h 3 i 3 v) 59 [l0, l1, l2] st Q := VV_step rfl rfl rfl rfl
theorem xr_25_59 (h : AHp) (Q : Option Int32 → AHp → Prop) (l0 l1 : Option AV) (x : Nat × Nat) (st : List AV) : VV 25 h 59 [l0, l1, some (.inr x)] st Q ↔ VV 25 h 60 [l0, l1, some (.inr x)] (.inr x :: st) Q := VV_step rfl rfl rfl rfl
theorem xr_25_60 (h : AHp) (Q : Option Int32 → AHp → Prop) (l1 l2 : Option AV) (x : Nat × Nat) (st : List AV) : VV 25 h 60 [some (.inr x), l1, l2] st Q ↔ VV 25 h 61 [some (.inr x), l1, l2] (.inr x :: st) Q := VV_step rfl rfl rfl rfl
theorem xr_25_61 (h : AHp) (Q : Option Int32 → AHp → Prop) (l0 l1 l2 : Option AV) (i : Nat) (st : List AV) : VV 25 h 61 [l0, l1, l2] (.inr (0, i) :: st) Q ↔ VV 25 h 64 [l0, l1, l2] (.inl (h 0 i 5) :: st) Q := VV_step rfl rfl rfl rfl
theorem xr_25_64 (h : AHp) (Q : Option Int32 → AHp → Prop) (l0 l1 l2 : Option AV) (a0 : AV) (i : Nat) : VV 25 h 64 [l0, l1, l2] [a0, .inr (4, i)] Q ↔ Vv 10 h [some (.inr (4, i)), some a0] (fun h2 => VV 25 h2 67 [l0, l1, l2] [] Q) := VV_callv (y := 10) (as := [.inr (4, i), a0]) (rest := []) rfl rfl rfl (ah_noI (y := 10) rfl)
theorem xr_25_67 (h : AHp) (Q : Option Int32 → AHp → Prop) (l0 l2 : Option AV) (x : Int32) (st : List AV) : VV 25 h 67 [l0, some (.inl x), l2] st Q ↔ VV 25 h 70 [l0, some (.inl (x + (1 : Int32))), l2] st Q := VV_step rfl rfl rfl rfl
theorem xr_25_70 (h : AHp) (Q : Option Int32 → AHp → Prop) (l0 l1 l2 : Option AV) (st : List AV) : VV 25 h 70 [l0, l1, l2] st Q ↔ VV 25 h 2 [l0, l1, l2] st Q := VV_step rfl rfl rfl rfl
theorem xr_25_73 (h : AHp) (Q : Option Int32 → AHp → Prop) (l0 l1 l2 : Option AV) : VV 25 h 73 [l0, l1, l2] [] Q ↔ Q none h := VV_end rfl rfl
theorem xr_26_0 (h : AHp) (Q : Option Int32 → AHp → Prop) (l0 : Option AV) (x : Nat × Nat) (st : List AV) : VV 26 h 0 [l0, some (.inr x)] st Q ↔ VV 26 h 1 [l0, some (.inr x)] (.inr x :: st) Q := VV_step rfl rfl rfl rfl
theorem xr_26_1 (h : AHp) (Q : Option Int32 → AHp → Prop) (l0 l1 : Option AV) (i : Nat) (st : List AV) : VV 26 h 1 [l0, l1] (.inr (4, i) :: st) Q ↔ VV 26 h 4 [l0, l1] (.inl (h 4 i 6) :: st) Q := VV_step rfl rfl rfl rfl
theorem xr_26_4 (h : AHp) (Q : Option Int32 → AHp → Prop) (l1 : Option AV) (x : Nat × Nat) (st : List AV) : VV 26 h 4 [some (.inr x), l1] st Q ↔ VV 26 h 5 [some (.inr x), l1] (.inr x :: st) Q := VV_step rfl rfl rfl rfl
theorem xr_26_5 (h : AHp) (Q : Option Int32 → AHp → Prop) (l0 l1 : Option AV) (i : Nat) (st : List AV) : VV 26 h 5 [l0, l1] (.inr (0, i) :: st) Q ↔ VV 26 h 8 [l0, l1] (.inl (h 0 i 2) :: st) Q := VV_step rfl rfl rfl rfl
theorem xr_26_8 (h : AHp) (Q : Option Int32 → AHp → Prop) (l0 l1 : Option AV) (x y : Int32) (st : List AV) : VV 26 h 8 [l0, l1] (.inl y :: .inl x :: st) Q ↔ (x < y → VV 26 h 15 [l0, l1] st Q) ∧ (¬ (x < y) → VV 26 h 11 [l0, l1] st Q) := VV_br2 rfl rfl rfl decide_eq_true_iff
theorem xr_26_11 (h : AHp) (Q : Option Int32 → AHp → Prop) (l0 l1 : Option AV) (st : List AV) : VV 26 h 11 [l0, l1] st Q ↔ VV 26 h 12 [l0, l1] (.inl (1 : Int32) :: st) Q := VV_step rfl rfl rfl rfl
theorem xr_26_12 (h : AHp) (Q : Option Int32 → AHp → Prop) (l0 l1 : Option AV) (st : List AV) : VV 26 h 12 [l0, l1] st Q ↔ VV 26 h 16 [l0, l1] st Q := VV_step rfl rfl rfl rfl
theorem xr_26_15 (h : AHp) (Q : Option Int32 → AHp → Prop) (l0 l1 : Option AV) (st : List AV) : VV 26 h 15 [l0, l1] st Q ↔ VV 26 h 16 [l0, l1] (.inl (0 : Int32) :: st) Q := VV_step rfl rfl rfl rfl
theorem xr_26_16 (h : AHp) (Q : Option Int32 → AHp → Prop) (l0 l1 : Option AV) (x : Int32) : VV 26 h 16 [l0, l1] [.inl x] Q ↔ (x = 0 ∨ x = 1) ∧ Q (some x) h := VV_zret rfl rfl
theorem xr_27_0 (h : AHp) (Q : Option Int32 → AHp → Prop) (l1 : Option AV) (x : Nat × Nat) (st : List AV) : VV 27 h 0 [some (.inr x), l1] st Q ↔ VV 27 h 1 [some (.inr x), l1] (.inr x :: st) Q := VV_step rfl rfl rfl rfl
theorem xr_27_1 (h : AHp) (Q : Option Int32 → AHp → Prop) (l0 l1 : Option AV) (i : Nat) (st : List AV) : VV 27 h 1 [l0, l1] (.inr (0, i) :: st) Q ↔ VV 27 h 4 [l0, l1] (.inr (2, i) :: st) Q := VV_step rfl rfl rfl rfl
theorem xr_27_4 (h : AHp) (Q : Option Int32 → AHp → Prop) (l0 : Option AV) (x : Int32) (st : List AV) : VV 27 h 4 [l0, some (.inl x)] st Q ↔ VV 27 h 5 [l0, some (.inl x)] (.inl x :: st) Q := VV_step rfl rfl rfl rfl
theorem xr_27_5_1 (h : AHp) (Q : Option Int32 → AHp → Prop) (l0 l1 : Option AV) (x : Int32) (i : Nat) (st : List AV) : VV 27 h 5 [l0, l1] (.inl x :: .inr (1, i) :: st) Q ↔ vp_in x 20 ∧ VV 27 h 6 [l0, l1] (.inr (3, x.toNatClampNeg) :: st) Q := VV_aald rfl rfl
theorem xr_27_5_2 (h : AHp) (Q : Option Int32 → AHp → Prop) (l0 l1 : Option AV) (x : Int32) (i : Nat) (st : List AV) : VV 27 h 5 [l0, l1] (.inl x :: .inr (2, i) :: st) Q ↔ vp_in x 8 ∧ VV 27 h 6 [l0, l1] (.inr (4, x.toNatClampNeg) :: st) Q := VV_aald rfl rfl
theorem xr_27_6 (h : AHp) (Q : Option Int32 → AHp → Prop) (l0 l1 : Option AV) (i : Nat) (st : List AV) : VV 27 h 6 [l0, l1] (.inr (4, i) :: st) Q ↔ VV 27 h 9 [l0, l1] (.inl (h 4 i 7) :: st) Q := VV_step rfl rfl rfl rfl
theorem xr_27_9 (h : AHp) (Q : Option Int32 → AHp → Prop) (l0 l1 : Option AV) (st : List AV) : VV 27 h 9 [l0, l1] st Q ↔ VV 27 h 11 [l0, l1] (.inl (8 : Int32) :: st) Q := VV_step rfl rfl rfl rfl
theorem xr_27_11 (h : AHp) (Q : Option Int32 → AHp → Prop) (l0 l1 : Option AV) (x y : Int32) (st : List AV) : VV 27 h 11 [l0, l1] (.inl y :: .inl x :: st) Q ↔ VV 27 h 12 [l0, l1] (.inl (x * y) :: st) Q := VV_step rfl rfl rfl rfl
theorem xr_27_12 (h : AHp) (Q : Option Int32 → AHp → Prop) (l0 : Option AV) (x : Int32) (st : List AV) : VV 27 h 12 [l0, some (.inl x)] st Q ↔ VV 27 h 13 [l0, some (.inl x)] (.inl x :: st) Q := VV_step rfl rfl rfl rfl
theorem xr_27_13 (h : AHp) (Q : Option Int32 → AHp → Prop) (l0 l1 : Option AV) (x y : Int32) (st : List AV) : VV 27 h 13 [l0, l1] (.inl y :: .inl x :: st) Q ↔ VV 27 h 14 [l0, l1] (.inl (x + y) :: st) Q := VV_step rfl rfl rfl rfl
theorem xr_27_14 (h : AHp) (Q : Option Int32 → AHp → Prop) (l0 l1 : Option AV) (x : Int32) : VV 27 h 14 [l0, l1] [.inl x] Q ↔ Q (some x) h := VV_end rfl rfl
theorem xr_28_0 (h : AHp) (Q : Option Int32 → AHp → Prop) (l0 l1 l2 l3 l4 : Option AV) (st : List AV) : VV 28 h 0 [l0, l1, l2, l3, l4] st Q ↔ VV 28 h 1 [l0, l1, l2, l3, l4] (.inl (-1 : Int32) :: st) Q := VV_step rfl rfl rfl rfl
theorem xr_28_1 (h : AHp) (Q : Option Int32 → AHp → Prop) (l0 l1 l2 l3 l4 : Option AV) (x : Int32) (st : List AV) : VV 28 h 1 [l0, l1, l2, l3, l4] (.inl x :: st) Q ↔ VV 28 h 2 [l0, l1, some (.inl x), l3, l4] st Q := VV_step rfl rfl rfl rfl
theorem xr_28_2 (h : AHp) (Q : Option Int32 → AHp → Prop) (l0 l1 l2 l3 l4 : Option AV) (st : List AV) : VV 28 h 2 [l0, l1, l2, l3, l4] st Q ↔ VV 28 h 3 [l0, l1, l2, l3, l4] (.inl (0 : Int32) :: st) Q := VV_step rfl rfl rfl rfl
theorem xr_28_3 (h : AHp) (Q : Option Int32 → AHp → Prop) (l0 l1 l2 l3 l4 : Option AV) (x : Int32) (st : List AV) : VV 28 h 3 [l0, l1, l2, l3, l4] (.inl x :: st) Q ↔ VV 28 h 4 [l0, l1, l2, some (.inl x), l4] st Q := VV_step rfl rfl rfl rfl
theorem xr_28_4 (h : AHp) (Q : Option Int32 → AHp → Prop) (l0 l1 l2 l4 : Option AV) (x : Int32) (st : List AV) : VV 28 h 4 [l0, l1, l2, some (.inl x), l4] st Q ↔ VV 28 h 5 [l0, l1, l2, some (.inl x), l4] (.inl x :: st) Q := VV_step rfl rfl rfl rfl
theorem xr_28_5 (h : AHp) (Q : Option Int32 → AHp → Prop) (l1 l2 l3 l4 : Option AV) (x : Nat × Nat) (st : List AV) : VV 28 h 5 [some (.inr x), l1, l2, l3, l4] st Q ↔ VV 28 h 6 [some (.inr x), l1, l2, l3, l4] (.inr x :: st) Q := VV_step rfl rfl rfl rfl
theorem xr_28_6 (h : AHp) (Q : Option Int32 → AHp → Prop) (l0 l1 l2 l3 l4 : Option AV) (i : Nat) (st : List AV) : VV 28 h 6 [l0, l1, l2, l3, l4] (.inr (0, i) :: st) Q ↔ VV 28 h 9 [l0, l1, l2, l3, l4] (.inl (h 0 i 4) :: st) Q := VV_step rfl rfl rfl rfl
theorem xr_28_9 (h : AHp) (Q : Option Int32 → AHp → Prop) (l0 l1 l2 l3 l4 : Option AV) (x y : Int32) (st : List AV) : VV 28 h 9 [l0, l1, l2, l3, l4] (.inl y :: .inl x :: st) Q ↔ (y ≤ x → VV 28 h 84 [l0, l1, l2, l3, l4] st Q) ∧ (¬ (y ≤ x) → VV 28 h 12 [l0, l1, l2, l3, l4] st Q) := VV_br2 rfl rfl rfl decide_eq_true_iff
theorem xr_28_12 (h : AHp) (Q : Option Int32 → AHp → Prop) (l1 l2 l3 l4 : Option AV) (x : Nat × Nat) (st : List AV) : VV 28 h 12 [some (.inr x), l1, l2, l3, l4] st Q ↔ VV 28 h 13 [some (.inr x), l1, l2, l3, l4] (.inr x :: st) Q := VV_step rfl rfl rfl rfl
theorem xr_28_13 (h : AHp) (Q : Option Int32 → AHp → Prop) (l0 l1 l2 l3 l4 : Option AV) (i : Nat) (st : List AV) : VV 28 h 13 [l0, l1, l2, l3, l4] (.inr (0, i) :: st) Q ↔ VV 28 h 16 [l0, l1, l2, l3, l4] (.inr (2, i) :: st) Q := VV_step rfl rfl rfl rfl
theorem xr_28_16 (h : AHp) (Q : Option Int32 → AHp → Prop) (l0 l1 l2 l4 : Option AV) (x : Int32) (st : List AV) : VV 28 h 16 [l0, l1, l2, some (.inl x), l4] st Q ↔ VV 28 h 17 [l0, l1, l2, some (.inl x), l4] (.inl x :: st) Q := VV_step rfl rfl rfl rfl
theorem xr_28_17_1 (h : AHp) (Q : Option Int32 → AHp → Prop) (l0 l1 l2 l3 l4 : Option AV) (x : Int32) (i : Nat) (st : List AV) : VV 28 h 17 [l0, l1, l2, l3, l4] (.inl x :: .inr (1, i) :: st) Q ↔ vp_in x 20 ∧ VV 28 h 18 [l0, l1, l2, l3, l4] (.inr (3, x.toNatClampNeg) :: st) Q := VV_aald rfl rfl
theorem xr_28_17_2 (h : AHp) (Q : Option Int32 → AHp → Prop) (l0 l1 l2 l3 l4 : Option AV) (x : Int32) (i : Nat) (st : List AV) : VV 28 h 17 [l0, l1, l2, l3, l4] (.inl x :: .inr (2, i) :: st) Q ↔ vp_in x 8 ∧ VV 28 h 18 [l0, l1, l2, l3, l4] (.inr (4, x.toNatClampNeg) :: st) Q := VV_aald rfl rfl
theorem xr_28_18 (h : AHp) (Q : Option Int32 → AHp → Prop) (l0 l1 l2 l3 l4 : Option AV) (i : Nat) : VV 28 h 18 [l0, l1, l2, l3, l4] [.inr (4, i)] Q ↔ Vi 4 h [some (.inr (4, i))] (fun z h2 => VV 28 h2 21 [l0, l1, l2, l3, l4] [.inl z] Q) := VV_calli (y := 4) (as := [.inr (4, i)]) (rest := []) rfl rfl rfl (ah_noV (y := 4) (by decide))
theorem xr_28_21 (h : AHp) (Q : Option Int32 → AHp → Prop) (l0 l1 l2 l3 l4 : Option AV) (x : Int32) (st : List AV) : VV 28 h 21 [l0, l1, l2, l3, l4] (.inl x :: st) Q ↔ (x = 0 → VV 28 h 50 [l0, l1, l2, l3, l4] st Q) ∧ (¬ (x = 0) → VV 28 h 24 [l0, l1, l2, l3, l4] st Q) := VV_br rfl rfl rfl decide_eq_true_iff
theorem xr_28_24 (h : AHp) (Q : Option Int32 → AHp → Prop) (l1 l2 l3 l4 : Option AV) (x : Nat × Nat) (st : List AV) : VV 28 h 24 [some (.inr x), l1, l2, l3, l4] st Q ↔ VV 28 h 25 [some (.inr x), l1, l2, l3, l4] (.inr x :: st) Q := VV_step rfl rfl rfl rfl
theorem xr_28_25 (h : AHp) (Q : Option Int32 → AHp → Prop) (l1 l2 l3 l4 : Option AV) (x : Nat × Nat) (st : List AV) : VV 28 h 25 [some (.inr x), l1, l2, l3, l4] st Q ↔ VV 28 h 26 [some (.inr x), l1, l2, l3, l4] (.inr x :: st) Q := VV_step rfl rfl rfl rfl
theorem xr_28_26 (h : AHp) (Q : Option Int32 → AHp → Prop) (l0 l1 l2 l3 l4 : Option AV) (i : Nat) (st : List AV) : VV 28 h 26 [l0, l1, l2, l3, l4] (.inr (0, i) :: st) Q ↔ VV 28 h 29 [l0, l1, l2, l3, l4] (.inr (2, i) :: st) Q := VV_step rfl rfl rfl rfl
theorem xr_28_29 (h : AHp) (Q : Option Int32 → AHp → Prop) (l0 l1 l2 l4 : Option AV) (x : Int32) (st : List AV) : VV 28 h 29 [l0, l1, l2, some (.inl x), l4] st Q ↔ VV 28 h 30 [l0, l1, l2, some (.inl x), l4] (.inl x :: st) Q := VV_step rfl rfl rfl rfl
theorem xr_28_30_1 (h : AHp) (Q : Option Int32 → AHp → Prop) (l0 l1 l2 l3 l4 : Option AV) (x : Int32) (i : Nat) (st : List AV) : VV 28 h 30 [l0, l1, l2, l3, l4] (.inl x :: .inr (1, i) :: st) Q ↔ vp_in x 20 ∧ VV 28 h 31 [l0, l1, l2, l3, l4] (.inr (3, x.toNatClampNeg) :: st) Q := VV_aald rfl rfl
theorem xr_28_30_2 (h : AHp) (Q : Option Int32 → AHp → Prop) (l0 l1 l2 l3 l4 : Option AV) (x : Int32) (i : Nat) (st : List AV) : VV 28 h 30 [l0, l1, l2, l3, l4] (.inl x :: .inr (2, i) :: st) Q ↔ vp_in x 8 ∧ VV 28 h 31 [l0, l1, l2, l3, l4] (.inr (4, x.toNatClampNeg) :: st) Q := VV_aald rfl rfl
theorem xr_28_31 (h : AHp) (Q : Option Int32 → AHp → Prop) (l0 l1 l2 l3 l4 : Option AV) (a0 : AV) (i : Nat) : VV 28 h 31 [l0, l1, l2, l3, l4] [a0, .inr (0, i)] Q ↔ Vi 26 h [some (.inr (0, i)), some a0] (fun z h2 => VV 28 h2 34 [l0, l1, l2, l3, l4] [.inl z] Q) := VV_calli (y := 26) (as := [.inr (0, i), a0]) (rest := []) rfl rfl rfl (ah_noV (y := 26) (by decide))
theorem xr_28_34 (h : AHp) (Q : Option Int32 → AHp → Prop) (l0 l1 l2 l3 l4 : Option AV) (x : Int32) (st : List AV) : VV 28 h 34 [l0, l1, l2, l3, l4] (.inl x :: st) Q ↔ (¬ x = 0 → VV 28 h 50 [l0, l1, l2, l3, l4] st Q) ∧ (¬ (¬ x = 0) → VV 28 h 37 [l0, l1, l2, l3, l4] st Q) := VV_br rfl rfl rfl decide_eq_true_iff
theorem xr_28_37 (h : AHp) (Q : Option Int32 → AHp → Prop) (l1 l2 l3 l4 : Option AV) (x : Nat × Nat) (st : List AV) : VV 28 h 37 [some (.inr x), l1, l2, l3, l4] st Q ↔ VV 28 h 38 [some (.inr x), l1, l2, l3, l4] (.inr x :: st) Q := VV_step rfl rfl rfl rfl
theorem xr_28_38 (h : AHp) (Q : Option Int32 → AHp → Prop) (l0 l1 l2 l4 : Option AV) (x : Int32) (st : List AV) : VV 28 h 38 [l0, l1, l2, some (.inl x), l4] st Q ↔ VV 28 h 39 [l0, l1, l2, some (.inl x), l4] (.inl x :: st) Q := VV_step rfl rfl rfl rfl
theorem xr_28_39 (h : AHp) (Q : Option Int32 → AHp → Prop) (l0 l1 l2 l3 l4 : Option AV) (a0 : AV) (i : Nat) : VV 28 h 39 [l0, l1, l2, l3, l4] [a0, .inr (0, i)] Q ↔ Vi 27 h [some (.inr (0, i)), some a0] (fun z h2 => VV 28 h2 42 [l0, l1, l2, l3, l4] [.inl z] Q) := VV_calli (y := 27) (as := [.inr (0, i), a0]) (rest := []) rfl rfl rfl (ah_noV (y := 27) (by decide))
theorem xr_28_42 (h : AHp) (Q : Option Int32 → AHp → Prop) (l0 l2 l3 l4 : Option AV) (x : Int32) (st : List AV) : VV 28 h 42 [l0, some (.inl x), l2, l3, l4] st Q ↔ VV 28 h 43 [l0, some (.inl x), l2, l3, l4] (.inl x :: st) Q := VV_step rfl rfl rfl rfl
theorem xr_28_43 (h : AHp) (Q : Option Int32 → AHp → Prop) (l0 l1 l2 l3 l4 : Option AV) (x y : Int32) (st : List AV) : VV 28 h 43 [l0, l1, l2, l3, l4] (.inl y :: .inl x :: st) Q ↔ (x ≤ y → VV 28 h 50 [l0, l1, l2, l3, l4] st Q) ∧ (¬ (x ≤ y) → VV 28 h 46 [l0, l1, l2, l3, l4] st Q) := VV_br2 rfl rfl rfl decide_eq_true_iff
theorem xr_28_46 (h : AHp) (Q : Option Int32 → AHp → Prop) (l0 l1 l2 l3 l4 : Option AV) (st : List AV) : VV 28 h 46 [l0, l1, l2, l3, l4] st Q ↔ VV 28 h 47 [l0, l1, l2, l3, l4] (.inl (1 : Int32) :: st) Q := VV_step rfl rfl rfl rfl
theorem xr_28_47 (h : AHp) (Q : Option Int32 → AHp → Prop) (l0 l1 l2 l3 l4 : Option AV) (st : List AV) : VV 28 h 47 [l0, l1, l2, l3, l4] st Q ↔ VV 28 h 51 [l0, l1, l2, l3, l4] st Q := VV_step rfl rfl rfl rfl
theorem xr_28_50 (h : AHp) (Q : Option Int32 → AHp → Prop) (l0 l1 l2 l3 l4 : Option AV) (st : List AV) : VV 28 h 50 [l0, l1, l2, l3, l4] st Q ↔ VV 28 h 51 [l0, l1, l2, l3, l4] (.inl (0 : Int32) :: st) Q := VV_step rfl rfl rfl rfl
theorem xr_28_51 (h : AHp) (Q : Option Int32 → AHp → Prop) (l0 l1 l2 l3 l4 : Option AV) (x : Int32) (st : List AV) : VV 28 h 51 [l0, l1, l2, l3, l4] (.inl x :: st) Q ↔ VV 28 h 53 [l0, l1, l2, l3, some (.inl x)] st Q := VV_step rfl rfl rfl rfl
theorem xr_28_53 (h : AHp) (Q : Option Int32 → AHp → Prop) (l0 l1 l2 l3 : Option AV) (x : Int32) (st : List AV) : VV 28 h 53 [l0, l1, l2, l3, some (.inl x)] st Q ↔ VV 28 h 55 [l0, l1, l2, l3, some (.inl x)] (.inl x :: st) Q := VV_step rfl rfl rfl rfl
theorem xr_28_55 (h : AHp) (Q : Option Int32 → AHp → Prop) (l0 l1 l2 l3 l4 : Option AV) (x : Int32) (st : List AV) : VV 28 h 55 [l0, l1, l2, l3, l4] (.inl x :: st) Q ↔ (x = 0 → VV 28 h 78 [l0, l1, l2, l3, l4] st Q) ∧ (¬ (x = 0) → VV 28 h 58 [l0, l1, l2, l3, l4] st Q) := VV_br rfl rfl rfl decide_eq_true_iff
theorem xr_28_58 (h : AHp) (Q : Option Int32 → AHp → Prop) (l0 l1 l3 l4 : Option AV) (x : Int32) (st : List AV) : VV 28 h 58 [l0, l1, some (.inl x), l3, l4] st Q ↔ VV 28 h 59 [l0, l1, some (.inl x), l3, l4] (.inl x :: st) Q := VV_step rfl rfl rfl rfl
theorem xr_28_59 (h : AHp) (Q : Option Int32 → AHp → Prop) (l0 l1 l2 l3 l4 : Option AV) (st : List AV) : VV 28 h 59 [l0, l1, l2, l3, l4] st Q ↔ VV 28 h 60 [l0, l1, l2, l3, l4] (.inl (-1 : Int32) :: st) Q := VV_step rfl rfl rfl rfl
theorem xr_28_60 (h : AHp) (Q : Option Int32 → AHp → Prop) (l0 l1 l2 l3 l4 : Option AV) (x y : Int32) (st : List AV) : VV 28 h 60 [l0, l1, l2, l3, l4] (.inl y :: .inl x :: st) Q ↔ (x = y → VV 28 h 76 [l0, l1, l2, l3, l4] st Q) ∧ (¬ (x = y) → VV 28 h 63 [l0, l1, l2, l3, l4] st Q) := VV_br2 rfl rfl rfl decide_eq_true_iff
theorem xr_28_63 (h : AHp) (Q : Option Int32 → AHp → Prop) (l1 l2 l3 l4 : Option AV) (x : Nat × Nat) (st : List AV) : VV 28 h 63 [some (.inr x), l1, l2, l3, l4] st Q ↔ VV 28 h 64 [some (.inr x), l1, l2, l3, l4] (.inr x :: st) Q := VV_step rfl rfl rfl rfl
theorem xr_28_64 (h : AHp) (Q : Option Int32 → AHp → Prop) (l0 l1 l2 l4 : Option AV) (x : Int32) (st : List AV) : VV 28 h 64 [l0, l1, l2, some (.inl x), l4] st Q ↔ VV 28 h 65 [l0, l1, l2, some (.inl x), l4] (.inl x :: st) Q := VV_step rfl rfl rfl rfl
theorem xr_28_65 (h : AHp) (Q : Option Int32 → AHp → Prop) (l0 l1 l2 l3 l4 : Option AV) (a0 : AV) (i : Nat) : VV 28 h 65 [l0, l1, l2, l3, l4] [a0, .inr (0, i)] Q ↔ Vi 27 h [some (.inr (0, i)), some a0] (fun z h2 => VV 28 h2 68 [l0, l1, l2, l3, l4] [.inl z] Q) := VV_calli (y := 27) (as := [.inr (0, i), a0]) (rest := []) rfl rfl rfl (ah_noV (y := 27) (by decide))
theorem xr_28_68 (h : AHp) (Q : Option Int32 → AHp → Prop) (l1 l2 l3 l4 : Option AV) (x : Nat × Nat) (st : List AV) : VV 28 h 68 [some (.inr x), l1, l2, l3, l4] st Q ↔ VV 28 h 69 [some (.inr x), l1, l2, l3, l4] (.inr x :: st) Q := VV_step rfl rfl rfl rfl
theorem xr_28_69 (h : AHp) (Q : Option Int32 → AHp → Prop) (l0 l1 l3 l4 : Option AV) (x : Int32) (st : List AV) : VV 28 h 69 [l0, l1, some (.inl x), l3, l4] st Q ↔ VV 28 h 70 [l0, l1, some (.inl x), l3, l4] (.inl x :: st) Q := VV_step rfl rfl rfl rfl
theorem xr_28_70 (h : AHp) (Q : Option Int32 → AHp → Prop) (l0 l1 l2 l3 l4 : Option AV) (a0 r0 : AV) (i : Nat) : VV 28 h 70 [l0, l1, l2, l3, l4] [a0, .inr (0, i), r0] Q ↔ Vi 27 h [some (.inr (0, i)), some a0] (fun z h2 => VV 28 h2 73 [l0, l1, l2, l3, l4] [.inl z, r0] Q) := VV_calli (y := 27) (as := [.inr (0, i), a0]) (rest := [r0]) rfl rfl rfl (ah_noV (y := 27) (by decide))
theorem xr_28_73 (h : AHp) (Q : Option Int32 → AHp → Prop) (l0 l1 l2 l3 l4 : Option AV) (x y : Int32) (st : List AV) : VV 28 h 73 [l0, l1, l2, l3, l4] (.inl y :: .inl x :: st) Q ↔ (y ≤ x → VV 28 h 78 [l0, l1, l2, l3, l4] st Q) ∧ (¬ (y ≤ x) → VV 28 h 76 [l0, l1, l2, l3, l4] st Q) := VV_br2 rfl rfl rfl decide_eq_true_iff
theorem xr_28_76 (h : AHp) (Q : Option Int32 → AHp → Prop) (l0 l1 l2 l4 : Option AV) (x : Int32) (st : List AV) : VV 28 h 76 [l0, l1, l2, some (.inl x), l4] st Q ↔ VV 28 h 77 [l0, l1, l2, some (.inl x), l4] (.inl x :: st) Q := VV_step rfl rfl rfl rfl
theorem xr_28_77 (h : AHp) (Q : Option Int32 → AHp → Prop) (l0 l1 l2 l3 l4 : Option AV) (x : Int32) (st : List AV) : VV 28 h 77 [l0, l1, l2, l3, l4] (.inl x :: st) Q ↔ VV 28 h 78 [l0, l1, some (.inl x), l3, l4] st Q := VV_step rfl rfl rfl rfl
theorem xr_28_78 (h : AHp) (Q : Option Int32 → AHp → Prop) (l0 l1 l2 l4 : Option AV) (x : Int32) (st : List AV) : VV 28 h 78 [l0, l1, l2, some (.inl x), l4] st Q ↔ VV 28 h 81 [l0, l1, l2, some (.inl (x + (1 : Int32))), l4] st Q := VV_step rfl rfl rfl rfl
theorem xr_28_81 (h : AHp) (Q : Option Int32 → AHp → Prop) (l0 l1 l2 l3 l4 : Option AV) (st : List AV) : VV 28 h 81 [l0, l1, l2, l3, l4] st Q ↔ VV 28 h 4 [l0, l1, l2, l3, l4] st Q := VV_step rfl rfl rfl rfl
theorem xr_28_84 (h : AHp) (Q : Option Int32 → AHp → Prop) (l0 l1 l3 l4 : Option AV) (x : Int32) (st : List AV) : VV 28 h 84 [l0, l1, some (.inl x), l3, l4] st Q ↔ VV 28 h 85 [l0, l1, some (.inl x), l3, l4] (.inl x :: st) Q := VV_step rfl rfl rfl rfl
theorem xr_28_85 (h : AHp) (Q : Option Int32 → AHp → Prop) (l0 l1 l2 l3 l4 : Option AV) (x : Int32) : VV 28 h 85 [l0, l1, l2, l3, l4] [.inl x] Q ↔ Q (some x) h := VV_end rfl rfl
theorem xr_29_0 (h : AHp) (Q : Option Int32 → AHp → Prop) (l0 : Option AV) (x : Nat × Nat) (st : List AV) : VV 29 h 0 [l0, some (.inr x)] st Q ↔ VV 29 h 1 [l0, some (.inr x)] (.inr x :: st) Q := VV_step rfl rfl rfl rfl
theorem xr_29_1 (h : AHp) (Q : Option Int32 → AHp → Prop) (l0 l1 : Option AV) (i : Nat) (st : List AV) : VV 29 h 1 [l0, l1] (.inr (3, i) :: st) Q ↔ VV 29 h 4 [l0, l1] (.inl (h 3 i 2) :: st) Q := VV_step rfl rfl rfl rfl
theorem xr_29_4 (h : AHp) (Q : Option Int32 → AHp → Prop) (l1 : Option AV) (x : Nat × Nat) (st : List AV) : VV 29 h 4 [some (.inr x), l1] st Q ↔ VV 29 h 5 [some (.inr x), l1] (.inr x :: st) Q := VV_step rfl rfl rfl rfl
theorem xr_29_5 (h : AHp) (Q : Option Int32 → AHp → Prop) (l0 l1 : Option AV) (i : Nat) (st : List AV) : VV 29 h 5 [l0, l1] (.inr (0, i) :: st) Q ↔ VV 29 h 8 [l0, l1] (.inl (h 0 i 7) :: st) Q := VV_step rfl rfl rfl rfl
theorem xr_29_8 (h : AHp) (Q : Option Int32 → AHp → Prop) (l0 l1 : Option AV) (x y : Int32) (st : List AV) : VV 29 h 8 [l0, l1] (.inl y :: .inl x :: st) Q ↔ (x < y → VV 29 h 15 [l0, l1] st Q) ∧ (¬ (x < y) → VV 29 h 11 [l0, l1] st Q) := VV_br2 rfl rfl rfl decide_eq_true_iff
theorem xr_29_11 (h : AHp) (Q : Option Int32 → AHp → Prop) (l0 l1 : Option AV) (st : List AV) : VV 29 h 11 [l0, l1] st Q ↔ VV 29 h 12 [l0, l1] (.inl (1 : Int32) :: st) Q := VV_step rfl rfl rfl rfl
theorem xr_29_12 (h : AHp) (Q : Option Int32 → AHp → Prop) (l0 l1 : Option AV) (st : List AV) : VV 29 h 12 [l0, l1] st Q ↔ VV 29 h 16 [l0, l1] st Q := VV_step rfl rfl rfl rfl
theorem xr_29_15 (h : AHp) (Q : Option Int32 → AHp → Prop) (l0 l1 : Option AV) (st : List AV) : VV 29 h 15 [l0, l1] st Q ↔ VV 29 h 16 [l0, l1] (.inl (0 : Int32) :: st) Q := VV_step rfl rfl rfl rfl
theorem xr_29_16 (h : AHp) (Q : Option Int32 → AHp → Prop) (l0 l1 : Option AV) (x : Int32) : VV 29 h 16 [l0, l1] [.inl x] Q ↔ (x = 0 ∨ x = 1) ∧ Q (some x) h := VV_zret rfl rfl
theorem xr_30_0 (h : AHp) (Q : Option Int32 → AHp → Prop) (l0 l1 l2 l3 l4 : Option AV) (st : List AV) : VV 30 h 0 [l0, l1, l2, l3, l4] st Q ↔ VV 30 h 1 [l0, l1, l2, l3, l4] (.inl (-1 : Int32) :: st) Q := VV_step rfl rfl rfl rfl
theorem xr_30_1 (h : AHp) (Q : Option Int32 → AHp → Prop) (l0 l1 l2 l3 l4 : Option AV) (x : Int32) (st : List AV) : VV 30 h 1 [l0, l1, l2, l3, l4] (.inl x :: st) Q ↔ VV 30 h 2 [l0, l1, some (.inl x), l3, l4] st Q := VV_step rfl rfl rfl rfl
theorem xr_30_2 (h : AHp) (Q : Option Int32 → AHp → Prop) (l0 l1 l2 l3 l4 : Option AV) (st : List AV) : VV 30 h 2 [l0, l1, l2, l3, l4] st Q ↔ VV 30 h 3 [l0, l1, l2, l3, l4] (.inl (0 : Int32) :: st) Q := VV_step rfl rfl rfl rfl
theorem xr_30_3 (h : AHp) (Q : Option Int32 → AHp → Prop) (l0 l1 l2 l3 l4 : Option AV) (x : Int32) (st : List AV) : VV 30 h 3 [l0, l1, l2, l3, l4] (.inl x :: st) Q ↔ VV 30 h 4 [l0, l1, l2, some (.inl x), l4] st Q := VV_step rfl rfl rfl rfl
theorem xr_30_4 (h : AHp) (Q : Option Int32 → AHp → Prop) (l0 l1 l2 l4 : Option AV) (x : Int32) (st : List AV) : VV 30 h 4 [l0, l1, l2, some (.inl x), l4] st Q ↔ VV 30 h 5 [l0, l1, l2, some (.inl x), l4] (.inl x :: st) Q := VV_step rfl rfl rfl rfl
theorem xr_30_5 (h : AHp) (Q : Option Int32 → AHp → Prop) (l1 l2 l3 l4 : Option AV) (x : Nat × Nat) (st : List AV) : VV 30 h 5 [some (.inr x), l1, l2, l3, l4] st Q ↔ VV 30 h 6 [some (.inr x), l1, l2, l3, l4] (.inr x :: st) Q := VV_step rfl rfl rfl rfl
theorem xr_30_6 (h : AHp) (Q : Option Int32 → AHp → Prop) (l0 l1 l2 l3 l4 : Option AV) (i : Nat) (st : List AV) : VV 30 h 6 [l0, l1, l2, l3, l4] (.inr (0, i) :: st) Q ↔ VV 30 h 9 [l0, l1, l2, l3, l4] (.inl (h 0 i 3) :: st) Q := VV_step rfl rfl rfl rfl
theorem xr_30_9 (h : AHp) (Q : Option Int32 → AHp → Prop) (l0 l1 l2 l3 l4 : Option AV) (x y : Int32) (st : List AV) : VV 30 h 9 [l0, l1, l2, l3, l4] (.inl y :: .inl x :: st) Q ↔ (y ≤ x → VV 30 h 96 [l0, l1, l2, l3, l4] st Q) ∧ (¬ (y ≤ x) → VV 30 h 12 [l0, l1, l2, l3, l4] st Q) := VV_br2 rfl rfl rfl decide_eq_true_iff
theorem xr_30_12 (h : AHp) (Q : Option Int32 → AHp → Prop) (l1 l2 l3 l4 : Option AV) (x : Nat × Nat) (st : List AV) : VV 30 h 12 [some (.inr x), l1, l2, l3, l4] st Q ↔ VV 30 h 13 [some (.inr x), l1, l2, l3, l4] (.inr x :: st) Q := VV_step rfl rfl rfl rfl
theorem xr_30_13 (h : AHp) (Q : Option Int32 → AHp → Prop) (l0 l1 l2 l3 l4 : Option AV) (i : Nat) (st : List AV) : VV 30 h 13 [l0, l1, l2, l3, l4] (.inr (0, i) :: st) Q ↔ VV 30 h 16 [l0, l1, l2, l3, l4] (.inr (1, i) :: st) Q := VV_step rfl rfl rfl rfl
theorem xr_30_16 (h : AHp) (Q : Option Int32 → AHp → Prop) (l0 l1 l2 l4 : Option AV) (x : Int32) (st : List AV) : VV 30 h 16 [l0, l1, l2, some (.inl x), l4] st Q ↔ VV 30 h 17 [l0, l1, l2, some (.inl x), l4] (.inl x :: st) Q := VV_step rfl rfl rfl rfl
theorem xr_30_17_1 (h : AHp) (Q : Option Int32 → AHp → Prop) (l0 l1 l2 l3 l4 : Option AV) (x : Int32) (i : Nat) (st : List AV) : VV 30 h 17 [l0, l1, l2, l3, l4] (.inl x :: .inr (1, i) :: st) Q ↔ vp_in x 20 ∧ VV 30 h 18 [l0, l1, l2, l3, l4] (.inr (3, x.toNatClampNeg) :: st) Q := VV_aald rfl rfl
theorem xr_30_17_2 (h : AHp) (Q : Option Int32 → AHp → Prop) (l0 l1 l2 l3 l4 : Option AV) (x : Int32) (i : Nat) (st : List AV) : VV 30 h 17 [l0, l1, l2, l3, l4] (.inl x :: .inr (2, i) :: st) Q ↔ vp_in x 8 ∧ VV 30 h 18 [l0, l1, l2, l3, l4] (.inr (4, x.toNatClampNeg) :: st) Q := VV_aald rfl rfl
theorem xr_30_18 (h : AHp) (Q : Option Int32 → AHp → Prop) (l0 l1 l2 l3 l4 : Option AV) (i : Nat) (st : List AV) : VV 30 h 18 [l0, l1, l2, l3, l4] (.inr (3, i) :: st) Q ↔ VV 30 h 21 [l0, l1, l2, l3, l4] (.inl (h 3 i 0) :: st) Q := VV_step rfl rfl rfl rfl
theorem xr_30_21 (h : AHp) (Q : Option Int32 → AHp → Prop) (l0 l2 l3 l4 : Option AV) (x : Int32) (st : List AV) : VV 30 h 21 [l0, some (.inl x), l2, l3, l4] st Q ↔ VV 30 h 22 [l0, some (.inl x), l2, l3, l4] (.inl x :: st) Q := VV_step rfl rfl rfl rfl
theorem xr_30_22 (h : AHp) (Q : Option Int32 → AHp → Prop) (l0 l1 l2 l3 l4 : Option AV) (x y : Int32) (st : List AV) : VV 30 h 22 [l0, l1, l2, l3, l4] (.inl y :: .inl x :: st) Q ↔ (¬ x = y → VV 30 h 54 [l0, l1, l2, l3, l4] st Q) ∧ (¬ (¬ x = y) → VV 30 h 25 [l0, l1, l2, l3, l4] st Q) := VV_br2 rfl rfl rfl decide_eq_true_iff
theorem xr_30_25 (h : AHp) (Q : Option Int32 → AHp → Prop) (l1 l2 l3 l4 : Option AV) (x : Nat × Nat) (st : List AV) : VV 30 h 25 [some (.inr x), l1, l2, l3, l4] st Q ↔ VV 30 h 26 [some (.inr x), l1, l2, l3, l4] (.inr x :: st) Q := VV_step rfl rfl rfl rfl
theorem xr_30_26 (h : AHp) (Q : Option Int32 → AHp → Prop) (l0 l1 l2 l3 l4 : Option AV) (i : Nat) (st : List AV) : VV 30 h 26 [l0, l1, l2, l3, l4] (.inr (0, i) :: st) Q ↔ VV 30 h 29 [l0, l1, l2, l3, l4] (.inr (1, i) :: st) Q := VV_step rfl rfl rfl rfl
theorem xr_30_29 (h : AHp) (Q : Option Int32 → AHp → Prop) (l0 l1 l2 l4 : Option AV) (x : Int32) (st : List AV) : VV 30 h 29 [l0, l1, l2, some (.inl x), l4] st Q ↔ VV 30 h 30 [l0, l1, l2, some (.inl x), l4] (.inl x :: st) Q := VV_step rfl rfl rfl rfl
theorem xr_30_30_1 (h : AHp) (Q : Option Int32 → AHp → Prop) (l0 l1 l2 l3 l4 : Option AV) (x : Int32) (i : Nat) (st : List AV) : VV 30 h 30 [l0, l1, l2, l3, l4] (.inl x :: .inr (1, i) :: st) Q ↔ vp_in x 20 ∧ VV 30 h 31 [l0, l1, l2, l3, l4] (.inr (3, x.toNatClampNeg) :: st) Q := VV_aald rfl rfl
theorem xr_30_30_2 (h : AHp) (Q : Option Int32 → AHp → Prop) (l0 l1 l2 l3 l4 : Option AV) (x : Int32) (i : Nat) (st : List AV) : VV 30 h 30 [l0, l1, l2, l3, l4] (.inl x :: .inr (2, i) :: st) Q ↔ vp_in x 8 ∧ VV 30 h 31 [l0, l1, l2, l3, l4] (.inr (4, x.toNatClampNeg) :: st) Q := VV_aald rfl rfl
theorem xr_30_31 (h : AHp) (Q : Option Int32 → AHp → Prop) (l0 l1 l2 l3 l4 : Option AV) (i : Nat) : VV 30 h 31 [l0, l1, l2, l3, l4] [.inr (3, i)] Q ↔ Vi 1 h [some (.inr (3, i))] (fun z h2 => VV 30 h2 34 [l0, l1, l2, l3, l4] [.inl z] Q) := VV_calli (y := 1) (as := [.inr (3, i)]) (rest := []) rfl rfl rfl (ah_noV (y := 1) (by decide))
theorem xr_30_34 (h : AHp) (Q : Option Int32 → AHp → Prop) (l0 l1 l2 l3 l4 : Option AV) (x : Int32) (st : List AV) : VV 30 h 34 [l0, l1, l2, l3, l4] (.inl x :: st) Q ↔ (x = 0 → VV 30 h 54 [l0, l1, l2, l3, l4] st Q) ∧ (¬ (x = 0) → VV 30 h 37 [l0, l1, l2, l3, l4] st Q) := VV_br rfl rfl rfl decide_eq_true_iff
theorem xr_30_37 (h : AHp) (Q : Option Int32 → AHp → Prop) (l1 l2 l3 l4 : Option AV) (x : Nat × Nat) (st : List AV) : VV 30 h 37 [some (.inr x), l1, l2, l3, l4] st Q ↔ VV 30 h 38 [some (.inr x), l1, l2, l3, l4] (.inr x :: st) Q := VV_step rfl rfl rfl rfl
theorem xr_30_38 (h : AHp) (Q : Option Int32 → AHp → Prop) (l1 l2 l3 l4 : Option AV) (x : Nat × Nat) (st : List AV) : VV 30 h 38 [some (.inr x), l1, l2, l3, l4] st Q ↔ VV 30 h 39 [some (.inr x), l1, l2, l3, l4] (.inr x :: st) Q := VV_step rfl rfl rfl rfl
theorem xr_30_39 (h : AHp) (Q : Option Int32 → AHp → Prop) (l0 l1 l2 l3 l4 : Option AV) (i : Nat) (st : List AV) : VV 30 h 39 [l0, l1, l2, l3, l4] (.inr (0, i) :: st) Q ↔ VV 30 h 42 [l0, l1, l2, l3, l4] (.inr (1, i) :: st) Q := VV_step rfl rfl rfl rfl
theorem xr_30_42 (h : AHp) (Q : Option Int32 → AHp → Prop) (l0 l1 l2 l4 : Option AV) (x : Int32) (st : List AV) : VV 30 h 42 [l0, l1, l2, some (.inl x), l4] st Q ↔ VV 30 h 43 [l0, l1, l2, some (.inl x), l4] (.inl x :: st) Q := VV_step rfl rfl rfl rfl
theorem xr_30_43_1 (h : AHp) (Q : Option Int32 → AHp → Prop) (l0 l1 l2 l3 l4 : Option AV) (x : Int32) (i : Nat) (st : List AV) : VV 30 h 43 [l0, l1, l2, l3, l4] (.inl x :: .inr (1, i) :: st) Q ↔ vp_in x 20 ∧ VV 30 h 44 [l0, l1, l2, l3, l4] (.inr (3, x.toNatClampNeg) :: st) Q := VV_aald rfl rfl
theorem xr_30_43_2 (h : AHp) (Q : Option Int32 → AHp → Prop) (l0 l1 l2 l3 l4 : Option AV) (x : Int32) (i : Nat) (st : List AV) : VV 30 h 43 [l0, l1, l2, l3, l4] (.inl x :: .inr (2, i) :: st) Q ↔ vp_in x 8 ∧ VV 30 h 44 [l0, l1, l2, l3, l4] (.inr (4, x.toNatClampNeg) :: st) Q := VV_aald rfl rfl
theorem xr_30_44 (h : AHp) (Q : Option Int32 → AHp → Prop) (l0 l1 l2 l3 l4 : Option AV) (a0 : AV) (i : Nat) : VV 30 h 44 [l0, l1, l2, l3, l4] [a0, .inr (0, i)] Q ↔ Vi 29 h [some (.inr (0, i)), some a0] (fun z h2 => VV 30 h2 47 [l0, l1, l2, l3, l4] [.inl z] Q) := VV_calli (y := 29) (as := [.inr (0, i), a0]) (rest := []) rfl rfl rfl (ah_noV (y := 29) (by decide))
theorem xr_30_47 (h : AHp) (Q : Option Int32 → AHp → Prop) (l0 l1 l2 l3 l4 : Option AV) (x : Int32) (st : List AV) : VV 30 h 47 [l0, l1, l2, l3, l4] (.inl x :: st) Q ↔ (¬ x = 0 → VV 30 h 54 [l0, l1, l2, l3, l4] st Q) ∧ (¬ (¬ x = 0) → VV 30 h 50 [l0, l1, l2, l3, l4] st Q) := VV_br rfl rfl rfl decide_eq_true_iff
theorem xr_30_50 (h : AHp) (Q : Option Int32 → AHp → Prop) (l0 l1 l2 l3 l4 : Option AV) (st : List AV) : VV 30 h 50 [l0, l1, l2, l3, l4] st Q ↔ VV 30 h 51 [l0, l1, l2, l3, l4] (.inl (1 : Int32) :: st) Q := VV_step rfl rfl rfl rfl
theorem xr_30_51 (h : AHp) (Q : Option Int32 → AHp → Prop) (l0 l1 l2 l3 l4 : Option AV) (st : List AV) : VV 30 h 51 [l0, l1, l2, l3, l4] st Q ↔ VV 30 h 55 [l0, l1, l2, l3, l4] st Q := VV_step rfl rfl rfl rfl
theorem xr_30_54 (h : AHp) (Q : Option Int32 → AHp → Prop) (l0 l1 l2 l3 l4 : Option AV) (st : List AV) : VV 30 h 54 [l0, l1, l2, l3, l4] st Q ↔ VV 30 h 55 [l0, l1, l2, l3, l4] (.inl (0 : Int32) :: st) Q := VV_step rfl rfl rfl rfl
theorem xr_30_55 (h : AHp) (Q : Option Int32 → AHp → Prop) (l0 l1 l2 l3 l4 : Option AV) (x : Int32) (st : List AV) : VV 30 h 55 [l0, l1, l2, l3, l4] (.inl x :: st) Q ↔ VV 30 h 57 [l0, l1, l2, l3, some (.inl x)] st Q := VV_step rfl rfl rfl rfl
theorem xr_30_57 (h : AHp) (Q : Option Int32 → AHp → Prop) (l0 l1 l2 l3 : Option AV) (x : Int32) (st : List AV) : VV 30 h 57 [l0, l1, l2, l3, some (.inl x)] st Q ↔ VV 30 h 59 [l0, l1, l2, l3, some (.inl x)] (.inl x :: st) Q := VV_step rfl rfl rfl rfl
theorem xr_30_59 (h : AHp) (Q : Option Int32 → AHp → Prop) (l0 l1 l2 l3 l4 : Option AV) (x : Int32) (st : List AV) : VV 30 h 59 [l0, l1, l2, l3, l4] (.inl x :: st) Q ↔ (x = 0 → VV 30 h 90 [l0, l1, l2, l3, l4] st Q) ∧ (¬ (x = 0) → VV 30 h 62 [l0, l1, l2, l3, l4] st Q) := VV_br rfl rfl rfl decide_eq_true_iff
theorem xr_30_62 (h : AHp) (Q : Option Int32 → AHp → Prop) (l0 l1 l3 l4 : Option AV) (x : Int32) (st : List AV) : VV 30 h 62 [l0, l1, some (.inl x), l3, l4] st Q ↔ VV 30 h 63 [l0, l1, some (.inl x), l3, l4] (.inl x :: st) Q := VV_step rfl rfl rfl rfl
theorem xr_30_63 (h : AHp) (Q : Option Int32 → AHp → Prop) (l0 l1 l2 l3 l4 : Option AV) (st : List AV) : VV 30 h 63 [l0, l1, l2, l3, l4] st Q ↔ VV 30 h 64 [l0, l1, l2, l3, l4] (.inl (-1 : Int32) :: st) Q := VV_step rfl rfl rfl rfl
theorem xr_30_64 (h : AHp) (Q : Option Int32 → AHp → Prop) (l0 l1 l2 l3 l4 : Option AV) (x y : Int32) (st : List AV) : VV 30 h 64 [l0, l1, l2, l3, l4] (.inl y :: .inl x :: st) Q ↔ (x = y → VV 30 h 88 [l0, l1, l2, l3, l4] st Q) ∧ (¬ (x = y) → VV 30 h 67 [l0, l1, l2, l3, l4] st Q) := VV_br2 rfl rfl rfl decide_eq_true_iff
theorem xr_30_67 (h : AHp) (Q : Option Int32 → AHp → Prop) (l1 l2 l3 l4 : Option AV) (x : Nat × Nat) (st : List AV) : VV 30 h 67 [some (.inr x), l1, l2, l3, l4] st Q ↔ VV 30 h 68 [some (.inr x), l1, l2, l3, l4] (.inr x :: st) Q := VV_step rfl rfl rfl rfl
theorem xr_30_68 (h : AHp) (Q : Option Int32 → AHp → Prop) (l0 l1 l2 l3 l4 : Option AV) (i : Nat) (st : List AV) : VV 30 h 68 [l0, l1, l2, l3, l4] (.inr (0, i) :: st) Q ↔ VV 30 h 71 [l0, l1, l2, l3, l4] (.inr (1, i) :: st) Q := VV_step rfl rfl rfl rfl
theorem xr_30_71 (h : AHp) (Q : Option Int32 → AHp → Prop) (l0 l1 l2 l4 : Option AV) (x : Int32) (st : List AV) : VV 30 h 71 [l0, l1, l2, some (.inl x), l4] st Q ↔ VV 30 h 72 [l0, l1, l2, some (.inl x), l4] (.inl x :: st) Q := VV_step rfl rfl rfl rfl
theorem xr_30_72_1 (h : AHp) (Q : Option Int32 → AHp → Prop) (l0 l1 l2 l3 l4 : Option AV) (x : Int32) (i : Nat) (st : List AV) : VV 30 h 72 [l0, l1, l2, l3, l4] (.inl x :: .inr (1, i) :: st) Q ↔ vp_in x 20 ∧ VV 30 h 73 [l0, l1, l2, l3, l4] (.inr (3, x.toNatClampNeg) :: st) Q := VV_aald rfl rfl
theorem xr_30_72_2 (h : AHp) (Q : Option Int32 → AHp → Prop) (l0 l1 l2 l3 l4 : Option AV) (x : Int32) (i : Nat) (st : List AV) : VV 30 h 72 [l0, l1, l2, l3, l4] (.inl x :: .inr (2, i) :: st) Q ↔ vp_in x 8 ∧ VV 30 h 73 [l0, l1, l2, l3, l4] (.inr (4, x.toNatClampNeg) :: st) Q := VV_aald rfl rfl
theorem xr_30_73 (h : AHp) (Q : Option Int32 → AHp → Prop) (l0 l1 l2 l3 l4 : Option AV) (i : Nat) (st : List AV) : VV 30 h 73 [l0, l1, l2, l3, l4] (.inr (3, i) :: st) Q ↔ VV 30 h 76 [l0, l1, l2, l3, l4] (.inl (h 3 i 2) :: st) Q := VV_step rfl rfl rfl rfl
theorem xr_30_76 (h : AHp) (Q : Option Int32 → AHp → Prop) (l1 l2 l3 l4 : Option AV) (x : Nat × Nat) (st : List AV) : VV 30 h 76 [some (.inr x), l1, l2, l3, l4] st Q ↔ VV 30 h 77 [some (.inr x), l1, l2, l3, l4] (.inr x :: st) Q := VV_step rfl rfl rfl rfl
theorem xr_30_77 (h : AHp) (Q : Option Int32 → AHp → Prop) (l0 l1 l2 l3 l4 : Option AV) (i : Nat) (st : List AV) : VV 30 h 77 [l0, l1, l2, l3, l4] (.inr (0, i) :: st) Q ↔ VV 30 h 80 [l0, l1, l2, l3, l4] (.inr (1, i) :: st) Q := VV_step rfl rfl rfl rfl
theorem xr_30_80 (h : AHp) (Q : Option Int32 → AHp → Prop) (l0 l1 l3 l4 : Option AV) (x : Int32) (st : List AV) : VV 30 h 80 [l0, l1, some (.inl x), l3, l4] st Q ↔ VV 30 h 81 [l0, l1, some (.inl x), l3, l4] (.inl x :: st) Q := VV_step rfl rfl rfl rfl
theorem xr_30_81_1 (h : AHp) (Q : Option Int32 → AHp → Prop) (l0 l1 l2 l3 l4 : Option AV) (x : Int32) (i : Nat) (st : List AV) : VV 30 h 81 [l0, l1, l2, l3, l4] (.inl x :: .inr (1, i) :: st) Q ↔ vp_in x 20 ∧ VV 30 h 82 [l0, l1, l2, l3, l4] (.inr (3, x.toNatClampNeg) :: st) Q := VV_aald rfl rfl
theorem xr_30_81_2 (h : AHp) (Q : Option Int32 → AHp → Prop) (l0 l1 l2 l3 l4 : Option AV) (x : Int32) (i : Nat) (st : List AV) : VV 30 h 81 [l0, l1, l2, l3, l4] (.inl x :: .inr (2, i) :: st) Q ↔ vp_in x 8 ∧ VV 30 h 82 [l0, l1, l2, l3, l4] (.inr (4, x.toNatClampNeg) :: st) Q := VV_aald rfl rfl
theorem xr_30_82 (h : AHp) (Q : Option Int32 → AHp → Prop) (l0 l1 l2 l3 l4 : Option AV) (i : Nat) (st : List AV) : VV 30 h 82 [l0, l1, l2, l3, l4] (.inr (3, i) :: st) Q ↔ VV 30 h 85 [l0, l1, l2, l3, l4] (.inl (h 3 i 2) :: st) Q := VV_step rfl rfl rfl rfl
theorem xr_30_85 (h : AHp) (Q : Option Int32 → AHp → Prop) (l0 l1 l2 l3 l4 : Option AV) (x y : Int32) (st : List AV) : VV 30 h 85 [l0, l1, l2, l3, l4] (.inl y :: .inl x :: st) Q ↔ (y ≤ x → VV 30 h 90 [l0, l1, l2, l3, l4] st Q) ∧ (¬ (y ≤ x) → VV 30 h 88 [l0, l1, l2, l3, l4] st Q) := VV_br2 rfl rfl rfl decide_eq_true_iff
theorem xr_30_88 (h : AHp) (Q : Option Int32 → AHp → Prop) (l0 l1 l2 l4 : Option AV) (x : Int32) (st : List AV) : VV 30 h 88 [l0, l1, l2, some (.inl x), l4] st Q ↔ VV 30 h 89 [l0, l1, l2, some (.inl x), l4] (.inl x :: st) Q := VV_step rfl rfl rfl rfl
theorem xr_30_89 (h : AHp) (Q : Option Int32 → AHp → Prop) (l0 l1 l2 l3 l4 : Option AV) (x : Int32) (st : List AV) : VV 30 h 89 [l0, l1, l2, l3, l4] (.inl x :: st) Q ↔ VV 30 h 90 [l0, l1, some (.inl x), l3, l4] st Q := VV_step rfl rfl rfl rfl
theorem xr_30_90 (h : AHp) (Q : Option Int32 → AHp → Prop) (l0 l1 l2 l4 : Option AV) (x : Int32) (st : List AV) : VV 30 h 90 [l0, l1, l2, some (.inl x), l4] st Q ↔ VV 30 h 93 [l0, l1, l2, some (.inl (x + (1 : Int32))), l4] st Q := VV_step rfl rfl rfl rfl
theorem xr_30_93 (h : AHp) (Q : Option Int32 → AHp → Prop) (l0 l1 l2 l3 l4 : Option AV) (st : List AV) : VV 30 h 93 [l0, l1, l2, l3, l4] st Q ↔ VV 30 h 4 [l0, l1, l2, l3, l4] st Q := VV_step rfl rfl rfl rfl
theorem xr_30_96 (h : AHp) (Q : Option Int32 → AHp → Prop) (l0 l1 l3 l4 : Option AV) (x : Int32) (st : List AV) : VV 30 h 96 [l0, l1, some (.inl x), l3, l4] st Q ↔ VV 30 h 97 [l0, l1, some (.inl x), l3, l4] (.inl x :: st) Q := VV_step rfl rfl rfl rfl
theorem xr_30_97 (h : AHp) (Q : Option Int32 → AHp → Prop) (l0 l1 l2 l3 l4 : Option AV) (x : Int32) : VV 30 h 97 [l0, l1, l2, l3, l4] [.inl x] Q ↔ Q (some x) h := VV_end rfl rfl
theorem xr_31_0 (h : AHp) (Q : Option Int32 → AHp → Prop) (l0 l1 l2 l3 : Option AV) (st : List AV) : VV 31 h 0 [l0, l1, l2, l3] st Q ↔ VV 31 h 1 [l0, l1, l2, l3] (.inl (0 : Int32) :: st) Q := VV_step rfl rfl rfl rfl
theorem xr_31_1 (h : AHp) (Q : Option Int32 → AHp → Prop) (l0 l1 l2 l3 : Option AV) (x : Int32) (st : List AV) : VV 31 h 1 [l0, l1, l2, l3] (.inl x :: st) Q ↔ VV 31 h 2 [l0, l1, some (.inl x), l3] st Q := VV_step rfl rfl rfl rfl
theorem xr_31_2 (h : AHp) (Q : Option Int32 → AHp → Prop) (l0 l1 l2 l3 : Option AV) (st : List AV) : VV 31 h 2 [l0, l1, l2, l3] st Q ↔ VV 31 h 3 [l0, l1, l2, l3] (.inl (0 : Int32) :: st) Q := VV_step rfl rfl rfl rfl
theorem xr_31_3 (h : AHp) (Q : Option Int32 → AHp → Prop) (l0 l1 l2 l3 : Option AV) (x : Int32) (st : List AV) : VV 31 h 3 [l0, l1, l2, l3] (.inl x :: st) Q ↔ VV 31 h 4 [l0, l1, l2, some (.inl x)] st Q := VV_step rfl rfl rfl rfl
theorem xr_31_4 (h : AHp) (Q : Option Int32 → AHp → Prop) (l0 l1 l2 : Option AV) (x : Int32) (st : List AV) : VV 31 h 4 [l0, l1, l2, some (.inl x)] st Q ↔ VV 31 h 5 [l0, l1, l2, some (.inl x)] (.inl x :: st) Q := VV_step rfl rfl rfl rfl
theorem xr_31_5 (h : AHp) (Q : Option Int32 → AHp → Prop) (l1 l2 l3 : Option AV) (x : Nat × Nat) (st : List AV) : VV 31 h 5 [some (.inr x), l1, l2, l3] st Q ↔ VV 31 h 6 [some (.inr x), l1, l2, l3] (.inr x :: st) Q := VV_step rfl rfl rfl rfl
theorem xr_31_6 (h : AHp) (Q : Option Int32 → AHp → Prop) (l0 l1 l2 l3 : Option AV) (i : Nat) (st : List AV) : VV 31 h 6 [l0, l1, l2, l3] (.inr (0, i) :: st) Q ↔ VV 31 h 9 [l0, l1, l2, l3] (.inl (h 0 i 3) :: st) Q := VV_step rfl rfl rfl rfl
theorem xr_31_9 (h : AHp) (Q : Option Int32 → AHp → Prop) (l0 l1 l2 l3 : Option AV) (x y : Int32) (st : List AV) : VV 31 h 9 [l0, l1, l2, l3] (.inl y :: .inl x :: st) Q ↔ (y ≤ x → VV 31 h 47 [l0, l1, l2, l3] st Q) ∧ (¬ (y ≤ x) → VV 31 h 12 [l0, l1, l2, l3] st Q) := VV_br2 rfl rfl rfl decide_eq_true_iff
theorem xr_31_12 (h : AHp) (Q : Option Int32 → AHp → Prop) (l1 l2 l3 : Option AV) (x : Nat × Nat) (st : List AV) : VV 31 h 12 [some (.inr x), l1, l2, l3] st Q ↔ VV 31 h 13 [some (.inr x), l1, l2, l3] (.inr x :: st) Q := VV_step rfl rfl rfl rfl
theorem xr_31_13 (h : AHp) (Q : Option Int32 → AHp → Prop) (l0 l1 l2 l3 : Option AV) (i : Nat) (st : List AV) : VV 31 h 13 [l0, l1, l2, l3] (.inr (0, i) :: st) Q ↔ VV 31 h 16 [l0, l1, l2, l3] (.inr (1, i) :: st) Q := VV_step rfl rfl rfl rfl
theorem xr_31_16 (h : AHp) (Q : Option Int32 → AHp → Prop) (l0 l1 l2 : Option AV) (x : Int32) (st : List AV) : VV 31 h 16 [l0, l1, l2, some (.inl x)] st Q ↔ VV 31 h 17 [l0, l1, l2, some (.inl x)] (.inl x :: st) Q := VV_step rfl rfl rfl rfl
theorem xr_31_17_1 (h : AHp) (Q : Option Int32 → AHp → Prop) (l0 l1 l2 l3 : Option AV) (x : Int32) (i : Nat) (st : List AV) : VV 31 h 17 [l0, l1, l2, l3] (.inl x :: .inr (1, i) :: st) Q ↔ vp_in x 20 ∧ VV 31 h 18 [l0, l1, l2, l3] (.inr (3, x.toNatClampNeg) :: st) Q := VV_aald rfl rfl
theorem xr_31_17_2 (h : AHp) (Q : Option Int32 → AHp → Prop) (l0 l1 l2 l3 : Option AV) (x : Int32) (i : Nat) (st : List AV) : VV 31 h 17 [l0, l1, l2, l3] (.inl x :: .inr (2, i) :: st) Q ↔ vp_in x 8 ∧ VV 31 h 18 [l0, l1, l2, l3] (.inr (4, x.toNatClampNeg) :: st) Q := VV_aald rfl rfl
theorem xr_31_18 (h : AHp) (Q : Option Int32 → AHp → Prop) (l0 l1 l2 l3 : Option AV) (i : Nat) (st : List AV) : VV 31 h 18 [l0, l1, l2, l3] (.inr (3, i) :: st) Q ↔ VV 31 h 21 [l0, l1, l2, l3] (.inl (h 3 i 0) :: st) Q := VV_step rfl rfl rfl rfl
theorem xr_31_21 (h : AHp) (Q : Option Int32 → AHp → Prop) (l0 l2 l3 : Option AV) (x : Int32) (st : List AV) : VV 31 h 21 [l0, some (.inl x), l2, l3] st Q ↔ VV 31 h 22 [l0, some (.inl x), l2, l3] (.inl x :: st) Q := VV_step rfl rfl rfl rfl
theorem xr_31_22 (h : AHp) (Q : Option Int32 → AHp → Prop) (l0 l1 l2 l3 : Option AV) (x y : Int32) (st : List AV) : VV 31 h 22 [l0, l1, l2, l3] (.inl y :: .inl x :: st) Q ↔ (¬ x = y → VV 31 h 41 [l0, l1, l2, l3] st Q) ∧ (¬ (¬ x = y) → VV 31 h 25 [l0, l1, l2, l3] st Q) := VV_br2 rfl rfl rfl decide_eq_true_iff
theorem xr_31_25 (h : AHp) (Q : Option Int32 → AHp → Prop) (l1 l2 l3 : Option AV) (x : Nat × Nat) (st : List AV) : VV 31 h 25 [some (.inr x), l1, l2, l3] st Q ↔ VV 31 h 26 [some (.inr x), l1, l2, l3] (.inr x :: st) Q := VV_step rfl rfl rfl rfl
theorem xr_31_26 (h : AHp) (Q : Option Int32 → AHp → Prop) (l1 l2 l3 : Option AV) (x : Nat × Nat) (st : List AV) : VV 31 h 26 [some (.inr x), l1, l2, l3] st Q ↔ VV 31 h 27 [some (.inr x), l1, l2, l3] (.inr x :: st) Q := VV_step rfl rfl rfl rfl
theorem xr_31_27 (h : AHp) (Q : Option Int32 → AHp → Prop) (l0 l1 l2 l3 : Option AV) (i : Nat) (st : List AV) : VV 31 h 27 [l0, l1, l2, l3] (.inr (0, i) :: st) Q ↔ VV 31 h 30 [l0, l1, l2, l3] (.inr (1, i) :: st) Q := VV_step rfl rfl rfl rfl
theorem xr_31_30 (h : AHp) (Q : Option Int32 → AHp → Prop) (l0 l1 l2 : Option AV) (x : Int32) (st : List AV) : VV 31 h 30 [l0, l1, l2, some (.inl x)] st Q ↔ VV 31 h 31 [l0, l1, l2, some (.inl x)] (.inl x :: st) Q := VV_step rfl rfl rfl rfl
theorem xr_31_31_1 (h : AHp) (Q : Option Int32 → AHp → Prop) (l0 l1 l2 l3 : Option AV) (x : Int32) (i : Nat) (st : List AV) : VV 31 h 31 [l0, l1, l2, l3] (.inl x :: .inr (1, i) :: st) Q ↔ vp_in x 20 ∧ VV 31 h 32 [l0, l1, l2, l3] (.inr (3, x.toNatClampNeg) :: st) Q := VV_aald rfl rfl
theorem xr_31_31_2 (h : AHp) (Q : Option Int32 → AHp → Prop) (l0 l1 l2 l3 : Option AV) (x : Int32) (i : Nat) (st : List AV) : VV 31 h 31 [l0, l1, l2, l3] (.inl x :: .inr (2, i) :: st) Q ↔ vp_in x 8 ∧ VV 31 h 32 [l0, l1, l2, l3] (.inr (4, x.toNatClampNeg) :: st) Q := VV_aald rfl rfl
theorem xr_31_32 (h : AHp) (Q : Option Int32 → AHp → Prop) (l0 l1 l2 l3 : Option AV) (a0 : AV) (i : Nat) : VV 31 h 32 [l0, l1, l2, l3] [a0, .inr (0, i)] Q ↔ Vi 29 h [some (.inr (0, i)), some a0] (fun z h2 => VV 31 h2 35 [l0, l1, l2, l3] [.inl z] Q) := VV_calli (y := 29) (as := [.inr (0, i), a0]) (rest := []) rfl rfl rfl (ah_noV (y := 29) (by decide))
theorem xr_31_35 (h : AHp) (Q : Option Int32 → AHp → Prop) (l0 l1 l2 l3 : Option AV) (x : Int32) (st : List AV) : VV 31 h 35 [l0, l1, l2, l3] (.inl x :: st) Q ↔ (¬ x = 0 → VV 31 h 41 [l0, l1, l2, l3] st Q) ∧ (¬ (¬ x = 0) → VV 31 h 38 [l0, l1, l2, l3] st Q) := VV_br rfl rfl rfl decide_eq_true_iff
theorem xr_31_38 (h : AHp) (Q : Option Int32 → AHp → Prop) (l0 l1 l3 : Option AV) (x : Int32) (st : List AV) : VV 31 h 38 [l0, l1, some (.inl x), l3] st Q ↔ VV 31 h 41 [l0, l1, some (.inl (x + (1 : Int32))), l3] st Q := VV_step rfl rfl rfl rfl
theorem xr_31_41 (h : AHp) (Q : Option Int32 → AHp → Prop) (l0 l1 l2 : Option AV) (x : Int32) (st : List AV) : VV 31 h 41 [l0, l1, l2, some (.inl x)] st Q ↔ VV 31 h 44 [l0, l1, l2, some (.inl (x + (1 : Int32)))] st Q := VV_step rfl rfl rfl rfl
theorem xr_31_44 (h : AHp) (Q : Option Int32 → AHp → Prop) (l0 l1 l2 l3 : Option AV) (st : List AV) : VV 31 h 44 [l0, l1, l2, l3] st Q ↔ VV 31 h 4 [l0, l1, l2, l3] st Q := VV_step rfl rfl rfl rfl
theorem xr_31_47 (h : AHp) (Q : Option Int32 → AHp → Prop) (l0 l1 l3 : Option AV) (x : Int32) (st : List AV) : VV 31 h 47 [l0, l1, some (.inl x), l3] st Q ↔ VV 31 h 48 [l0, l1, some (.inl x), l3] (.inl x :: st) Q := VV_step rfl rfl rfl rfl
theorem xr_31_48 (h : AHp) (Q : Option Int32 → AHp → Prop) (l0 l1 l2 l3 : Option AV) (x : Int32) : VV 31 h 48 [l0, l1, l2, l3] [.inl x] Q ↔ Q (some x) h := VV_end rfl rfl
theorem xr_32_0 (h : AHp) (Q : Option Int32 → AHp → Prop) (l0 l1 l2 l3 l4 l5 l6 : Option AV) (st : List AV) : VV 32 h 0 [l0, l1, l2, l3, l4, l5, l6] st Q ↔ VV 32 h 1 [l0, l1, l2, l3, l4, l5, l6] (.inl (-1 : Int32) :: st) Q := VV_step rfl rfl rfl rfl
theorem xr_32_1 (h : AHp) (Q : Option Int32 → AHp → Prop) (l0 l1 l2 l3 l4 l5 l6 : Option AV) (x : Int32) (st : List AV) : VV 32 h 1 [l0, l1, l2, l3, l4, l5, l6] (.inl x :: st) Q ↔ VV 32 h 2 [l0, l1, some (.inl x), l3, l4, l5, l6] st Q := VV_step rfl rfl rfl rfl
theorem xr_32_2 (h : AHp) (Q : Option Int32 → AHp → Prop) (l0 l1 l2 l3 l4 l5 l6 : Option AV) (st : List AV) : VV 32 h 2 [l0, l1, l2, l3, l4, l5, l6] st Q ↔ VV 32 h 3 [l0, l1, l2, l3, l4, l5, l6] (.inl (0 : Int32) :: st) Q := VV_step rfl rfl rfl rfl
theorem xr_32_3 (h : AHp) (Q : Option Int32 → AHp → Prop) (l0 l1 l2 l3 l4 l5 l6 : Option AV) (x : Int32) (st : List AV) : VV 32 h 3 [l0, l1, l2, l3, l4, l5, l6] (.inl x :: st) Q ↔ VV 32 h 4 [l0, l1, l2, some (.inl x), l4, l5, l6] st Q := VV_step rfl rfl rfl rfl
theorem xr_32_4 (h : AHp) (Q : Option Int32 → AHp → Prop) (l0 l1 l2 l3 l4 l5 l6 : Option AV) (st : List AV) : VV 32 h 4 [l0, l1, l2, l3, l4, l5, l6] st Q ↔ VV 32 h 5 [l0, l1, l2, l3, l4, l5, l6] (.inl (0 : Int32) :: st) Q := VV_step rfl rfl rfl rfl
theorem xr_32_5 (h : AHp) (Q : Option Int32 → AHp → Prop) (l0 l1 l2 l3 l4 l5 l6 : Option AV) (x : Int32) (st : List AV) : VV 32 h 5 [l0, l1, l2, l3, l4, l5, l6] (.inl x :: st) Q ↔ VV 32 h 7 [l0, l1, l2, l3, some (.inl x), l5, l6] st Q := VV_step rfl rfl rfl rfl
theorem xr_32_7 (h : AHp) (Q : Option Int32 → AHp → Prop) (l0 l1 l2 l3 l5 l6 : Option AV) (x : Int32) (st : List AV) : VV 32 h 7 [l0, l1, l2, l3, some (.inl x), l5, l6] st Q ↔ VV 32 h 9 [l0, l1, l2, l3, some (.inl x), l5, l6] (.inl x :: st) Q := VV_step rfl rfl rfl rfl
theorem xr_32_9 (h : AHp) (Q : Option Int32 → AHp → Prop) (l1 l2 l3 l4 l5 l6 : Option AV) (x : Nat × Nat) (st : List AV) : VV 32 h 9 [some (.inr x), l1, l2, l3, l4, l5, l6] st Q ↔ VV 32 h 10 [some (.inr x), l1, l2, l3, l4, l5, l6] (.inr x :: st) Q := VV_step rfl rfl rfl rfl
theorem xr_32_10 (h : AHp) (Q : Option Int32 → AHp → Prop) (l0 l1 l2 l3 l4 l5 l6 : Option AV) (i : Nat) (st : List AV) : VV 32 h 10 [l0, l1, l2, l3, l4, l5, l6] (.inr (0, i) :: st) Q ↔ VV 32 h 13 [l0, l1, l2, l3, l4, l5, l6] (.inl (h 0 i 2) :: st) Q := VV_step rfl rfl rfl rfl
theorem xr_32_13 (h : AHp) (Q : Option Int32 → AHp → Prop) (l0 l1 l2 l3 l4 l5 l6 : Option AV) (x y : Int32) (st : List AV) : VV 32 h 13 [l0, l1, l2, l3, l4, l5, l6] (.inl y :: .inl x :: st) Q ↔ (y ≤ x → VV 32 h 86 [l0, l1, l2, l3, l4, l5, l6] st Q) ∧ (¬ (y ≤ x) → VV 32 h 16 [l0, l1, l2, l3, l4, l5, l6] st Q) := VV_br2 rfl rfl rfl decide_eq_true_iff
theorem xr_32_16 (h : AHp) (Q : Option Int32 → AHp → Prop) (l0 l2 l3 l4 l5 l6 : Option AV) (x : Nat × Nat) (st : List AV) : VV 32 h 16 [l0, some (.inr x), l2, l3, l4, l5, l6] st Q ↔ VV 32 h 17 [l0, some (.inr x), l2, l3, l4, l5, l6] (.inr x :: st) Q := VV_step rfl rfl rfl rfl
theorem xr_32_17 (h : AHp) (Q : Option Int32 → AHp → Prop) (l0 l1 l2 l3 l5 l6 : Option AV) (x : Int32) (st : List AV) : VV 32 h 17 [l0, l1, l2, l3, some (.inl x), l5, l6] st Q ↔ VV 32 h 19 [l0, l1, l2, l3, some (.inl x), l5, l6] (.inl x :: st) Q := VV_step rfl rfl rfl rfl
theorem xr_32_19 (h : AHp) (Q : Option Int32 → AHp → Prop) (l0 l1 l2 l3 l4 l5 l6 : Option AV) (a0 : AV) (i : Nat) : VV 32 h 19 [l0, l1, l2, l3, l4, l5, l6] [a0, .inr (4, i)] Q ↔ Vi 5 h [some (.inr (4, i)), some a0] (fun z h2 => VV 32 h2 22 [l0, l1, l2, l3, l4, l5, l6] [.inl z] Q) := VV_calli (y := 5) (as := [.inr (4, i), a0]) (rest := []) rfl rfl rfl (ah_noV (y := 5) (by decide))
theorem xr_32_22 (h : AHp) (Q : Option Int32 → AHp → Prop) (l0 l1 l2 l3 l4 l5 l6 : Option AV) (x : Int32) (st : List AV) : VV 32 h 22 [l0, l1, l2, l3, l4, l5, l6] (.inl x :: st) Q ↔ (x = 0 → VV 32 h 29 [l0, l1, l2, l3, l4, l5, l6] st Q) ∧ (¬ (x = 0) → VV 32 h 25 [l0, l1, l2, l3, l4, l5, l6] st Q) := VV_br rfl rfl rfl decide_eq_true_iff
theorem xr_32_25 (h : AHp) (Q : Option Int32 → AHp → Prop) (l0 l1 l2 l3 l4 l5 l6 : Option AV) (st : List AV) : VV 32 h 25 [l0, l1, l2, l3, l4, l5, l6] st Q ↔ VV 32 h 26 [l0, l1, l2, l3, l4, l5, l6] (.inl (-1 : Int32) :: st) Q := VV_step rfl rfl rfl rfl
theorem xr_32_26 (h : AHp) (Q : Option Int32 → AHp → Prop) (l0 l1 l2 l3 l4 l5 l6 : Option AV) (st : List AV) : VV 32 h 26 [l0, l1, l2, l3, l4, l5, l6] st Q ↔ VV 32 h 35 [l0, l1, l2, l3, l4, l5, l6] st Q := VV_step rfl rfl rfl rfl
theorem xr_32_29 (h : AHp) (Q : Option Int32 → AHp → Prop) (l1 l2 l3 l4 l5 l6 : Option AV) (x : Nat × Nat) (st : List AV) : VV 32 h 29 [some (.inr x), l1, l2, l3, l4, l5, l6] st Q ↔ VV 32 h 30 [some (.inr x), l1, l2, l3, l4, l5, l6] (.inr x :: st) Q := VV_step rfl rfl rfl rfl
theorem xr_32_30 (h : AHp) (Q : Option Int32 → AHp → Prop) (l0 l1 l2 l3 l5 l6 : Option AV) (x : Int32) (st : List AV) : VV 32 h 30 [l0, l1, l2, l3, some (.inl x), l5, l6] st Q ↔ VV 32 h 32 [l0, l1, l2, l3, some (.inl x), l5, l6] (.inl x :: st) Q := VV_step rfl rfl rfl rfl
theorem xr_32_32 (h : AHp) (Q : Option Int32 → AHp → Prop) (l0 l1 l2 l3 l4 l5 l6 : Option AV) (a0 : AV) (i : Nat) : VV 32 h 32 [l0, l1, l2, l3, l4, l5, l6] [a0, .inr (0, i)] Q ↔ Vi 30 h [some (.inr (0, i)), some a0, none, none, none] (fun z h2 => VV 32 h2 35 [l0, l1, l2, l3, l4, l5, l6] [.inl z] Q) := VV_calli (y := 30) (as := [.inr (0, i), a0]) (rest := []) rfl rfl rfl (ah_noV (y := 30) (by decide))
theorem xr_32_35 (h : AHp) (Q : Option Int32 → AHp → Prop) (l0 l1 l2 l3 l4 l5 l6 : Option AV) (x : Int32) (st : List AV) : VV 32 h 35 [l0, l1, l2, l3, l4, l5, l6] (.inl x :: st) Q ↔ VV 32 h 37 [l0, l1, l2, l3, l4, some (.inl x), l6] st Q := VV_step rfl rfl rfl rfl
theorem xr_32_37 (h : AHp) (Q : Option Int32 → AHp → Prop) (l1 l2 l3 l4 l5 l6 : Option AV) (x : Nat × Nat) (st : List AV) : VV 32 h 37 [some (.inr x), l1, l2, l3, l4, l5, l6] st Q ↔ VV 32 h 38 [some (.inr x), l1, l2, l3, l4, l5, l6] (.inr x :: st) Q := VV_step rfl rfl rfl rfl
theorem xr_32_38 (h : AHp) (Q : Option Int32 → AHp → Prop) (l0 l1 l2 l3 l4 l5 l6 : Option AV) (i : Nat) (st : List AV) : VV 32 h 38 [l0, l1, l2, l3, l4, l5, l6] (.inr (0, i) :: st) Q ↔ VV 32 h 41 [l0, l1, l2, l3, l4, l5, l6] (.inl (h 0 i 6) :: st) Q := VV_step rfl rfl rfl rfl
theorem xr_32_41 (h : AHp) (Q : Option Int32 → AHp → Prop) (l0 l1 l2 l3 l4 l5 l6 : Option AV) (x : Int32) (st : List AV) : VV 32 h 41 [l0, l1, l2, l3, l4, l5, l6] (.inl x :: st) Q ↔ (¬ x = 0 → VV 32 h 49 [l0, l1, l2, l3, l4, l5, l6] st Q) ∧ (¬ (¬ x = 0) → VV 32 h 44 [l0, l1, l2, l3, l4, l5, l6] st Q) := VV_br rfl rfl rfl decide_eq_true_iff
theorem xr_32_44 (h : AHp) (Q : Option Int32 → AHp → Prop) (l0 l1 l2 l3 l5 l6 : Option AV) (x : Int32) (st : List AV) : VV 32 h 44 [l0, l1, l2, l3, some (.inl x), l5, l6] st Q ↔ VV 32 h 46 [l0, l1, l2, l3, some (.inl x), l5, l6] (.inl x :: st) Q := VV_step rfl rfl rfl rfl
theorem xr_32_46 (h : AHp) (Q : Option Int32 → AHp → Prop) (l0 l1 l2 l3 l4 l5 l6 : Option AV) (st : List AV) : VV 32 h 46 [l0, l1, l2, l3, l4, l5, l6] st Q ↔ VV 32 h 55 [l0, l1, l2, l3, l4, l5, l6] st Q := VV_step rfl rfl rfl rfl
theorem xr_32_49 (h : AHp) (Q : Option Int32 → AHp → Prop) (l1 l2 l3 l4 l5 l6 : Option AV) (x : Nat × Nat) (st : List AV) : VV 32 h 49 [some (.inr x), l1, l2, l3, l4, l5, l6] st Q ↔ VV 32 h 50 [some (.inr x), l1, l2, l3, l4, l5, l6] (.inr x :: st) Q := VV_step rfl rfl rfl rfl
theorem xr_32_50 (h : AHp) (Q : Option Int32 → AHp → Prop) (l0 l1 l2 l3 l5 l6 : Option AV) (x : Int32) (st : List AV) : VV 32 h 50 [l0, l1, l2, l3, some (.inl x), l5, l6] st Q ↔ VV 32 h 52 [l0, l1, l2, l3, some (.inl x), l5, l6] (.inl x :: st) Q := VV_step rfl rfl rfl rfl
theorem xr_32_52 (h : AHp) (Q : Option Int32 → AHp → Prop) (l0 l1 l2 l3 l4 l5 l6 : Option AV) (a0 : AV) (i : Nat) : VV 32 h 52 [l0, l1, l2, l3, l4, l5, l6] [a0, .inr (0, i)] Q ↔ Vi 31 h [some (.inr (0, i)), some a0, none, none] (fun z h2 => VV 32 h2 55 [l0, l1, l2, l3, l4, l5, l6] [.inl z] Q) := VV_calli (y := 31) (as := [.inr (0, i), a0]) (rest := []) rfl rfl rfl (ah_noV (y := 31) (by decide))
theorem xr_32_55 (h : AHp) (Q : Option Int32 → AHp → Prop) (l0 l1 l2 l3 l4 l5 l6 : Option AV) (x : Int32) (st : List AV) : VV 32 h 55 [l0, l1, l2, l3, l4, l5, l6] (.inl x :: st) Q ↔ VV 32 h 57 [l0, l1, l2, l3, l4, l5, some (.inl x)] st Q := VV_step rfl rfl rfl rfl
theorem xr_32_57 (h : AHp) (Q : Option Int32 → AHp → Prop) (l0 l1 l2 l3 l4 l6 : Option AV) (x : Int32) (st : List AV) : VV 32 h 57 [l0, l1, l2, l3, l4, some (.inl x), l6] st Q ↔ VV 32 h 59 [l0, l1, l2, l3, l4, some (.inl x), l6] (.inl x :: st) Q := VV_step rfl rfl rfl rfl
theorem xr_32_59 (h : AHp) (Q : Option Int32 → AHp → Prop) (l0 l1 l2 l3 l4 l5 l6 : Option AV) (st : List AV) : VV 32 h 59 [l0, l1, l2, l3, l4, l5, l6] st Q ↔ VV 32 h 60 [l0, l1, l2, l3, l4, l5, l6] (.inl (-1 : Int32) :: st) Q := VV_step rfl rfl rfl rfl
theorem xr_32_60 (h : AHp) (Q : Option Int32 → AHp → Prop) (l0 l1 l2 l3 l4 l5 l6 : Option AV) (x y : Int32) (st : List AV) : VV 32 h 60 [l0, l1, l2, l3, l4, l5, l6] (.inl y :: .inl x :: st) Q ↔ (x = y → VV 32 h 80 [l0, l1, l2, l3, l4, l5, l6] st Q) ∧ (¬ (x = y) → VV 32 h 63 [l0, l1, l2, l3, l4, l5, l6] st Q) := VV_br2 rfl rfl rfl decide_eq_true_iff
theorem xr_32_63 (h : AHp) (Q : Option Int32 → AHp → Prop) (l0 l1 l3 l4 l5 l6 : Option AV) (x : Int32) (st : List AV) : VV 32 h 63 [l0, l1, some (.inl x), l3, l4, l5, l6] st Q ↔ VV 32 h 64 [l0, l1, some (.inl x), l3, l4, l5, l6] (.inl x :: st) Q := VV_step rfl rfl rfl rfl
theorem xr_32_64 (h : AHp) (Q : Option Int32 → AHp → Prop) (l0 l1 l2 l3 l4 l5 l6 : Option AV) (st : List AV) : VV 32 h 64 [l0, l1, l2, l3, l4, l5, l6] st Q ↔ VV 32 h 65 [l0, l1, l2, l3, l4, l5, l6] (.inl (-1 : Int32) :: st) Q := VV_step rfl rfl rfl rfl
theorem xr_32_65 (h : AHp) (Q : Option Int32 → AHp → Prop) (l0 l1 l2 l3 l4 l5 l6 : Option AV) (x y : Int32) (st : List AV) : VV 32 h 65 [l0, l1, l2, l3, l4, l5, l6] (.inl y :: .inl x :: st) Q ↔ (x = y → VV 32 h 74 [l0, l1, l2, l3, l4, l5, l6] st Q) ∧ (¬ (x = y) → VV 32 h 68 [l0, l1, l2, l3, l4, l5, l6] st Q) := VV_br2 rfl rfl rfl decide_eq_true_iff
theorem xr_32_68 (h : AHp) (Q : Option Int32 → AHp → Prop) (l0 l1 l2 l3 l4 l5 : Option AV) (x : Int32) (st : List AV) : VV 32 h 68 [l0, l1, l2, l3, l4, l5, some (.inl x)] st Q ↔ VV 32 h 70 [l0, l1, l2, l3, l4, l5, some (.inl x)] (.inl x :: st) Q := VV_step rfl rfl rfl rfl
theorem xr_32_70 (h : AHp) (Q : Option Int32 → AHp → Prop) (l0 l1 l2 l4 l5 l6 : Option AV) (x : Int32) (st : List AV) : VV 32 h 70 [l0, l1, l2, some (.inl x), l4, l5, l6] st Q ↔ VV 32 h 71 [l0, l1, l2, some (.inl x), l4, l5, l6] (.inl x :: st) Q := VV_step rfl rfl rfl rfl
theorem xr_32_71 (h : AHp) (Q : Option Int32 → AHp → Prop) (l0 l1 l2 l3 l4 l5 l6 : Option AV) (x y : Int32) (st : List AV) : VV 32 h 71 [l0, l1, l2, l3, l4, l5, l6] (.inl y :: .inl x :: st) Q ↔ (y ≤ x → VV 32 h 80 [l0, l1, l2, l3, l4, l5, l6] st Q) ∧ (¬ (y ≤ x) → VV 32 h 74 [l0, l1, l2, l3, l4, l5, l6] st Q) := VV_br2 rfl rfl rfl decide_eq_true_iff
theorem xr_32_74 (h : AHp) (Q : Option Int32 → AHp → Prop) (l0 l1 l2 l3 l4 l6 : Option AV) (x : Int32) (st : List AV) : VV 32 h 74 [l0, l1, l2, l3, l4, some (.inl x), l6] st Q ↔ VV 32 h 76 [l0, l1, l2, l3, l4, some (.inl x), l6] (.inl x :: st) Q := VV_step rfl rfl rfl rfl
theorem xr_32_76 (h : AHp) (Q : Option Int32 → AHp → Prop) (l0 l1 l2 l3 l4 l5 l6 : Option AV) (x : Int32) (st : List AV) : VV 32 h 76 [l0, l1, l2, l3, l4, l5, l6] (.inl x :: st) Q ↔ VV 32 h 77 [l0, l1, some (.inl x), l3, l4, l5, l6] st Q := VV_step rfl rfl rfl rfl
theorem xr_32_77 (h : AHp) (Q : Option Int32 → AHp → Prop) (l0 l1 l2 l3 l4 l5 : Option AV) (x : Int32) (st : List AV) : VV 32 h 77 [l0, l1, l2, l3, l4, l5, some (.inl x)] st Q ↔ VV 32 h 79 [l0, l1, l2, l3, l4, l5, some (.inl x)] (.inl x :: st) Q := VV_step rfl rfl rfl rfl
theorem xr_32_79 (h : AHp) (Q : Option Int32 → AHp → Prop) (l0 l1 l2 l3 l4 l5 l6 : Option AV) (x : Int32) (st : List AV) : VV 32 h 79 [l0, l1, l2, l3, l4, l5, l6] (.inl x :: st) Q ↔ VV 32 h 80 [l0, l1, l2, some (.inl x), l4, l5, l6] st Q := VV_step rfl rfl rfl rfl
theorem xr_32_80 (h : AHp) (Q : Option Int32 → AHp → Prop) (l0 l1 l2 l3 l5 l6 : Option AV) (x : Int32) (st : List AV) : VV 32 h 80 [l0, l1, l2, l3, some (.inl x), l5, l6] st Q ↔ VV 32 h 83 [l0, l1, l2, l3, some (.inl (x + (1 : Int32))), l5, l6] st Q := VV_step rfl rfl rfl rfl
theorem xr_32_83 (h : AHp) (Q : Option Int32 → AHp → Prop) (l0 l1 l2 l3 l4 l5 l6 : Option AV) (st : List AV) : VV 32 h 83 [l0, l1, l2, l3, l4, l5, l6] st Q ↔ VV 32 h 7 [l0, l1, l2, l3, l4, l5, l6] st Q := VV_step rfl rfl rfl rfl
theorem xr_32_86 (h : AHp) (Q : Option Int32 → AHp → Prop) (l0 l1 l3 l4 l5 l6 : Option AV) (x : Int32) (st : List AV) : VV 32 h 86 [l0, l1, some (.inl x), l3, l4, l5, l6] st Q ↔ VV 32 h 87 [l0, l1, some (.inl x), l3, l4, l5, l6] (.inl x :: st) Q := VV_step rfl rfl rfl rfl
theorem xr_32_87 (h : AHp) (Q : Option Int32 → AHp → Prop) (l0 l1 l2 l3 l4 l5 l6 : Option AV) (x : Int32) : VV 32 h 87 [l0, l1, l2, l3, l4, l5, l6] [.inl x] Q ↔ Q (some x) h := VV_end rfl rfl
theorem xr_33_0 (h : AHp) (Q : Option Int32 → AHp → Prop) (l0 l1 l2 l3 l4 : Option AV) (st : List AV) : VV 33 h 0 [l0, l1, l2, l3, l4] st Q ↔ VV 33 h 1 [l0, l1, l2, l3, l4] (.inl (-1 : Int32) :: st) Q := VV_step rfl rfl rfl rfl
theorem xr_33_1 (h : AHp) (Q : Option Int32 → AHp → Prop) (l0 l1 l2 l3 l4 : Option AV) (x : Int32) (st : List AV) : VV 33 h 1 [l0, l1, l2, l3, l4] (.inl x :: st) Q ↔ VV 33 h 2 [l0, some (.inl x), l2, l3, l4] st Q := VV_step rfl rfl rfl rfl
theorem xr_33_2 (h : AHp) (Q : Option Int32 → AHp → Prop) (l0 l1 l2 l3 l4 : Option AV) (st : List AV) : VV 33 h 2 [l0, l1, l2, l3, l4] st Q ↔ VV 33 h 3 [l0, l1, l2, l3, l4] (.inl (0 : Int32) :: st) Q := VV_step rfl rfl rfl rfl
theorem xr_33_3 (h : AHp) (Q : Option Int32 → AHp → Prop) (l0 l1 l2 l3 l4 : Option AV) (x : Int32) (st : List AV) : VV 33 h 3 [l0, l1, l2, l3, l4] (.inl x :: st) Q ↔ VV 33 h 4 [l0, l1, some (.inl x), l3, l4] st Q := VV_step rfl rfl rfl rfl
theorem xr_33_4 (h : AHp) (Q : Option Int32 → AHp → Prop) (l0 l1 l3 l4 : Option AV) (x : Int32) (st : List AV) : VV 33 h 4 [l0, l1, some (.inl x), l3, l4] st Q ↔ VV 33 h 5 [l0, l1, some (.inl x), l3, l4] (.inl x :: st) Q := VV_step rfl rfl rfl rfl
theorem xr_33_5 (h : AHp) (Q : Option Int32 → AHp → Prop) (l1 l2 l3 l4 : Option AV) (x : Nat × Nat) (st : List AV) : VV 33 h 5 [some (.inr x), l1, l2, l3, l4] st Q ↔ VV 33 h 6 [some (.inr x), l1, l2, l3, l4] (.inr x :: st) Q := VV_step rfl rfl rfl rfl
theorem xr_33_6 (h : AHp) (Q : Option Int32 → AHp → Prop) (l0 l1 l2 l3 l4 : Option AV) (i : Nat) (st : List AV) : VV 33 h 6 [l0, l1, l2, l3, l4] (.inr (0, i) :: st) Q ↔ VV 33 h 9 [l0, l1, l2, l3, l4] (.inl (h 0 i 4) :: st) Q := VV_step rfl rfl rfl rfl
theorem xr_33_9 (h : AHp) (Q : Option Int32 → AHp → Prop) (l0 l1 l2 l3 l4 : Option AV) (x y : Int32) (st : List AV) : VV 33 h 9 [l0, l1, l2, l3, l4] (.inl y :: .inl x :: st) Q ↔ (y ≤ x → VV 33 h 103 [l0, l1, l2, l3, l4] st Q) ∧ (¬ (y ≤ x) → VV 33 h 12 [l0, l1, l2, l3, l4] st Q) := VV_br2 rfl rfl rfl decide_eq_true_iff
theorem xr_33_12 (h : AHp) (Q : Option Int32 → AHp → Prop) (l1 l2 l3 l4 : Option AV) (x : Nat × Nat) (st : List AV) : VV 33 h 12 [some (.inr x), l1, l2, l3, l4] st Q ↔ VV 33 h 13 [some (.inr x), l1, l2, l3, l4] (.inr x :: st) Q := VV_step rfl rfl rfl rfl
theorem xr_33_13 (h : AHp) (Q : Option Int32 → AHp → Prop) (l0 l2 l3 l4 : Option AV) (x : Int32) (st : List AV) : VV 33 h 13 [l0, some (.inl x), l2, l3, l4] st Q ↔ VV 33 h 14 [l0, some (.inl x), l2, l3, l4] (.inl x :: st) Q := VV_step rfl rfl rfl rfl
theorem xr_33_14 (h : AHp) (Q : Option Int32 → AHp → Prop) (l0 l1 l2 l3 l4 : Option AV) (a0 : AV) (i : Nat) : VV 33 h 14 [l0, l1, l2, l3, l4] [a0, .inr (0, i)] Q ↔ Vi 28 h [some (.inr (0, i)), some a0, none, none, none] (fun z h2 => VV 33 h2 17 [l0, l1, l2, l3, l4] [.inl z] Q) := VV_calli (y := 28) (as := [.inr (0, i), a0]) (rest := []) rfl rfl rfl (ah_noV (y := 28) (by decide))
theorem xr_33_17 (h : AHp) (Q : Option Int32 → AHp → Prop) (l0 l1 l2 l3 l4 : Option AV) (x : Int32) (st : List AV) : VV 33 h 17 [l0, l1, l2, l3, l4] (.inl x :: st) Q ↔ VV 33 h 18 [l0, l1, l2, some (.inl x), l4] st Q := VV_step rfl rfl rfl rfl
theorem xr_33_18 (h : AHp) (Q : Option Int32 → AHp → Prop) (l0 l1 l2 l4 : Option AV) (x : Int32) (st : List AV) : VV 33 h 18 [l0, l1, l2, some (.inl x), l4] st Q ↔ VV 33 h 19 [l0, l1, l2, some (.inl x), l4] (.inl x :: st) Q := VV_step rfl rfl rfl rfl
theorem xr_33_19 (h : AHp) (Q : Option Int32 → AHp → Prop) (l0 l1 l2 l3 l4 : Option AV) (st : List AV) : VV 33 h 19 [l0, l1, l2, l3, l4] st Q ↔ VV 33 h 20 [l0, l1, l2, l3, l4] (.inl (-1 : Int32) :: st) Q := VV_step rfl rfl rfl rfl
theorem xr_33_20 (h : AHp) (Q : Option Int32 → AHp → Prop) (l0 l1 l2 l3 l4 : Option AV) (x y : Int32) (st : List AV) : VV 33 h 20 [l0, l1, l2, l3, l4] (.inl y :: .inl x :: st) Q ↔ (¬ x = y → VV 33 h 24 [l0, l1, l2, l3, l4] st Q) ∧ (¬ (¬ x = y) → VV 33 h 23 [l0, l1, l2, l3, l4] st Q) := VV_br2 rfl rfl rfl decide_eq_true_iff
theorem xr_33_23 (h : AHp) (Q : Option Int32 → AHp → Prop) (l0 l1 l2 l3 l4 : Option AV) : VV 33 h 23 [l0, l1, l2, l3, l4] [] Q ↔ Q none h := VV_end rfl rfl
theorem xr_33_24 (h : AHp) (Q : Option Int32 → AHp → Prop) (l1 l2 l3 l4 : Option AV) (x : Nat × Nat) (st : List AV) : VV 33 h 24 [some (.inr x), l1, l2, l3, l4] st Q ↔ VV 33 h 25 [some (.inr x), l1, l2, l3, l4] (.inr x :: st) Q := VV_step rfl rfl rfl rfl
theorem xr_33_25 (h : AHp) (Q : Option Int32 → AHp → Prop) (l0 l1 l2 l4 : Option AV) (x : Int32) (st : List AV) : VV 33 h 25 [l0, l1, l2, some (.inl x), l4] st Q ↔ VV 33 h 26 [l0, l1, l2, some (.inl x), l4] (.inl x :: st) Q := VV_step rfl rfl rfl rfl
theorem xr_33_26 (h : AHp) (Q : Option Int32 → AHp → Prop) (l0 l1 l2 l3 l4 : Option AV) (a0 : AV) (i : Nat) : VV 33 h 26 [l0, l1, l2, l3, l4] [a0, .inr (0, i)] Q ↔ Vi 27 h [some (.inr (0, i)), some a0] (fun z h2 => VV 33 h2 29 [l0, l1, l2, l3, l4] [.inl z] Q) := VV_calli (y := 27) (as := [.inr (0, i), a0]) (rest := []) rfl rfl rfl (ah_noV (y := 27) (by decide))
theorem xr_33_29 (h : AHp) (Q : Option Int32 → AHp → Prop) (l0 l1 l2 l3 l4 : Option AV) (x : Int32) (st : List AV) : VV 33 h 29 [l0, l1, l2, l3, l4] (.inl x :: st) Q ↔ VV 33 h 30 [l0, some (.inl x), l2, l3, l4] st Q := VV_step rfl rfl rfl rfl
theorem xr_33_30 (h : AHp) (Q : Option Int32 → AHp → Prop) (l1 l2 l3 l4 : Option AV) (x : Nat × Nat) (st : List AV) : VV 33 h 30 [some (.inr x), l1, l2, l3, l4] st Q ↔ VV 33 h 31 [some (.inr x), l1, l2, l3, l4] (.inr x :: st) Q := VV_step rfl rfl rfl rfl
theorem xr_33_31 (h : AHp) (Q : Option Int32 → AHp → Prop) (l1 l2 l3 l4 : Option AV) (x : Nat × Nat) (st : List AV) : VV 33 h 31 [some (.inr x), l1, l2, l3, l4] st Q ↔ VV 33 h 32 [some (.inr x), l1, l2, l3, l4] (.inr x :: st) Q := VV_step rfl rfl rfl rfl
theorem xr_33_32 (h : AHp) (Q : Option Int32 → AHp → Prop) (l0 l1 l2 l3 l4 : Option AV) (i : Nat) (st : List AV) : VV 33 h 32 [l0, l1, l2, l3, l4] (.inr (0, i) :: st) Q ↔ VV 33 h 35 [l0, l1, l2, l3, l4] (.inr (2, i) :: st) Q := VV_step rfl rfl rfl rfl
theorem xr_33_35 (h : AHp) (Q : Option Int32 → AHp → Prop) (l0 l1 l2 l4 : Option AV) (x : Int32) (st : List AV) : VV 33 h 35 [l0, l1, l2, some (.inl x), l4] st Q ↔ VV 33 h 36 [l0, l1, l2, some (.inl x), l4] (.inl x :: st) Q := VV_step rfl rfl rfl rfl
theorem xr_33_36_1 (h : AHp) (Q : Option Int32 → AHp → Prop) (l0 l1 l2 l3 l4 : Option AV) (x : Int32) (i : Nat) (st : List AV) : VV 33 h 36 [l0, l1, l2, l3, l4] (.inl x :: .inr (1, i) :: st) Q ↔ vp_in x 20 ∧ VV 33 h 37 [l0, l1, l2, l3, l4] (.inr (3, x.toNatClampNeg) :: st) Q := VV_aald rfl rfl
theorem xr_33_36_2 (h : AHp) (Q : Option Int32 → AHp → Prop) (l0 l1 l2 l3 l4 : Option AV) (x : Int32) (i : Nat) (st : List AV) : VV 33 h 36 [l0, l1, l2, l3, l4] (.inl x :: .inr (2, i) :: st) Q ↔ vp_in x 8 ∧ VV 33 h 37 [l0, l1, l2, l3, l4] (.inr (4, x.toNatClampNeg) :: st) Q := VV_aald rfl rfl
theorem xr_33_37 (h : AHp) (Q : Option Int32 → AHp → Prop) (l0 l1 l2 l3 l4 : Option AV) (a0 : AV) (i : Nat) : VV 33 h 37 [l0, l1, l2, l3, l4] [a0, .inr (0, i)] Q ↔ Vi 32 h [some (.inr (0, i)), some a0, none, none, none, none, none] (fun z h2 => VV 33 h2 40 [l0, l1, l2, l3, l4] [.inl z] Q) := VV_calli (y := 32) (as := [.inr (0, i), a0]) (rest := []) rfl rfl rfl (ah_noV (y := 32) (by decide))
theorem xr_33_40 (h : AHp) (Q : Option Int32 → AHp → Prop) (l0 l1 l2 l3 l4 : Option AV) (x : Int32) (st : List AV) : VV 33 h 40 [l0, l1, l2, l3, l4] (.inl x :: st) Q ↔ VV 33 h 42 [l0, l1, l2, l3, some (.inl x)] st Q := VV_step rfl rfl rfl rfl
theorem xr_33_42 (h : AHp) (Q : Option Int32 → AHp → Prop) (l0 l1 l2 l3 : Option AV) (x : Int32) (st : List AV) : VV 33 h 42 [l0, l1, l2, l3, some (.inl x)] st Q ↔ VV 33 h 44 [l0, l1, l2, l3, some (.inl x)] (.inl x :: st) Q := VV_step rfl rfl rfl rfl
theorem xr_33_44 (h : AHp) (Q : Option Int32 → AHp → Prop) (l0 l1 l2 l3 l4 : Option AV) (st : List AV) : VV 33 h 44 [l0, l1, l2, l3, l4] st Q ↔ VV 33 h 45 [l0, l1, l2, l3, l4] (.inl (-1 : Int32) :: st) Q := VV_step rfl rfl rfl rfl
theorem xr_33_45 (h : AHp) (Q : Option Int32 → AHp → Prop) (l0 l1 l2 l3 l4 : Option AV) (x y : Int32) (st : List AV) : VV 33 h 45 [l0, l1, l2, l3, l4] (.inl y :: .inl x :: st) Q ↔ (x = y → VV 33 h 97 [l0, l1, l2, l3, l4] st Q) ∧ (¬ (x = y) → VV 33 h 48 [l0, l1, l2, l3, l4] st Q) := VV_br2 rfl rfl rfl decide_eq_true_iff
theorem xr_33_48 (h : AHp) (Q : Option Int32 → AHp → Prop) (l1 l2 l3 l4 : Option AV) (x : Nat × Nat) (st : List AV) : VV 33 h 48 [some (.inr x), l1, l2, l3, l4] st Q ↔ VV 33 h 49 [some (.inr x), l1, l2, l3, l4] (.inr x :: st) Q := VV_step rfl rfl rfl rfl
theorem xr_33_49 (h : AHp) (Q : Option Int32 → AHp → Prop) (l0 l1 l2 l3 l4 : Option AV) (i : Nat) (st : List AV) : VV 33 h 49 [l0, l1, l2, l3, l4] (.inr (0, i) :: st) Q ↔ VV 33 h 52 [l0, l1, l2, l3, l4] (.inr (1, i) :: st) Q := VV_step rfl rfl rfl rfl
theorem xr_33_52 (h : AHp) (Q : Option Int32 → AHp → Prop) (l0 l1 l2 l3 : Option AV) (x : Int32) (st : List AV) : VV 33 h 52 [l0, l1, l2, l3, some (.inl x)] st Q ↔ VV 33 h 54 [l0, l1, l2, l3, some (.inl x)] (.inl x :: st) Q := VV_step rfl rfl rfl rfl
theorem xr_33_54_1 (h : AHp) (Q : Option Int32 → AHp → Prop) (l0 l1 l2 l3 l4 : Option AV) (x : Int32) (i : Nat) (st : List AV) : VV 33 h 54 [l0, l1, l2, l3, l4] (.inl x :: .inr (1, i) :: st) Q ↔ vp_in x 20 ∧ VV 33 h 55 [l0, l1, l2, l3, l4] (.inr (3, x.toNatClampNeg) :: st) Q := VV_aald rfl rfl
theorem xr_33_54_2 (h : AHp) (Q : Option Int32 → AHp → Prop) (l0 l1 l2 l3 l4 : Option AV) (x : Int32) (i : Nat) (st : List AV) : VV 33 h 54 [l0, l1, l2, l3, l4] (.inl x :: .inr (2, i) :: st) Q ↔ vp_in x 8 ∧ VV 33 h 55 [l0, l1, l2, l3, l4] (.inr (4, x.toNatClampNeg) :: st) Q := VV_aald rfl rfl
theorem xr_33_55 (h : AHp) (Q : Option Int32 → AHp → Prop) (l0 l1 l2 l4 : Option AV) (x : Int32) (st : List AV) : VV 33 h 55 [l0, l1, l2, some (.inl x), l4] st Q ↔ VV 33 h 56 [l0, l1, l2, some (.inl x), l4] (.inl x :: st) Q := VV_step rfl rfl rfl rfl
theorem xr_33_56 (h : AHp) (Q : Option Int32 → AHp → Prop) (l0 l1 l2 l3 l4 : Option AV) (v : Int32) (i : Nat) (st : List AV) : VV 33 h 56 [l0, l1, l2, l3, l4] (.inl v :: .inr (3, i) :: st) Q ↔ VV 33 (ah_up h 3 i 3 v) 59 [l0, l1, l2, l3, l4] st Q := VV_step rfl rfl rfl rfl
theorem xr_33_59 (h : AHp) (Q : Option Int32 → AHp → Prop) (l1 l2 l3 l4 : Option AV) (x : Nat × Nat) (st : List AV) : VV 33 h 59 [some (.inr x), l1, l2, l3, l4] st Q ↔ VV 33 h 60 [some (.inr x), l1, l2, l3, l4] (.inr x :: st) Q := VV_step rfl rfl rfl rfl
theorem xr_33_60 (h : AHp) (Q : Option Int32 → AHp → Prop) (l0 l1 l2 l3 l4 : Option AV) (i : Nat) (st : List AV) : VV 33 h 60 [l0, l1, l2, l3, l4] (.inr (0, i) :: st) Q ↔ VV 33 h 63 [l0, l1, l2, l3, l4] (.inr (1, i) :: st) Q := VV_step rfl rfl rfl rfl
theorem xr_33_63 (h : AHp) (Q : Option Int32 → AHp → Prop) (l0 l1 l2 l3 : Option AV) (x : Int32) (st : List AV) : VV 33 h 63 [l0, l1, l2, l3, some (.inl x)] st Q ↔ VV 33 h 65 [l0, l1, l2, l3, some (.inl x)] (.inl x :: st) Q := VV_step rfl rfl rfl rfl
theorem xr_33_65_1 (h : AHp) (Q : Option Int32 → AHp → Prop) (l0 l1 l2 l3 l4 : Option AV) (x : Int32) (i : Nat) (st : List AV) : VV 33 h 65 [l0, l1, l2, l3, l4] (.inl x :: .inr (1, i) :: st) Q ↔ vp_in x 20 ∧ VV 33 h 66 [l0, l1, l2, l3, l4] (.inr (3, x.toNatClampNeg) :: st) Q := VV_aald rfl rfl
theorem xr_33_65_2 (h : AHp) (Q : Option Int32 → AHp → Prop) (l0 l1 l2 l3 l4 : Option AV) (x : Int32) (i : Nat) (st : List AV) : VV 33 h 65 [l0, l1, l2, l3, l4] (.inl x :: .inr (2, i) :: st) Q ↔ vp_in x 8 ∧ VV 33 h 66 [l0, l1, l2, l3, l4] (.inr (4, x.toNatClampNeg) :: st) Q := VV_aald rfl rfl
theorem xr_33_66 (h : AHp) (Q : Option Int32 → AHp → Prop) (l0 l1 l2 l3 l4 : Option AV) (v : AV) (st : List AV) : VV 33 h 66 [l0, l1, l2, l3, l4] (v :: st) Q ↔ VV 33 h 67 [l0, l1, l2, l3, l4] (v :: v :: st) Q := VV_step rfl rfl rfl rfl
theorem xr_33_67 (h : AHp) (Q : Option Int32 → AHp → Prop) (l0 l1 l2 l3 l4 : Option AV) (i : Nat) (st : List AV) : VV 33 h 67 [l0, l1, l2, l3, l4] (.inr (3, i) :: st) Q ↔ VV 33 h 70 [l0, l1, l2, l3, l4] (.inl (h 3 i 2) :: st) Q := VV_step rfl rfl rfl rfl
theorem xr_33_70 (h : AHp) (Q : Option Int32 → AHp → Prop) (l0 l1 l2 l3 l4 : Option AV) (st : List AV) : VV 33 h 70 [l0, l1, l2, l3, l4] st Q ↔ VV 33 h 71 [l0, l1, l2, l3, l4] (.inl (1 : Int32) :: st) Q := VV_step rfl rfl rfl rfl
theorem xr_33_71 (h : AHp) (Q : Option Int32 → AHp → Prop) (l0 l1 l2 l3 l4 : Option AV) (x y : Int32) (st : List AV) : VV 33 h 71 [l0, l1, l2, l3, l4] (.inl y :: .inl x :: st) Q ↔ VV 33 h 72 [l0, l1, l2, l3, l4] (.inl (x + y) :: st) Q := VV_step rfl rfl rfl rfl
theorem xr_33_72 (h : AHp) (Q : Option Int32 → AHp → Prop) (l0 l1 l2 l3 l4 : Option AV) (v : Int32) (i : Nat) (st : List AV) : VV 33 h 72 [l0, l1, l2, l3, l4] (.inl v :: .inr (3, i) :: st) Q ↔ VV 33 (ah_up h 3 i 2 v) 75 [l0, l1, l2, l3, l4] st Q := VV_step rfl rfl rfl rfl
theorem xr_33_75 (h : AHp) (Q : Option Int32 → AHp → Prop) (l1 l2 l3 l4 : Option AV) (x : Nat × Nat) (st : List AV) : VV 33 h 75 [some (.inr x), l1, l2, l3, l4] st Q ↔ VV 33 h 76 [some (.inr x), l1, l2, l3, l4] (.inr x :: st) Q := VV_step rfl rfl rfl rfl
theorem xr_33_76 (h : AHp) (Q : Option Int32 → AHp → Prop) (l0 l1 l2 l3 l4 : Option AV) (i : Nat) (st : List AV) : VV 33 h 76 [l0, l1, l2, l3, l4] (.inr (0, i) :: st) Q ↔ VV 33 h 79 [l0, l1, l2, l3, l4] (.inr (2, i) :: st) Q := VV_step rfl rfl rfl rfl
theorem xr_33_79 (h : AHp) (Q : Option Int32 → AHp → Prop) (l0 l1 l2 l4 : Option AV) (x : Int32) (st : List AV) : VV 33 h 79 [l0, l1, l2, some (.inl x), l4] st Q ↔ VV 33 h 80 [l0, l1, l2, some (.inl x), l4] (.inl x :: st) Q := VV_step rfl rfl rfl rfl
theorem xr_33_80_1 (h : AHp) (Q : Option Int32 → AHp → Prop) (l0 l1 l2 l3 l4 : Option AV) (x : Int32) (i : Nat) (st : List AV) : VV 33 h 80 [l0, l1, l2, l3, l4] (.inl x :: .inr (1, i) :: st) Q ↔ vp_in x 20 ∧ VV 33 h 81 [l0, l1, l2, l3, l4] (.inr (3, x.toNatClampNeg) :: st) Q := VV_aald rfl rfl
theorem xr_33_80_2 (h : AHp) (Q : Option Int32 → AHp → Prop) (l0 l1 l2 l3 l4 : Option AV) (x : Int32) (i : Nat) (st : List AV) : VV 33 h 80 [l0, l1, l2, l3, l4] (.inl x :: .inr (2, i) :: st) Q ↔ vp_in x 8 ∧ VV 33 h 81 [l0, l1, l2, l3, l4] (.inr (4, x.toNatClampNeg) :: st) Q := VV_aald rfl rfl
theorem xr_33_81 (h : AHp) (Q : Option Int32 → AHp → Prop) (l0 l1 l2 l3 : Option AV) (x : Int32) (st : List AV) : VV 33 h 81 [l0, l1, l2, l3, some (.inl x)] st Q ↔ VV 33 h 83 [l0, l1, l2, l3, some (.inl x)] (.inl x :: st) Q := VV_step rfl rfl rfl rfl
theorem xr_33_83 (h : AHp) (Q : Option Int32 → AHp → Prop) (l1 l2 l3 l4 : Option AV) (x : Nat × Nat) (st : List AV) : VV 33 h 83 [some (.inr x), l1, l2, l3, l4] st Q ↔ VV 33 h 84 [some (.inr x), l1, l2, l3, l4] (.inr x :: st) Q := VV_step rfl rfl rfl rfl
theorem xr_33_84 (h : AHp) (Q : Option Int32 → AHp → Prop) (l0 l1 l2 l3 l4 : Option AV) (i : Nat) (st : List AV) : VV 33 h 84 [l0, l1, l2, l3, l4] (.inr (0, i) :: st) Q ↔ VV 33 h 87 [l0, l1, l2, l3, l4] (.inr (1, i) :: st) Q := VV_step rfl rfl rfl rfl
theorem xr_33_87 (h : AHp) (Q : Option Int32 → AHp → Prop) (l0 l1 l2 l3 : Option AV) (x : Int32) (st : List AV) : VV 33 h 87 [l0, l1, l2, l3, some (.inl x)] st Q ↔ VV 33 h 89 [l0, l1, l2, l3, some (.inl x)] (.inl x :: st) Q := VV_step rfl rfl rfl rfl
theorem xr_33_89_1 (h : AHp) (Q : Option Int32 → AHp → Prop) (l0 l1 l2 l3 l4 : Option AV) (x : Int32) (i : Nat) (st : List AV) : VV 33 h 89 [l0, l1, l2, l3, l4] (.inl x :: .inr (1, i) :: st) Q ↔ vp_in x 20 ∧ VV 33 h 90 [l0, l1, l2, l3, l4] (.inr (3, x.toNatClampNeg) :: st) Q := VV_aald rfl rfl
theorem xr_33_89_2 (h : AHp) (Q : Option Int32 → AHp → Prop) (l0 l1 l2 l3 l4 : Option AV) (x : Int32) (i : Nat) (st : List AV) : VV 33 h 89 [l0, l1, l2, l3, l4] (.inl x :: .inr (2, i) :: st) Q ↔ vp_in x 8 ∧ VV 33 h 90 [l0, l1, l2, l3, l4] (.inr (4, x.toNatClampNeg) :: st) Q := VV_aald rfl rfl
theorem xr_33_90 (h : AHp) (Q : Option Int32 → AHp → Prop) (l1 l2 l3 l4 : Option AV) (x : Nat × Nat) (st : List AV) : VV 33 h 90 [some (.inr x), l1, l2, l3, l4] st Q ↔ VV 33 h 91 [some (.inr x), l1, l2, l3, l4] (.inr x :: st) Q := VV_step rfl rfl rfl rfl
theorem xr_33_91 (h : AHp) (Q : Option Int32 → AHp → Prop) (l0 l1 l2 l3 l4 : Option AV) (i : Nat) (st : List AV) : VV 33 h 91 [l0, l1, l2, l3, l4] (.inr (0, i) :: st) Q ↔ VV 33 h 94 [l0, l1, l2, l3, l4] (.inl (h 0 i 5) :: st) Q := VV_step rfl rfl rfl rfl
theorem xr_33_94 (h : AHp) (Q : Option Int32 → AHp → Prop) (l0 l1 l2 l3 l4 : Option AV) (a0 a1 a2 : AV) (i : Nat) : VV 33 h 94 [l0, l1, l2, l3, l4] [a2, a1, a0, .inr (4, i)] Q ↔ Vv 9 h [some (.inr (4, i)), some a0, some a1, some a2] (fun h2 => VV 33 h2 97 [l0, l1, l2, l3, l4] [] Q) := VV_callv (y := 9) (as := [.inr (4, i), a0, a1, a2]) (rest := []) rfl rfl rfl (ah_noI (y := 9) rfl)
theorem xr_33_97 (h : AHp) (Q : Option Int32 → AHp → Prop) (l0 l1 l3 l4 : Option AV) (x : Int32) (st : List AV) : VV 33 h 97 [l0, l1, some (.inl x), l3, l4] st Q ↔ VV 33 h 100 [l0, l1, some (.inl (x + (1 : Int32))), l3, l4] st Q := VV_step rfl rfl rfl rfl
theorem xr_33_100 (h : AHp) (Q : Option Int32 → AHp → Prop) (l0 l1 l2 l3 l4 : Option AV) (st : List AV) : VV 33 h 100 [l0, l1, l2, l3, l4] st Q ↔ VV 33 h 4 [l0, l1, l2, l3, l4] st Q := VV_step rfl rfl rfl rfl
theorem xr_33_103 (h : AHp) (Q : Option Int32 → AHp → Prop) (l0 l1 l2 l3 l4 : Option AV) : VV 33 h 103 [l0, l1, l2, l3, l4] [] Q ↔ Q none h := VV_end rfl rfl
theorem xr_34_0 (h : AHp) (Q : Option Int32 → AHp → Prop) (x : Nat × Nat) (st : List AV) : VV 34 h 0 [some (.inr x)] st Q ↔ VV 34 h 1 [some (.inr x)] (.inr x :: st) Q := VV_step rfl rfl rfl rfl
theorem xr_34_1 (h : AHp) (Q : Option Int32 → AHp → Prop) (l0 : Option AV) (i : Nat) : VV 34 h 1 [l0] [.inr (0, i)] Q ↔ Vv 25 h [some (.inr (0, i)), none, none] (fun h2 => VV 34 h2 4 [l0] [] Q) := VV_callv (y := 25) (as := [.inr (0, i)]) (rest := []) rfl rfl rfl (ah_noI (y := 25) rfl)
theorem xr_34_4 (h : AHp) (Q : Option Int32 → AHp → Prop) (x : Nat × Nat) (st : List AV) : VV 34 h 4 [some (.inr x)] st Q ↔ VV 34 h 5 [some (.inr x)] (.inr x :: st) Q := VV_step rfl rfl rfl rfl
theorem xr_34_5 (h : AHp) (Q : Option Int32 → AHp → Prop) (l0 : Option AV) (i : Nat) : VV 34 h 5 [l0] [.inr (0, i)] Q ↔ Vv 33 h [some (.inr (0, i)), none, none, none, none] (fun h2 => VV 34 h2 8 [l0] [] Q) := VV_callv (y := 33) (as := [.inr (0, i)]) (rest := []) rfl rfl rfl (ah_noI (y := 33) rfl)
theorem xr_34_8 (h : AHp) (Q : Option Int32 → AHp → Prop) (x : Nat × Nat) (st : List AV) : VV 34 h 8 [some (.inr x)] st Q ↔ VV 34 h 9 [some (.inr x)] (.inr x :: st) Q := VV_step rfl rfl rfl rfl
theorem xr_34_9 (h : AHp) (Q : Option Int32 → AHp → Prop) (l0 : Option AV) (v : AV) (st : List AV) : VV 34 h 9 [l0] (v :: st) Q ↔ VV 34 h 10 [l0] (v :: v :: st) Q := VV_step rfl rfl rfl rfl
theorem xr_34_10 (h : AHp) (Q : Option Int32 → AHp → Prop) (l0 : Option AV) (i : Nat) (st : List AV) : VV 34 h 10 [l0] (.inr (0, i) :: st) Q ↔ VV 34 h 13 [l0] (.inl (h 0 i 5) :: st) Q := VV_step rfl rfl rfl rfl
theorem xr_34_13 (h : AHp) (Q : Option Int32 → AHp → Prop) (l0 : Option AV) (st : List AV) : VV 34 h 13 [l0] st Q ↔ VV 34 h 14 [l0] (.inl (1 : Int32) :: st) Q := VV_step rfl rfl rfl rfl
theorem xr_34_14 (h : AHp) (Q : Option Int32 → AHp → Prop) (l0 : Option AV) (x y : Int32) (st : List AV) : VV 34 h 14 [l0] (.inl y :: .inl x :: st) Q ↔ VV 34 h 15 [l0] (.inl (x + y) :: st) Q := VV_step rfl rfl rfl rfl
theorem xr_34_15 (h : AHp) (Q : Option Int32 → AHp → Prop) (l0 : Option AV) (v : Int32) (i : Nat) (st : List AV) : VV 34 h 15 [l0] (.inl v :: .inr (0, i) :: st) Q ↔ VV 34 (ah_up h 0 i 5 v) 18 [l0] st Q := VV_step rfl rfl rfl rfl
theorem xr_34_18 (h : AHp) (Q : Option Int32 → AHp → Prop) (l0 : Option AV) : VV 34 h 18 [l0] [] Q ↔ Q none h := VV_end rfl rfl
theorem xr_35_0 (h : AHp) (Q : Option Int32 → AHp → Prop) (l0 l2 l3 : Option AV) (x : Int32) (st : List AV) : VV 35 h 0 [l0, some (.inl x), l2, l3] st Q ↔ VV 35 h 1 [l0, some (.inl x), l2, l3] (.inl x :: st) Q := VV_step rfl rfl rfl rfl
theorem xr_35_1 (h : AHp) (Q : Option Int32 → AHp → Prop) (l0 l1 l2 l3 : Option AV) (x : Int32) (st : List AV) : VV 35 h 1 [l0, l1, l2, l3] (.inl x :: st) Q ↔ VV 35 h 2 [l0, l1, some (.inl x), l3] st Q := VV_step rfl rfl rfl rfl
theorem xr_35_2 (h : AHp) (Q : Option Int32 → AHp → Prop) (l0 l1 l2 l3 : Option AV) (st : List AV) : VV 35 h 2 [l0, l1, l2, l3] st Q ↔ VV 35 h 3 [l0, l1, l2, l3] (.inl (0 : Int32) :: st) Q := VV_step rfl rfl rfl rfl
theorem xr_35_3 (h : AHp) (Q : Option Int32 → AHp → Prop) (l0 l1 l2 l3 : Option AV) (x : Int32) (st : List AV) : VV 35 h 3 [l0, l1, l2, l3] (.inl x :: st) Q ↔ VV 35 h 4 [l0, l1, l2, some (.inl x)] st Q := VV_step rfl rfl rfl rfl
theorem xr_35_4 (h : AHp) (Q : Option Int32 → AHp → Prop) (l0 l1 l2 : Option AV) (x : Int32) (st : List AV) : VV 35 h 4 [l0, l1, l2, some (.inl x)] st Q ↔ VV 35 h 5 [l0, l1, l2, some (.inl x)] (.inl x :: st) Q := VV_step rfl rfl rfl rfl
theorem xr_35_5 (h : AHp) (Q : Option Int32 → AHp → Prop) (l1 l2 l3 : Option AV) (x : Nat × Nat) (st : List AV) : VV 35 h 5 [some (.inr x), l1, l2, l3] st Q ↔ VV 35 h 6 [some (.inr x), l1, l2, l3] (.inr x :: st) Q := VV_step rfl rfl rfl rfl
theorem xr_35_6 (h : AHp) (Q : Option Int32 → AHp → Prop) (l0 l1 l2 l3 : Option AV) (i : Nat) (st : List AV) : VV 35 h 6 [l0, l1, l2, l3] (.inr (0, i) :: st) Q ↔ VV 35 h 9 [l0, l1, l2, l3] (.inl (h 0 i 4) :: st) Q := VV_step rfl rfl rfl rfl
theorem xr_35_9 (h : AHp) (Q : Option Int32 → AHp → Prop) (l0 l1 l2 l3 : Option AV) (x y : Int32) (st : List AV) : VV 35 h 9 [l0, l1, l2, l3] (.inl y :: .inl x :: st) Q ↔ (y ≤ x → VV 35 h 44 [l0, l1, l2, l3] st Q) ∧ (¬ (y ≤ x) → VV 35 h 12 [l0, l1, l2, l3] st Q) := VV_br2 rfl rfl rfl decide_eq_true_iff
theorem xr_35_12 (h : AHp) (Q : Option Int32 → AHp → Prop) (l1 l2 l3 : Option AV) (x : Nat × Nat) (st : List AV) : VV 35 h 12 [some (.inr x), l1, l2, l3] st Q ↔ VV 35 h 13 [some (.inr x), l1, l2, l3] (.inr x :: st) Q := VV_step rfl rfl rfl rfl
theorem xr_35_13 (h : AHp) (Q : Option Int32 → AHp → Prop) (l0 l1 l2 l3 : Option AV) (i : Nat) (st : List AV) : VV 35 h 13 [l0, l1, l2, l3] (.inr (0, i) :: st) Q ↔ VV 35 h 16 [l0, l1, l2, l3] (.inr (2, i) :: st) Q := VV_step rfl rfl rfl rfl
theorem xr_35_16 (h : AHp) (Q : Option Int32 → AHp → Prop) (l0 l1 l2 : Option AV) (x : Int32) (st : List AV) : VV 35 h 16 [l0, l1, l2, some (.inl x)] st Q ↔ VV 35 h 17 [l0, l1, l2, some (.inl x)] (.inl x :: st) Q := VV_step rfl rfl rfl rfl
theorem xr_35_17_1 (h : AHp) (Q : Option Int32 → AHp → Prop) (l0 l1 l2 l3 : Option AV) (x : Int32) (i : Nat) (st : List AV) : VV 35 h 17 [l0, l1, l2, l3] (.inl x :: .inr (1, i) :: st) Q ↔ vp_in x 20 ∧ VV 35 h 18 [l0, l1, l2, l3] (.inr (3, x.toNatClampNeg) :: st) Q := VV_aald rfl rfl
theorem xr_35_17_2 (h : AHp) (Q : Option Int32 → AHp → Prop) (l0 l1 l2 l3 : Option AV) (x : Int32) (i : Nat) (st : List AV) : VV 35 h 17 [l0, l1, l2, l3] (.inl x :: .inr (2, i) :: st) Q ↔ vp_in x 8 ∧ VV 35 h 18 [l0, l1, l2, l3] (.inr (4, x.toNatClampNeg) :: st) Q := VV_aald rfl rfl
theorem xr_35_18 (h : AHp) (Q : Option Int32 → AHp → Prop) (l0 l1 l2 l3 : Option AV) (i : Nat) : VV 35 h 18 [l0, l1, l2, l3] [.inr (4, i)] Q ↔ Vi 4 h [some (.inr (4, i))] (fun z h2 => VV 35 h2 21 [l0, l1, l2, l3] [.inl z] Q) := VV_calli (y := 4) (as := [.inr (4, i)]) (rest := []) rfl rfl rfl (ah_noV (y := 4) (by decide))
theorem xr_35_21 (h : AHp) (Q : Option Int32 → AHp → Prop) (l0 l1 l2 l3 : Option AV) (x : Int32) (st : List AV) : VV 35 h 21 [l0, l1, l2, l3] (.inl x :: st) Q ↔ (¬ x = 0 → VV 35 h 38 [l0, l1, l2, l3] st Q) ∧ (¬ (¬ x = 0) → VV 35 h 24 [l0, l1, l2, l3] st Q) := VV_br rfl rfl rfl decide_eq_true_iff
theorem xr_35_24 (h : AHp) (Q : Option Int32 → AHp → Prop) (l0 l1 l3 : Option AV) (x : Int32) (st : List AV) : VV 35 h 24 [l0, l1, some (.inl x), l3] st Q ↔ VV 35 h 25 [l0, l1, some (.inl x), l3] (.inl x :: st) Q := VV_step rfl rfl rfl rfl
theorem xr_35_25 (h : AHp) (Q : Option Int32 → AHp → Prop) (l1 l2 l3 : Option AV) (x : Nat × Nat) (st : List AV) : VV 35 h 25 [some (.inr x), l1, l2, l3] st Q ↔ VV 35 h 26 [some (.inr x), l1, l2, l3] (.inr x :: st) Q := VV_step rfl rfl rfl rfl
theorem xr_35_26 (h : AHp) (Q : Option Int32 → AHp → Prop) (l0 l1 l2 l3 : Option AV) (i : Nat) (st : List AV) : VV 35 h 26 [l0, l1, l2, l3] (.inr (0, i) :: st) Q ↔ VV 35 h 29 [l0, l1, l2, l3] (.inr (2, i) :: st) Q := VV_step rfl rfl rfl rfl
theorem xr_35_29 (h : AHp) (Q : Option Int32 → AHp → Prop) (l0 l1 l2 : Option AV) (x : Int32) (st : List AV) : VV 35 h 29 [l0, l1, l2, some (.inl x)] st Q ↔ VV 35 h 30 [l0, l1, l2, some (.inl x)] (.inl x :: st) Q := VV_step rfl rfl rfl rfl
theorem xr_35_30_1 (h : AHp) (Q : Option Int32 → AHp → Prop) (l0 l1 l2 l3 : Option AV) (x : Int32) (i : Nat) (st : List AV) : VV 35 h 30 [l0, l1, l2, l3] (.inl x :: .inr (1, i) :: st) Q ↔ vp_in x 20 ∧ VV 35 h 31 [l0, l1, l2, l3] (.inr (3, x.toNatClampNeg) :: st) Q := VV_aald rfl rfl
theorem xr_35_30_2 (h : AHp) (Q : Option Int32 → AHp → Prop) (l0 l1 l2 l3 : Option AV) (x : Int32) (i : Nat) (st : List AV) : VV 35 h 30 [l0, l1, l2, l3] (.inl x :: .inr (2, i) :: st) Q ↔ vp_in x 8 ∧ VV 35 h 31 [l0, l1, l2, l3] (.inr (4, x.toNatClampNeg) :: st) Q := VV_aald rfl rfl
theorem xr_35_31 (h : AHp) (Q : Option Int32 → AHp → Prop) (l0 l1 l2 l3 : Option AV) (r0 : AV) (i : Nat) : VV 35 h 31 [l0, l1, l2, l3] [.inr (4, i), r0] Q ↔ Vi 8 h [some (.inr (4, i))] (fun z h2 => VV 35 h2 34 [l0, l1, l2, l3] [.inl z, r0] Q) := VV_calli (y := 8) (as := [.inr (4, i)]) (rest := [r0]) rfl rfl rfl (ah_noV (y := 8) (by decide))
theorem xr_35_34 (h : AHp) (Q : Option Int32 → AHp → Prop) (l0 l1 l2 l3 : Option AV) (a0 a1 : AV) : VV 35 h 34 [l0, l1, l2, l3] [a1, a0] Q ↔ Vi 91 h [some a0, some a1] (fun z h2 => VV 35 h2 37 [l0, l1, l2, l3] [.inl z] Q) := VV_calli (y := 91) (as := [a0, a1]) (rest := []) rfl rfl rfl (ah_noV (y := 91) (by decide))
theorem xr_35_37 (h : AHp) (Q : Option Int32 → AHp → Prop) (l0 l1 l2 l3 : Option AV) (x : Int32) (st : List AV) : VV 35 h 37 [l0, l1, l2, l3] (.inl x :: st) Q ↔ VV 35 h 38 [l0, l1, some (.inl x), l3] st Q := VV_step rfl rfl rfl rfl
theorem xr_35_38 (h : AHp) (Q : Option Int32 → AHp → Prop) (l0 l1 l2 : Option AV) (x : Int32) (st : List AV) : VV 35 h 38 [l0, l1, l2, some (.inl x)] st Q ↔ VV 35 h 41 [l0, l1, l2, some (.inl (x + (1 : Int32)))] st Q := VV_step rfl rfl rfl rfl
theorem xr_35_41 (h : AHp) (Q : Option Int32 → AHp → Prop) (l0 l1 l2 l3 : Option AV) (st : List AV) : VV 35 h 41 [l0, l1, l2, l3] st Q ↔ VV 35 h 4 [l0, l1, l2, l3] st Q := VV_step rfl rfl rfl rfl
theorem xr_35_44 (h : AHp) (Q : Option Int32 → AHp → Prop) (l1 l2 l3 : Option AV) (x : Nat × Nat) (st : List AV) : VV 35 h 44 [some (.inr x), l1, l2, l3] st Q ↔ VV 35 h 45 [some (.inr x), l1, l2, l3] (.inr x :: st) Q := VV_step rfl rfl rfl rfl
theorem xr_35_45 (h : AHp) (Q : Option Int32 → AHp → Prop) (l1 l2 l3 : Option AV) (x : Nat × Nat) (st : List AV) : VV 35 h 45 [some (.inr x), l1, l2, l3] st Q ↔ VV 35 h 46 [some (.inr x), l1, l2, l3] (.inr x :: st) Q := VV_step rfl rfl rfl rfl
theorem xr_35_46 (h : AHp) (Q : Option Int32 → AHp → Prop) (l0 l1 l2 l3 : Option AV) (i : Nat) (st : List AV) : VV 35 h 46 [l0, l1, l2, l3] (.inr (0, i) :: st) Q ↔ VV 35 h 49 [l0, l1, l2, l3] (.inl (h 0 i 5) :: st) Q := VV_step rfl rfl rfl rfl
theorem xr_35_49 (h : AHp) (Q : Option Int32 → AHp → Prop) (l0 l1 l3 : Option AV) (x : Int32) (st : List AV) : VV 35 h 49 [l0, l1, some (.inl x), l3] st Q ↔ VV 35 h 50 [l0, l1, some (.inl x), l3] (.inl x :: st) Q := VV_step rfl rfl rfl rfl
theorem xr_35_50 (h : AHp) (Q : Option Int32 → AHp → Prop) (l0 l1 l2 l3 : Option AV) (a0 a1 r0 : AV) : VV 35 h 50 [l0, l1, l2, l3] [a1, a0, r0] Q ↔ Vi 90 h [some a0, some a1] (fun z h2 => VV 35 h2 53 [l0, l1, l2, l3] [.inl z, r0] Q) := VV_calli (y := 90) (as := [a0, a1]) (rest := [r0]) rfl rfl rfl (ah_noV (y := 90) (by decide))
theorem xr_35_53 (h : AHp) (Q : Option Int32 → AHp → Prop) (l0 l1 l2 l3 : Option AV) (v : Int32) (i : Nat) (st : List AV) : VV 35 h 53 [l0, l1, l2, l3] (.inl v :: .inr (0, i) :: st) Q ↔ VV 35 (ah_up h 0 i 5 v) 56 [l0, l1, l2, l3] st Q := VV_step rfl rfl rfl rfl
theorem xr_35_56 (h : AHp) (Q : Option Int32 → AHp → Prop) (l0 l1 l2 l3 : Option AV) : VV 35 h 56 [l0, l1, l2, l3] [] Q ↔ Q none h := VV_end rfl rfl
theorem xr_36_0 (h : AHp) (Q : Option Int32 → AHp → Prop) (l1 l2 l3 : Option AV) (x : Nat × Nat) (st : List AV) : VV 36 h 0 [some (.inr x), l1, l2, l3] st Q ↔ VV 36 h 1 [some (.inr x), l1, l2, l3] (.inr x :: st) Q := VV_step rfl rfl rfl rfl
theorem xr_36_1 (h : AHp) (Q : Option Int32 → AHp → Prop) (l0 l2 l3 : Option AV) (x : Int32) (st : List AV) : VV 36 h 1 [l0, some (.inl x), l2, l3] st Q ↔ VV 36 h 2 [l0, some (.inl x), l2, l3] (.inl x :: st) Q := VV_step rfl rfl rfl rfl
theorem xr_36_2 (h : AHp) (Q : Option Int32 → AHp → Prop) (l0 l1 l2 l3 : Option AV) (st : List AV) : VV 36 h 2 [l0, l1, l2, l3] st Q ↔ VV 36 h 4 [l0, l1, l2, l3] (.inl (99 : Int32) :: st) Q := VV_step rfl rfl rfl rfl
theorem xr_36_4 (h : AHp) (Q : Option Int32 → AHp → Prop) (l0 l1 l2 l3 : Option AV) (a0 a1 : AV) (i : Nat) : VV 36 h 4 [l0, l1, l2, l3] [a1, a0, .inr (0, i)] Q ↔ Vi 24 h [some (.inr (0, i)), some a0, some a1] (fun z h2 => VV 36 h2 7 [l0, l1, l2, l3] [.inl z] Q) := VV_calli (y := 24) (as := [.inr (0, i), a0, a1]) (rest := []) rfl rfl rfl (ah_noV (y := 24) (by decide))
theorem xr_36_7 (h : AHp) (Q : Option Int32 → AHp → Prop) (l0 l1 l2 l3 : Option AV) (x : Int32) (st : List AV) : VV 36 h 7 [l0, l1, l2, l3] (.inl x :: st) Q ↔ (¬ x = 0 → VV 36 h 12 [l0, l1, l2, l3] st Q) ∧ (¬ (¬ x = 0) → VV 36 h 10 [l0, l1, l2, l3] st Q) := VV_br rfl rfl rfl decide_eq_true_iff
theorem xr_36_10 (h : AHp) (Q : Option Int32 → AHp → Prop) (l0 l1 l2 l3 : Option AV) (st : List AV) : VV 36 h 10 [l0, l1, l2, l3] st Q ↔ VV 36 h 11 [l0, l1, l2, l3] (.inl (-1 : Int32) :: st) Q := VV_step rfl rfl rfl rfl
theorem xr_36_11 (h : AHp) (Q : Option Int32 → AHp → Prop) (l0 l1 l2 l3 : Option AV) (x : Int32) : VV 36 h 11 [l0, l1, l2, l3] [.inl x] Q ↔ Q (some x) h := VV_end rfl rfl
theorem xr_36_12 (h : AHp) (Q : Option Int32 → AHp → Prop) (l1 l2 l3 : Option AV) (x : Nat × Nat) (st : List AV) : VV 36 h 12 [some (.inr x), l1, l2, l3] st Q ↔ VV 36 h 13 [some (.inr x), l1, l2, l3] (.inr x :: st) Q := VV_step rfl rfl rfl rfl
theorem xr_36_13 (h : AHp) (Q : Option Int32 → AHp → Prop) (l0 l1 l2 l3 : Option AV) (i : Nat) (st : List AV) : VV 36 h 13 [l0, l1, l2, l3] (.inr (0, i) :: st) Q ↔ VV 36 h 16 [l0, l1, l2, l3] (.inl (h 0 i 5) :: st) Q := VV_step rfl rfl rfl rfl
theorem xr_36_16 (h : AHp) (Q : Option Int32 → AHp → Prop) (l0 l2 l3 : Option AV) (x : Int32) (st : List AV) : VV 36 h 16 [l0, some (.inl x), l2, l3] st Q ↔ VV 36 h 17 [l0, some (.inl x), l2, l3] (.inl x :: st) Q := VV_step rfl rfl rfl rfl
theorem xr_36_17 (h : AHp) (Q : Option Int32 → AHp → Prop) (l0 l1 l2 l3 : Option AV) (x y : Int32) (st : List AV) : VV 36 h 17 [l0, l1, l2, l3] (.inl y :: .inl x :: st) Q ↔ VV 36 h 18 [l0, l1, l2, l3] (.inl (x + y) :: st) Q := VV_step rfl rfl rfl rfl
theorem xr_36_18 (h : AHp) (Q : Option Int32 → AHp → Prop) (l0 l1 l2 l3 : Option AV) (x : Int32) (st : List AV) : VV 36 h 18 [l0, l1, l2, l3] (.inl x :: st) Q ↔ VV 36 h 19 [l0, l1, some (.inl x), l3] st Q := VV_step rfl rfl rfl rfl
theorem xr_36_19 (h : AHp) (Q : Option Int32 → AHp → Prop) (l0 l1 l2 l3 : Option AV) (st : List AV) : VV 36 h 19 [l0, l1, l2, l3] st Q ↔ VV 36 h 20 [l0, l1, l2, l3] (.inl (0 : Int32) :: st) Q := VV_step rfl rfl rfl rfl
theorem xr_36_20 (h : AHp) (Q : Option Int32 → AHp → Prop) (l0 l1 l2 l3 : Option AV) (x : Int32) (st : List AV) : VV 36 h 20 [l0, l1, l2, l3] (.inl x :: st) Q ↔ VV 36 h 21 [l0, l1, l2, some (.inl x)] st Q := VV_step rfl rfl rfl rfl
theorem xr_36_21 (h : AHp) (Q : Option Int32 → AHp → Prop) (l0 l1 l2 : Option AV) (x : Int32) (st : List AV) : VV 36 h 21 [l0, l1, l2, some (.inl x)] st Q ↔ VV 36 h 22 [l0, l1, l2, some (.inl x)] (.inl x :: st) Q := VV_step rfl rfl rfl rfl
theorem xr_36_22 (h : AHp) (Q : Option Int32 → AHp → Prop) (l0 l2 l3 : Option AV) (x : Int32) (st : List AV) : VV 36 h 22 [l0, some (.inl x), l2, l3] st Q ↔ VV 36 h 23 [l0, some (.inl x), l2, l3] (.inl x :: st) Q := VV_step rfl rfl rfl rfl
theorem xr_36_23 (h : AHp) (Q : Option Int32 → AHp → Prop) (l0 l1 l2 l3 : Option AV) (x y : Int32) (st : List AV) : VV 36 h 23 [l0, l1, l2, l3] (.inl y :: .inl x :: st) Q ↔ (y ≤ x → VV 36 h 49 [l0, l1, l2, l3] st Q) ∧ (¬ (y ≤ x) → VV 36 h 26 [l0, l1, l2, l3] st Q) := VV_br2 rfl rfl rfl decide_eq_true_iff
theorem xr_36_26 (h : AHp) (Q : Option Int32 → AHp → Prop) (l1 l2 l3 : Option AV) (x : Nat × Nat) (st : List AV) : VV 36 h 26 [some (.inr x), l1, l2, l3] st Q ↔ VV 36 h 27 [some (.inr x), l1, l2, l3] (.inr x :: st) Q := VV_step rfl rfl rfl rfl
theorem xr_36_27 (h : AHp) (Q : Option Int32 → AHp → Prop) (l0 l1 l2 l3 : Option AV) (i : Nat) (st : List AV) : VV 36 h 27 [l0, l1, l2, l3] (.inr (0, i) :: st) Q ↔ VV 36 h 30 [l0, l1, l2, l3] (.inl (h 0 i 5) :: st) Q := VV_step rfl rfl rfl rfl
theorem xr_36_30 (h : AHp) (Q : Option Int32 → AHp → Prop) (l0 l1 l3 : Option AV) (x : Int32) (st : List AV) : VV 36 h 30 [l0, l1, some (.inl x), l3] st Q ↔ VV 36 h 31 [l0, l1, some (.inl x), l3] (.inl x :: st) Q := VV_step rfl rfl rfl rfl
theorem xr_36_31 (h : AHp) (Q : Option Int32 → AHp → Prop) (l0 l1 l2 l3 : Option AV) (x y : Int32) (st : List AV) : VV 36 h 31 [l0, l1, l2, l3] (.inl y :: .inl x :: st) Q ↔ (y ≤ x → VV 36 h 49 [l0, l1, l2, l3] st Q) ∧ (¬ (y ≤ x) → VV 36 h 34 [l0, l1, l2, l3] st Q) := VV_br2 rfl rfl rfl decide_eq_true_iff
theorem xr_36_34 (h : AHp) (Q : Option Int32 → AHp → Prop) (l1 l2 l3 : Option AV) (x : Nat × Nat) (st : List AV) : VV 36 h 34 [some (.inr x), l1, l2, l3] st Q ↔ VV 36 h 35 [some (.inr x), l1, l2, l3] (.inr x :: st) Q := VV_step rfl rfl rfl rfl
theorem xr_36_35 (h : AHp) (Q : Option Int32 → AHp → Prop) (l0 l1 l2 l3 : Option AV) (i : Nat) : VV 36 h 35 [l0, l1, l2, l3] [.inr (0, i)] Q ↔ Vv 34 h [some (.inr (0, i))] (fun h2 => VV 36 h2 38 [l0, l1, l2, l3] [] Q) := VV_callv (y := 34) (as := [.inr (0, i)]) (rest := []) rfl rfl rfl (ah_noI (y := 34) rfl)
theorem xr_36_38 (h : AHp) (Q : Option Int32 → AHp → Prop) (l1 l2 l3 : Option AV) (x : Nat × Nat) (st : List AV) : VV 36 h 38 [some (.inr x), l1, l2, l3] st Q ↔ VV 36 h 39 [some (.inr x), l1, l2, l3] (.inr x :: st) Q := VV_step rfl rfl rfl rfl
theorem xr_36_39 (h : AHp) (Q : Option Int32 → AHp → Prop) (l0 l1 l3 : Option AV) (x : Int32) (st : List AV) : VV 36 h 39 [l0, l1, some (.inl x), l3] st Q ↔ VV 36 h 40 [l0, l1, some (.inl x), l3] (.inl x :: st) Q := VV_step rfl rfl rfl rfl
theorem xr_36_40 (h : AHp) (Q : Option Int32 → AHp → Prop) (l0 l1 l2 l3 : Option AV) (a0 : AV) (i : Nat) : VV 36 h 40 [l0, l1, l2, l3] [a0, .inr (0, i)] Q ↔ Vv 35 h [some (.inr (0, i)), some a0, none, none] (fun h2 => VV 36 h2 43 [l0, l1, l2, l3] [] Q) := VV_callv (y := 35) (as := [.inr (0, i), a0]) (rest := []) rfl rfl rfl (ah_noI (y := 35) rfl)
theorem xr_36_43 (h : AHp) (Q : Option Int32 → AHp → Prop) (l0 l1 l2 : Option AV) (x : Int32) (st : List AV) : VV 36 h 43 [l0, l1, l2, some (.inl x)] st Q ↔ VV 36 h 46 [l0, l1, l2, some (.inl (x + (1 : Int32)))] st Q := VV_step rfl rfl rfl rfl
theorem xr_36_46 (h : AHp) (Q : Option Int32 → AHp → Prop) (l0 l1 l2 l3 : Option AV) (st : List AV) : VV 36 h 46 [l0, l1, l2, l3] st Q ↔ VV 36 h 21 [l0, l1, l2, l3] st Q := VV_step rfl rfl rfl rfl
theorem xr_36_49 (h : AHp) (Q : Option Int32 → AHp → Prop) (l1 l2 l3 : Option AV) (x : Nat × Nat) (st : List AV) : VV 36 h 49 [some (.inr x), l1, l2, l3] st Q ↔ VV 36 h 50 [some (.inr x), l1, l2, l3] (.inr x :: st) Q := VV_step rfl rfl rfl rfl
theorem xr_36_50 (h : AHp) (Q : Option Int32 → AHp → Prop) (l0 l1 l2 l3 : Option AV) (i : Nat) (st : List AV) : VV 36 h 50 [l0, l1, l2, l3] (.inr (0, i) :: st) Q ↔ VV 36 h 53 [l0, l1, l2, l3] (.inl (h 0 i 5) :: st) Q := VV_step rfl rfl rfl rfl
theorem xr_36_53 (h : AHp) (Q : Option Int32 → AHp → Prop) (l0 l1 l2 l3 : Option AV) (x : Int32) : VV 36 h 53 [l0, l1, l2, l3] [.inl x] Q ↔ Q (some x) h := VV_end rfl rfl
theorem xr_37_0 (h : AHp) (Q : Option Int32 → AHp → Prop) (l0 l1 l2 : Option AV) (st : List AV) : VV 37 h 0 [l0, l1, l2] st Q ↔ VV 37 h 1 [l0, l1, l2] (.inl (0 : Int32) :: st) Q := VV_step rfl rfl rfl rfl
theorem xr_37_1 (h : AHp) (Q : Option Int32 → AHp → Prop) (l0 l1 l2 : Option AV) (x : Int32) (st : List AV) : VV 37 h 1 [l0, l1, l2] (.inl x :: st) Q ↔ VV 37 h 2 [l0, some (.inl x), l2] st Q := VV_step rfl rfl rfl rfl
theorem xr_37_2 (h : AHp) (Q : Option Int32 → AHp → Prop) (l0 l1 l2 : Option AV) (st : List AV) : VV 37 h 2 [l0, l1, l2] st Q ↔ VV 37 h 3 [l0, l1, l2] (.inl (0 : Int32) :: st) Q := VV_step rfl rfl rfl rfl
theorem xr_37_3 (h : AHp) (Q : Option Int32 → AHp → Prop) (l0 l1 l2 : Option AV) (x : Int32) (st : List AV) : VV 37 h 3 [l0, l1, l2] (.inl x :: st) Q ↔ VV 37 h 4 [l0, l1, some (.inl x)] st Q := VV_step rfl rfl rfl rfl
theorem xr_37_4 (h : AHp) (Q : Option Int32 → AHp → Prop) (l0 l1 : Option AV) (x : Int32) (st : List AV) : VV 37 h 4 [l0, l1, some (.inl x)] st Q ↔ VV 37 h 5 [l0, l1, some (.inl x)] (.inl x :: st) Q := VV_step rfl rfl rfl rfl
theorem xr_37_5 (h : AHp) (Q : Option Int32 → AHp → Prop) (l1 l2 : Option AV) (x : Nat × Nat) (st : List AV) : VV 37 h 5 [some (.inr x), l1, l2] st Q ↔ VV 37 h 6 [some (.inr x), l1, l2] (.inr x :: st) Q := VV_step rfl rfl rfl rfl
theorem xr_37_6 (h : AHp) (Q : Option Int32 → AHp → Prop) (l0 l1 l2 : Option AV) (i : Nat) (st : List AV) : VV 37 h 6 [l0, l1, l2] (.inr (0, i) :: st) Q ↔ VV 37 h 9 [l0, l1, l2] (.inl (h 0 i 4) :: st) Q := VV_step rfl rfl rfl rfl
theorem xr_37_9 (h : AHp) (Q : Option Int32 → AHp → Prop) (l0 l1 l2 : Option AV) (x y : Int32) (st : List AV) : VV 37 h 9 [l0, l1, l2] (.inl y :: .inl x :: st) Q ↔ (y ≤ x → VV 37 h 34 [l0, l1, l2] st Q) ∧ (¬ (y ≤ x) → VV 37 h 12 [l0, l1, l2] st Q) := VV_br2 rfl rfl rfl decide_eq_true_iff
theorem xr_37_12 (h : AHp) (Q : Option Int32 → AHp → Prop) (l1 l2 : Option AV) (x : Nat × Nat) (st : List AV) : VV 37 h 12 [some (.inr x), l1, l2] st Q ↔ VV 37 h 13 [some (.inr x), l1, l2] (.inr x :: st) Q := VV_step rfl rfl rfl rfl
theorem xr_37_13 (h : AHp) (Q : Option Int32 → AHp → Prop) (l1 l2 : Option AV) (x : Nat × Nat) (st : List AV) : VV 37 h 13 [some (.inr x), l1, l2] st Q ↔ VV 37 h 14 [some (.inr x), l1, l2] (.inr x :: st) Q := VV_step rfl rfl rfl rfl
theorem xr_37_14 (h : AHp) (Q : Option Int32 → AHp → Prop) (l0 l1 l2 : Option AV) (i : Nat) (st : List AV) : VV 37 h 14 [l0, l1, l2] (.inr (0, i) :: st) Q ↔ VV 37 h 17 [l0, l1, l2] (.inr (2, i) :: st) Q := VV_step rfl rfl rfl rfl
theorem xr_37_17 (h : AHp) (Q : Option Int32 → AHp → Prop) (l0 l1 : Option AV) (x : Int32) (st : List AV) : VV 37 h 17 [l0, l1, some (.inl x)] st Q ↔ VV 37 h 18 [l0, l1, some (.inl x)] (.inl x :: st) Q := VV_step rfl rfl rfl rfl
theorem xr_37_18_1 (h : AHp) (Q : Option Int32 → AHp → Prop) (l0 l1 l2 : Option AV) (x : Int32) (i : Nat) (st : List AV) : VV 37 h 18 [l0, l1, l2] (.inl x :: .inr (1, i) :: st) Q ↔ vp_in x 20 ∧ VV 37 h 19 [l0, l1, l2] (.inr (3, x.toNatClampNeg) :: st) Q := VV_aald rfl rfl
theorem xr_37_18_2 (h : AHp) (Q : Option Int32 → AHp → Prop) (l0 l1 l2 : Option AV) (x : Int32) (i : Nat) (st : List AV) : VV 37 h 18 [l0, l1, l2] (.inl x :: .inr (2, i) :: st) Q ↔ vp_in x 8 ∧ VV 37 h 19 [l0, l1, l2] (.inr (4, x.toNatClampNeg) :: st) Q := VV_aald rfl rfl
theorem xr_37_19 (h : AHp) (Q : Option Int32 → AHp → Prop) (l0 l1 l2 : Option AV) (a0 : AV) (i : Nat) : VV 37 h 19 [l0, l1, l2] [a0, .inr (0, i)] Q ↔ Vi 26 h [some (.inr (0, i)), some a0] (fun z h2 => VV 37 h2 22 [l0, l1, l2] [.inl z] Q) := VV_calli (y := 26) (as := [.inr (0, i), a0]) (rest := []) rfl rfl rfl (ah_noV (y := 26) (by decide))
theorem xr_37_22 (h : AHp) (Q : Option Int32 → AHp → Prop) (l0 l1 l2 : Option AV) (x : Int32) (st : List AV) : VV 37 h 22 [l0, l1, l2] (.inl x :: st) Q ↔ (x = 0 → VV 37 h 28 [l0, l1, l2] st Q) ∧ (¬ (x = 0) → VV 37 h 25 [l0, l1, l2] st Q) := VV_br rfl rfl rfl decide_eq_true_iff
theorem xr_37_25 (h : AHp) (Q : Option Int32 → AHp → Prop) (l0 l2 : Option AV) (x : Int32) (st : List AV) : VV 37 h 25 [l0, some (.inl x), l2] st Q ↔ VV 37 h 28 [l0, some (.inl (x + (1 : Int32))), l2] st Q := VV_step rfl rfl rfl rfl
theorem xr_37_28 (h : AHp) (Q : Option Int32 → AHp → Prop) (l0 l1 : Option AV) (x : Int32) (st : List AV) : VV 37 h 28 [l0, l1, some (.inl x)] st Q ↔ VV 37 h 31 [l0, l1, some (.inl (x + (1 : Int32)))] st Q := VV_step rfl rfl rfl rfl
theorem xr_37_31 (h : AHp) (Q : Option Int32 → AHp → Prop) (l0 l1 l2 : Option AV) (st : List AV) : VV 37 h 31 [l0, l1, l2] st Q ↔ VV 37 h 4 [l0, l1, l2] st Q := VV_step rfl rfl rfl rfl
theorem xr_37_34 (h : AHp) (Q : Option Int32 → AHp → Prop) (l0 l2 : Option AV) (x : Int32) (st : List AV) : VV 37 h 34 [l0, some (.inl x), l2] st Q ↔ VV 37 h 35 [l0, some (.inl x), l2] (.inl x :: st) Q := VV_step rfl rfl rfl rfl
theorem xr_37_35 (h : AHp) (Q : Option Int32 → AHp → Prop) (l0 l1 l2 : Option AV) (x : Int32) : VV 37 h 35 [l0, l1, l2] [.inl x] Q ↔ Q (some x) h := VV_end rfl rfl
theorem xr_38_0 (h : AHp) (Q : Option Int32 → AHp → Prop) (x : Nat × Nat) (st : List AV) : VV 38 h 0 [some (.inr x)] st Q ↔ VV 38 h 1 [some (.inr x)] (.inr x :: st) Q := VV_step rfl rfl rfl rfl
theorem xr_38_1 (h : AHp) (Q : Option Int32 → AHp → Prop) (l0 : Option AV) (i : Nat) : VV 38 h 1 [l0] [.inr (0, i)] Q ↔ Vi 37 h [some (.inr (0, i)), none, none] (fun z h2 => VV 38 h2 4 [l0] [.inl z] Q) := VV_calli (y := 37) (as := [.inr (0, i)]) (rest := []) rfl rfl rfl (ah_noV (y := 37) (by decide))
theorem xr_38_4 (h : AHp) (Q : Option Int32 → AHp → Prop) (x : Nat × Nat) (st : List AV) : VV 38 h 4 [some (.inr x)] st Q ↔ VV 38 h 5 [some (.inr x)] (.inr x :: st) Q := VV_step rfl rfl rfl rfl
theorem xr_38_5 (h : AHp) (Q : Option Int32 → AHp → Prop) (l0 : Option AV) (i : Nat) (st : List AV) : VV 38 h 5 [l0] (.inr (0, i) :: st) Q ↔ VV 38 h 8 [l0] (.inl (h 0 i 4) :: st) Q := VV_step rfl rfl rfl rfl
theorem xr_38_8 (h : AHp) (Q : Option Int32 → AHp → Prop) (l0 : Option AV) (x y : Int32) (st : List AV) : VV 38 h 8 [l0] (.inl y :: .inl x :: st) Q ↔ (¬ x = y → VV 38 h 15 [l0] st Q) ∧ (¬ (¬ x = y) → VV 38 h 11 [l0] st Q) := VV_br2 rfl rfl rfl decide_eq_true_iff
theorem xr_38_11 (h : AHp) (Q : Option Int32 → AHp → Prop) (l0 : Option AV) (st : List AV) : VV 38 h 11 [l0] st Q ↔ VV 38 h 12 [l0] (.inl (1 : Int32) :: st) Q := VV_step rfl rfl rfl rfl
theorem xr_38_12 (h : AHp) (Q : Option Int32 → AHp → Prop) (l0 : Option AV) (st : List AV) : VV 38 h 12 [l0] st Q ↔ VV 38 h 16 [l0] st Q := VV_step rfl rfl rfl rfl
theorem xr_38_15 (h : AHp) (Q : Option Int32 → AHp → Prop) (l0 : Option AV) (st : List AV) : VV 38 h 15 [l0] st Q ↔ VV 38 h 16 [l0] (.inl (0 : Int32) :: st) Q := VV_step rfl rfl rfl rfl
theorem xr_38_16 (h : AHp) (Q : Option Int32 → AHp → Prop) (l0 : Option AV) (x : Int32) : VV 38 h 16 [l0] [.inl x] Q ↔ (x = 0 ∨ x = 1) ∧ Q (some x) h := VV_zret rfl rfl
theorem xr_39_0 (h : AHp) (Q : Option Int32 → AHp → Prop) (l1 l2 l3 : Option AV) (x : Nat × Nat) (st : List AV) : VV 39 h 0 [some (.inr x), l1, l2, l3] st Q ↔ VV 39 h 1 [some (.inr x), l1, l2, l3] (.inr x :: st) Q := VV_step rfl rfl rfl rfl
theorem xr_39_1 (h : AHp) (Q : Option Int32 → AHp → Prop) (l0 l2 l3 : Option AV) (x : Int32) (st : List AV) : VV 39 h 1 [l0, some (.inl x), l2, l3] st Q ↔ VV 39 h 2 [l0, some (.inl x), l2, l3] (.inl x :: st) Q := VV_step rfl rfl rfl rfl
theorem xr_39_2 (h : AHp) (Q : Option Int32 → AHp → Prop) (l0 l1 l2 l3 : Option AV) (st : List AV) : VV 39 h 2 [l0, l1, l2, l3] st Q ↔ VV 39 h 5 [l0, l1, l2, l3] (.inl (999 : Int32) :: st) Q := VV_step rfl rfl rfl rfl
theorem xr_39_5 (h : AHp) (Q : Option Int32 → AHp → Prop) (l0 l1 l2 l3 : Option AV) (a0 a1 : AV) (i : Nat) : VV 39 h 5 [l0, l1, l2, l3] [a1, a0, .inr (0, i)] Q ↔ Vi 24 h [some (.inr (0, i)), some a0, some a1] (fun z h2 => VV 39 h2 8 [l0, l1, l2, l3] [.inl z] Q) := VV_calli (y := 24) (as := [.inr (0, i), a0, a1]) (rest := []) rfl rfl rfl (ah_noV (y := 24) (by decide))
theorem xr_39_8 (h : AHp) (Q : Option Int32 → AHp → Prop) (l0 l1 l2 l3 : Option AV) (x : Int32) (st : List AV) : VV 39 h 8 [l0, l1, l2, l3] (.inl x :: st) Q ↔ (¬ x = 0 → VV 39 h 13 [l0, l1, l2, l3] st Q) ∧ (¬ (¬ x = 0) → VV 39 h 11 [l0, l1, l2, l3] st Q) := VV_br rfl rfl rfl decide_eq_true_iff
theorem xr_39_11 (h : AHp) (Q : Option Int32 → AHp → Prop) (l0 l1 l2 l3 : Option AV) (st : List AV) : VV 39 h 11 [l0, l1, l2, l3] st Q ↔ VV 39 h 12 [l0, l1, l2, l3] (.inl (-1 : Int32) :: st) Q := VV_step rfl rfl rfl rfl
theorem xr_39_12 (h : AHp) (Q : Option Int32 → AHp → Prop) (l0 l1 l2 l3 : Option AV) (x : Int32) : VV 39 h 12 [l0, l1, l2, l3] [.inl x] Q ↔ Q (some x) h := VV_end rfl rfl
theorem xr_39_13 (h : AHp) (Q : Option Int32 → AHp → Prop) (l1 l2 l3 : Option AV) (x : Nat × Nat) (st : List AV) : VV 39 h 13 [some (.inr x), l1, l2, l3] st Q ↔ VV 39 h 14 [some (.inr x), l1, l2, l3] (.inr x :: st) Q := VV_step rfl rfl rfl rfl
theorem xr_39_14 (h : AHp) (Q : Option Int32 → AHp → Prop) (l0 l1 l2 l3 : Option AV) (i : Nat) (st : List AV) : VV 39 h 14 [l0, l1, l2, l3] (.inr (0, i) :: st) Q ↔ VV 39 h 17 [l0, l1, l2, l3] (.inl (h 0 i 5) :: st) Q := VV_step rfl rfl rfl rfl
theorem xr_39_17 (h : AHp) (Q : Option Int32 → AHp → Prop) (l0 l2 l3 : Option AV) (x : Int32) (st : List AV) : VV 39 h 17 [l0, some (.inl x), l2, l3] st Q ↔ VV 39 h 18 [l0, some (.inl x), l2, l3] (.inl x :: st) Q := VV_step rfl rfl rfl rfl
theorem xr_39_18 (h : AHp) (Q : Option Int32 → AHp → Prop) (l0 l1 l2 l3 : Option AV) (x y : Int32) (st : List AV) : VV 39 h 18 [l0, l1, l2, l3] (.inl y :: .inl x :: st) Q ↔ VV 39 h 19 [l0, l1, l2, l3] (.inl (x + y) :: st) Q := VV_step rfl rfl rfl rfl
theorem xr_39_19 (h : AHp) (Q : Option Int32 → AHp → Prop) (l0 l1 l2 l3 : Option AV) (x : Int32) (st : List AV) : VV 39 h 19 [l0, l1, l2, l3] (.inl x :: st) Q ↔ VV 39 h 20 [l0, l1, some (.inl x), l3] st Q := VV_step rfl rfl rfl rfl
theorem xr_39_20 (h : AHp) (Q : Option Int32 → AHp → Prop) (l0 l1 l2 l3 : Option AV) (st : List AV) : VV 39 h 20 [l0, l1, l2, l3] st Q ↔ VV 39 h 21 [l0, l1, l2, l3] (.inl (0 : Int32) :: st) Q := VV_step rfl rfl rfl rfl
theorem xr_39_21 (h : AHp) (Q : Option Int32 → AHp → Prop) (l0 l1 l2 l3 : Option AV) (x : Int32) (st : List AV) : VV 39 h 21 [l0, l1, l2, l3] (.inl x :: st) Q ↔ VV 39 h 22 [l0, l1, l2, some (.inl x)] st Q := VV_step rfl rfl rfl rfl
theorem xr_39_22 (h : AHp) (Q : Option Int32 → AHp → Prop) (l0 l1 l2 : Option AV) (x : Int32) (st : List AV) : VV 39 h 22 [l0, l1, l2, some (.inl x)] st Q ↔ VV 39 h 23 [l0, l1, l2, some (.inl x)] (.inl x :: st) Q := VV_step rfl rfl rfl rfl
theorem xr_39_23 (h : AHp) (Q : Option Int32 → AHp → Prop) (l0 l2 l3 : Option AV) (x : Int32) (st : List AV) : VV 39 h 23 [l0, some (.inl x), l2, l3] st Q ↔ VV 39 h 24 [l0, some (.inl x), l2, l3] (.inl x :: st) Q := VV_step rfl rfl rfl rfl
theorem xr_39_24 (h : AHp) (Q : Option Int32 → AHp → Prop) (l0 l1 l2 l3 : Option AV) (x y : Int32) (st : List AV) : VV 39 h 24 [l0, l1, l2, l3] (.inl y :: .inl x :: st) Q ↔ (y ≤ x → VV 39 h 64 [l0, l1, l2, l3] st Q) ∧ (¬ (y ≤ x) → VV 39 h 27 [l0, l1, l2, l3] st Q) := VV_br2 rfl rfl rfl decide_eq_true_iff
theorem xr_39_27 (h : AHp) (Q : Option Int32 → AHp → Prop) (l1 l2 l3 : Option AV) (x : Nat × Nat) (st : List AV) : VV 39 h 27 [some (.inr x), l1, l2, l3] st Q ↔ VV 39 h 28 [some (.inr x), l1, l2, l3] (.inr x :: st) Q := VV_step rfl rfl rfl rfl
theorem xr_39_28 (h : AHp) (Q : Option Int32 → AHp → Prop) (l0 l1 l2 l3 : Option AV) (i : Nat) (st : List AV) : VV 39 h 28 [l0, l1, l2, l3] (.inr (0, i) :: st) Q ↔ VV 39 h 31 [l0, l1, l2, l3] (.inl (h 0 i 5) :: st) Q := VV_step rfl rfl rfl rfl
theorem xr_39_31 (h : AHp) (Q : Option Int32 → AHp → Prop) (l0 l1 l3 : Option AV) (x : Int32) (st : List AV) : VV 39 h 31 [l0, l1, some (.inl x), l3] st Q ↔ VV 39 h 32 [l0, l1, some (.inl x), l3] (.inl x :: st) Q := VV_step rfl rfl rfl rfl
theorem xr_39_32 (h : AHp) (Q : Option Int32 → AHp → Prop) (l0 l1 l2 l3 : Option AV) (x y : Int32) (st : List AV) : VV 39 h 32 [l0, l1, l2, l3] (.inl y :: .inl x :: st) Q ↔ (y ≤ x → VV 39 h 64 [l0, l1, l2, l3] st Q) ∧ (¬ (y ≤ x) → VV 39 h 35 [l0, l1, l2, l3] st Q) := VV_br2 rfl rfl rfl decide_eq_true_iff
theorem xr_39_35 (h : AHp) (Q : Option Int32 → AHp → Prop) (l1 l2 l3 : Option AV) (x : Nat × Nat) (st : List AV) : VV 39 h 35 [some (.inr x), l1, l2, l3] st Q ↔ VV 39 h 36 [some (.inr x), l1, l2, l3] (.inr x :: st) Q := VV_step rfl rfl rfl rfl
theorem xr_39_36 (h : AHp) (Q : Option Int32 → AHp → Prop) (l0 l1 l2 l3 : Option AV) (i : Nat) : VV 39 h 36 [l0, l1, l2, l3] [.inr (0, i)] Q ↔ Vi 38 h [some (.inr (0, i))] (fun z h2 => VV 39 h2 39 [l0, l1, l2, l3] [.inl z] Q) := VV_calli (y := 38) (as := [.inr (0, i)]) (rest := []) rfl rfl rfl (ah_noV (y := 38) (by decide))
theorem xr_39_39 (h : AHp) (Q : Option Int32 → AHp → Prop) (l0 l1 l2 l3 : Option AV) (x : Int32) (st : List AV) : VV 39 h 39 [l0, l1, l2, l3] (.inl x :: st) Q ↔ (¬ x = 0 → VV 39 h 64 [l0, l1, l2, l3] st Q) ∧ (¬ (¬ x = 0) → VV 39 h 42 [l0, l1, l2, l3] st Q) := VV_br rfl rfl rfl decide_eq_true_iff
theorem xr_39_42 (h : AHp) (Q : Option Int32 → AHp → Prop) (l1 l2 l3 : Option AV) (x : Nat × Nat) (st : List AV) : VV 39 h 42 [some (.inr x), l1, l2, l3] st Q ↔ VV 39 h 43 [some (.inr x), l1, l2, l3] (.inr x :: st) Q := VV_step rfl rfl rfl rfl
theorem xr_39_43 (h : AHp) (Q : Option Int32 → AHp → Prop) (l0 l1 l2 l3 : Option AV) (i : Nat) : VV 39 h 43 [l0, l1, l2, l3] [.inr (0, i)] Q ↔ Vv 34 h [some (.inr (0, i))] (fun h2 => VV 39 h2 46 [l0, l1, l2, l3] [] Q) := VV_callv (y := 34) (as := [.inr (0, i)]) (rest := []) rfl rfl rfl (ah_noI (y := 34) rfl)
theorem xr_39_46 (h : AHp) (Q : Option Int32 → AHp → Prop) (l1 l2 l3 : Option AV) (x : Nat × Nat) (st : List AV) : VV 39 h 46 [some (.inr x), l1, l2, l3] st Q ↔ VV 39 h 47 [some (.inr x), l1, l2, l3] (.inr x :: st) Q := VV_step rfl rfl rfl rfl
theorem xr_39_47 (h : AHp) (Q : Option Int32 → AHp → Prop) (l0 l1 l2 l3 : Option AV) (i : Nat) : VV 39 h 47 [l0, l1, l2, l3] [.inr (0, i)] Q ↔ Vi 38 h [some (.inr (0, i))] (fun z h2 => VV 39 h2 50 [l0, l1, l2, l3] [.inl z] Q) := VV_calli (y := 38) (as := [.inr (0, i)]) (rest := []) rfl rfl rfl (ah_noV (y := 38) (by decide))
theorem xr_39_50 (h : AHp) (Q : Option Int32 → AHp → Prop) (l0 l1 l2 l3 : Option AV) (x : Int32) (st : List AV) : VV 39 h 50 [l0, l1, l2, l3] (.inl x :: st) Q ↔ (¬ x = 0 → VV 39 h 58 [l0, l1, l2, l3] st Q) ∧ (¬ (¬ x = 0) → VV 39 h 53 [l0, l1, l2, l3] st Q) := VV_br rfl rfl rfl decide_eq_true_iff
theorem xr_39_53 (h : AHp) (Q : Option Int32 → AHp → Prop) (l1 l2 l3 : Option AV) (x : Nat × Nat) (st : List AV) : VV 39 h 53 [some (.inr x), l1, l2, l3] st Q ↔ VV 39 h 54 [some (.inr x), l1, l2, l3] (.inr x :: st) Q := VV_step rfl rfl rfl rfl
theorem xr_39_54 (h : AHp) (Q : Option Int32 → AHp → Prop) (l0 l1 l3 : Option AV) (x : Int32) (st : List AV) : VV 39 h 54 [l0, l1, some (.inl x), l3] st Q ↔ VV 39 h 55 [l0, l1, some (.inl x), l3] (.inl x :: st) Q := VV_step rfl rfl rfl rfl
theorem xr_39_55 (h : AHp) (Q : Option Int32 → AHp → Prop) (l0 l1 l2 l3 : Option AV) (a0 : AV) (i : Nat) : VV 39 h 55 [l0, l1, l2, l3] [a0, .inr (0, i)] Q ↔ Vv 35 h [some (.inr (0, i)), some a0, none, none] (fun h2 => VV 39 h2 58 [l0, l1, l2, l3] [] Q) := VV_callv (y := 35) (as := [.inr (0, i), a0]) (rest := []) rfl rfl rfl (ah_noI (y := 35) rfl)
theorem xr_39_58 (h : AHp) (Q : Option Int32 → AHp → Prop) (l0 l1 l2 : Option AV) (x : Int32) (st : List AV) : VV 39 h 58 [l0, l1, l2, some (.inl x)] st Q ↔ VV 39 h 61 [l0, l1, l2, some (.inl (x + (1 : Int32)))] st Q := VV_step rfl rfl rfl rfl
theorem xr_39_61 (h : AHp) (Q : Option Int32 → AHp → Prop) (l0 l1 l2 l3 : Option AV) (st : List AV) : VV 39 h 61 [l0, l1, l2, l3] st Q ↔ VV 39 h 22 [l0, l1, l2, l3] st Q := VV_step rfl rfl rfl rfl
theorem xr_39_64 (h : AHp) (Q : Option Int32 → AHp → Prop) (l1 l2 l3 : Option AV) (x : Nat × Nat) (st : List AV) : VV 39 h 64 [some (.inr x), l1, l2, l3] st Q ↔ VV 39 h 65 [some (.inr x), l1, l2, l3] (.inr x :: st) Q := VV_step rfl rfl rfl rfl
theorem xr_39_65 (h : AHp) (Q : Option Int32 → AHp → Prop) (l0 l1 l2 l3 : Option AV) (i : Nat) (st : List AV) : VV 39 h 65 [l0, l1, l2, l3] (.inr (0, i) :: st) Q ↔ VV 39 h 68 [l0, l1, l2, l3] (.inl (h 0 i 5) :: st) Q := VV_step rfl rfl rfl rfl
theorem xr_39_68 (h : AHp) (Q : Option Int32 → AHp → Prop) (l0 l1 l2 l3 : Option AV) (x : Int32) : VV 39 h 68 [l0, l1, l2, l3] [.inl x] Q ↔ Q (some x) h := VV_end rfl rfl
theorem xr_40_0 (h : AHp) (Q : Option Int32 → AHp → Prop) (l1 l2 : Option AV) (x : Nat × Nat) (st : List AV) : VV 40 h 0 [some (.inr x), l1, l2] st Q ↔ VV 40 h 1 [some (.inr x), l1, l2] (.inr x :: st) Q := VV_step rfl rfl rfl rfl
theorem xr_40_1 (h : AHp) (Q : Option Int32 → AHp → Prop) (l0 l1 l2 : Option AV) (i : Nat) (st : List AV) : VV 40 h 1 [l0, l1, l2] (.inr (0, i) :: st) Q ↔ VV 40 h 4 [l0, l1, l2] (.inl (h 0 i 2) :: st) Q := VV_step rfl rfl rfl rfl
theorem xr_40_4 (h : AHp) (Q : Option Int32 → AHp → Prop) (l0 l2 : Option AV) (x : Nat × Nat) (st : List AV) : VV 40 h 4 [l0, some (.inr x), l2] st Q ↔ VV 40 h 5 [l0, some (.inr x), l2] (.inr x :: st) Q := VV_step rfl rfl rfl rfl
theorem xr_40_5 (h : AHp) (Q : Option Int32 → AHp → Prop) (l0 l1 l2 : Option AV) (i : Nat) (st : List AV) : VV 40 h 5 [l0, l1, l2] (.inr (4, i) :: st) Q ↔ VV 40 h 8 [l0, l1, l2] (.inl (h 4 i 6) :: st) Q := VV_step rfl rfl rfl rfl
theorem xr_40_8 (h : AHp) (Q : Option Int32 → AHp → Prop) (l0 l1 l2 : Option AV) (x y : Int32) (st : List AV) : VV 40 h 8 [l0, l1, l2] (.inl y :: .inl x :: st) Q ↔ VV 40 h 9 [l0, l1, l2] (.inl (x - y) :: st) Q := VV_step rfl rfl rfl rfl
theorem xr_40_9 (h : AHp) (Q : Option Int32 → AHp → Prop) (l0 l1 l2 : Option AV) (x : Int32) (st : List AV) : VV 40 h 9 [l0, l1, l2] (.inl x :: st) Q ↔ VV 40 h 10 [l0, l1, some (.inl x)] st Q := VV_step rfl rfl rfl rfl
theorem xr_40_10 (h : AHp) (Q : Option Int32 → AHp → Prop) (l0 l1 : Option AV) (x : Int32) (st : List AV) : VV 40 h 10 [l0, l1, some (.inl x)] st Q ↔ VV 40 h 11 [l0, l1, some (.inl x)] (.inl x :: st) Q := VV_step rfl rfl rfl rfl
theorem xr_40_11 (h : AHp) (Q : Option Int32 → AHp → Prop) (l0 l1 l2 : Option AV) (x : Int32) (st : List AV) : VV 40 h 11 [l0, l1, l2] (.inl x :: st) Q ↔ (0 < x → VV 40 h 19 [l0, l1, l2] st Q) ∧ (¬ (0 < x) → VV 40 h 14 [l0, l1, l2] st Q) := VV_br rfl rfl rfl decide_eq_true_iff
theorem xr_40_14 (h : AHp) (Q : Option Int32 → AHp → Prop) (l1 l2 : Option AV) (x : Nat × Nat) (st : List AV) : VV 40 h 14 [some (.inr x), l1, l2] st Q ↔ VV 40 h 15 [some (.inr x), l1, l2] (.inr x :: st) Q := VV_step rfl rfl rfl rfl
theorem xr_40_15 (h : AHp) (Q : Option Int32 → AHp → Prop) (l0 l1 l2 : Option AV) (i : Nat) (st : List AV) : VV 40 h 15 [l0, l1, l2] (.inr (0, i) :: st) Q ↔ VV 40 h 18 [l0, l1, l2] (.inl (h 0 i 5) :: st) Q := VV_step rfl rfl rfl rfl
theorem xr_40_18 (h : AHp) (Q : Option Int32 → AHp → Prop) (l0 l1 l2 : Option AV) (x : Int32) : VV 40 h 18 [l0, l1, l2] [.inl x] Q ↔ Q (some x) h := VV_end rfl rfl
theorem xr_40_19 (h : AHp) (Q : Option Int32 → AHp → Prop) (l0 l2 : Option AV) (x : Nat × Nat) (st : List AV) : VV 40 h 19 [l0, some (.inr x), l2] st Q ↔ VV 40 h 20 [l0, some (.inr x), l2] (.inr x :: st) Q := VV_step rfl rfl rfl rfl
theorem xr_40_20 (h : AHp) (Q : Option Int32 → AHp → Prop) (l0 l1 l2 : Option AV) (i : Nat) : VV 40 h 20 [l0, l1, l2] [.inr (4, i)] Q ↔ Vi 4 h [some (.inr (4, i))] (fun z h2 => VV 40 h2 23 [l0, l1, l2] [.inl z] Q) := VV_calli (y := 4) (as := [.inr (4, i)]) (rest := []) rfl rfl rfl (ah_noV (y := 4) (by decide))
theorem xr_40_23 (h : AHp) (Q : Option Int32 → AHp → Prop) (l0 l1 l2 : Option AV) (x : Int32) (st : List AV) : VV 40 h 23 [l0, l1, l2] (.inl x :: st) Q ↔ (x = 0 → VV 40 h 38 [l0, l1, l2] st Q) ∧ (¬ (x = 0) → VV 40 h 26 [l0, l1, l2] st Q) := VV_br rfl rfl rfl decide_eq_true_iff
theorem xr_40_26 (h : AHp) (Q : Option Int32 → AHp → Prop) (l1 l2 : Option AV) (x : Nat × Nat) (st : List AV) : VV 40 h 26 [some (.inr x), l1, l2] st Q ↔ VV 40 h 27 [some (.inr x), l1, l2] (.inr x :: st) Q := VV_step rfl rfl rfl rfl
theorem xr_40_27 (h : AHp) (Q : Option Int32 → AHp → Prop) (l0 l1 l2 : Option AV) (i : Nat) (st : List AV) : VV 40 h 27 [l0, l1, l2] (.inr (0, i) :: st) Q ↔ VV 40 h 30 [l0, l1, l2] (.inl (h 0 i 5) :: st) Q := VV_step rfl rfl rfl rfl
theorem xr_40_30 (h : AHp) (Q : Option Int32 → AHp → Prop) (l0 l2 : Option AV) (x : Nat × Nat) (st : List AV) : VV 40 h 30 [l0, some (.inr x), l2] st Q ↔ VV 40 h 31 [l0, some (.inr x), l2] (.inr x :: st) Q := VV_step rfl rfl rfl rfl
theorem xr_40_31 (h : AHp) (Q : Option Int32 → AHp → Prop) (l0 l1 l2 : Option AV) (i : Nat) (st : List AV) : VV 40 h 31 [l0, l1, l2] (.inr (4, i) :: st) Q ↔ VV 40 h 34 [l0, l1, l2] (.inl (h 4 i 5) :: st) Q := VV_step rfl rfl rfl rfl
theorem xr_40_34 (h : AHp) (Q : Option Int32 → AHp → Prop) (l0 l1 : Option AV) (x : Int32) (st : List AV) : VV 40 h 34 [l0, l1, some (.inl x)] st Q ↔ VV 40 h 35 [l0, l1, some (.inl x)] (.inl x :: st) Q := VV_step rfl rfl rfl rfl
theorem xr_40_35 (h : AHp) (Q : Option Int32 → AHp → Prop) (l0 l1 l2 : Option AV) (x y : Int32) (st : List AV) : VV 40 h 35 [l0, l1, l2] (.inl y :: .inl x :: st) Q ↔ VV 40 h 36 [l0, l1, l2] (.inl (x * y) :: st) Q := VV_step rfl rfl rfl rfl
theorem xr_40_36 (h : AHp) (Q : Option Int32 → AHp → Prop) (l0 l1 l2 : Option AV) (x y : Int32) (st : List AV) : VV 40 h 36 [l0, l1, l2] (.inl y :: .inl x :: st) Q ↔ VV 40 h 37 [l0, l1, l2] (.inl (x + y) :: st) Q := VV_step rfl rfl rfl rfl
theorem xr_40_37 (h : AHp) (Q : Option Int32 → AHp → Prop) (l0 l1 l2 : Option AV) (x : Int32) : VV 40 h 37 [l0, l1, l2] [.inl x] Q ↔ Q (some x) h := VV_end rfl rfl
theorem xr_40_38 (h : AHp) (Q : Option Int32 → AHp → Prop) (l0 l2 : Option AV) (x : Nat × Nat) (st : List AV) : VV 40 h 38 [l0, some (.inr x), l2] st Q ↔ VV 40 h 39 [l0, some (.inr x), l2] (.inr x :: st) Q := VV_step rfl rfl rfl rfl
theorem xr_40_39 (h : AHp) (Q : Option Int32 → AHp → Prop) (l0 l1 l2 : Option AV) (i : Nat) : VV 40 h 39 [l0, l1, l2] [.inr (4, i)] Q ↔ Vi 8 h [some (.inr (4, i))] (fun z h2 => VV 40 h2 42 [l0, l1, l2] [.inl z] Q) := VV_calli (y := 8) (as := [.inr (4, i)]) (rest := []) rfl rfl rfl (ah_noV (y := 8) (by decide))
theorem xr_40_42 (h : AHp) (Q : Option Int32 → AHp → Prop) (l0 l2 : Option AV) (x : Nat × Nat) (st : List AV) : VV 40 h 42 [l0, some (.inr x), l2] st Q ↔ VV 40 h 43 [l0, some (.inr x), l2] (.inr x :: st) Q := VV_step rfl rfl rfl rfl
theorem xr_40_43 (h : AHp) (Q : Option Int32 → AHp → Prop) (l0 l1 l2 : Option AV) (i : Nat) (st : List AV) : VV 40 h 43 [l0, l1, l2] (.inr (4, i) :: st) Q ↔ VV 40 h 46 [l0, l1, l2] (.inl (h 4 i 5) :: st) Q := VV_step rfl rfl rfl rfl
theorem xr_40_46 (h : AHp) (Q : Option Int32 → AHp → Prop) (l0 l1 : Option AV) (x : Int32) (st : List AV) : VV 40 h 46 [l0, l1, some (.inl x)] st Q ↔ VV 40 h 47 [l0, l1, some (.inl x)] (.inl x :: st) Q := VV_step rfl rfl rfl rfl
theorem xr_40_47 (h : AHp) (Q : Option Int32 → AHp → Prop) (l0 l1 l2 : Option AV) (st : List AV) : VV 40 h 47 [l0, l1, l2] st Q ↔ VV 40 h 48 [l0, l1, l2] (.inl (1 : Int32) :: st) Q := VV_step rfl rfl rfl rfl
theorem xr_40_48 (h : AHp) (Q : Option Int32 → AHp → Prop) (l0 l1 l2 : Option AV) (x y : Int32) (st : List AV) : VV 40 h 48 [l0, l1, l2] (.inl y :: .inl x :: st) Q ↔ VV 40 h 49 [l0, l1, l2] (.inl (x - y) :: st) Q := VV_step rfl rfl rfl rfl
theorem xr_40_49 (h : AHp) (Q : Option Int32 → AHp → Prop) (l0 l1 l2 : Option AV) (x y : Int32) (st : List AV) : VV 40 h 49 [l0, l1, l2] (.inl y :: .inl x :: st) Q ↔ VV 40 h 50 [l0, l1, l2] (.inl (x * y) :: st) Q := VV_step rfl rfl rfl rfl
theorem xr_40_50 (h : AHp) (Q : Option Int32 → AHp → Prop) (l0 l1 l2 : Option AV) (x y : Int32) (st : List AV) : VV 40 h 50 [l0, l1, l2] (.inl y :: .inl x :: st) Q ↔ VV 40 h 51 [l0, l1, l2] (.inl (x + y) :: st) Q := VV_step rfl rfl rfl rfl
theorem xr_40_51 (h : AHp) (Q : Option Int32 → AHp → Prop) (l0 l1 l2 : Option AV) (x : Int32) : VV 40 h 51 [l0, l1, l2] [.inl x] Q ↔ Q (some x) h := VV_end rfl rfl
theorem xr_41_0 (h : AHp) (Q : Option Int32 → AHp → Prop) (l0 l1 l2 l3 l4 : Option AV) (st : List AV) : VV 41 h 0 [l0, l1, l2, l3, l4] st Q ↔ VV 41 h 1 [l0, l1, l2, l3, l4] (.inl (0 : Int32) :: st) Q := VV_step rfl rfl rfl rfl
theorem xr_41_1 (h : AHp) (Q : Option Int32 → AHp → Prop) (l0 l1 l2 l3 l4 : Option AV) (x : Int32) (st : List AV) : VV 41 h 1 [l0, l1, l2, l3, l4] (.inl x :: st) Q ↔ VV 41 h 2 [l0, l1, some (.inl x), l3, l4] st Q := VV_step rfl rfl rfl rfl
theorem xr_41_2 (h : AHp) (Q : Option Int32 → AHp → Prop) (l0 l1 l2 l3 l4 : Option AV) (st : List AV) : VV 41 h 2 [l0, l1, l2, l3, l4] st Q ↔ VV 41 h 3 [l0, l1, l2, l3, l4] (.inl (0 : Int32) :: st) Q := VV_step rfl rfl rfl rfl
theorem xr_41_3 (h : AHp) (Q : Option Int32 → AHp → Prop) (l0 l1 l2 l3 l4 : Option AV) (x : Int32) (st : List AV) : VV 41 h 3 [l0, l1, l2, l3, l4] (.inl x :: st) Q ↔ VV 41 h 4 [l0, l1, l2, some (.inl x), l4] st Q := VV_step rfl rfl rfl rfl
theorem xr_41_4 (h : AHp) (Q : Option Int32 → AHp → Prop) (l0 l1 l2 l4 : Option AV) (x : Int32) (st : List AV) : VV 41 h 4 [l0, l1, l2, some (.inl x), l4] st Q ↔ VV 41 h 5 [l0, l1, l2, some (.inl x), l4] (.inl x :: st) Q := VV_step rfl rfl rfl rfl
theorem xr_41_5 (h : AHp) (Q : Option Int32 → AHp → Prop) (l1 l2 l3 l4 : Option AV) (x : Nat × Nat) (st : List AV) : VV 41 h 5 [some (.inr x), l1, l2, l3, l4] st Q ↔ VV 41 h 6 [some (.inr x), l1, l2, l3, l4] (.inr x :: st) Q := VV_step rfl rfl rfl rfl
theorem xr_41_6 (h : AHp) (Q : Option Int32 → AHp → Prop) (l0 l1 l2 l3 l4 : Option AV) (i : Nat) (st : List AV) : VV 41 h 6 [l0, l1, l2, l3, l4] (.inr (0, i) :: st) Q ↔ VV 41 h 9 [l0, l1, l2, l3, l4] (.inl (h 0 i 4) :: st) Q := VV_step rfl rfl rfl rfl
theorem xr_41_9 (h : AHp) (Q : Option Int32 → AHp → Prop) (l0 l1 l2 l3 l4 : Option AV) (x y : Int32) (st : List AV) : VV 41 h 9 [l0, l1, l2, l3, l4] (.inl y :: .inl x :: st) Q ↔ (y ≤ x → VV 41 h 68 [l0, l1, l2, l3, l4] st Q) ∧ (¬ (y ≤ x) → VV 41 h 12 [l0, l1, l2, l3, l4] st Q) := VV_br2 rfl rfl rfl decide_eq_true_iff
theorem xr_41_12 (h : AHp) (Q : Option Int32 → AHp → Prop) (l1 l2 l3 l4 : Option AV) (x : Nat × Nat) (st : List AV) : VV 41 h 12 [some (.inr x), l1, l2, l3, l4] st Q ↔ VV 41 h 13 [some (.inr x), l1, l2, l3, l4] (.inr x :: st) Q := VV_step rfl rfl rfl rfl
theorem xr_41_13 (h : AHp) (Q : Option Int32 → AHp → Prop) (l0 l1 l2 l3 l4 : Option AV) (i : Nat) (st : List AV) : VV 41 h 13 [l0, l1, l2, l3, l4] (.inr (0, i) :: st) Q ↔ VV 41 h 16 [l0, l1, l2, l3, l4] (.inr (2, i) :: st) Q := VV_step rfl rfl rfl rfl
theorem xr_41_16 (h : AHp) (Q : Option Int32 → AHp → Prop) (l0 l1 l2 l4 : Option AV) (x : Int32) (st : List AV) : VV 41 h 16 [l0, l1, l2, some (.inl x), l4] st Q ↔ VV 41 h 17 [l0, l1, l2, some (.inl x), l4] (.inl x :: st) Q := VV_step rfl rfl rfl rfl
theorem xr_41_17_1 (h : AHp) (Q : Option Int32 → AHp → Prop) (l0 l1 l2 l3 l4 : Option AV) (x : Int32) (i : Nat) (st : List AV) : VV 41 h 17 [l0, l1, l2, l3, l4] (.inl x :: .inr (1, i) :: st) Q ↔ vp_in x 20 ∧ VV 41 h 18 [l0, l1, l2, l3, l4] (.inr (3, x.toNatClampNeg) :: st) Q := VV_aald rfl rfl
theorem xr_41_17_2 (h : AHp) (Q : Option Int32 → AHp → Prop) (l0 l1 l2 l3 l4 : Option AV) (x : Int32) (i : Nat) (st : List AV) : VV 41 h 17 [l0, l1, l2, l3, l4] (.inl x :: .inr (2, i) :: st) Q ↔ vp_in x 8 ∧ VV 41 h 18 [l0, l1, l2, l3, l4] (.inr (4, x.toNatClampNeg) :: st) Q := VV_aald rfl rfl
theorem xr_41_18 (h : AHp) (Q : Option Int32 → AHp → Prop) (l0 l1 l2 l3 l4 : Option AV) (x : Nat × Nat) (st : List AV) : VV 41 h 18 [l0, l1, l2, l3, l4] (.inr x :: st) Q ↔ VV 41 h 20 [l0, l1, l2, l3, some (.inr x)] st Q := VV_step rfl rfl rfl rfl
theorem xr_41_20 (h : AHp) (Q : Option Int32 → AHp → Prop) (l0 l1 l2 l3 : Option AV) (x : Nat × Nat) (st : List AV) : VV 41 h 20 [l0, l1, l2, l3, some (.inr x)] st Q ↔ VV 41 h 22 [l0, l1, l2, l3, some (.inr x)] (.inr x :: st) Q := VV_step rfl rfl rfl rfl
theorem xr_41_22 (h : AHp) (Q : Option Int32 → AHp → Prop) (l0 l2 l3 l4 : Option AV) (x : Int32) (st : List AV) : VV 41 h 22 [l0, some (.inl x), l2, l3, l4] st Q ↔ VV 41 h 23 [l0, some (.inl x), l2, l3, l4] (.inl x :: st) Q := VV_step rfl rfl rfl rfl
theorem xr_41_23 (h : AHp) (Q : Option Int32 → AHp → Prop) (l0 l1 l2 l3 l4 : Option AV) (a0 : AV) (i : Nat) : VV 41 h 23 [l0, l1, l2, l3, l4] [a0, .inr (4, i)] Q ↔ Vi 7 h [some (.inr (4, i)), some a0] (fun z h2 => VV 41 h2 26 [l0, l1, l2, l3, l4] [.inl z] Q) := VV_calli (y := 7) (as := [.inr (4, i), a0]) (rest := []) rfl rfl rfl (ah_noV (y := 7) (by decide))
theorem xr_41_26 (h : AHp) (Q : Option Int32 → AHp → Prop) (l0 l1 l2 l3 l4 : Option AV) (x : Int32) (st : List AV) : VV 41 h 26 [l0, l1, l2, l3, l4] (.inl x :: st) Q ↔ (x = 0 → VV 41 h 45 [l0, l1, l2, l3, l4] st Q) ∧ (¬ (x = 0) → VV 41 h 29 [l0, l1, l2, l3, l4] st Q) := VV_br rfl rfl rfl decide_eq_true_iff
theorem xr_41_29 (h : AHp) (Q : Option Int32 → AHp → Prop) (l0 l1 l3 l4 : Option AV) (x : Int32) (st : List AV) : VV 41 h 29 [l0, l1, some (.inl x), l3, l4] st Q ↔ VV 41 h 30 [l0, l1, some (.inl x), l3, l4] (.inl x :: st) Q := VV_step rfl rfl rfl rfl
theorem xr_41_30 (h : AHp) (Q : Option Int32 → AHp → Prop) (l0 l1 l2 l3 : Option AV) (x : Nat × Nat) (st : List AV) : VV 41 h 30 [l0, l1, l2, l3, some (.inr x)] st Q ↔ VV 41 h 32 [l0, l1, l2, l3, some (.inr x)] (.inr x :: st) Q := VV_step rfl rfl rfl rfl
theorem xr_41_32 (h : AHp) (Q : Option Int32 → AHp → Prop) (l0 l1 l2 l3 l4 : Option AV) (r0 : AV) (i : Nat) : VV 41 h 32 [l0, l1, l2, l3, l4] [.inr (4, i), r0] Q ↔ Vi 8 h [some (.inr (4, i))] (fun z h2 => VV 41 h2 35 [l0, l1, l2, l3, l4] [.inl z, r0] Q) := VV_calli (y := 8) (as := [.inr (4, i)]) (rest := [r0]) rfl rfl rfl (ah_noV (y := 8) (by decide))
theorem xr_41_35 (h : AHp) (Q : Option Int32 → AHp → Prop) (l1 l2 l3 l4 : Option AV) (x : Nat × Nat) (st : List AV) : VV 41 h 35 [some (.inr x), l1, l2, l3, l4] st Q ↔ VV 41 h 36 [some (.inr x), l1, l2, l3, l4] (.inr x :: st) Q := VV_step rfl rfl rfl rfl
theorem xr_41_36 (h : AHp) (Q : Option Int32 → AHp → Prop) (l0 l1 l2 l3 l4 : Option AV) (i : Nat) (st : List AV) : VV 41 h 36 [l0, l1, l2, l3, l4] (.inr (0, i) :: st) Q ↔ VV 41 h 39 [l0, l1, l2, l3, l4] (.inl (h 0 i 5) :: st) Q := VV_step rfl rfl rfl rfl
theorem xr_41_39 (h : AHp) (Q : Option Int32 → AHp → Prop) (l0 l1 l2 l3 l4 : Option AV) (x y : Int32) (st : List AV) : VV 41 h 39 [l0, l1, l2, l3, l4] (.inl y :: .inl x :: st) Q ↔ VV 41 h 40 [l0, l1, l2, l3, l4] (.inl (x - y) :: st) Q := VV_step rfl rfl rfl rfl
theorem xr_41_40 (h : AHp) (Q : Option Int32 → AHp → Prop) (l0 l1 l2 l3 l4 : Option AV) (x y : Int32) (st : List AV) : VV 41 h 40 [l0, l1, l2, l3, l4] (.inl y :: .inl x :: st) Q ↔ VV 41 h 41 [l0, l1, l2, l3, l4] (.inl (x + y) :: st) Q := VV_step rfl rfl rfl rfl
theorem xr_41_41 (h : AHp) (Q : Option Int32 → AHp → Prop) (l0 l1 l2 l3 l4 : Option AV) (x : Int32) (st : List AV) : VV 41 h 41 [l0, l1, l2, l3, l4] (.inl x :: st) Q ↔ VV 41 h 42 [l0, l1, some (.inl x), l3, l4] st Q := VV_step rfl rfl rfl rfl
theorem xr_41_42 (h : AHp) (Q : Option Int32 → AHp → Prop) (l0 l1 l2 l3 l4 : Option AV) (st : List AV) : VV 41 h 42 [l0, l1, l2, l3, l4] st Q ↔ VV 41 h 62 [l0, l1, l2, l3, l4] st Q := VV_step rfl rfl rfl rfl
theorem xr_41_45 (h : AHp) (Q : Option Int32 → AHp → Prop) (l0 l1 l2 l3 : Option AV) (x : Nat × Nat) (st : List AV) : VV 41 h 45 [l0, l1, l2, l3, some (.inr x)] st Q ↔ VV 41 h 47 [l0, l1, l2, l3, some (.inr x)] (.inr x :: st) Q := VV_step rfl rfl rfl rfl
theorem xr_41_47 (h : AHp) (Q : Option Int32 → AHp → Prop) (l0 l2 l3 l4 : Option AV) (x : Int32) (st : List AV) : VV 41 h 47 [l0, some (.inl x), l2, l3, l4] st Q ↔ VV 41 h 48 [l0, some (.inl x), l2, l3, l4] (.inl x :: st) Q := VV_step rfl rfl rfl rfl
theorem xr_41_48 (h : AHp) (Q : Option Int32 → AHp → Prop) (l0 l1 l2 l3 l4 : Option AV) (a0 : AV) (i : Nat) : VV 41 h 48 [l0, l1, l2, l3, l4] [a0, .inr (4, i)] Q ↔ Vi 5 h [some (.inr (4, i)), some a0] (fun z h2 => VV 41 h2 51 [l0, l1, l2, l3, l4] [.inl z] Q) := VV_calli (y := 5) (as := [.inr (4, i), a0]) (rest := []) rfl rfl rfl (ah_noV (y := 5) (by decide))
theorem xr_41_51 (h : AHp) (Q : Option Int32 → AHp → Prop) (l0 l1 l2 l3 l4 : Option AV) (x : Int32) (st : List AV) : VV 41 h 51 [l0, l1, l2, l3, l4] (.inl x :: st) Q ↔ (¬ x = 0 → VV 41 h 62 [l0, l1, l2, l3, l4] st Q) ∧ (¬ (¬ x = 0) → VV 41 h 54 [l0, l1, l2, l3, l4] st Q) := VV_br rfl rfl rfl decide_eq_true_iff
theorem xr_41_54 (h : AHp) (Q : Option Int32 → AHp → Prop) (l0 l1 l3 l4 : Option AV) (x : Int32) (st : List AV) : VV 41 h 54 [l0, l1, some (.inl x), l3, l4] st Q ↔ VV 41 h 55 [l0, l1, some (.inl x), l3, l4] (.inl x :: st) Q := VV_step rfl rfl rfl rfl
theorem xr_41_55 (h : AHp) (Q : Option Int32 → AHp → Prop) (l0 l1 l2 l3 : Option AV) (x : Nat × Nat) (st : List AV) : VV 41 h 55 [l0, l1, l2, l3, some (.inr x)] st Q ↔ VV 41 h 57 [l0, l1, l2, l3, some (.inr x)] (.inr x :: st) Q := VV_step rfl rfl rfl rfl
theorem xr_41_57 (h : AHp) (Q : Option Int32 → AHp → Prop) (l0 l1 l2 l3 l4 : Option AV) (i : Nat) (st : List AV) : VV 41 h 57 [l0, l1, l2, l3, l4] (.inr (4, i) :: st) Q ↔ VV 41 h 60 [l0, l1, l2, l3, l4] (.inl (h 4 i 5) :: st) Q := VV_step rfl rfl rfl rfl
theorem xr_41_60 (h : AHp) (Q : Option Int32 → AHp → Prop) (l0 l1 l2 l3 l4 : Option AV) (x y : Int32) (st : List AV) : VV 41 h 60 [l0, l1, l2, l3, l4] (.inl y :: .inl x :: st) Q ↔ VV 41 h 61 [l0, l1, l2, l3, l4] (.inl (x + y) :: st) Q := VV_step rfl rfl rfl rfl
theorem xr_41_61 (h : AHp) (Q : Option Int32 → AHp → Prop) (l0 l1 l2 l3 l4 : Option AV) (x : Int32) (st : List AV) : VV 41 h 61 [l0, l1, l2, l3, l4] (.inl x :: st) Q ↔ VV 41 h 62 [l0, l1, some (.inl x), l3, l4] st Q := VV_step rfl rfl rfl rfl
theorem xr_41_62 (h : AHp) (Q : Option Int32 → AHp → Prop) (l0 l1 l2 l4 : Option AV) (x : Int32) (st : List AV) : VV 41 h 62 [l0, l1, l2, some (.inl x), l4] st Q ↔ VV 41 h 65 [l0, l1, l2, some (.inl (x + (1 : Int32))), l4] st Q := VV_step rfl rfl rfl rfl
theorem xr_41_65 (h : AHp) (Q : Option Int32 → AHp → Prop) (l0 l1 l2 l3 l4 : Option AV) (st : List AV) : VV 41 h 65 [l0, l1, l2, l3, l4] st Q ↔ VV 41 h 4 [l0, l1, l2, l3, l4] st Q := VV_step rfl rfl rfl rfl
theorem xr_41_68 (h : AHp) (Q : Option Int32 → AHp → Prop) (l0 l1 l3 l4 : Option AV) (x : Int32) (st : List AV) : VV 41 h 68 [l0, l1, some (.inl x), l3, l4] st Q ↔ VV 41 h 69 [l0, l1, some (.inl x), l3, l4] (.inl x :: st) Q := VV_step rfl rfl rfl rfl
theorem xr_41_69 (h : AHp) (Q : Option Int32 → AHp → Prop) (l0 l1 l2 l3 l4 : Option AV) (x : Int32) : VV 41 h 69 [l0, l1, l2, l3, l4] [.inl x] Q ↔ Q (some x) h := VV_end rfl rfl
theorem xr_42_0 (h : AHp) (Q : Option Int32 → AHp → Prop) (l0 l1 l2 l3 : Option AV) (st : List AV) : VV 42 h 0 [l0, l1, l2, l3] st Q ↔ VV 42 h 1 [l0, l1, l2, l3] (.inl (0 : Int32) :: st) Q := VV_step rfl rfl rfl rfl
theorem xr_42_1 (h : AHp) (Q : Option Int32 → AHp → Prop) (l0 l1 l2 l3 : Option AV) (x : Int32) (st : List AV) : VV 42 h 1 [l0, l1, l2, l3] (.inl x :: st) Q ↔ VV 42 h 2 [l0, l1, some (.inl x), l3] st Q := VV_step rfl rfl rfl rfl
theorem xr_42_2 (h : AHp) (Q : Option Int32 → AHp → Prop) (l0 l1 l2 l3 : Option AV) (st : List AV) : VV 42 h 2 [l0, l1, l2, l3] st Q ↔ VV 42 h 3 [l0, l1, l2, l3] (.inl (0 : Int32) :: st) Q := VV_step rfl rfl rfl rfl
theorem xr_42_3 (h : AHp) (Q : Option Int32 → AHp → Prop) (l0 l1 l2 l3 : Option AV) (x : Int32) (st : List AV) : VV 42 h 3 [l0, l1, l2, l3] (.inl x :: st) Q ↔ VV 42 h 4 [l0, l1, l2, some (.inl x)] st Q := VV_step rfl rfl rfl rfl
theorem xr_42_4 (h : AHp) (Q : Option Int32 → AHp → Prop) (l0 l1 l2 : Option AV) (x : Int32) (st : List AV) : VV 42 h 4 [l0, l1, l2, some (.inl x)] st Q ↔ VV 42 h 5 [l0, l1, l2, some (.inl x)] (.inl x :: st) Q := VV_step rfl rfl rfl rfl
theorem xr_42_5 (h : AHp) (Q : Option Int32 → AHp → Prop) (l1 l2 l3 : Option AV) (x : Nat × Nat) (st : List AV) : VV 42 h 5 [some (.inr x), l1, l2, l3] st Q ↔ VV 42 h 6 [some (.inr x), l1, l2, l3] (.inr x :: st) Q := VV_step rfl rfl rfl rfl
theorem xr_42_6 (h : AHp) (Q : Option Int32 → AHp → Prop) (l0 l1 l2 l3 : Option AV) (i : Nat) (st : List AV) : VV 42 h 6 [l0, l1, l2, l3] (.inr (0, i) :: st) Q ↔ VV 42 h 9 [l0, l1, l2, l3] (.inl (h 0 i 3) :: st) Q := VV_step rfl rfl rfl rfl
theorem xr_42_9 (h : AHp) (Q : Option Int32 → AHp → Prop) (l0 l1 l2 l3 : Option AV) (x y : Int32) (st : List AV) : VV 42 h 9 [l0, l1, l2, l3] (.inl y :: .inl x :: st) Q ↔ (y ≤ x → VV 42 h 34 [l0, l1, l2, l3] st Q) ∧ (¬ (y ≤ x) → VV 42 h 12 [l0, l1, l2, l3] st Q) := VV_br2 rfl rfl rfl decide_eq_true_iff
theorem xr_42_12 (h : AHp) (Q : Option Int32 → AHp → Prop) (l1 l2 l3 : Option AV) (x : Nat × Nat) (st : List AV) : VV 42 h 12 [some (.inr x), l1, l2, l3] st Q ↔ VV 42 h 13 [some (.inr x), l1, l2, l3] (.inr x :: st) Q := VV_step rfl rfl rfl rfl
theorem xr_42_13 (h : AHp) (Q : Option Int32 → AHp → Prop) (l0 l1 l2 l3 : Option AV) (i : Nat) (st : List AV) : VV 42 h 13 [l0, l1, l2, l3] (.inr (0, i) :: st) Q ↔ VV 42 h 16 [l0, l1, l2, l3] (.inr (1, i) :: st) Q := VV_step rfl rfl rfl rfl
theorem xr_42_16 (h : AHp) (Q : Option Int32 → AHp → Prop) (l0 l1 l2 : Option AV) (x : Int32) (st : List AV) : VV 42 h 16 [l0, l1, l2, some (.inl x)] st Q ↔ VV 42 h 17 [l0, l1, l2, some (.inl x)] (.inl x :: st) Q := VV_step rfl rfl rfl rfl
theorem xr_42_17_1 (h : AHp) (Q : Option Int32 → AHp → Prop) (l0 l1 l2 l3 : Option AV) (x : Int32) (i : Nat) (st : List AV) : VV 42 h 17 [l0, l1, l2, l3] (.inl x :: .inr (1, i) :: st) Q ↔ vp_in x 20 ∧ VV 42 h 18 [l0, l1, l2, l3] (.inr (3, x.toNatClampNeg) :: st) Q := VV_aald rfl rfl
theorem xr_42_17_2 (h : AHp) (Q : Option Int32 → AHp → Prop) (l0 l1 l2 l3 : Option AV) (x : Int32) (i : Nat) (st : List AV) : VV 42 h 17 [l0, l1, l2, l3] (.inl x :: .inr (2, i) :: st) Q ↔ vp_in x 8 ∧ VV 42 h 18 [l0, l1, l2, l3] (.inr (4, x.toNatClampNeg) :: st) Q := VV_aald rfl rfl
theorem xr_42_18 (h : AHp) (Q : Option Int32 → AHp → Prop) (l0 l1 l2 l3 : Option AV) (i : Nat) (st : List AV) : VV 42 h 18 [l0, l1, l2, l3] (.inr (3, i) :: st) Q ↔ VV 42 h 21 [l0, l1, l2, l3] (.inl (h 3 i 0) :: st) Q := VV_step rfl rfl rfl rfl
theorem xr_42_21 (h : AHp) (Q : Option Int32 → AHp → Prop) (l0 l2 l3 : Option AV) (x : Int32) (st : List AV) : VV 42 h 21 [l0, some (.inl x), l2, l3] st Q ↔ VV 42 h 22 [l0, some (.inl x), l2, l3] (.inl x :: st) Q := VV_step rfl rfl rfl rfl
theorem xr_42_22 (h : AHp) (Q : Option Int32 → AHp → Prop) (l0 l1 l2 l3 : Option AV) (x y : Int32) (st : List AV) : VV 42 h 22 [l0, l1, l2, l3] (.inl y :: .inl x :: st) Q ↔ (¬ x = y → VV 42 h 28 [l0, l1, l2, l3] st Q) ∧ (¬ (¬ x = y) → VV 42 h 25 [l0, l1, l2, l3] st Q) := VV_br2 rfl rfl rfl decide_eq_true_iff
theorem xr_42_25 (h : AHp) (Q : Option Int32 → AHp → Prop) (l0 l1 l3 : Option AV) (x : Int32) (st : List AV) : VV 42 h 25 [l0, l1, some (.inl x), l3] st Q ↔ VV 42 h 28 [l0, l1, some (.inl (x + (1 : Int32))), l3] st Q := VV_step rfl rfl rfl rfl
theorem xr_42_28 (h : AHp) (Q : Option Int32 → AHp → Prop) (l0 l1 l2 : Option AV) (x : Int32) (st : List AV) : VV 42 h 28 [l0, l1, l2, some (.inl x)] st Q ↔ VV 42 h 31 [l0, l1, l2, some (.inl (x + (1 : Int32)))] st Q := VV_step rfl rfl rfl rfl
theorem xr_42_31 (h : AHp) (Q : Option Int32 → AHp → Prop) (l0 l1 l2 l3 : Option AV) (st : List AV) : VV 42 h 31 [l0, l1, l2, l3] st Q ↔ VV 42 h 4 [l0, l1, l2, l3] st Q := VV_step rfl rfl rfl rfl
theorem xr_42_34 (h : AHp) (Q : Option Int32 → AHp → Prop) (l0 l1 l3 : Option AV) (x : Int32) (st : List AV) : VV 42 h 34 [l0, l1, some (.inl x), l3] st Q ↔ VV 42 h 35 [l0, l1, some (.inl x), l3] (.inl x :: st) Q := VV_step rfl rfl rfl rfl
theorem xr_42_35 (h : AHp) (Q : Option Int32 → AHp → Prop) (l0 l1 l2 l3 : Option AV) (x : Int32) : VV 42 h 35 [l0, l1, l2, l3] [.inl x] Q ↔ Q (some x) h := VV_end rfl rfl
theorem xr_43_0 (h : AHp) (Q : Option Int32 → AHp → Prop) (l1 l2 l3 l4 : Option AV) (x : Nat × Nat) (st : List AV) : VV 43 h 0 [some (.inr x), l1, l2, l3, l4] st Q ↔ VV 43 h 1 [some (.inr x), l1, l2, l3, l4] (.inr x :: st) Q := VV_step rfl rfl rfl rfl
theorem xr_43_1 (h : AHp) (Q : Option Int32 → AHp → Prop) (l0 l1 l2 l3 l4 : Option AV) (i : Nat) : VV 43 h 1 [l0, l1, l2, l3, l4] [.inr (0, i)] Q ↔ Vi 38 h [some (.inr (0, i))] (fun z h2 => VV 43 h2 4 [l0, l1, l2, l3, l4] [.inl z] Q) := VV_calli (y := 38) (as := [.inr (0, i)]) (rest := []) rfl rfl rfl (ah_noV (y := 38) (by decide))
theorem xr_43_4 (h : AHp) (Q : Option Int32 → AHp → Prop) (l0 l1 l2 l3 l4 : Option AV) (x : Int32) (st : List AV) : VV 43 h 4 [l0, l1, l2, l3, l4] (.inl x :: st) Q ↔ (x = 0 → VV 43 h 9 [l0, l1, l2, l3, l4] st Q) ∧ (¬ (x = 0) → VV 43 h 7 [l0, l1, l2, l3, l4] st Q) := VV_br rfl rfl rfl decide_eq_true_iff
theorem xr_43_7 (h : AHp) (Q : Option Int32 → AHp → Prop) (l0 l1 l2 l3 l4 : Option AV) (st : List AV) : VV 43 h 7 [l0, l1, l2, l3, l4] st Q ↔ VV 43 h 8 [l0, l1, l2, l3, l4] (.inl (-1 : Int32) :: st) Q := VV_step rfl rfl rfl rfl
theorem xr_43_8 (h : AHp) (Q : Option Int32 → AHp → Prop) (l0 l1 l2 l3 l4 : Option AV) (x : Int32) : VV 43 h 8 [l0, l1, l2, l3, l4] [.inl x] Q ↔ Q (some x) h := VV_end rfl rfl
theorem xr_43_9 (h : AHp) (Q : Option Int32 → AHp → Prop) (l1 l2 l3 l4 : Option AV) (x : Nat × Nat) (st : List AV) : VV 43 h 9 [some (.inr x), l1, l2, l3, l4] st Q ↔ VV 43 h 10 [some (.inr x), l1, l2, l3, l4] (.inr x :: st) Q := VV_step rfl rfl rfl rfl
theorem xr_43_10 (h : AHp) (Q : Option Int32 → AHp → Prop) (l0 l1 l2 l3 l4 : Option AV) (i : Nat) (st : List AV) : VV 43 h 10 [l0, l1, l2, l3, l4] (.inr (0, i) :: st) Q ↔ VV 43 h 13 [l0, l1, l2, l3, l4] (.inl (h 0 i 5) :: st) Q := VV_step rfl rfl rfl rfl
theorem xr_43_13 (h : AHp) (Q : Option Int32 → AHp → Prop) (l0 l1 l2 l3 l4 : Option AV) (x : Int32) (st : List AV) : VV 43 h 13 [l0, l1, l2, l3, l4] (.inl x :: st) Q ↔ VV 43 h 14 [l0, some (.inl x), l2, l3, l4] st Q := VV_step rfl rfl rfl rfl
theorem xr_43_14 (h : AHp) (Q : Option Int32 → AHp → Prop) (l0 l1 l2 l3 l4 : Option AV) (st : List AV) : VV 43 h 14 [l0, l1, l2, l3, l4] st Q ↔ VV 43 h 15 [l0, l1, l2, l3, l4] (.inl (0 : Int32) :: st) Q := VV_step rfl rfl rfl rfl
theorem xr_43_15 (h : AHp) (Q : Option Int32 → AHp → Prop) (l0 l1 l2 l3 l4 : Option AV) (x : Int32) (st : List AV) : VV 43 h 15 [l0, l1, l2, l3, l4] (.inl x :: st) Q ↔ VV 43 h 16 [l0, l1, some (.inl x), l3, l4] st Q := VV_step rfl rfl rfl rfl
theorem xr_43_16 (h : AHp) (Q : Option Int32 → AHp → Prop) (l0 l1 l3 l4 : Option AV) (x : Int32) (st : List AV) : VV 43 h 16 [l0, l1, some (.inl x), l3, l4] st Q ↔ VV 43 h 17 [l0, l1, some (.inl x), l3, l4] (.inl x :: st) Q := VV_step rfl rfl rfl rfl
theorem xr_43_17 (h : AHp) (Q : Option Int32 → AHp → Prop) (l1 l2 l3 l4 : Option AV) (x : Nat × Nat) (st : List AV) : VV 43 h 17 [some (.inr x), l1, l2, l3, l4] st Q ↔ VV 43 h 18 [some (.inr x), l1, l2, l3, l4] (.inr x :: st) Q := VV_step rfl rfl rfl rfl
theorem xr_43_18 (h : AHp) (Q : Option Int32 → AHp → Prop) (l0 l1 l2 l3 l4 : Option AV) (i : Nat) (st : List AV) : VV 43 h 18 [l0, l1, l2, l3, l4] (.inr (0, i) :: st) Q ↔ VV 43 h 21 [l0, l1, l2, l3, l4] (.inl (h 0 i 4) :: st) Q := VV_step rfl rfl rfl rfl
theorem xr_43_21 (h : AHp) (Q : Option Int32 → AHp → Prop) (l0 l1 l2 l3 l4 : Option AV) (x y : Int32) (st : List AV) : VV 43 h 21 [l0, l1, l2, l3, l4] (.inl y :: .inl x :: st) Q ↔ (y ≤ x → VV 43 h 45 [l0, l1, l2, l3, l4] st Q) ∧ (¬ (y ≤ x) → VV 43 h 24 [l0, l1, l2, l3, l4] st Q) := VV_br2 rfl rfl rfl decide_eq_true_iff
theorem xr_43_24 (h : AHp) (Q : Option Int32 → AHp → Prop) (l0 l2 l3 l4 : Option AV) (x : Int32) (st : List AV) : VV 43 h 24 [l0, some (.inl x), l2, l3, l4] st Q ↔ VV 43 h 25 [l0, some (.inl x), l2, l3, l4] (.inl x :: st) Q := VV_step rfl rfl rfl rfl
theorem xr_43_25 (h : AHp) (Q : Option Int32 → AHp → Prop) (l1 l2 l3 l4 : Option AV) (x : Nat × Nat) (st : List AV) : VV 43 h 25 [some (.inr x), l1, l2, l3, l4] st Q ↔ VV 43 h 26 [some (.inr x), l1, l2, l3, l4] (.inr x :: st) Q := VV_step rfl rfl rfl rfl
theorem xr_43_26 (h : AHp) (Q : Option Int32 → AHp → Prop) (l1 l2 l3 l4 : Option AV) (x : Nat × Nat) (st : List AV) : VV 43 h 26 [some (.inr x), l1, l2, l3, l4] st Q ↔ VV 43 h 27 [some (.inr x), l1, l2, l3, l4] (.inr x :: st) Q := VV_step rfl rfl rfl rfl
theorem xr_43_27 (h : AHp) (Q : Option Int32 → AHp → Prop) (l0 l1 l2 l3 l4 : Option AV) (i : Nat) (st : List AV) : VV 43 h 27 [l0, l1, l2, l3, l4] (.inr (0, i) :: st) Q ↔ VV 43 h 30 [l0, l1, l2, l3, l4] (.inr (2, i) :: st) Q := VV_step rfl rfl rfl rfl
theorem xr_43_30 (h : AHp) (Q : Option Int32 → AHp → Prop) (l0 l1 l3 l4 : Option AV) (x : Int32) (st : List AV) : VV 43 h 30 [l0, l1, some (.inl x), l3, l4] st Q ↔ VV 43 h 31 [l0, l1, some (.inl x), l3, l4] (.inl x :: st) Q := VV_step rfl rfl rfl rfl
theorem xr_43_31_1 (h : AHp) (Q : Option Int32 → AHp → Prop) (l0 l1 l2 l3 l4 : Option AV) (x : Int32) (i : Nat) (st : List AV) : VV 43 h 31 [l0, l1, l2, l3, l4] (.inl x :: .inr (1, i) :: st) Q ↔ vp_in x 20 ∧ VV 43 h 32 [l0, l1, l2, l3, l4] (.inr (3, x.toNatClampNeg) :: st) Q := VV_aald rfl rfl
theorem xr_43_31_2 (h : AHp) (Q : Option Int32 → AHp → Prop) (l0 l1 l2 l3 l4 : Option AV) (x : Int32) (i : Nat) (st : List AV) : VV 43 h 31 [l0, l1, l2, l3, l4] (.inl x :: .inr (2, i) :: st) Q ↔ vp_in x 8 ∧ VV 43 h 32 [l0, l1, l2, l3, l4] (.inr (4, x.toNatClampNeg) :: st) Q := VV_aald rfl rfl
theorem xr_43_32 (h : AHp) (Q : Option Int32 → AHp → Prop) (l0 l1 l2 l3 l4 : Option AV) (a0 r0 : AV) (i : Nat) : VV 43 h 32 [l0, l1, l2, l3, l4] [a0, .inr (0, i), r0] Q ↔ Vi 40 h [some (.inr (0, i)), some a0, none] (fun z h2 => VV 43 h2 35 [l0, l1, l2, l3, l4] [.inl z, r0] Q) := VV_calli (y := 40) (as := [.inr (0, i), a0]) (rest := [r0]) rfl rfl rfl (ah_noV (y := 40) (by decide))
theorem xr_43_35 (h : AHp) (Q : Option Int32 → AHp → Prop) (l0 l1 l2 l3 l4 : Option AV) (a0 a1 : AV) : VV 43 h 35 [l0, l1, l2, l3, l4] [a1, a0] Q ↔ Vi 90 h [some a0, some a1] (fun z h2 => VV 43 h2 38 [l0, l1, l2, l3, l4] [.inl z] Q) := VV_calli (y := 90) (as := [a0, a1]) (rest := []) rfl rfl rfl (ah_noV (y := 90) (by decide))
theorem xr_43_38 (h : AHp) (Q : Option Int32 → AHp → Prop) (l0 l1 l2 l3 l4 : Option AV) (x : Int32) (st : List AV) : VV 43 h 38 [l0, l1, l2, l3, l4] (.inl x :: st) Q ↔ VV 43 h 39 [l0, some (.inl x), l2, l3, l4] st Q := VV_step rfl rfl rfl rfl
theorem xr_43_39 (h : AHp) (Q : Option Int32 → AHp → Prop) (l0 l1 l3 l4 : Option AV) (x : Int32) (st : List AV) : VV 43 h 39 [l0, l1, some (.inl x), l3, l4] st Q ↔ VV 43 h 42 [l0, l1, some (.inl (x + (1 : Int32))), l3, l4] st Q := VV_step rfl rfl rfl rfl
theorem xr_43_42 (h : AHp) (Q : Option Int32 → AHp → Prop) (l0 l1 l2 l3 l4 : Option AV) (st : List AV) : VV 43 h 42 [l0, l1, l2, l3, l4] st Q ↔ VV 43 h 16 [l0, l1, l2, l3, l4] st Q := VV_step rfl rfl rfl rfl
theorem xr_43_45 (h : AHp) (Q : Option Int32 → AHp → Prop) (l0 l1 l2 l3 l4 : Option AV) (st : List AV) : VV 43 h 45 [l0, l1, l2, l3, l4] st Q ↔ VV 43 h 46 [l0, l1, l2, l3, l4] (.inl (0 : Int32) :: st) Q := VV_step rfl rfl rfl rfl
theorem xr_43_46 (h : AHp) (Q : Option Int32 → AHp → Prop) (l0 l1 l2 l3 l4 : Option AV) (x : Int32) (st : List AV) : VV 43 h 46 [l0, l1, l2, l3, l4] (.inl x :: st) Q ↔ VV 43 h 47 [l0, l1, some (.inl x), l3, l4] st Q := VV_step rfl rfl rfl rfl
theorem xr_43_47 (h : AHp) (Q : Option Int32 → AHp → Prop) (l0 l1 l3 l4 : Option AV) (x : Int32) (st : List AV) : VV 43 h 47 [l0, l1, some (.inl x), l3, l4] st Q ↔ VV 43 h 48 [l0, l1, some (.inl x), l3, l4] (.inl x :: st) Q := VV_step rfl rfl rfl rfl
theorem xr_43_48 (h : AHp) (Q : Option Int32 → AHp → Prop) (l1 l2 l3 l4 : Option AV) (x : Nat × Nat) (st : List AV) : VV 43 h 48 [some (.inr x), l1, l2, l3, l4] st Q ↔ VV 43 h 49 [some (.inr x), l1, l2, l3, l4] (.inr x :: st) Q := VV_step rfl rfl rfl rfl
theorem xr_43_49 (h : AHp) (Q : Option Int32 → AHp → Prop) (l0 l1 l2 l3 l4 : Option AV) (i : Nat) (st : List AV) : VV 43 h 49 [l0, l1, l2, l3, l4] (.inr (0, i) :: st) Q ↔ VV 43 h 52 [l0, l1, l2, l3, l4] (.inl (h 0 i 2) :: st) Q := VV_step rfl rfl rfl rfl
theorem xr_43_52 (h : AHp) (Q : Option Int32 → AHp → Prop) (l0 l1 l2 l3 l4 : Option AV) (x y : Int32) (st : List AV) : VV 43 h 52 [l0, l1, l2, l3, l4] (.inl y :: .inl x :: st) Q ↔ (y ≤ x → VV 43 h 107 [l0, l1, l2, l3, l4] st Q) ∧ (¬ (y ≤ x) → VV 43 h 55 [l0, l1, l2, l3, l4] st Q) := VV_br2 rfl rfl rfl decide_eq_true_iff
theorem xr_43_55 (h : AHp) (Q : Option Int32 → AHp → Prop) (l1 l2 l3 l4 : Option AV) (x : Nat × Nat) (st : List AV) : VV 43 h 55 [some (.inr x), l1, l2, l3, l4] st Q ↔ VV 43 h 56 [some (.inr x), l1, l2, l3, l4] (.inr x :: st) Q := VV_step rfl rfl rfl rfl
theorem xr_43_56 (h : AHp) (Q : Option Int32 → AHp → Prop) (l0 l1 l3 l4 : Option AV) (x : Int32) (st : List AV) : VV 43 h 56 [l0, l1, some (.inl x), l3, l4] st Q ↔ VV 43 h 57 [l0, l1, some (.inl x), l3, l4] (.inl x :: st) Q := VV_step rfl rfl rfl rfl
theorem xr_43_57 (h : AHp) (Q : Option Int32 → AHp → Prop) (l0 l1 l2 l3 l4 : Option AV) (a0 : AV) (i : Nat) : VV 43 h 57 [l0, l1, l2, l3, l4] [a0, .inr (0, i)] Q ↔ Vi 41 h [some (.inr (0, i)), some a0, none, none, none] (fun z h2 => VV 43 h2 60 [l0, l1, l2, l3, l4] [.inl z] Q) := VV_calli (y := 41) (as := [.inr (0, i), a0]) (rest := []) rfl rfl rfl (ah_noV (y := 41) (by decide))
theorem xr_43_60 (h : AHp) (Q : Option Int32 → AHp → Prop) (l0 l1 l2 l3 l4 : Option AV) (x : Int32) (st : List AV) : VV 43 h 60 [l0, l1, l2, l3, l4] (.inl x :: st) Q ↔ VV 43 h 61 [l0, l1, l2, some (.inl x), l4] st Q := VV_step rfl rfl rfl rfl
theorem xr_43_61 (h : AHp) (Q : Option Int32 → AHp → Prop) (l1 l2 l3 l4 : Option AV) (x : Nat × Nat) (st : List AV) : VV 43 h 61 [some (.inr x), l1, l2, l3, l4] st Q ↔ VV 43 h 62 [some (.inr x), l1, l2, l3, l4] (.inr x :: st) Q := VV_step rfl rfl rfl rfl
theorem xr_43_62 (h : AHp) (Q : Option Int32 → AHp → Prop) (l0 l1 l3 l4 : Option AV) (x : Int32) (st : List AV) : VV 43 h 62 [l0, l1, some (.inl x), l3, l4] st Q ↔ VV 43 h 63 [l0, l1, some (.inl x), l3, l4] (.inl x :: st) Q := VV_step rfl rfl rfl rfl
theorem xr_43_63 (h : AHp) (Q : Option Int32 → AHp → Prop) (l0 l1 l2 l3 l4 : Option AV) (a0 : AV) (i : Nat) : VV 43 h 63 [l0, l1, l2, l3, l4] [a0, .inr (0, i)] Q ↔ Vi 42 h [some (.inr (0, i)), some a0, none, none] (fun z h2 => VV 43 h2 66 [l0, l1, l2, l3, l4] [.inl z] Q) := VV_calli (y := 42) (as := [.inr (0, i), a0]) (rest := []) rfl rfl rfl (ah_noV (y := 42) (by decide))
theorem xr_43_66 (h : AHp) (Q : Option Int32 → AHp → Prop) (l0 l1 l2 l3 l4 : Option AV) (x : Int32) (st : List AV) : VV 43 h 66 [l0, l1, l2, l3, l4] (.inl x :: st) Q ↔ VV 43 h 68 [l0, l1, l2, l3, some (.inl x)] st Q := VV_step rfl rfl rfl rfl
theorem xr_43_68 (h : AHp) (Q : Option Int32 → AHp → Prop) (l0 l1 l2 l3 : Option AV) (x : Int32) (st : List AV) : VV 43 h 68 [l0, l1, l2, l3, some (.inl x)] st Q ↔ VV 43 h 70 [l0, l1, l2, l3, some (.inl x)] (.inl x :: st) Q := VV_step rfl rfl rfl rfl
theorem xr_43_70 (h : AHp) (Q : Option Int32 → AHp → Prop) (l0 l1 l2 l3 l4 : Option AV) (x : Int32) (st : List AV) : VV 43 h 70 [l0, l1, l2, l3, l4] (.inl x :: st) Q ↔ (x ≤ 0 → VV 43 h 95 [l0, l1, l2, l3, l4] st Q) ∧ (¬ (x ≤ 0) → VV 43 h 73 [l0, l1, l2, l3, l4] st Q) := VV_br rfl rfl rfl decide_eq_true_iff
theorem xr_43_73 (h : AHp) (Q : Option Int32 → AHp → Prop) (l0 l2 l3 l4 : Option AV) (x : Int32) (st : List AV) : VV 43 h 73 [l0, some (.inl x), l2, l3, l4] st Q ↔ VV 43 h 74 [l0, some (.inl x), l2, l3, l4] (.inl x :: st) Q := VV_step rfl rfl rfl rfl
theorem xr_43_74 (h : AHp) (Q : Option Int32 → AHp → Prop) (l1 l2 l3 l4 : Option AV) (x : Nat × Nat) (st : List AV) : VV 43 h 74 [some (.inr x), l1, l2, l3, l4] st Q ↔ VV 43 h 75 [some (.inr x), l1, l2, l3, l4] (.inr x :: st) Q := VV_step rfl rfl rfl rfl
theorem xr_43_75 (h : AHp) (Q : Option Int32 → AHp → Prop) (l0 l1 l2 l3 l4 : Option AV) (i : Nat) (st : List AV) : VV 43 h 75 [l0, l1, l2, l3, l4] (.inr (0, i) :: st) Q ↔ VV 43 h 78 [l0, l1, l2, l3, l4] (.inl (h 0 i 5) :: st) Q := VV_step rfl rfl rfl rfl
theorem xr_43_78 (h : AHp) (Q : Option Int32 → AHp → Prop) (l0 l1 l2 l4 : Option AV) (x : Int32) (st : List AV) : VV 43 h 78 [l0, l1, l2, some (.inl x), l4] st Q ↔ VV 43 h 79 [l0, l1, l2, some (.inl x), l4] (.inl x :: st) Q := VV_step rfl rfl rfl rfl
theorem xr_43_79 (h : AHp) (Q : Option Int32 → AHp → Prop) (l0 l1 l2 l3 : Option AV) (x : Int32) (st : List AV) : VV 43 h 79 [l0, l1, l2, l3, some (.inl x)] st Q ↔ VV 43 h 81 [l0, l1, l2, l3, some (.inl x)] (.inl x :: st) Q := VV_step rfl rfl rfl rfl
theorem xr_43_81 (h : AHp) (Q : Option Int32 → AHp → Prop) (l0 l1 l2 l3 l4 : Option AV) (x y : Int32) (st : List AV) : VV 43 h 81 [l0, l1, l2, l3, l4] (.inl y :: .inl x :: st) Q ↔ VV 43 h 82 [l0, l1, l2, l3, l4] (.inl (x + y) :: st) Q := VV_step rfl rfl rfl rfl
theorem xr_43_82 (h : AHp) (Q : Option Int32 → AHp → Prop) (l0 l1 l2 l3 l4 : Option AV) (st : List AV) : VV 43 h 82 [l0, l1, l2, l3, l4] st Q ↔ VV 43 h 83 [l0, l1, l2, l3, l4] (.inl (1 : Int32) :: st) Q := VV_step rfl rfl rfl rfl
theorem xr_43_83 (h : AHp) (Q : Option Int32 → AHp → Prop) (l0 l1 l2 l3 l4 : Option AV) (x y : Int32) (st : List AV) : VV 43 h 83 [l0, l1, l2, l3, l4] (.inl y :: .inl x :: st) Q ↔ VV 43 h 84 [l0, l1, l2, l3, l4] (.inl (x - y) :: st) Q := VV_step rfl rfl rfl rfl
theorem xr_43_84 (h : AHp) (Q : Option Int32 → AHp → Prop) (l0 l1 l2 l3 : Option AV) (x : Int32) (st : List AV) : VV 43 h 84 [l0, l1, l2, l3, some (.inl x)] st Q ↔ VV 43 h 86 [l0, l1, l2, l3, some (.inl x)] (.inl x :: st) Q := VV_step rfl rfl rfl rfl
theorem xr_43_86 (h : AHp) (Q : Option Int32 → AHp → Prop) (l0 l1 l2 l3 l4 : Option AV) (x y : Int32) (st : List AV) : VV 43 h 86 [l0, l1, l2, l3, l4] (.inl y :: .inl x :: st) Q ↔ ¬ y = 0 ∧ VV 43 h 87 [l0, l1, l2, l3, l4] (.inl (x / y) :: st) Q := VV_idiv rfl
theorem xr_43_87 (h : AHp) (Q : Option Int32 → AHp → Prop) (l0 l1 l2 l3 l4 : Option AV) (x y : Int32) (st : List AV) : VV 43 h 87 [l0, l1, l2, l3, l4] (.inl y :: .inl x :: st) Q ↔ VV 43 h 88 [l0, l1, l2, l3, l4] (.inl (x + y) :: st) Q := VV_step rfl rfl rfl rfl
theorem xr_43_88 (h : AHp) (Q : Option Int32 → AHp → Prop) (l0 l1 l2 l3 l4 : Option AV) (a0 a1 : AV) : VV 43 h 88 [l0, l1, l2, l3, l4] [a1, a0] Q ↔ Vi 90 h [some a0, some a1] (fun z h2 => VV 43 h2 91 [l0, l1, l2, l3, l4] [.inl z] Q) := VV_calli (y := 90) (as := [a0, a1]) (rest := []) rfl rfl rfl (ah_noV (y := 90) (by decide))
theorem xr_43_91 (h : AHp) (Q : Option Int32 → AHp → Prop) (l0 l1 l2 l3 l4 : Option AV) (x : Int32) (st : List AV) : VV 43 h 91 [l0, l1, l2, l3, l4] (.inl x :: st) Q ↔ VV 43 h 92 [l0, some (.inl x), l2, l3, l4] st Q := VV_step rfl rfl rfl rfl
theorem xr_43_92 (h : AHp) (Q : Option Int32 → AHp → Prop) (l0 l1 l2 l3 l4 : Option AV) (st : List AV) : VV 43 h 92 [l0, l1, l2, l3, l4] st Q ↔ VV 43 h 101 [l0, l1, l2, l3, l4] st Q := VV_step rfl rfl rfl rfl
theorem xr_43_95 (h : AHp) (Q : Option Int32 → AHp → Prop) (l0 l1 l2 l4 : Option AV) (x : Int32) (st : List AV) : VV 43 h 95 [l0, l1, l2, some (.inl x), l4] st Q ↔ VV 43 h 96 [l0, l1, l2, some (.inl x), l4] (.inl x :: st) Q := VV_step rfl rfl rfl rfl
theorem xr_43_96 (h : AHp) (Q : Option Int32 → AHp → Prop) (l0 l1 l2 l3 l4 : Option AV) (x : Int32) (st : List AV) : VV 43 h 96 [l0, l1, l2, l3, l4] (.inl x :: st) Q ↔ (x ≤ 0 → VV 43 h 101 [l0, l1, l2, l3, l4] st Q) ∧ (¬ (x ≤ 0) → VV 43 h 99 [l0, l1, l2, l3, l4] st Q) := VV_br rfl rfl rfl decide_eq_true_iff
theorem xr_43_99 (h : AHp) (Q : Option Int32 → AHp → Prop) (l0 l1 l2 l3 l4 : Option AV) (st : List AV) : VV 43 h 99 [l0, l1, l2, l3, l4] st Q ↔ VV 43 h 100 [l0, l1, l2, l3, l4] (.inl (-1 : Int32) :: st) Q := VV_step rfl rfl rfl rfl
theorem xr_43_100 (h : AHp) (Q : Option Int32 → AHp → Prop) (l0 l1 l2 l3 l4 : Option AV) (x : Int32) : VV 43 h 100 [l0, l1, l2, l3, l4] [.inl x] Q ↔ Q (some x) h := VV_end rfl rfl
theorem xr_43_101 (h : AHp) (Q : Option Int32 → AHp → Prop) (l0 l1 l3 l4 : Option AV) (x : Int32) (st : List AV) : VV 43 h 101 [l0, l1, some (.inl x), l3, l4] st Q ↔ VV 43 h 104 [l0, l1, some (.inl (x + (1 : Int32))), l3, l4] st Q := VV_step rfl rfl rfl rfl
theorem xr_43_104 (h : AHp) (Q : Option Int32 → AHp → Prop) (l0 l1 l2 l3 l4 : Option AV) (st : List AV) : VV 43 h 104 [l0, l1, l2, l3, l4] st Q ↔ VV 43 h 47 [l0, l1, l2, l3, l4] st Q := VV_step rfl rfl rfl rfl
theorem xr_43_107 (h : AHp) (Q : Option Int32 → AHp → Prop) (l0 l2 l3 l4 : Option AV) (x : Int32) (st : List AV) : VV 43 h 107 [l0, some (.inl x), l2, l3, l4] st Q ↔ VV 43 h 108 [l0, some (.inl x), l2, l3, l4] (.inl x :: st) Q := VV_step rfl rfl rfl rfl
theorem xr_43_108 (h : AHp) (Q : Option Int32 → AHp → Prop) (l0 l1 l2 l3 l4 : Option AV) (x : Int32) : VV 43 h 108 [l0, l1, l2, l3, l4] [.inl x] Q ↔ Q (some x) h := VV_end rfl rfl
theorem xr_44_0 (h : AHp) (Q : Option Int32 → AHp → Prop) (l1 l2 l3 l4 : Option AV) (x : Nat × Nat) (st : List AV) : VV 44 h 0 [some (.inr x), l1, l2, l3, l4] st Q ↔ VV 44 h 1 [some (.inr x), l1, l2, l3, l4] (.inr x :: st) Q := VV_step rfl rfl rfl rfl
theorem xr_44_1 (h : AHp) (Q : Option Int32 → AHp → Prop) (l0 l2 l3 l4 : Option AV) (x : Int32) (st : List AV) : VV 44 h 1 [l0, some (.inl x), l2, l3, l4] st Q ↔ VV 44 h 2 [l0, some (.inl x), l2, l3, l4] (.inl x :: st) Q := VV_step rfl rfl rfl rfl
theorem xr_44_2 (h : AHp) (Q : Option Int32 → AHp → Prop) (l0 l1 l3 l4 : Option AV) (x : Int32) (st : List AV) : VV 44 h 2 [l0, l1, some (.inl x), l3, l4] st Q ↔ VV 44 h 3 [l0, l1, some (.inl x), l3, l4] (.inl x :: st) Q := VV_step rfl rfl rfl rfl
theorem xr_44_3 (h : AHp) (Q : Option Int32 → AHp → Prop) (l0 l1 l2 l3 l4 : Option AV) (a0 a1 : AV) (i : Nat) : VV 44 h 3 [l0, l1, l2, l3, l4] [a1, a0, .inr (0, i)] Q ↔ Vi 19 h [some (.inr (0, i)), some a0, some a1] (fun z h2 => VV 44 h2 6 [l0, l1, l2, l3, l4] [.inl z] Q) := VV_calli (y := 19) (as := [.inr (0, i), a0, a1]) (rest := []) rfl rfl rfl (ah_noV (y := 19) (by decide))
theorem xr_44_6 (h : AHp) (Q : Option Int32 → AHp → Prop) (l0 l1 l2 l3 l4 : Option AV) (x : Int32) (st : List AV) : VV 44 h 6 [l0, l1, l2, l3, l4] (.inl x :: st) Q ↔ (¬ x = 0 → VV 44 h 11 [l0, l1, l2, l3, l4] st Q) ∧ (¬ (¬ x = 0) → VV 44 h 9 [l0, l1, l2, l3, l4] st Q) := VV_br rfl rfl rfl decide_eq_true_iff
theorem xr_44_9 (h : AHp) (Q : Option Int32 → AHp → Prop) (l0 l1 l2 l3 l4 : Option AV) (st : List AV) : VV 44 h 9 [l0, l1, l2, l3, l4] st Q ↔ VV 44 h 10 [l0, l1, l2, l3, l4] (.inl (-1 : Int32) :: st) Q := VV_step rfl rfl rfl rfl
theorem xr_44_10 (h : AHp) (Q : Option Int32 → AHp → Prop) (l0 l1 l2 l3 l4 : Option AV) (x : Int32) : VV 44 h 10 [l0, l1, l2, l3, l4] [.inl x] Q ↔ Q (some x) h := VV_end rfl rfl
theorem xr_44_11 (h : AHp) (Q : Option Int32 → AHp → Prop) (l1 l2 l3 l4 : Option AV) (x : Nat × Nat) (st : List AV) : VV 44 h 11 [some (.inr x), l1, l2, l3, l4] st Q ↔ VV 44 h 12 [some (.inr x), l1, l2, l3, l4] (.inr x :: st) Q := VV_step rfl rfl rfl rfl
theorem xr_44_12 (h : AHp) (Q : Option Int32 → AHp → Prop) (l0 l1 l2 l3 l4 : Option AV) (i : Nat) (st : List AV) : VV 44 h 12 [l0, l1, l2, l3, l4] (.inr (0, i) :: st) Q ↔ VV 44 h 15 [l0, l1, l2, l3, l4] (.inr (2, i) :: st) Q := VV_step rfl rfl rfl rfl
theorem xr_44_15 (h : AHp) (Q : Option Int32 → AHp → Prop) (l0 l2 l3 l4 : Option AV) (x : Int32) (st : List AV) : VV 44 h 15 [l0, some (.inl x), l2, l3, l4] st Q ↔ VV 44 h 16 [l0, some (.inl x), l2, l3, l4] (.inl x :: st) Q := VV_step rfl rfl rfl rfl
theorem xr_44_16_1 (h : AHp) (Q : Option Int32 → AHp → Prop) (l0 l1 l2 l3 l4 : Option AV) (x : Int32) (i : Nat) (st : List AV) : VV 44 h 16 [l0, l1, l2, l3, l4] (.inl x :: .inr (1, i) :: st) Q ↔ vp_in x 20 ∧ VV 44 h 17 [l0, l1, l2, l3, l4] (.inr (3, x.toNatClampNeg) :: st) Q := VV_aald rfl rfl
theorem xr_44_16_2 (h : AHp) (Q : Option Int32 → AHp → Prop) (l0 l1 l2 l3 l4 : Option AV) (x : Int32) (i : Nat) (st : List AV) : VV 44 h 16 [l0, l1, l2, l3, l4] (.inl x :: .inr (2, i) :: st) Q ↔ vp_in x 8 ∧ VV 44 h 17 [l0, l1, l2, l3, l4] (.inr (4, x.toNatClampNeg) :: st) Q := VV_aald rfl rfl
theorem xr_44_17 (h : AHp) (Q : Option Int32 → AHp → Prop) (l0 l1 l2 l3 l4 : Option AV) (x : Nat × Nat) (st : List AV) : VV 44 h 17 [l0, l1, l2, l3, l4] (.inr x :: st) Q ↔ VV 44 h 19 [l0, l1, l2, l3, some (.inr x)] st Q := VV_step rfl rfl rfl rfl
theorem xr_44_19 (h : AHp) (Q : Option Int32 → AHp → Prop) (l0 l1 l2 l4 : Option AV) (x : Int32) (st : List AV) : VV 44 h 19 [l0, l1, l2, some (.inl x), l4] st Q ↔ VV 44 h 20 [l0, l1, l2, some (.inl x), l4] (.inl x :: st) Q := VV_step rfl rfl rfl rfl
theorem xr_44_20_0 (h : AHp) (Q : Option Int32 → AHp → Prop) (l0 l1 l2 l3 l4 : Option AV) (st : List AV) : VV 44 h 20 [l0, l1, l2, l3, l4] (.inl (0 : Int32) :: st) Q ↔ VV 44 h 52 [l0, l1, l2, l3, l4] st Q := VV_tsw rfl rfl rfl rfl
theorem xr_44_20_1 (h : AHp) (Q : Option Int32 → AHp → Prop) (l0 l1 l2 l3 l4 : Option AV) (st : List AV) : VV 44 h 20 [l0, l1, l2, l3, l4] (.inl (1 : Int32) :: st) Q ↔ VV 44 h 60 [l0, l1, l2, l3, l4] st Q := VV_tsw rfl rfl rfl rfl
theorem xr_44_20_2 (h : AHp) (Q : Option Int32 → AHp → Prop) (l0 l1 l2 l3 l4 : Option AV) (st : List AV) : VV 44 h 20 [l0, l1, l2, l3, l4] (.inl (2 : Int32) :: st) Q ↔ VV 44 h 68 [l0, l1, l2, l3, l4] st Q := VV_tsw rfl rfl rfl rfl
theorem xr_44_20_3 (h : AHp) (Q : Option Int32 → AHp → Prop) (l0 l1 l2 l3 l4 : Option AV) (st : List AV) : VV 44 h 20 [l0, l1, l2, l3, l4] (.inl (3 : Int32) :: st) Q ↔ VV 44 h 76 [l0, l1, l2, l3, l4] st Q := VV_tsw rfl rfl rfl rfl
theorem xr_44_20_d (h : AHp) (Q : Option Int32 → AHp → Prop) (l0 l1 l2 l3 l4 : Option AV) (st : List AV) (x : Int32) (hx : x.toInt < 0 ∨ 3 < x.toInt) : VV 44 h 20 [l0, l1, l2, l3, l4] (.inl x :: st) Q ↔ VV 44 h 84 [l0, l1, l2, l3, l4] st Q := VV_tsw rfl (if_pos hx) rfl rfl
theorem xr_44_52 (h : AHp) (Q : Option Int32 → AHp → Prop) (l0 l1 l2 l3 : Option AV) (x : Nat × Nat) (st : List AV) : VV 44 h 52 [l0, l1, l2, l3, some (.inr x)] st Q ↔ VV 44 h 54 [l0, l1, l2, l3, some (.inr x)] (.inr x :: st) Q := VV_step rfl rfl rfl rfl
theorem xr_44_54 (h : AHp) (Q : Option Int32 → AHp → Prop) (l0 l1 l2 l3 l4 : Option AV) (i : Nat) (st : List AV) : VV 44 h 54 [l0, l1, l2, l3, l4] (.inr (4, i) :: st) Q ↔ VV 44 h 57 [l0, l1, l2, l3, l4] (.inr (6, i) :: st) Q := VV_step rfl rfl rfl rfl
theorem xr_44_57 (h : AHp) (Q : Option Int32 → AHp → Prop) (l0 l1 l3 l4 : Option AV) (x : Int32) (st : List AV) : VV 44 h 57 [l0, l1, some (.inl x), l3, l4] st Q ↔ VV 44 h 58 [l0, l1, some (.inl x), l3, l4] (.inl x :: st) Q := VV_step rfl rfl rfl rfl
theorem xr_44_58 (h : AHp) (Q : Option Int32 → AHp → Prop) (l0 l1 l2 l3 l4 : Option AV) (x : Int32) (k i : Nat) (st : List AV) : VV 44 h 58 [l0, l1, l2, l3, l4] (.inl x :: .inr (k, i) :: st) Q ↔ ix_i k x ∧ VV 44 h 59 [l0, l1, l2, l3, l4] (.inl (h k i x.toNatClampNeg) :: st) Q := VV_iald rfl
theorem xr_44_59 (h : AHp) (Q : Option Int32 → AHp → Prop) (l0 l1 l2 l3 l4 : Option AV) (x : Int32) : VV 44 h 59 [l0, l1, l2, l3, l4] [.inl x] Q ↔ Q (some x) h := VV_end rfl rfl
theorem xr_44_60 (h : AHp) (Q : Option Int32 → AHp → Prop) (l0 l1 l2 l3 : Option AV) (x : Nat × Nat) (st : List AV) : VV 44 h 60 [l0, l1, l2, l3, some (.inr x)] st Q ↔ VV 44 h 62 [l0, l1, l2, l3, some (.inr x)] (.inr x :: st) Q := VV_step rfl rfl rfl rfl
theorem xr_44_62 (h : AHp) (Q : Option Int32 → AHp → Prop) (l0 l1 l2 l3 l4 : Option AV) (i : Nat) (st : List AV) : VV 44 h 62 [l0, l1, l2, l3, l4] (.inr (4, i) :: st) Q ↔ VV 44 h 65 [l0, l1, l2, l3, l4] (.inr (7, i) :: st) Q := VV_step rfl rfl rfl rfl
theorem xr_44_65 (h : AHp) (Q : Option Int32 → AHp → Prop) (l0 l1 l3 l4 : Option AV) (x : Int32) (st : List AV) : VV 44 h 65 [l0, l1, some (.inl x), l3, l4] st Q ↔ VV 44 h 66 [l0, l1, some (.inl x), l3, l4] (.inl x :: st) Q := VV_step rfl rfl rfl rfl
theorem xr_44_66 (h : AHp) (Q : Option Int32 → AHp → Prop) (l0 l1 l2 l3 l4 : Option AV) (x : Int32) (k i : Nat) (st : List AV) : VV 44 h 66 [l0, l1, l2, l3, l4] (.inl x :: .inr (k, i) :: st) Q ↔ ix_i k x ∧ VV 44 h 67 [l0, l1, l2, l3, l4] (.inl (h k i x.toNatClampNeg) :: st) Q := VV_iald rfl
theorem xr_44_67 (h : AHp) (Q : Option Int32 → AHp → Prop) (l0 l1 l2 l3 l4 : Option AV) (x : Int32) : VV 44 h 67 [l0, l1, l2, l3, l4] [.inl x] Q ↔ Q (some x) h := VV_end rfl rfl
theorem xr_44_68 (h : AHp) (Q : Option Int32 → AHp → Prop) (l0 l1 l2 l3 : Option AV) (x : Nat × Nat) (st : List AV) : VV 44 h 68 [l0, l1, l2, l3, some (.inr x)] st Q ↔ VV 44 h 70 [l0, l1, l2, l3, some (.inr x)] (.inr x :: st) Q := VV_step rfl rfl rfl rfl
theorem xr_44_70 (h : AHp) (Q : Option Int32 → AHp → Prop) (l0 l1 l2 l3 l4 : Option AV) (i : Nat) (st : List AV) : VV 44 h 70 [l0, l1, l2, l3, l4] (.inr (4, i) :: st) Q ↔ VV 44 h 73 [l0, l1, l2, l3, l4] (.inr (8, i) :: st) Q := VV_step rfl rfl rfl rfl
theorem xr_44_73 (h : AHp) (Q : Option Int32 → AHp → Prop) (l0 l1 l3 l4 : Option AV) (x : Int32) (st : List AV) : VV 44 h 73 [l0, l1, some (.inl x), l3, l4] st Q ↔ VV 44 h 74 [l0, l1, some (.inl x), l3, l4] (.inl x :: st) Q := VV_step rfl rfl rfl rfl
theorem xr_44_74 (h : AHp) (Q : Option Int32 → AHp → Prop) (l0 l1 l2 l3 l4 : Option AV) (x : Int32) (k i : Nat) (st : List AV) : VV 44 h 74 [l0, l1, l2, l3, l4] (.inl x :: .inr (k, i) :: st) Q ↔ ix_i k x ∧ VV 44 h 75 [l0, l1, l2, l3, l4] (.inl (h k i x.toNatClampNeg) :: st) Q := VV_iald rfl
theorem xr_44_75 (h : AHp) (Q : Option Int32 → AHp → Prop) (l0 l1 l2 l3 l4 : Option AV) (x : Int32) : VV 44 h 75 [l0, l1, l2, l3, l4] [.inl x] Q ↔ Q (some x) h := VV_end rfl rfl
theorem xr_44_76 (h : AHp) (Q : Option Int32 → AHp → Prop) (l0 l1 l2 l3 : Option AV) (x : Nat × Nat) (st : List AV) : VV 44 h 76 [l0, l1, l2, l3, some (.inr x)] st Q ↔ VV 44 h 78 [l0, l1, l2, l3, some (.inr x)] (.inr x :: st) Q := VV_step rfl rfl rfl rfl
theorem xr_44_78 (h : AHp) (Q : Option Int32 → AHp → Prop) (l0 l1 l2 l3 l4 : Option AV) (i : Nat) (st : List AV) : VV 44 h 78 [l0, l1, l2, l3, l4] (.inr (4, i) :: st) Q ↔ VV 44 h 81 [l0, l1, l2, l3, l4] (.inr (9, i) :: st) Q := VV_step rfl rfl rfl rfl
theorem xr_44_81 (h : AHp) (Q : Option Int32 → AHp → Prop) (l0 l1 l3 l4 : Option AV) (x : Int32) (st : List AV) : VV 44 h 81 [l0, l1, some (.inl x), l3, l4] st Q ↔ VV 44 h 82 [l0, l1, some (.inl x), l3, l4] (.inl x :: st) Q := VV_step rfl rfl rfl rfl
theorem xr_44_82 (h : AHp) (Q : Option Int32 → AHp → Prop) (l0 l1 l2 l3 l4 : Option AV) (x : Int32) (k i : Nat) (st : List AV) : VV 44 h 82 [l0, l1, l2, l3, l4] (.inl x :: .inr (k, i) :: st) Q ↔ ix_i k x ∧ VV 44 h 83 [l0, l1, l2, l3, l4] (.inl (h k i x.toNatClampNeg) :: st) Q := VV_iald rfl
theorem xr_44_83 (h : AHp) (Q : Option Int32 → AHp → Prop) (l0 l1 l2 l3 l4 : Option AV) (x : Int32) : VV 44 h 83 [l0, l1, l2, l3, l4] [.inl x] Q ↔ Q (some x) h := VV_end rfl rfl
theorem xr_44_84 (h : AHp) (Q : Option Int32 → AHp → Prop) (l0 l1 l2 l3 l4 : Option AV) (st : List AV) : VV 44 h 84 [l0, l1, l2, l3, l4] st Q ↔ VV 44 h 85 [l0, l1, l2, l3, l4] (.inl (-1 : Int32) :: st) Q := VV_step rfl rfl rfl rfl
theorem xr_44_85 (h : AHp) (Q : Option Int32 → AHp → Prop) (l0 l1 l2 l3 l4 : Option AV) (x : Int32) : VV 44 h 85 [l0, l1, l2, l3, l4] [.inl x] Q ↔ Q (some x) h := VV_end rfl rfl
theorem xr_46_0 (h : AHp) (Q : Option Int32 → AHp → Prop) (l1 l2 l3 l4 l5 l6 l7 : Option AV) (x : Nat × Nat) (st : List AV) : VV 46 h 0 [some (.inr x), l1, l2, l3, l4, l5, l6, l7] st Q ↔ VV 46 h 1 [some (.inr x), l1, l2, l3, l4, l5, l6, l7] (.inr x :: st) Q := VV_step rfl rfl rfl rfl
theorem xr_46_1 (h : AHp) (Q : Option Int32 → AHp → Prop) (l0 l1 l2 l3 l4 l5 l6 l7 : Option AV) (i : Nat) (st : List AV) : VV 46 h 1 [l0, l1, l2, l3, l4, l5, l6, l7] (.inr (0, i) :: st) Q ↔ VV 46 h 4 [l0, l1, l2, l3, l4, l5, l6, l7] (.inr (2, i) :: st) Q := VV_step rfl rfl rfl rfl
theorem xr_46_4 (h : AHp) (Q : Option Int32 → AHp → Prop) (l0 l2 l3 l4 l5 l6 l7 : Option AV) (x : Int32) (st : List AV) : VV 46 h 4 [l0, some (.inl x), l2, l3, l4, l5, l6, l7] st Q ↔ VV 46 h 5 [l0, some (.inl x), l2, l3, l4, l5, l6, l7] (.inl x :: st) Q := VV_step rfl rfl rfl rfl
theorem xr_46_5_1 (h : AHp) (Q : Option Int32 → AHp → Prop) (l0 l1 l2 l3 l4 l5 l6 l7 : Option AV) (x : Int32) (i : Nat) (st : List AV) : VV 46 h 5 [l0, l1, l2, l3, l4, l5, l6, l7] (.inl x :: .inr (1, i) :: st) Q ↔ vp_in x 20 ∧ VV 46 h 6 [l0, l1, l2, l3, l4, l5, l6, l7] (.inr (3, x.toNatClampNeg) :: st) Q := VV_aald rfl rfl
theorem xr_46_5_2 (h : AHp) (Q : Option Int32 → AHp → Prop) (l0 l1 l2 l3 l4 l5 l6 l7 : Option AV) (x : Int32) (i : Nat) (st : List AV) : VV 46 h 5 [l0, l1, l2, l3, l4, l5, l6, l7] (.inl x :: .inr (2, i) :: st) Q ↔ vp_in x 8 ∧ VV 46 h 6 [l0, l1, l2, l3, l4, l5, l6, l7] (.inr (4, x.toNatClampNeg) :: st) Q := VV_aald rfl rfl
theorem xr_46_6 (h : AHp) (Q : Option Int32 → AHp → Prop) (l0 l1 l2 l3 l4 l5 l6 l7 : Option AV) (x : Nat × Nat) (st : List AV) : VV 46 h 6 [l0, l1, l2, l3, l4, l5, l6, l7] (.inr x :: st) Q ↔ VV 46 h 7 [l0, l1, l2, some (.inr x), l4, l5, l6, l7] st Q := VV_step rfl rfl rfl rfl
theorem xr_46_7 (h : AHp) (Q : Option Int32 → AHp → Prop) (l0 l1 l2 l3 l4 l5 l6 l7 : Option AV) (st : List AV) : VV 46 h 7 [l0, l1, l2, l3, l4, l5, l6, l7] st Q ↔ VV 46 h 8 [l0, l1, l2, l3, l4, l5, l6, l7] (.inl (-1 : Int32) :: st) Q := VV_step rfl rfl rfl rfl
theorem xr_46_8 (h : AHp) (Q : Option Int32 → AHp → Prop) (l0 l1 l2 l3 l4 l5 l6 l7 : Option AV) (x : Int32) (st : List AV) : VV 46 h 8 [l0, l1, l2, l3, l4, l5, l6, l7] (.inl x :: st) Q ↔ VV 46 h 10 [l0, l1, l2, l3, some (.inl x), l5, l6, l7] st Q := VV_step rfl rfl rfl rfl
theorem xr_46_10 (h : AHp) (Q : Option Int32 → AHp → Prop) (l0 l1 l2 l3 l4 l5 l6 l7 : Option AV) (st : List AV) : VV 46 h 10 [l0, l1, l2, l3, l4, l5, l6, l7] st Q ↔ VV 46 h 12 [l0, l1, l2, l3, l4, l5, l6, l7] (.inl (17 : Int32) :: st) Q := VV_step rfl rfl rfl rfl
theorem xr_46_12 (h : AHp) (Q : Option Int32 → AHp → Prop) (l0 l1 l2 l3 l4 l5 l6 l7 : Option AV) (x : Int32) (st : List AV) : VV 46 h 12 [l0, l1, l2, l3, l4, l5, l6, l7] (.inl x :: st) Q ↔ VV 46 h 14 [l0, l1, l2, l3, l4, some (.inl x), l6, l7] st Q := VV_step rfl rfl rfl rfl
theorem xr_46_14 (h : AHp) (Q : Option Int32 → AHp → Prop) (l0 l1 l2 l3 l4 l5 l6 l7 : Option AV) (st : List AV) : VV 46 h 14 [l0, l1, l2, l3, l4, l5, l6, l7] st Q ↔ VV 46 h 15 [l0, l1, l2, l3, l4, l5, l6, l7] (.inl (0 : Int32) :: st) Q := VV_step rfl rfl rfl rfl
theorem xr_46_15 (h : AHp) (Q : Option Int32 → AHp → Prop) (l0 l1 l2 l3 l4 l5 l6 l7 : Option AV) (x : Int32) (st : List AV) : VV 46 h 15 [l0, l1, l2, l3, l4, l5, l6, l7] (.inl x :: st) Q ↔ VV 46 h 17 [l0, l1, l2, l3, l4, l5, some (.inl x), l7] st Q := VV_step rfl rfl rfl rfl
theorem xr_46_17 (h : AHp) (Q : Option Int32 → AHp → Prop) (l0 l1 l2 l3 l4 l5 l7 : Option AV) (x : Int32) (st : List AV) : VV 46 h 17 [l0, l1, l2, l3, l4, l5, some (.inl x), l7] st Q ↔ VV 46 h 19 [l0, l1, l2, l3, l4, l5, some (.inl x), l7] (.inl x :: st) Q := VV_step rfl rfl rfl rfl
theorem xr_46_19 (h : AHp) (Q : Option Int32 → AHp → Prop) (l1 l2 l3 l4 l5 l6 l7 : Option AV) (x : Nat × Nat) (st : List AV) : VV 46 h 19 [some (.inr x), l1, l2, l3, l4, l5, l6, l7] st Q ↔ VV 46 h 20 [some (.inr x), l1, l2, l3, l4, l5, l6, l7] (.inr x :: st) Q := VV_step rfl rfl rfl rfl
theorem xr_46_20 (h : AHp) (Q : Option Int32 → AHp → Prop) (l0 l1 l2 l3 l4 l5 l6 l7 : Option AV) (i : Nat) (st : List AV) : VV 46 h 20 [l0, l1, l2, l3, l4, l5, l6, l7] (.inr (0, i) :: st) Q ↔ VV 46 h 23 [l0, l1, l2, l3, l4, l5, l6, l7] (.inl (h 0 i 3) :: st) Q := VV_step rfl rfl rfl rfl
theorem xr_46_23 (h : AHp) (Q : Option Int32 → AHp → Prop) (l0 l1 l2 l3 l4 l5 l6 l7 : Option AV) (x y : Int32) (st : List AV) : VV 46 h 23 [l0, l1, l2, l3, l4, l5, l6, l7] (.inl y :: .inl x :: st) Q ↔ (y ≤ x → VV 46 h 83 [l0, l1, l2, l3, l4, l5, l6, l7] st Q) ∧ (¬ (y ≤ x) → VV 46 h 26 [l0, l1, l2, l3, l4, l5, l6, l7] st Q) := VV_br2 rfl rfl rfl decide_eq_true_iff
theorem xr_46_26 (h : AHp) (Q : Option Int32 → AHp → Prop) (l0 l1 l2 l4 l5 l6 l7 : Option AV) (x : Nat × Nat) (st : List AV) : VV 46 h 26 [l0, l1, l2, some (.inr x), l4, l5, l6, l7] st Q ↔ VV 46 h 27 [l0, l1, l2, some (.inr x), l4, l5, l6, l7] (.inr x :: st) Q := VV_step rfl rfl rfl rfl
theorem xr_46_27 (h : AHp) (Q : Option Int32 → AHp → Prop) (l0 l1 l2 l3 l4 l5 l6 l7 : Option AV) (i : Nat) (st : List AV) : VV 46 h 27 [l0, l1, l2, l3, l4, l5, l6, l7] (.inr (4, i) :: st) Q ↔ VV 46 h 30 [l0, l1, l2, l3, l4, l5, l6, l7] (.inr (6, i) :: st) Q := VV_step rfl rfl rfl rfl
theorem xr_46_30 (h : AHp) (Q : Option Int32 → AHp → Prop) (l0 l1 l3 l4 l5 l6 l7 : Option AV) (x : Int32) (st : List AV) : VV 46 h 30 [l0, l1, some (.inl x), l3, l4, l5, l6, l7] st Q ↔ VV 46 h 31 [l0, l1, some (.inl x), l3, l4, l5, l6, l7] (.inl x :: st) Q := VV_step rfl rfl rfl rfl
theorem xr_46_31 (h : AHp) (Q : Option Int32 → AHp → Prop) (l0 l1 l2 l3 l4 l5 l6 l7 : Option AV) (x : Int32) (k i : Nat) (st : List AV) : VV 46 h 31 [l0, l1, l2, l3, l4, l5, l6, l7] (.inl x :: .inr (k, i) :: st) Q ↔ ix_i k x ∧ VV 46 h 32 [l0, l1, l2, l3, l4, l5, l6, l7] (.inl (h k i x.toNatClampNeg) :: st) Q := VV_iald rfl
theorem xr_46_32 (h : AHp) (Q : Option Int32 → AHp → Prop) (l1 l2 l3 l4 l5 l6 l7 : Option AV) (x : Nat × Nat) (st : List AV) : VV 46 h 32 [some (.inr x), l1, l2, l3, l4, l5, l6, l7] st Q ↔ VV 46 h 33 [some (.inr x), l1, l2, l3, l4, l5, l6, l7] (.inr x :: st) Q := VV_step rfl rfl rfl rfl
theorem xr_46_33 (h : AHp) (Q : Option Int32 → AHp → Prop) (l0 l1 l2 l3 l4 l5 l6 l7 : Option AV) (i : Nat) (st : List AV) : VV 46 h 33 [l0, l1, l2, l3, l4, l5, l6, l7] (.inr (0, i) :: st) Q ↔ VV 46 h 36 [l0, l1, l2, l3, l4, l5, l6, l7] (.inr (1, i) :: st) Q := VV_step rfl rfl rfl rfl
theorem xr_46_36 (h : AHp) (Q : Option Int32 → AHp → Prop) (l0 l1 l2 l3 l4 l5 l7 : Option AV) (x : Int32) (st : List AV) : VV 46 h 36 [l0, l1, l2, l3, l4, l5, some (.inl x), l7] st Q ↔ VV 46 h 38 [l0, l1, l2, l3, l4, l5, some (.inl x), l7] (.inl x :: st) Q := VV_step rfl rfl rfl rfl
theorem xr_46_38_1 (h : AHp) (Q : Option Int32 → AHp → Prop) (l0 l1 l2 l3 l4 l5 l6 l7 : Option AV) (x : Int32) (i : Nat) (st : List AV) : VV 46 h 38 [l0, l1, l2, l3, l4, l5, l6, l7] (.inl x :: .inr (1, i) :: st) Q ↔ vp_in x 20 ∧ VV 46 h 39 [l0, l1, l2, l3, l4, l5, l6, l7] (.inr (3, x.toNatClampNeg) :: st) Q := VV_aald rfl rfl
theorem xr_46_38_2 (h : AHp) (Q : Option Int32 → AHp → Prop) (l0 l1 l2 l3 l4 l5 l6 l7 : Option AV) (x : Int32) (i : Nat) (st : List AV) : VV 46 h 38 [l0, l1, l2, l3, l4, l5, l6, l7] (.inl x :: .inr (2, i) :: st) Q ↔ vp_in x 8 ∧ VV 46 h 39 [l0, l1, l2, l3, l4, l5, l6, l7] (.inr (4, x.toNatClampNeg) :: st) Q := VV_aald rfl rfl
theorem xr_46_39 (h : AHp) (Q : Option Int32 → AHp → Prop) (l0 l1 l2 l3 l4 l5 l6 l7 : Option AV) (i : Nat) (st : List AV) : VV 46 h 39 [l0, l1, l2, l3, l4, l5, l6, l7] (.inr (3, i) :: st) Q ↔ VV 46 h 42 [l0, l1, l2, l3, l4, l5, l6, l7] (.inl (h 3 i 1) :: st) Q := VV_step rfl rfl rfl rfl
theorem xr_46_42 (h : AHp) (Q : Option Int32 → AHp → Prop) (l0 l1 l2 l3 l4 l5 l6 l7 : Option AV) (x y : Int32) (st : List AV) : VV 46 h 42 [l0, l1, l2, l3, l4, l5, l6, l7] (.inl y :: .inl x :: st) Q ↔ VV 46 h 43 [l0, l1, l2, l3, l4, l5, l6, l7] (.inl (x ^^^ y) :: st) Q := VV_step rfl rfl rfl rfl
theorem xr_46_43 (h : AHp) (Q : Option Int32 → AHp → Prop) (l0 l1 l2 l3 l4 l5 l6 l7 : Option AV) (a0 : AV) : VV 46 h 43 [l0, l1, l2, l3, l4, l5, l6, l7] [a0] Q ↔ Vi 45 h [some a0] (fun z h2 => VV 46 h2 46 [l0, l1, l2, l3, l4, l5, l6, l7] [.inl z] Q) := VV_calli (y := 45) (as := [a0]) (rest := []) rfl rfl rfl (ah_noV (y := 45) (by decide))
theorem xr_46_46 (h : AHp) (Q : Option Int32 → AHp → Prop) (l0 l1 l2 l3 l4 l5 l6 l7 : Option AV) (x : Int32) (st : List AV) : VV 46 h 46 [l0, l1, l2, l3, l4, l5, l6, l7] (.inl x :: st) Q ↔ VV 46 h 48 [l0, l1, l2, l3, l4, l5, l6, some (.inl x)] st Q := VV_step rfl rfl rfl rfl
theorem xr_46_48 (h : AHp) (Q : Option Int32 → AHp → Prop) (l1 l2 l3 l4 l5 l6 l7 : Option AV) (x : Nat × Nat) (st : List AV) : VV 46 h 48 [some (.inr x), l1, l2, l3, l4, l5, l6, l7] st Q ↔ VV 46 h 49 [some (.inr x), l1, l2, l3, l4, l5, l6, l7] (.inr x :: st) Q := VV_step rfl rfl rfl rfl
theorem xr_46_49 (h : AHp) (Q : Option Int32 → AHp → Prop) (l0 l1 l2 l3 l4 l5 l6 l7 : Option AV) (i : Nat) (st : List AV) : VV 46 h 49 [l0, l1, l2, l3, l4, l5, l6, l7] (.inr (0, i) :: st) Q ↔ VV 46 h 52 [l0, l1, l2, l3, l4, l5, l6, l7] (.inr (1, i) :: st) Q := VV_step rfl rfl rfl rfl
theorem xr_46_52 (h : AHp) (Q : Option Int32 → AHp → Prop) (l0 l1 l2 l3 l4 l5 l7 : Option AV) (x : Int32) (st : List AV) : VV 46 h 52 [l0, l1, l2, l3, l4, l5, some (.inl x), l7] st Q ↔ VV 46 h 54 [l0, l1, l2, l3, l4, l5, some (.inl x), l7] (.inl x :: st) Q := VV_step rfl rfl rfl rfl
theorem xr_46_54_1 (h : AHp) (Q : Option Int32 → AHp → Prop) (l0 l1 l2 l3 l4 l5 l6 l7 : Option AV) (x : Int32) (i : Nat) (st : List AV) : VV 46 h 54 [l0, l1, l2, l3, l4, l5, l6, l7] (.inl x :: .inr (1, i) :: st) Q ↔ vp_in x 20 ∧ VV 46 h 55 [l0, l1, l2, l3, l4, l5, l6, l7] (.inr (3, x.toNatClampNeg) :: st) Q := VV_aald rfl rfl
theorem xr_46_54_2 (h : AHp) (Q : Option Int32 → AHp → Prop) (l0 l1 l2 l3 l4 l5 l6 l7 : Option AV) (x : Int32) (i : Nat) (st : List AV) : VV 46 h 54 [l0, l1, l2, l3, l4, l5, l6, l7] (.inl x :: .inr (2, i) :: st) Q ↔ vp_in x 8 ∧ VV 46 h 55 [l0, l1, l2, l3, l4, l5, l6, l7] (.inr (4, x.toNatClampNeg) :: st) Q := VV_aald rfl rfl
theorem xr_46_55 (h : AHp) (Q : Option Int32 → AHp → Prop) (l0 l1 l2 l3 l4 l5 l6 l7 : Option AV) (i : Nat) (st : List AV) : VV 46 h 55 [l0, l1, l2, l3, l4, l5, l6, l7] (.inr (3, i) :: st) Q ↔ VV 46 h 58 [l0, l1, l2, l3, l4, l5, l6, l7] (.inl (h 3 i 0) :: st) Q := VV_step rfl rfl rfl rfl
theorem xr_46_58 (h : AHp) (Q : Option Int32 → AHp → Prop) (l0 l1 l3 l4 l5 l6 l7 : Option AV) (x : Int32) (st : List AV) : VV 46 h 58 [l0, l1, some (.inl x), l3, l4, l5, l6, l7] st Q ↔ VV 46 h 59 [l0, l1, some (.inl x), l3, l4, l5, l6, l7] (.inl x :: st) Q := VV_step rfl rfl rfl rfl
theorem xr_46_59 (h : AHp) (Q : Option Int32 → AHp → Prop) (l0 l1 l2 l3 l4 l5 l6 l7 : Option AV) (x y : Int32) (st : List AV) : VV 46 h 59 [l0, l1, l2, l3, l4, l5, l6, l7] (.inl y :: .inl x :: st) Q ↔ (¬ x = y → VV 46 h 77 [l0, l1, l2, l3, l4, l5, l6, l7] st Q) ∧ (¬ (¬ x = y) → VV 46 h 62 [l0, l1, l2, l3, l4, l5, l6, l7] st Q) := VV_br2 rfl rfl rfl decide_eq_true_iff
theorem xr_46_62 (h : AHp) (Q : Option Int32 → AHp → Prop) (l0 l1 l2 l3 l4 l5 l6 : Option AV) (x : Int32) (st : List AV) : VV 46 h 62 [l0, l1, l2, l3, l4, l5, l6, some (.inl x)] st Q ↔ VV 46 h 64 [l0, l1, l2, l3, l4, l5, l6, some (.inl x)] (.inl x :: st) Q := VV_step rfl rfl rfl rfl
theorem xr_46_64 (h : AHp) (Q : Option Int32 → AHp → Prop) (l0 l1 l2 l3 l4 l6 l7 : Option AV) (x : Int32) (st : List AV) : VV 46 h 64 [l0, l1, l2, l3, l4, some (.inl x), l6, l7] st Q ↔ VV 46 h 66 [l0, l1, l2, l3, l4, some (.inl x), l6, l7] (.inl x :: st) Q := VV_step rfl rfl rfl rfl
theorem xr_46_66 (h : AHp) (Q : Option Int32 → AHp → Prop) (l0 l1 l2 l3 l4 l5 l6 l7 : Option AV) (x y : Int32) (st : List AV) : VV 46 h 66 [l0, l1, l2, l3, l4, l5, l6, l7] (.inl y :: .inl x :: st) Q ↔ (y ≤ x → VV 46 h 77 [l0, l1, l2, l3, l4, l5, l6, l7] st Q) ∧ (¬ (y ≤ x) → VV 46 h 69 [l0, l1, l2, l3, l4, l5, l6, l7] st Q) := VV_br2 rfl rfl rfl decide_eq_true_iff
theorem xr_46_69 (h : AHp) (Q : Option Int32 → AHp → Prop) (l0 l1 l2 l3 l4 l5 l7 : Option AV) (x : Int32) (st : List AV) : VV 46 h 69 [l0, l1, l2, l3, l4, l5, some (.inl x), l7] st Q ↔ VV 46 h 71 [l0, l1, l2, l3, l4, l5, some (.inl x), l7] (.inl x :: st) Q := VV_step rfl rfl rfl rfl
theorem xr_46_71 (h : AHp) (Q : Option Int32 → AHp → Prop) (l0 l1 l2 l3 l4 l5 l6 l7 : Option AV) (x : Int32) (st : List AV) : VV 46 h 71 [l0, l1, l2, l3, l4, l5, l6, l7] (.inl x :: st) Q ↔ VV 46 h 73 [l0, l1, l2, l3, some (.inl x), l5, l6, l7] st Q := VV_step rfl rfl rfl rfl
theorem xr_46_73 (h : AHp) (Q : Option Int32 → AHp → Prop) (l0 l1 l2 l3 l4 l5 l6 : Option AV) (x : Int32) (st : List AV) : VV 46 h 73 [l0, l1, l2, l3, l4, l5, l6, some (.inl x)] st Q ↔ VV 46 h 75 [l0, l1, l2, l3, l4, l5, l6, some (.inl x)] (.inl x :: st) Q := VV_step rfl rfl rfl rfl
theorem xr_46_75 (h : AHp) (Q : Option Int32 → AHp → Prop) (l0 l1 l2 l3 l4 l5 l6 l7 : Option AV) (x : Int32) (st : List AV) : VV 46 h 75 [l0, l1, l2, l3, l4, l5, l6, l7] (.inl x :: st) Q ↔ VV 46 h 77 [l0, l1, l2, l3, l4, some (.inl x), l6, l7] st Q := VV_step rfl rfl rfl rfl
theorem xr_46_77 (h : AHp) (Q : Option Int32 → AHp → Prop) (l0 l1 l2 l3 l4 l5 l7 : Option AV) (x : Int32) (st : List AV) : VV 46 h 77 [l0, l1, l2, l3, l4, l5, some (.inl x), l7] st Q ↔ VV 46 h 80 [l0, l1, l2, l3, l4, l5, some (.inl (x + (1 : Int32))), l7] st Q := VV_step rfl rfl rfl rfl
theorem xr_46_80 (h : AHp) (Q : Option Int32 → AHp → Prop) (l0 l1 l2 l3 l4 l5 l6 l7 : Option AV) (st : List AV) : VV 46 h 80 [l0, l1, l2, l3, l4, l5, l6, l7] st Q ↔ VV 46 h 17 [l0, l1, l2, l3, l4, l5, l6, l7] st Q := VV_step rfl rfl rfl rfl
theorem xr_46_83 (h : AHp) (Q : Option Int32 → AHp → Prop) (l0 l1 l2 l3 l4 l5 l6 l7 : Option AV) (st : List AV) : VV 46 h 83 [l0, l1, l2, l3, l4, l5, l6, l7] st Q ↔ VV 46 h 84 [l0, l1, l2, l3, l4, l5, l6, l7] (.inl (0 : Int32) :: st) Q := VV_step rfl rfl rfl rfl
theorem xr_46_84 (h : AHp) (Q : Option Int32 → AHp → Prop) (l0 l1 l2 l3 l4 l5 l6 l7 : Option AV) (x : Int32) (st : List AV) : VV 46 h 84 [l0, l1, l2, l3, l4, l5, l6, l7] (.inl x :: st) Q ↔ VV 46 h 86 [l0, l1, l2, l3, l4, l5, some (.inl x), l7] st Q := VV_step rfl rfl rfl rfl
theorem xr_46_86 (h : AHp) (Q : Option Int32 → AHp → Prop) (l0 l1 l2 l3 l4 l5 l7 : Option AV) (x : Int32) (st : List AV) : VV 46 h 86 [l0, l1, l2, l3, l4, l5, some (.inl x), l7] st Q ↔ VV 46 h 88 [l0, l1, l2, l3, l4, l5, some (.inl x), l7] (.inl x :: st) Q := VV_step rfl rfl rfl rfl
theorem xr_46_88 (h : AHp) (Q : Option Int32 → AHp → Prop) (l1 l2 l3 l4 l5 l6 l7 : Option AV) (x : Nat × Nat) (st : List AV) : VV 46 h 88 [some (.inr x), l1, l2, l3, l4, l5, l6, l7] st Q ↔ VV 46 h 89 [some (.inr x), l1, l2, l3, l4, l5, l6, l7] (.inr x :: st) Q := VV_step rfl rfl rfl rfl
theorem xr_46_89 (h : AHp) (Q : Option Int32 → AHp → Prop) (l0 l1 l2 l3 l4 l5 l6 l7 : Option AV) (i : Nat) (st : List AV) : VV 46 h 89 [l0, l1, l2, l3, l4, l5, l6, l7] (.inr (0, i) :: st) Q ↔ VV 46 h 92 [l0, l1, l2, l3, l4, l5, l6, l7] (.inl (h 0 i 4) :: st) Q := VV_step rfl rfl rfl rfl
theorem xr_46_92 (h : AHp) (Q : Option Int32 → AHp → Prop) (l0 l1 l2 l3 l4 l5 l6 l7 : Option AV) (x y : Int32) (st : List AV) : VV 46 h 92 [l0, l1, l2, l3, l4, l5, l6, l7] (.inl y :: .inl x :: st) Q ↔ (y ≤ x → VV 46 h 169 [l0, l1, l2, l3, l4, l5, l6, l7] st Q) ∧ (¬ (y ≤ x) → VV 46 h 95 [l0, l1, l2, l3, l4, l5, l6, l7] st Q) := VV_br2 rfl rfl rfl decide_eq_true_iff
theorem xr_46_95 (h : AHp) (Q : Option Int32 → AHp → Prop) (l0 l1 l2 l4 l5 l6 l7 : Option AV) (x : Nat × Nat) (st : List AV) : VV 46 h 95 [l0, l1, l2, some (.inr x), l4, l5, l6, l7] st Q ↔ VV 46 h 96 [l0, l1, l2, some (.inr x), l4, l5, l6, l7] (.inr x :: st) Q := VV_step rfl rfl rfl rfl
theorem xr_46_96 (h : AHp) (Q : Option Int32 → AHp → Prop) (l0 l1 l2 l3 l4 l5 l6 l7 : Option AV) (i : Nat) (st : List AV) : VV 46 h 96 [l0, l1, l2, l3, l4, l5, l6, l7] (.inr (4, i) :: st) Q ↔ VV 46 h 99 [l0, l1, l2, l3, l4, l5, l6, l7] (.inr (6, i) :: st) Q := VV_step rfl rfl rfl rfl
theorem xr_46_99 (h : AHp) (Q : Option Int32 → AHp → Prop) (l0 l1 l3 l4 l5 l6 l7 : Option AV) (x : Int32) (st : List AV) : VV 46 h 99 [l0, l1, some (.inl x), l3, l4, l5, l6, l7] st Q ↔ VV 46 h 100 [l0, l1, some (.inl x), l3, l4, l5, l6, l7] (.inl x :: st) Q := VV_step rfl rfl rfl rfl
theorem xr_46_100 (h : AHp) (Q : Option Int32 → AHp → Prop) (l0 l1 l2 l3 l4 l5 l6 l7 : Option AV) (x : Int32) (k i : Nat) (st : List AV) : VV 46 h 100 [l0, l1, l2, l3, l4, l5, l6, l7] (.inl x :: .inr (k, i) :: st) Q ↔ ix_i k x ∧ VV 46 h 101 [l0, l1, l2, l3, l4, l5, l6, l7] (.inl (h k i x.toNatClampNeg) :: st) Q := VV_iald rfl
theorem xr_46_101 (h : AHp) (Q : Option Int32 → AHp → Prop) (l1 l2 l3 l4 l5 l6 l7 : Option AV) (x : Nat × Nat) (st : List AV) : VV 46 h 101 [some (.inr x), l1, l2, l3, l4, l5, l6, l7] st Q ↔ VV 46 h 102 [some (.inr x), l1, l2, l3, l4, l5, l6, l7] (.inr x :: st) Q := VV_step rfl rfl rfl rfl
theorem xr_46_102 (h : AHp) (Q : Option Int32 → AHp → Prop) (l0 l1 l2 l3 l4 l5 l6 l7 : Option AV) (i : Nat) (st : List AV) : VV 46 h 102 [l0, l1, l2, l3, l4, l5, l6, l7] (.inr (0, i) :: st) Q ↔ VV 46 h 105 [l0, l1, l2, l3, l4, l5, l6, l7] (.inr (2, i) :: st) Q := VV_step rfl rfl rfl rfl
theorem xr_46_105 (h : AHp) (Q : Option Int32 → AHp → Prop) (l0 l1 l2 l3 l4 l5 l7 : Option AV) (x : Int32) (st : List AV) : VV 46 h 105 [l0, l1, l2, l3, l4, l5, some (.inl x), l7] st Q ↔ VV 46 h 107 [l0, l1, l2, l3, l4, l5, some (.inl x), l7] (.inl x :: st) Q := VV_step rfl rfl rfl rfl
theorem xr_46_107_1 (h : AHp) (Q : Option Int32 → AHp → Prop) (l0 l1 l2 l3 l4 l5 l6 l7 : Option AV) (x : Int32) (i : Nat) (st : List AV) : VV 46 h 107 [l0, l1, l2, l3, l4, l5, l6, l7] (.inl x :: .inr (1, i) :: st) Q ↔ vp_in x 20 ∧ VV 46 h 108 [l0, l1, l2, l3, l4, l5, l6, l7] (.inr (3, x.toNatClampNeg) :: st) Q := VV_aald rfl rfl
theorem xr_46_107_2 (h : AHp) (Q : Option Int32 → AHp → Prop) (l0 l1 l2 l3 l4 l5 l6 l7 : Option AV) (x : Int32) (i : Nat) (st : List AV) : VV 46 h 107 [l0, l1, l2, l3, l4, l5, l6, l7] (.inl x :: .inr (2, i) :: st) Q ↔ vp_in x 8 ∧ VV 46 h 108 [l0, l1, l2, l3, l4, l5, l6, l7] (.inr (4, x.toNatClampNeg) :: st) Q := VV_aald rfl rfl
theorem xr_46_108 (h : AHp) (Q : Option Int32 → AHp → Prop) (l0 l1 l2 l3 l4 l5 l6 l7 : Option AV) (i : Nat) (st : List AV) : VV 46 h 108 [l0, l1, l2, l3, l4, l5, l6, l7] (.inr (4, i) :: st) Q ↔ VV 46 h 111 [l0, l1, l2, l3, l4, l5, l6, l7] (.inr (6, i) :: st) Q := VV_step rfl rfl rfl rfl
theorem xr_46_111 (h : AHp) (Q : Option Int32 → AHp → Prop) (l0 l1 l3 l4 l5 l6 l7 : Option AV) (x : Int32) (st : List AV) : VV 46 h 111 [l0, l1, some (.inl x), l3, l4, l5, l6, l7] st Q ↔ VV 46 h 112 [l0, l1, some (.inl x), l3, l4, l5, l6, l7] (.inl x :: st) Q := VV_step rfl rfl rfl rfl
theorem xr_46_112 (h : AHp) (Q : Option Int32 → AHp → Prop) (l0 l1 l2 l3 l4 l5 l6 l7 : Option AV) (x : Int32) (k i : Nat) (st : List AV) : VV 46 h 112 [l0, l1, l2, l3, l4, l5, l6, l7] (.inl x :: .inr (k, i) :: st) Q ↔ ix_i k x ∧ VV 46 h 113 [l0, l1, l2, l3, l4, l5, l6, l7] (.inl (h k i x.toNatClampNeg) :: st) Q := VV_iald rfl
theorem xr_46_113 (h : AHp) (Q : Option Int32 → AHp → Prop) (l0 l1 l2 l3 l4 l5 l6 l7 : Option AV) (x y : Int32) (st : List AV) : VV 46 h 113 [l0, l1, l2, l3, l4, l5, l6, l7] (.inl y :: .inl x :: st) Q ↔ VV 46 h 114 [l0, l1, l2, l3, l4, l5, l6, l7] (.inl (x ^^^ y) :: st) Q := VV_step rfl rfl rfl rfl
theorem xr_46_114 (h : AHp) (Q : Option Int32 → AHp → Prop) (l0 l1 l2 l3 l4 l5 l6 l7 : Option AV) (a0 : AV) : VV 46 h 114 [l0, l1, l2, l3, l4, l5, l6, l7] [a0] Q ↔ Vi 45 h [some a0] (fun z h2 => VV 46 h2 117 [l0, l1, l2, l3, l4, l5, l6, l7] [.inl z] Q) := VV_calli (y := 45) (as := [a0]) (rest := []) rfl rfl rfl (ah_noV (y := 45) (by decide))
theorem xr_46_117 (h : AHp) (Q : Option Int32 → AHp → Prop) (l0 l1 l2 l3 l4 l5 l6 l7 : Option AV) (x : Int32) (st : List AV) : VV 46 h 117 [l0, l1, l2, l3, l4, l5, l6, l7] (.inl x :: st) Q ↔ VV 46 h 119 [l0, l1, l2, l3, l4, l5, l6, some (.inl x)] st Q := VV_step rfl rfl rfl rfl
theorem xr_46_119 (h : AHp) (Q : Option Int32 → AHp → Prop) (l0 l1 l2 l3 l4 l5 l7 : Option AV) (x : Int32) (st : List AV) : VV 46 h 119 [l0, l1, l2, l3, l4, l5, some (.inl x), l7] st Q ↔ VV 46 h 121 [l0, l1, l2, l3, l4, l5, some (.inl x), l7] (.inl x :: st) Q := VV_step rfl rfl rfl rfl
theorem xr_46_121 (h : AHp) (Q : Option Int32 → AHp → Prop) (l0 l2 l3 l4 l5 l6 l7 : Option AV) (x : Int32) (st : List AV) : VV 46 h 121 [l0, some (.inl x), l2, l3, l4, l5, l6, l7] st Q ↔ VV 46 h 122 [l0, some (.inl x), l2, l3, l4, l5, l6, l7] (.inl x :: st) Q := VV_step rfl rfl rfl rfl
theorem xr_46_122 (h : AHp) (Q : Option Int32 → AHp → Prop) (l0 l1 l2 l3 l4 l5 l6 l7 : Option AV) (x y : Int32) (st : List AV) : VV 46 h 122 [l0, l1, l2, l3, l4, l5, l6, l7] (.inl y :: .inl x :: st) Q ↔ (x = y → VV 46 h 163 [l0, l1, l2, l3, l4, l5, l6, l7] st Q) ∧ (¬ (x = y) → VV 46 h 125 [l0, l1, l2, l3, l4, l5, l6, l7] st Q) := VV_br2 rfl rfl rfl decide_eq_true_iff
theorem xr_46_125 (h : AHp) (Q : Option Int32 → AHp → Prop) (l1 l2 l3 l4 l5 l6 l7 : Option AV) (x : Nat × Nat) (st : List AV) : VV 46 h 125 [some (.inr x), l1, l2, l3, l4, l5, l6, l7] st Q ↔ VV 46 h 126 [some (.inr x), l1, l2, l3, l4, l5, l6, l7] (.inr x :: st) Q := VV_step rfl rfl rfl rfl
theorem xr_46_126 (h : AHp) (Q : Option Int32 → AHp → Prop) (l0 l1 l2 l3 l4 l5 l6 l7 : Option AV) (i : Nat) (st : List AV) : VV 46 h 126 [l0, l1, l2, l3, l4, l5, l6, l7] (.inr (0, i) :: st) Q ↔ VV 46 h 129 [l0, l1, l2, l3, l4, l5, l6, l7] (.inr (2, i) :: st) Q := VV_step rfl rfl rfl rfl
theorem xr_46_129 (h : AHp) (Q : Option Int32 → AHp → Prop) (l0 l1 l2 l3 l4 l5 l7 : Option AV) (x : Int32) (st : List AV) : VV 46 h 129 [l0, l1, l2, l3, l4, l5, some (.inl x), l7] st Q ↔ VV 46 h 131 [l0, l1, l2, l3, l4, l5, some (.inl x), l7] (.inl x :: st) Q := VV_step rfl rfl rfl rfl
theorem xr_46_131_1 (h : AHp) (Q : Option Int32 → AHp → Prop) (l0 l1 l2 l3 l4 l5 l6 l7 : Option AV) (x : Int32) (i : Nat) (st : List AV) : VV 46 h 131 [l0, l1, l2, l3, l4, l5, l6, l7] (.inl x :: .inr (1, i) :: st) Q ↔ vp_in x 20 ∧ VV 46 h 132 [l0, l1, l2, l3, l4, l5, l6, l7] (.inr (3, x.toNatClampNeg) :: st) Q := VV_aald rfl rfl
theorem xr_46_131_2 (h : AHp) (Q : Option Int32 → AHp → Prop) (l0 l1 l2 l3 l4 l5 l6 l7 : Option AV) (x : Int32) (i : Nat) (st : List AV) : VV 46 h 131 [l0, l1, l2, l3, l4, l5, l6, l7] (.inl x :: .inr (2, i) :: st) Q ↔ vp_in x 8 ∧ VV 46 h 132 [l0, l1, l2, l3, l4, l5, l6, l7] (.inr (4, x.toNatClampNeg) :: st) Q := VV_aald rfl rfl
theorem xr_46_132 (h : AHp) (Q : Option Int32 → AHp → Prop) (l0 l1 l3 l4 l5 l6 l7 : Option AV) (x : Int32) (st : List AV) : VV 46 h 132 [l0, l1, some (.inl x), l3, l4, l5, l6, l7] st Q ↔ VV 46 h 133 [l0, l1, some (.inl x), l3, l4, l5, l6, l7] (.inl x :: st) Q := VV_step rfl rfl rfl rfl
theorem xr_46_133 (h : AHp) (Q : Option Int32 → AHp → Prop) (l0 l1 l2 l4 l5 l6 l7 : Option AV) (x : Nat × Nat) (st : List AV) : VV 46 h 133 [l0, l1, l2, some (.inr x), l4, l5, l6, l7] st Q ↔ VV 46 h 134 [l0, l1, l2, some (.inr x), l4, l5, l6, l7] (.inr x :: st) Q := VV_step rfl rfl rfl rfl
theorem xr_46_134 (h : AHp) (Q : Option Int32 → AHp → Prop) (l0 l1 l2 l3 l4 l5 l6 l7 : Option AV) (i : Nat) (st : List AV) : VV 46 h 134 [l0, l1, l2, l3, l4, l5, l6, l7] (.inr (4, i) :: st) Q ↔ VV 46 h 137 [l0, l1, l2, l3, l4, l5, l6, l7] (.inr (8, i) :: st) Q := VV_step rfl rfl rfl rfl
theorem xr_46_137 (h : AHp) (Q : Option Int32 → AHp → Prop) (l0 l1 l3 l4 l5 l6 l7 : Option AV) (x : Int32) (st : List AV) : VV 46 h 137 [l0, l1, some (.inl x), l3, l4, l5, l6, l7] st Q ↔ VV 46 h 138 [l0, l1, some (.inl x), l3, l4, l5, l6, l7] (.inl x :: st) Q := VV_step rfl rfl rfl rfl
theorem xr_46_138 (h : AHp) (Q : Option Int32 → AHp → Prop) (l0 l1 l2 l3 l4 l5 l6 l7 : Option AV) (x : Int32) (k i : Nat) (st : List AV) : VV 46 h 138 [l0, l1, l2, l3, l4, l5, l6, l7] (.inl x :: .inr (k, i) :: st) Q ↔ ix_i k x ∧ VV 46 h 139 [l0, l1, l2, l3, l4, l5, l6, l7] (.inl (h k i x.toNatClampNeg) :: st) Q := VV_iald rfl
theorem xr_46_139 (h : AHp) (Q : Option Int32 → AHp → Prop) (l0 l1 l2 l3 l4 l5 l6 l7 : Option AV) (a0 a1 : AV) (i : Nat) : VV 46 h 139 [l0, l1, l2, l3, l4, l5, l6, l7] [a1, a0, .inr (4, i)] Q ↔ Vi 6 h [some (.inr (4, i)), some a0, some a1] (fun z h2 => VV 46 h2 142 [l0, l1, l2, l3, l4, l5, l6, l7] [.inl z] Q) := VV_calli (y := 6) (as := [.inr (4, i), a0, a1]) (rest := []) rfl rfl rfl (ah_noV (y := 6) (by decide))
theorem xr_46_142 (h : AHp) (Q : Option Int32 → AHp → Prop) (l0 l1 l2 l3 l4 l5 l6 l7 : Option AV) (x : Int32) (st : List AV) : VV 46 h 142 [l0, l1, l2, l3, l4, l5, l6, l7] (.inl x :: st) Q ↔ (x = 0 → VV 46 h 163 [l0, l1, l2, l3, l4, l5, l6, l7] st Q) ∧ (¬ (x = 0) → VV 46 h 145 [l0, l1, l2, l3, l4, l5, l6, l7] st Q) := VV_br rfl rfl rfl decide_eq_true_iff
theorem xr_46_145 (h : AHp) (Q : Option Int32 → AHp → Prop) (l0 l1 l2 l3 l4 l5 l6 : Option AV) (x : Int32) (st : List AV) : VV 46 h 145 [l0, l1, l2, l3, l4, l5, l6, some (.inl x)] st Q ↔ VV 46 h 147 [l0, l1, l2, l3, l4, l5, l6, some (.inl x)] (.inl x :: st) Q := VV_step rfl rfl rfl rfl
theorem xr_46_147 (h : AHp) (Q : Option Int32 → AHp → Prop) (l0 l1 l2 l3 l4 l6 l7 : Option AV) (x : Int32) (st : List AV) : VV 46 h 147 [l0, l1, l2, l3, l4, some (.inl x), l6, l7] st Q ↔ VV 46 h 149 [l0, l1, l2, l3, l4, some (.inl x), l6, l7] (.inl x :: st) Q := VV_step rfl rfl rfl rfl
theorem xr_46_149 (h : AHp) (Q : Option Int32 → AHp → Prop) (l0 l1 l2 l3 l4 l5 l6 l7 : Option AV) (x y : Int32) (st : List AV) : VV 46 h 149 [l0, l1, l2, l3, l4, l5, l6, l7] (.inl y :: .inl x :: st) Q ↔ (y ≤ x → VV 46 h 163 [l0, l1, l2, l3, l4, l5, l6, l7] st Q) ∧ (¬ (y ≤ x) → VV 46 h 152 [l0, l1, l2, l3, l4, l5, l6, l7] st Q) := VV_br2 rfl rfl rfl decide_eq_true_iff
theorem xr_46_152 (h : AHp) (Q : Option Int32 → AHp → Prop) (l0 l1 l2 l3 l4 l5 l6 l7 : Option AV) (st : List AV) : VV 46 h 152 [l0, l1, l2, l3, l4, l5, l6, l7] st Q ↔ VV 46 h 154 [l0, l1, l2, l3, l4, l5, l6, l7] (.inl (-2 : Int32) :: st) Q := VV_step rfl rfl rfl rfl
theorem xr_46_154 (h : AHp) (Q : Option Int32 → AHp → Prop) (l0 l1 l2 l3 l4 l5 l7 : Option AV) (x : Int32) (st : List AV) : VV 46 h 154 [l0, l1, l2, l3, l4, l5, some (.inl x), l7] st Q ↔ VV 46 h 156 [l0, l1, l2, l3, l4, l5, some (.inl x), l7] (.inl x :: st) Q := VV_step rfl rfl rfl rfl
theorem xr_46_156 (h : AHp) (Q : Option Int32 → AHp → Prop) (l0 l1 l2 l3 l4 l5 l6 l7 : Option AV) (x y : Int32) (st : List AV) : VV 46 h 156 [l0, l1, l2, l3, l4, l5, l6, l7] (.inl y :: .inl x :: st) Q ↔ VV 46 h 157 [l0, l1, l2, l3, l4, l5, l6, l7] (.inl (x - y) :: st) Q := VV_step rfl rfl rfl rfl
theorem xr_46_157 (h : AHp) (Q : Option Int32 → AHp → Prop) (l0 l1 l2 l3 l4 l5 l6 l7 : Option AV) (x : Int32) (st : List AV) : VV 46 h 157 [l0, l1, l2, l3, l4, l5, l6, l7] (.inl x :: st) Q ↔ VV 46 h 159 [l0, l1, l2, l3, some (.inl x), l5, l6, l7] st Q := VV_step rfl rfl rfl rfl
theorem xr_46_159 (h : AHp) (Q : Option Int32 → AHp → Prop) (l0 l1 l2 l3 l4 l5 l6 : Option AV) (x : Int32) (st : List AV) : VV 46 h 159 [l0, l1, l2, l3, l4, l5, l6, some (.inl x)] st Q ↔ VV 46 h 161 [l0, l1, l2, l3, l4, l5, l6, some (.inl x)] (.inl x :: st) Q := VV_step rfl rfl rfl rfl
theorem xr_46_161 (h : AHp) (Q : Option Int32 → AHp → Prop) (l0 l1 l2 l3 l4 l5 l6 l7 : Option AV) (x : Int32) (st : List AV) : VV 46 h 161 [l0, l1, l2, l3, l4, l5, l6, l7] (.inl x :: st) Q ↔ VV 46 h 163 [l0, l1, l2, l3, l4, some (.inl x), l6, l7] st Q := VV_step rfl rfl rfl rfl
theorem xr_46_163 (h : AHp) (Q : Option Int32 → AHp → Prop) (l0 l1 l2 l3 l4 l5 l7 : Option AV) (x : Int32) (st : List AV) : VV 46 h 163 [l0, l1, l2, l3, l4, l5, some (.inl x), l7] st Q ↔ VV 46 h 166 [l0, l1, l2, l3, l4, l5, some (.inl (x + (1 : Int32))), l7] st Q := VV_step rfl rfl rfl rfl
theorem xr_46_166 (h : AHp) (Q : Option Int32 → AHp → Prop) (l0 l1 l2 l3 l4 l5 l6 l7 : Option AV) (st : List AV) : VV 46 h 166 [l0, l1, l2, l3, l4, l5, l6, l7] st Q ↔ VV 46 h 86 [l0, l1, l2, l3, l4, l5, l6, l7] st Q := VV_step rfl rfl rfl rfl
theorem xr_46_169 (h : AHp) (Q : Option Int32 → AHp → Prop) (l0 l1 l2 l3 l5 l6 l7 : Option AV) (x : Int32) (st : List AV) : VV 46 h 169 [l0, l1, l2, l3, some (.inl x), l5, l6, l7] st Q ↔ VV 46 h 171 [l0, l1, l2, l3, some (.inl x), l5, l6, l7] (.inl x :: st) Q := VV_step rfl rfl rfl rfl
theorem xr_46_171 (h : AHp) (Q : Option Int32 → AHp → Prop) (l0 l1 l2 l3 l4 l5 l6 l7 : Option AV) (x : Int32) : VV 46 h 171 [l0, l1, l2, l3, l4, l5, l6, l7] [.inl x] Q ↔ Q (some x) h := VV_end rfl rfl
theorem xr_47_0 (h : AHp) (Q : Option Int32 → AHp → Prop) (l1 l2 : Option AV) (x : Nat × Nat) (st : List AV) : VV 47 h 0 [some (.inr x), l1, l2] st Q ↔ VV 47 h 1 [some (.inr x), l1, l2] (.inr x :: st) Q := VV_step rfl rfl rfl rfl
theorem xr_47_1 (h : AHp) (Q : Option Int32 → AHp → Prop) (l0 l2 : Option AV) (x : Int32) (st : List AV) : VV 47 h 1 [l0, some (.inl x), l2] st Q ↔ VV 47 h 2 [l0, some (.inl x), l2] (.inl x :: st) Q := VV_step rfl rfl rfl rfl
theorem xr_47_2 (h : AHp) (Q : Option Int32 → AHp → Prop) (l0 l1 : Option AV) (x : Int32) (st : List AV) : VV 47 h 2 [l0, l1, some (.inl x)] st Q ↔ VV 47 h 3 [l0, l1, some (.inl x)] (.inl x :: st) Q := VV_step rfl rfl rfl rfl
theorem xr_47_3 (h : AHp) (Q : Option Int32 → AHp → Prop) (l0 l1 l2 : Option AV) (a0 a1 : AV) (i : Nat) : VV 47 h 3 [l0, l1, l2] [a1, a0, .inr (0, i)] Q ↔ Vi 19 h [some (.inr (0, i)), some a0, some a1] (fun z h2 => VV 47 h2 6 [l0, l1, l2] [.inl z] Q) := VV_calli (y := 19) (as := [.inr (0, i), a0, a1]) (rest := []) rfl rfl rfl (ah_noV (y := 19) (by decide))
theorem xr_47_6 (h : AHp) (Q : Option Int32 → AHp → Prop) (l0 l1 l2 : Option AV) (x : Int32) (st : List AV) : VV 47 h 6 [l0, l1, l2] (.inl x :: st) Q ↔ (x = 0 → VV 47 h 18 [l0, l1, l2] st Q) ∧ (¬ (x = 0) → VV 47 h 9 [l0, l1, l2] st Q) := VV_br rfl rfl rfl decide_eq_true_iff
theorem xr_47_9 (h : AHp) (Q : Option Int32 → AHp → Prop) (l1 l2 : Option AV) (x : Nat × Nat) (st : List AV) : VV 47 h 9 [some (.inr x), l1, l2] st Q ↔ VV 47 h 10 [some (.inr x), l1, l2] (.inr x :: st) Q := VV_step rfl rfl rfl rfl
theorem xr_47_10 (h : AHp) (Q : Option Int32 → AHp → Prop) (l0 l2 : Option AV) (x : Int32) (st : List AV) : VV 47 h 10 [l0, some (.inl x), l2] st Q ↔ VV 47 h 11 [l0, some (.inl x), l2] (.inl x :: st) Q := VV_step rfl rfl rfl rfl
theorem xr_47_11 (h : AHp) (Q : Option Int32 → AHp → Prop) (l0 l1 : Option AV) (x : Int32) (st : List AV) : VV 47 h 11 [l0, l1, some (.inl x)] st Q ↔ VV 47 h 12 [l0, l1, some (.inl x)] (.inl x :: st) Q := VV_step rfl rfl rfl rfl
theorem xr_47_12 (h : AHp) (Q : Option Int32 → AHp → Prop) (l0 l1 l2 : Option AV) (a0 a1 : AV) (i : Nat) : VV 47 h 12 [l0, l1, l2] [a1, a0, .inr (0, i)] Q ↔ Vi 46 h [some (.inr (0, i)), some a0, some a1, none, none, none, none, none] (fun z h2 => VV 47 h2 15 [l0, l1, l2] [.inl z] Q) := VV_calli (y := 46) (as := [.inr (0, i), a0, a1]) (rest := []) rfl rfl rfl (ah_noV (y := 46) (by decide))
theorem xr_47_15 (h : AHp) (Q : Option Int32 → AHp → Prop) (l0 l1 l2 : Option AV) (st : List AV) : VV 47 h 15 [l0, l1, l2] st Q ↔ VV 47 h 19 [l0, l1, l2] st Q := VV_step rfl rfl rfl rfl
theorem xr_47_18 (h : AHp) (Q : Option Int32 → AHp → Prop) (l0 l1 l2 : Option AV) (st : List AV) : VV 47 h 18 [l0, l1, l2] st Q ↔ VV 47 h 19 [l0, l1, l2] (.inl (-1 : Int32) :: st) Q := VV_step rfl rfl rfl rfl
theorem xr_47_19 (h : AHp) (Q : Option Int32 → AHp → Prop) (l0 l1 l2 : Option AV) (x : Int32) : VV 47 h 19 [l0, l1, l2] [.inl x] Q ↔ Q (some x) h := VV_end rfl rfl
theorem xr_48_0 (h : AHp) (Q : Option Int32 → AHp → Prop) (l0 l1 l2 l4 : Option AV) (x : Int32) (st : List AV) : VV 48 h 0 [l0, l1, l2, some (.inl x), l4] st Q ↔ VV 48 h 1 [l0, l1, l2, some (.inl x), l4] (.inl x :: st) Q := VV_step rfl rfl rfl rfl
theorem xr_48_1 (h : AHp) (Q : Option Int32 → AHp → Prop) (l0 l1 l2 l3 l4 : Option AV) (st : List AV) : VV 48 h 1 [l0, l1, l2, l3, l4] st Q ↔ VV 48 h 2 [l0, l1, l2, l3, l4] (.inl (-1 : Int32) :: st) Q := VV_step rfl rfl rfl rfl
theorem xr_48_2 (h : AHp) (Q : Option Int32 → AHp → Prop) (l0 l1 l2 l3 l4 : Option AV) (x y : Int32) (st : List AV) : VV 48 h 2 [l0, l1, l2, l3, l4] (.inl y :: .inl x :: st) Q ↔ (¬ x = y → VV 48 h 7 [l0, l1, l2, l3, l4] st Q) ∧ (¬ (¬ x = y) → VV 48 h 5 [l0, l1, l2, l3, l4] st Q) := VV_br2 rfl rfl rfl decide_eq_true_iff
theorem xr_48_5 (h : AHp) (Q : Option Int32 → AHp → Prop) (l0 l1 l2 l3 l4 : Option AV) (st : List AV) : VV 48 h 5 [l0, l1, l2, l3, l4] st Q ↔ VV 48 h 6 [l0, l1, l2, l3, l4] (.inl (0 : Int32) :: st) Q := VV_step rfl rfl rfl rfl
theorem xr_48_6 (h : AHp) (Q : Option Int32 → AHp → Prop) (l0 l1 l2 l3 l4 : Option AV) (x : Int32) : VV 48 h 6 [l0, l1, l2, l3, l4] [.inl x] Q ↔ Q (some x) h := VV_end rfl rfl
theorem xr_48_7 (h : AHp) (Q : Option Int32 → AHp → Prop) (l1 l2 l3 l4 : Option AV) (x : Nat × Nat) (st : List AV) : VV 48 h 7 [some (.inr x), l1, l2, l3, l4] st Q ↔ VV 48 h 8 [some (.inr x), l1, l2, l3, l4] (.inr x :: st) Q := VV_step rfl rfl rfl rfl
theorem xr_48_8 (h : AHp) (Q : Option Int32 → AHp → Prop) (l0 l1 l3 l4 : Option AV) (x : Int32) (st : List AV) : VV 48 h 8 [l0, l1, some (.inl x), l3, l4] st Q ↔ VV 48 h 9 [l0, l1, some (.inl x), l3, l4] (.inl x :: st) Q := VV_step rfl rfl rfl rfl
theorem xr_48_9 (h : AHp) (Q : Option Int32 → AHp → Prop) (l0 l1 l2 l4 : Option AV) (x : Int32) (st : List AV) : VV 48 h 9 [l0, l1, l2, some (.inl x), l4] st Q ↔ VV 48 h 10 [l0, l1, l2, some (.inl x), l4] (.inl x :: st) Q := VV_step rfl rfl rfl rfl
theorem xr_48_10 (h : AHp) (Q : Option Int32 → AHp → Prop) (l0 l1 l2 l3 l4 : Option AV) (x : Int32) (st : List AV) : VV 48 h 10 [l0, l1, l2, l3, l4] (.inl x :: st) Q ↔ (x < 0 → VV 48 h 17 [l0, l1, l2, l3, l4] st Q) ∧ (¬ (x < 0) → VV 48 h 13 [l0, l1, l2, l3, l4] st Q) := VV_br rfl rfl rfl decide_eq_true_iff
theorem xr_48_13 (h : AHp) (Q : Option Int32 → AHp → Prop) (l0 l1 l2 l4 : Option AV) (x : Int32) (st : List AV) : VV 48 h 13 [l0, l1, l2, some (.inl x), l4] st Q ↔ VV 48 h 14 [l0, l1, l2, some (.inl x), l4] (.inl x :: st) Q := VV_step rfl rfl rfl rfl
theorem xr_48_14 (h : AHp) (Q : Option Int32 → AHp → Prop) (l0 l1 l2 l3 l4 : Option AV) (st : List AV) : VV 48 h 14 [l0, l1, l2, l3, l4] st Q ↔ VV 48 h 20 [l0, l1, l2, l3, l4] st Q := VV_step rfl rfl rfl rfl
theorem xr_48_17 (h : AHp) (Q : Option Int32 → AHp → Prop) (l0 l1 l2 l4 : Option AV) (x : Int32) (st : List AV) : VV 48 h 17 [l0, l1, l2, some (.inl x), l4] st Q ↔ VV 48 h 18 [l0, l1, l2, some (.inl x), l4] (.inl x :: st) Q := VV_step rfl rfl rfl rfl
theorem xr_48_18 (h : AHp) (Q : Option Int32 → AHp → Prop) (l0 l1 l2 l3 l4 : Option AV) (st : List AV) : VV 48 h 18 [l0, l1, l2, l3, l4] st Q ↔ VV 48 h 19 [l0, l1, l2, l3, l4] (.inl (1 : Int32) :: st) Q := VV_step rfl rfl rfl rfl
theorem xr_48_19 (h : AHp) (Q : Option Int32 → AHp → Prop) (l0 l1 l2 l3 l4 : Option AV) (x y : Int32) (st : List AV) : VV 48 h 19 [l0, l1, l2, l3, l4] (.inl y :: .inl x :: st) Q ↔ VV 48 h 20 [l0, l1, l2, l3, l4] (.inl (x + y) :: st) Q := VV_step rfl rfl rfl rfl
theorem xr_48_20 (h : AHp) (Q : Option Int32 → AHp → Prop) (l0 l1 l2 l3 l4 : Option AV) (a0 a1 : AV) (i : Nat) : VV 48 h 20 [l0, l1, l2, l3, l4] [a1, a0, .inr (0, i)] Q ↔ Vi 20 h [some (.inr (0, i)), some a0, some a1, none] (fun z h2 => VV 48 h2 23 [l0, l1, l2, l3, l4] [.inl z] Q) := VV_calli (y := 20) (as := [.inr (0, i), a0, a1]) (rest := []) rfl rfl rfl (ah_noV (y := 20) (by decide))
theorem xr_48_23 (h : AHp) (Q : Option Int32 → AHp → Prop) (l0 l1 l2 l3 l4 : Option AV) (x : Int32) (st : List AV) : VV 48 h 23 [l0, l1, l2, l3, l4] (.inl x :: st) Q ↔ VV 48 h 25 [l0, l1, l2, l3, some (.inl x)] st Q := VV_step rfl rfl rfl rfl
theorem xr_48_25 (h : AHp) (Q : Option Int32 → AHp → Prop) (l1 l2 l3 l4 : Option AV) (x : Nat × Nat) (st : List AV) : VV 48 h 25 [some (.inr x), l1, l2, l3, l4] st Q ↔ VV 48 h 26 [some (.inr x), l1, l2, l3, l4] (.inr x :: st) Q := VV_step rfl rfl rfl rfl
theorem xr_48_26 (h : AHp) (Q : Option Int32 → AHp → Prop) (l0 l1 l2 l3 l4 : Option AV) (i : Nat) (st : List AV) : VV 48 h 26 [l0, l1, l2, l3, l4] (.inr (0, i) :: st) Q ↔ VV 48 h 29 [l0, l1, l2, l3, l4] (.inr (2, i) :: st) Q := VV_step rfl rfl rfl rfl
theorem xr_48_29 (h : AHp) (Q : Option Int32 → AHp → Prop) (l0 l2 l3 l4 : Option AV) (x : Int32) (st : List AV) : VV 48 h 29 [l0, some (.inl x), l2, l3, l4] st Q ↔ VV 48 h 30 [l0, some (.inl x), l2, l3, l4] (.inl x :: st) Q := VV_step rfl rfl rfl rfl
theorem xr_48_30_1 (h : AHp) (Q : Option Int32 → AHp → Prop) (l0 l1 l2 l3 l4 : Option AV) (x : Int32) (i : Nat) (st : List AV) : VV 48 h 30 [l0, l1, l2, l3, l4] (.inl x :: .inr (1, i) :: st) Q ↔ vp_in x 20 ∧ VV 48 h 31 [l0, l1, l2, l3, l4] (.inr (3, x.toNatClampNeg) :: st) Q := VV_aald rfl rfl
theorem xr_48_30_2 (h : AHp) (Q : Option Int32 → AHp → Prop) (l0 l1 l2 l3 l4 : Option AV) (x : Int32) (i : Nat) (st : List AV) : VV 48 h 30 [l0, l1, l2, l3, l4] (.inl x :: .inr (2, i) :: st) Q ↔ vp_in x 8 ∧ VV 48 h 31 [l0, l1, l2, l3, l4] (.inr (4, x.toNatClampNeg) :: st) Q := VV_aald rfl rfl
theorem xr_48_31 (h : AHp) (Q : Option Int32 → AHp → Prop) (l0 l1 l2 l3 l4 : Option AV) (i : Nat) (st : List AV) : VV 48 h 31 [l0, l1, l2, l3, l4] (.inr (4, i) :: st) Q ↔ VV 48 h 34 [l0, l1, l2, l3, l4] (.inr (6, i) :: st) Q := VV_step rfl rfl rfl rfl
theorem xr_48_34 (h : AHp) (Q : Option Int32 → AHp → Prop) (l0 l1 l3 l4 : Option AV) (x : Int32) (st : List AV) : VV 48 h 34 [l0, l1, some (.inl x), l3, l4] st Q ↔ VV 48 h 35 [l0, l1, some (.inl x), l3, l4] (.inl x :: st) Q := VV_step rfl rfl rfl rfl
theorem xr_48_35 (h : AHp) (Q : Option Int32 → AHp → Prop) (l0 l1 l2 l3 l4 : Option AV) (x : Int32) (k i : Nat) (st : List AV) : VV 48 h 35 [l0, l1, l2, l3, l4] (.inl x :: .inr (k, i) :: st) Q ↔ ix_i k x ∧ VV 48 h 36 [l0, l1, l2, l3, l4] (.inl (h k i x.toNatClampNeg) :: st) Q := VV_iald rfl
theorem xr_48_36 (h : AHp) (Q : Option Int32 → AHp → Prop) (l0 l1 l2 l3 : Option AV) (x : Int32) (st : List AV) : VV 48 h 36 [l0, l1, l2, l3, some (.inl x)] st Q ↔ VV 48 h 38 [l0, l1, l2, l3, some (.inl x)] (.inl x :: st) Q := VV_step rfl rfl rfl rfl
theorem xr_48_38 (h : AHp) (Q : Option Int32 → AHp → Prop) (l0 l1 l2 l3 l4 : Option AV) (x y : Int32) (st : List AV) : VV 48 h 38 [l0, l1, l2, l3, l4] (.inl y :: .inl x :: st) Q ↔ VV 48 h 39 [l0, l1, l2, l3, l4] (.inl (x ^^^ y) :: st) Q := VV_step rfl rfl rfl rfl
theorem xr_48_39 (h : AHp) (Q : Option Int32 → AHp → Prop) (l0 l1 l2 l3 l4 : Option AV) (a0 : AV) : VV 48 h 39 [l0, l1, l2, l3, l4] [a0] Q ↔ Vi 45 h [some a0] (fun z h2 => VV 48 h2 42 [l0, l1, l2, l3, l4] [.inl z] Q) := VV_calli (y := 45) (as := [a0]) (rest := []) rfl rfl rfl (ah_noV (y := 45) (by decide))
theorem xr_48_42 (h : AHp) (Q : Option Int32 → AHp → Prop) (l0 l1 l2 l3 l4 : Option AV) (x : Int32) : VV 48 h 42 [l0, l1, l2, l3, l4] [.inl x] Q ↔ Q (some x) h := VV_end rfl rfl
theorem xr_49_0 (h : AHp) (Q : Option Int32 → AHp → Prop) (l1 l2 l3 : Option AV) (x : Nat × Nat) (st : List AV) : VV 49 h 0 [some (.inr x), l1, l2, l3] st Q ↔ VV 49 h 1 [some (.inr x), l1, l2, l3] (.inr x :: st) Q := VV_step rfl rfl rfl rfl
theorem xr_49_1 (h : AHp) (Q : Option Int32 → AHp → Prop) (l0 l2 l3 : Option AV) (x : Int32) (st : List AV) : VV 49 h 1 [l0, some (.inl x), l2, l3] st Q ↔ VV 49 h 2 [l0, some (.inl x), l2, l3] (.inl x :: st) Q := VV_step rfl rfl rfl rfl
theorem xr_49_2 (h : AHp) (Q : Option Int32 → AHp → Prop) (l0 l1 l2 l3 : Option AV) (a0 : AV) (i : Nat) : VV 49 h 2 [l0, l1, l2, l3] [a0, .inr (0, i)] Q ↔ Vi 14 h [some (.inr (0, i)), some a0] (fun z h2 => VV 49 h2 5 [l0, l1, l2, l3] [.inl z] Q) := VV_calli (y := 14) (as := [.inr (0, i), a0]) (rest := []) rfl rfl rfl (ah_noV (y := 14) (by decide))
theorem xr_49_5 (h : AHp) (Q : Option Int32 → AHp → Prop) (l0 l1 l2 l3 : Option AV) (x : Int32) (st : List AV) : VV 49 h 5 [l0, l1, l2, l3] (.inl x :: st) Q ↔ (¬ x = 0 → VV 49 h 10 [l0, l1, l2, l3] st Q) ∧ (¬ (¬ x = 0) → VV 49 h 8 [l0, l1, l2, l3] st Q) := VV_br rfl rfl rfl decide_eq_true_iff
theorem xr_49_8 (h : AHp) (Q : Option Int32 → AHp → Prop) (l0 l1 l2 l3 : Option AV) (st : List AV) : VV 49 h 8 [l0, l1, l2, l3] st Q ↔ VV 49 h 9 [l0, l1, l2, l3] (.inl (-1 : Int32) :: st) Q := VV_step rfl rfl rfl rfl
theorem xr_49_9 (h : AHp) (Q : Option Int32 → AHp → Prop) (l0 l1 l2 l3 : Option AV) (x : Int32) : VV 49 h 9 [l0, l1, l2, l3] [.inl x] Q ↔ Q (some x) h := VV_end rfl rfl
theorem xr_49_10 (h : AHp) (Q : Option Int32 → AHp → Prop) (l0 l1 l2 l3 : Option AV) (st : List AV) : VV 49 h 10 [l0, l1, l2, l3] st Q ↔ VV 49 h 11 [l0, l1, l2, l3] (.inl (0 : Int32) :: st) Q := VV_step rfl rfl rfl rfl
theorem xr_49_11 (h : AHp) (Q : Option Int32 → AHp → Prop) (l0 l1 l2 l3 : Option AV) (x : Int32) (st : List AV) : VV 49 h 11 [l0, l1, l2, l3] (.inl x :: st) Q ↔ VV 49 h 12 [l0, l1, some (.inl x), l3] st Q := VV_step rfl rfl rfl rfl
theorem xr_49_12 (h : AHp) (Q : Option Int32 → AHp → Prop) (l0 l1 l2 l3 : Option AV) (st : List AV) : VV 49 h 12 [l0, l1, l2, l3] st Q ↔ VV 49 h 13 [l0, l1, l2, l3] (.inl (0 : Int32) :: st) Q := VV_step rfl rfl rfl rfl
theorem xr_49_13 (h : AHp) (Q : Option Int32 → AHp → Prop) (l0 l1 l2 l3 : Option AV) (x : Int32) (st : List AV) : VV 49 h 13 [l0, l1, l2, l3] (.inl x :: st) Q ↔ VV 49 h 14 [l0, l1, l2, some (.inl x)] st Q := VV_step rfl rfl rfl rfl
theorem xr_49_14 (h : AHp) (Q : Option Int32 → AHp → Prop) (l0 l1 l2 : Option AV) (x : Int32) (st : List AV) : VV 49 h 14 [l0, l1, l2, some (.inl x)] st Q ↔ VV 49 h 15 [l0, l1, l2, some (.inl x)] (.inl x :: st) Q := VV_step rfl rfl rfl rfl
theorem xr_49_15 (h : AHp) (Q : Option Int32 → AHp → Prop) (l1 l2 l3 : Option AV) (x : Nat × Nat) (st : List AV) : VV 49 h 15 [some (.inr x), l1, l2, l3] st Q ↔ VV 49 h 16 [some (.inr x), l1, l2, l3] (.inr x :: st) Q := VV_step rfl rfl rfl rfl
theorem xr_49_16 (h : AHp) (Q : Option Int32 → AHp → Prop) (l0 l1 l2 l3 : Option AV) (i : Nat) (st : List AV) : VV 49 h 16 [l0, l1, l2, l3] (.inr (0, i) :: st) Q ↔ VV 49 h 19 [l0, l1, l2, l3] (.inl (h 0 i 4) :: st) Q := VV_step rfl rfl rfl rfl
theorem xr_49_19 (h : AHp) (Q : Option Int32 → AHp → Prop) (l0 l1 l2 l3 : Option AV) (x y : Int32) (st : List AV) : VV 49 h 19 [l0, l1, l2, l3] (.inl y :: .inl x :: st) Q ↔ (y ≤ x → VV 49 h 56 [l0, l1, l2, l3] st Q) ∧ (¬ (y ≤ x) → VV 49 h 22 [l0, l1, l2, l3] st Q) := VV_br2 rfl rfl rfl decide_eq_true_iff
theorem xr_49_22 (h : AHp) (Q : Option Int32 → AHp → Prop) (l1 l2 l3 : Option AV) (x : Nat × Nat) (st : List AV) : VV 49 h 22 [some (.inr x), l1, l2, l3] st Q ↔ VV 49 h 23 [some (.inr x), l1, l2, l3] (.inr x :: st) Q := VV_step rfl rfl rfl rfl
theorem xr_49_23 (h : AHp) (Q : Option Int32 → AHp → Prop) (l0 l1 l2 l3 : Option AV) (i : Nat) (st : List AV) : VV 49 h 23 [l0, l1, l2, l3] (.inr (0, i) :: st) Q ↔ VV 49 h 26 [l0, l1, l2, l3] (.inr (2, i) :: st) Q := VV_step rfl rfl rfl rfl
theorem xr_49_26 (h : AHp) (Q : Option Int32 → AHp → Prop) (l0 l1 l2 : Option AV) (x : Int32) (st : List AV) : VV 49 h 26 [l0, l1, l2, some (.inl x)] st Q ↔ VV 49 h 27 [l0, l1, l2, some (.inl x)] (.inl x :: st) Q := VV_step rfl rfl rfl rfl
theorem xr_49_27_1 (h : AHp) (Q : Option Int32 → AHp → Prop) (l0 l1 l2 l3 : Option AV) (x : Int32) (i : Nat) (st : List AV) : VV 49 h 27 [l0, l1, l2, l3] (.inl x :: .inr (1, i) :: st) Q ↔ vp_in x 20 ∧ VV 49 h 28 [l0, l1, l2, l3] (.inr (3, x.toNatClampNeg) :: st) Q := VV_aald rfl rfl
theorem xr_49_27_2 (h : AHp) (Q : Option Int32 → AHp → Prop) (l0 l1 l2 l3 : Option AV) (x : Int32) (i : Nat) (st : List AV) : VV 49 h 27 [l0, l1, l2, l3] (.inl x :: .inr (2, i) :: st) Q ↔ vp_in x 8 ∧ VV 49 h 28 [l0, l1, l2, l3] (.inr (4, x.toNatClampNeg) :: st) Q := VV_aald rfl rfl
theorem xr_49_28 (h : AHp) (Q : Option Int32 → AHp → Prop) (l0 l2 l3 : Option AV) (x : Int32) (st : List AV) : VV 49 h 28 [l0, some (.inl x), l2, l3] st Q ↔ VV 49 h 29 [l0, some (.inl x), l2, l3] (.inl x :: st) Q := VV_step rfl rfl rfl rfl
theorem xr_49_29 (h : AHp) (Q : Option Int32 → AHp → Prop) (l0 l1 l2 l3 : Option AV) (a0 : AV) (i : Nat) : VV 49 h 29 [l0, l1, l2, l3] [a0, .inr (4, i)] Q ↔ Vi 5 h [some (.inr (4, i)), some a0] (fun z h2 => VV 49 h2 32 [l0, l1, l2, l3] [.inl z] Q) := VV_calli (y := 5) (as := [.inr (4, i), a0]) (rest := []) rfl rfl rfl (ah_noV (y := 5) (by decide))
theorem xr_49_32 (h : AHp) (Q : Option Int32 → AHp → Prop) (l0 l1 l2 l3 : Option AV) (x : Int32) (st : List AV) : VV 49 h 32 [l0, l1, l2, l3] (.inl x :: st) Q ↔ (x = 0 → VV 49 h 50 [l0, l1, l2, l3] st Q) ∧ (¬ (x = 0) → VV 49 h 35 [l0, l1, l2, l3] st Q) := VV_br rfl rfl rfl decide_eq_true_iff
theorem xr_49_35 (h : AHp) (Q : Option Int32 → AHp → Prop) (l0 l1 l3 : Option AV) (x : Int32) (st : List AV) : VV 49 h 35 [l0, l1, some (.inl x), l3] st Q ↔ VV 49 h 36 [l0, l1, some (.inl x), l3] (.inl x :: st) Q := VV_step rfl rfl rfl rfl
theorem xr_49_36 (h : AHp) (Q : Option Int32 → AHp → Prop) (l1 l2 l3 : Option AV) (x : Nat × Nat) (st : List AV) : VV 49 h 36 [some (.inr x), l1, l2, l3] st Q ↔ VV 49 h 37 [some (.inr x), l1, l2, l3] (.inr x :: st) Q := VV_step rfl rfl rfl rfl
theorem xr_49_37 (h : AHp) (Q : Option Int32 → AHp → Prop) (l0 l1 l2 : Option AV) (x : Int32) (st : List AV) : VV 49 h 37 [l0, l1, l2, some (.inl x)] st Q ↔ VV 49 h 38 [l0, l1, l2, some (.inl x)] (.inl x :: st) Q := VV_step rfl rfl rfl rfl
theorem xr_49_38 (h : AHp) (Q : Option Int32 → AHp → Prop) (l0 l2 l3 : Option AV) (x : Int32) (st : List AV) : VV 49 h 38 [l0, some (.inl x), l2, l3] st Q ↔ VV 49 h 39 [l0, some (.inl x), l2, l3] (.inl x :: st) Q := VV_step rfl rfl rfl rfl
theorem xr_49_39 (h : AHp) (Q : Option Int32 → AHp → Prop) (l1 l2 l3 : Option AV) (x : Nat × Nat) (st : List AV) : VV 49 h 39 [some (.inr x), l1, l2, l3] st Q ↔ VV 49 h 40 [some (.inr x), l1, l2, l3] (.inr x :: st) Q := VV_step rfl rfl rfl rfl
theorem xr_49_40 (h : AHp) (Q : Option Int32 → AHp → Prop) (l0 l1 l2 : Option AV) (x : Int32) (st : List AV) : VV 49 h 40 [l0, l1, l2, some (.inl x)] st Q ↔ VV 49 h 41 [l0, l1, l2, some (.inl x)] (.inl x :: st) Q := VV_step rfl rfl rfl rfl
theorem xr_49_41 (h : AHp) (Q : Option Int32 → AHp → Prop) (l0 l2 l3 : Option AV) (x : Int32) (st : List AV) : VV 49 h 41 [l0, some (.inl x), l2, l3] st Q ↔ VV 49 h 42 [l0, some (.inl x), l2, l3] (.inl x :: st) Q := VV_step rfl rfl rfl rfl
theorem xr_49_42 (h : AHp) (Q : Option Int32 → AHp → Prop) (l0 l1 l2 l3 : Option AV) (a0 a1 r0 r1 r2 r3 : AV) (i : Nat) : VV 49 h 42 [l0, l1, l2, l3] [a1, a0, .inr (0, i), r0, r1, r2, r3] Q ↔ Vi 46 h [some (.inr (0, i)), some a0, some a1, none, none, none, none, none] (fun z h2 => VV 49 h2 45 [l0, l1, l2, l3] [.inl z, r0, r1, r2, r3] Q) := VV_calli (y := 46) (as := [.inr (0, i), a0, a1]) (rest := [r0, r1, r2, r3]) rfl rfl rfl (ah_noV (y := 46) (by decide))
theorem xr_49_45 (h : AHp) (Q : Option Int32 → AHp → Prop) (l0 l1 l2 l3 : Option AV) (a0 a1 a2 r0 : AV) (i : Nat) : VV 49 h 45 [l0, l1, l2, l3] [a2, a1, a0, .inr (0, i), r0] Q ↔ Vi 48 h [some (.inr (0, i)), some a0, some a1, some a2, none] (fun z h2 => VV 49 h2 48 [l0, l1, l2, l3] [.inl z, r0] Q) := VV_calli (y := 48) (as := [.inr (0, i), a0, a1, a2]) (rest := [r0]) rfl rfl rfl (ah_noV (y := 48) (by decide))
theorem xr_49_48 (h : AHp) (Q : Option Int32 → AHp → Prop) (l0 l1 l2 l3 : Option AV) (x y : Int32) (st : List AV) : VV 49 h 48 [l0, l1, l2, l3] (.inl y :: .inl x :: st) Q ↔ VV 49 h 49 [l0, l1, l2, l3] (.inl (x + y) :: st) Q := VV_step rfl rfl rfl rfl
theorem xr_49_49 (h : AHp) (Q : Option Int32 → AHp → Prop) (l0 l1 l2 l3 : Option AV) (x : Int32) (st : List AV) : VV 49 h 49 [l0, l1, l2, l3] (.inl x :: st) Q ↔ VV 49 h 50 [l0, l1, some (.inl x), l3] st Q := VV_step rfl rfl rfl rfl
theorem xr_49_50 (h : AHp) (Q : Option Int32 → AHp → Prop) (l0 l1 l2 : Option AV) (x : Int32) (st : List AV) : VV 49 h 50 [l0, l1, l2, some (.inl x)] st Q ↔ VV 49 h 53 [l0, l1, l2, some (.inl (x + (1 : Int32)))] st Q := VV_step rfl rfl rfl rfl
theorem xr_49_53 (h : AHp) (Q : Option Int32 → AHp → Prop) (l0 l1 l2 l3 : Option AV) (st : List AV) : VV 49 h 53 [l0, l1, l2, l3] st Q ↔ VV 49 h 14 [l0, l1, l2, l3] st Q := VV_step rfl rfl rfl rfl
theorem xr_49_56 (h : AHp) (Q : Option Int32 → AHp → Prop) (l0 l1 l3 : Option AV) (x : Int32) (st : List AV) : VV 49 h 56 [l0, l1, some (.inl x), l3] st Q ↔ VV 49 h 57 [l0, l1, some (.inl x), l3] (.inl x :: st) Q := VV_step rfl rfl rfl rfl
theorem xr_49_57 (h : AHp) (Q : Option Int32 → AHp → Prop) (l0 l1 l2 l3 : Option AV) (x : Int32) : VV 49 h 57 [l0, l1, l2, l3] [.inl x] Q ↔ Q (some x) h := VV_end rfl rfl
theorem xr_50_0 (h : AHp) (Q : Option Int32 → AHp → Prop) (l1 l2 l3 l4 : Option AV) (x : Nat × Nat) (st : List AV) : VV 50 h 0 [some (.inr x), l1, l2, l3, l4] st Q ↔ VV 50 h 1 [some (.inr x), l1, l2, l3, l4] (.inr x :: st) Q := VV_step rfl rfl rfl rfl
theorem xr_50_1 (h : AHp) (Q : Option Int32 → AHp → Prop) (l0 l2 l3 l4 : Option AV) (x : Int32) (st : List AV) : VV 50 h 1 [l0, some (.inl x), l2, l3, l4] st Q ↔ VV 50 h 2 [l0, some (.inl x), l2, l3, l4] (.inl x :: st) Q := VV_step rfl rfl rfl rfl
theorem xr_50_2 (h : AHp) (Q : Option Int32 → AHp → Prop) (l0 l1 l2 l3 l4 : Option AV) (a0 : AV) (i : Nat) : VV 50 h 2 [l0, l1, l2, l3, l4] [a0, .inr (0, i)] Q ↔ Vi 18 h [some (.inr (0, i)), some a0] (fun z h2 => VV 50 h2 5 [l0, l1, l2, l3, l4] [.inl z] Q) := VV_calli (y := 18) (as := [.inr (0, i), a0]) (rest := []) rfl rfl rfl (ah_noV (y := 18) (by decide))
theorem xr_50_5 (h : AHp) (Q : Option Int32 → AHp → Prop) (l0 l1 l2 l3 l4 : Option AV) (x : Int32) (st : List AV) : VV 50 h 5 [l0, l1, l2, l3, l4] (.inl x :: st) Q ↔ (x = 0 → VV 50 h 16 [l0, l1, l2, l3, l4] st Q) ∧ (¬ (x = 0) → VV 50 h 8 [l0, l1, l2, l3, l4] st Q) := VV_br rfl rfl rfl decide_eq_true_iff
theorem xr_50_8 (h : AHp) (Q : Option Int32 → AHp → Prop) (l1 l2 l3 l4 : Option AV) (x : Nat × Nat) (st : List AV) : VV 50 h 8 [some (.inr x), l1, l2, l3, l4] st Q ↔ VV 50 h 9 [some (.inr x), l1, l2, l3, l4] (.inr x :: st) Q := VV_step rfl rfl rfl rfl
theorem xr_50_9 (h : AHp) (Q : Option Int32 → AHp → Prop) (l0 l1 l3 l4 : Option AV) (x : Int32) (st : List AV) : VV 50 h 9 [l0, l1, some (.inl x), l3, l4] st Q ↔ VV 50 h 10 [l0, l1, some (.inl x), l3, l4] (.inl x :: st) Q := VV_step rfl rfl rfl rfl
theorem xr_50_10 (h : AHp) (Q : Option Int32 → AHp → Prop) (l0 l1 l2 l3 l4 : Option AV) (a0 : AV) (i : Nat) : VV 50 h 10 [l0, l1, l2, l3, l4] [a0, .inr (0, i)] Q ↔ Vi 18 h [some (.inr (0, i)), some a0] (fun z h2 => VV 50 h2 13 [l0, l1, l2, l3, l4] [.inl z] Q) := VV_calli (y := 18) (as := [.inr (0, i), a0]) (rest := []) rfl rfl rfl (ah_noV (y := 18) (by decide))
theorem xr_50_13 (h : AHp) (Q : Option Int32 → AHp → Prop) (l0 l1 l2 l3 l4 : Option AV) (x : Int32) (st : List AV) : VV 50 h 13 [l0, l1, l2, l3, l4] (.inl x :: st) Q ↔ (¬ x = 0 → VV 50 h 18 [l0, l1, l2, l3, l4] st Q) ∧ (¬ (¬ x = 0) → VV 50 h 16 [l0, l1, l2, l3, l4] st Q) := VV_br rfl rfl rfl decide_eq_true_iff
theorem xr_50_16 (h : AHp) (Q : Option Int32 → AHp → Prop) (l0 l1 l2 l3 l4 : Option AV) (st : List AV) : VV 50 h 16 [l0, l1, l2, l3, l4] st Q ↔ VV 50 h 17 [l0, l1, l2, l3, l4] (.inl (-1 : Int32) :: st) Q := VV_step rfl rfl rfl rfl
theorem xr_50_17 (h : AHp) (Q : Option Int32 → AHp → Prop) (l0 l1 l2 l3 l4 : Option AV) (x : Int32) : VV 50 h 17 [l0, l1, l2, l3, l4] [.inl x] Q ↔ Q (some x) h := VV_end rfl rfl
theorem xr_50_18 (h : AHp) (Q : Option Int32 → AHp → Prop) (l0 l1 l2 l3 l4 : Option AV) (st : List AV) : VV 50 h 18 [l0, l1, l2, l3, l4] st Q ↔ VV 50 h 19 [l0, l1, l2, l3, l4] (.inl (0 : Int32) :: st) Q := VV_step rfl rfl rfl rfl
theorem xr_50_19 (h : AHp) (Q : Option Int32 → AHp → Prop) (l0 l1 l2 l3 l4 : Option AV) (x : Int32) (st : List AV) : VV 50 h 19 [l0, l1, l2, l3, l4] (.inl x :: st) Q ↔ VV 50 h 20 [l0, l1, l2, some (.inl x), l4] st Q := VV_step rfl rfl rfl rfl
theorem xr_50_20 (h : AHp) (Q : Option Int32 → AHp → Prop) (l0 l1 l2 l3 l4 : Option AV) (st : List AV) : VV 50 h 20 [l0, l1, l2, l3, l4] st Q ↔ VV 50 h 21 [l0, l1, l2, l3, l4] (.inl (0 : Int32) :: st) Q := VV_step rfl rfl rfl rfl
theorem xr_50_21 (h : AHp) (Q : Option Int32 → AHp → Prop) (l0 l1 l2 l3 l4 : Option AV) (x : Int32) (st : List AV) : VV 50 h 21 [l0, l1, l2, l3, l4] (.inl x :: st) Q ↔ VV 50 h 23 [l0, l1, l2, l3, some (.inl x)] st Q := VV_step rfl rfl rfl rfl
theorem xr_50_23 (h : AHp) (Q : Option Int32 → AHp → Prop) (l0 l1 l2 l3 : Option AV) (x : Int32) (st : List AV) : VV 50 h 23 [l0, l1, l2, l3, some (.inl x)] st Q ↔ VV 50 h 25 [l0, l1, l2, l3, some (.inl x)] (.inl x :: st) Q := VV_step rfl rfl rfl rfl
theorem xr_50_25 (h : AHp) (Q : Option Int32 → AHp → Prop) (l1 l2 l3 l4 : Option AV) (x : Nat × Nat) (st : List AV) : VV 50 h 25 [some (.inr x), l1, l2, l3, l4] st Q ↔ VV 50 h 26 [some (.inr x), l1, l2, l3, l4] (.inr x :: st) Q := VV_step rfl rfl rfl rfl
theorem xr_50_26 (h : AHp) (Q : Option Int32 → AHp → Prop) (l0 l1 l2 l3 l4 : Option AV) (i : Nat) (st : List AV) : VV 50 h 26 [l0, l1, l2, l3, l4] (.inr (0, i) :: st) Q ↔ VV 50 h 29 [l0, l1, l2, l3, l4] (.inl (h 0 i 2) :: st) Q := VV_step rfl rfl rfl rfl
theorem xr_50_29 (h : AHp) (Q : Option Int32 → AHp → Prop) (l0 l1 l2 l3 l4 : Option AV) (x y : Int32) (st : List AV) : VV 50 h 29 [l0, l1, l2, l3, l4] (.inl y :: .inl x :: st) Q ↔ (y ≤ x → VV 50 h 82 [l0, l1, l2, l3, l4] st Q) ∧ (¬ (y ≤ x) → VV 50 h 32 [l0, l1, l2, l3, l4] st Q) := VV_br2 rfl rfl rfl decide_eq_true_iff
theorem xr_50_32 (h : AHp) (Q : Option Int32 → AHp → Prop) (l1 l2 l3 l4 : Option AV) (x : Nat × Nat) (st : List AV) : VV 50 h 32 [some (.inr x), l1, l2, l3, l4] st Q ↔ VV 50 h 33 [some (.inr x), l1, l2, l3, l4] (.inr x :: st) Q := VV_step rfl rfl rfl rfl
theorem xr_50_33 (h : AHp) (Q : Option Int32 → AHp → Prop) (l0 l1 l2 l3 l4 : Option AV) (i : Nat) (st : List AV) : VV 50 h 33 [l0, l1, l2, l3, l4] (.inr (0, i) :: st) Q ↔ VV 50 h 36 [l0, l1, l2, l3, l4] (.inr (2, i) :: st) Q := VV_step rfl rfl rfl rfl
theorem xr_50_36 (h : AHp) (Q : Option Int32 → AHp → Prop) (l0 l2 l3 l4 : Option AV) (x : Int32) (st : List AV) : VV 50 h 36 [l0, some (.inl x), l2, l3, l4] st Q ↔ VV 50 h 37 [l0, some (.inl x), l2, l3, l4] (.inl x :: st) Q := VV_step rfl rfl rfl rfl
theorem xr_50_37_1 (h : AHp) (Q : Option Int32 → AHp → Prop) (l0 l1 l2 l3 l4 : Option AV) (x : Int32) (i : Nat) (st : List AV) : VV 50 h 37 [l0, l1, l2, l3, l4] (.inl x :: .inr (1, i) :: st) Q ↔ vp_in x 20 ∧ VV 50 h 38 [l0, l1, l2, l3, l4] (.inr (3, x.toNatClampNeg) :: st) Q := VV_aald rfl rfl
theorem xr_50_37_2 (h : AHp) (Q : Option Int32 → AHp → Prop) (l0 l1 l2 l3 l4 : Option AV) (x : Int32) (i : Nat) (st : List AV) : VV 50 h 37 [l0, l1, l2, l3, l4] (.inl x :: .inr (2, i) :: st) Q ↔ vp_in x 8 ∧ VV 50 h 38 [l0, l1, l2, l3, l4] (.inr (4, x.toNatClampNeg) :: st) Q := VV_aald rfl rfl
theorem xr_50_38 (h : AHp) (Q : Option Int32 → AHp → Prop) (l0 l1 l2 l3 : Option AV) (x : Int32) (st : List AV) : VV 50 h 38 [l0, l1, l2, l3, some (.inl x)] st Q ↔ VV 50 h 40 [l0, l1, l2, l3, some (.inl x)] (.inl x :: st) Q := VV_step rfl rfl rfl rfl
theorem xr_50_40 (h : AHp) (Q : Option Int32 → AHp → Prop) (l0 l1 l2 l3 l4 : Option AV) (a0 : AV) (i : Nat) : VV 50 h 40 [l0, l1, l2, l3, l4] [a0, .inr (4, i)] Q ↔ Vi 5 h [some (.inr (4, i)), some a0] (fun z h2 => VV 50 h2 43 [l0, l1, l2, l3, l4] [.inl z] Q) := VV_calli (y := 5) (as := [.inr (4, i), a0]) (rest := []) rfl rfl rfl (ah_noV (y := 5) (by decide))
theorem xr_50_43 (h : AHp) (Q : Option Int32 → AHp → Prop) (l0 l1 l2 l3 l4 : Option AV) (x : Int32) (st : List AV) : VV 50 h 43 [l0, l1, l2, l3, l4] (.inl x :: st) Q ↔ (x = 0 → VV 50 h 76 [l0, l1, l2, l3, l4] st Q) ∧ (¬ (x = 0) → VV 50 h 46 [l0, l1, l2, l3, l4] st Q) := VV_br rfl rfl rfl decide_eq_true_iff
theorem xr_50_46 (h : AHp) (Q : Option Int32 → AHp → Prop) (l1 l2 l3 l4 : Option AV) (x : Nat × Nat) (st : List AV) : VV 50 h 46 [some (.inr x), l1, l2, l3, l4] st Q ↔ VV 50 h 47 [some (.inr x), l1, l2, l3, l4] (.inr x :: st) Q := VV_step rfl rfl rfl rfl
theorem xr_50_47 (h : AHp) (Q : Option Int32 → AHp → Prop) (l0 l1 l2 l3 l4 : Option AV) (i : Nat) (st : List AV) : VV 50 h 47 [l0, l1, l2, l3, l4] (.inr (0, i) :: st) Q ↔ VV 50 h 50 [l0, l1, l2, l3, l4] (.inr (2, i) :: st) Q := VV_step rfl rfl rfl rfl
theorem xr_50_50 (h : AHp) (Q : Option Int32 → AHp → Prop) (l0 l2 l3 l4 : Option AV) (x : Int32) (st : List AV) : VV 50 h 50 [l0, some (.inl x), l2, l3, l4] st Q ↔ VV 50 h 51 [l0, some (.inl x), l2, l3, l4] (.inl x :: st) Q := VV_step rfl rfl rfl rfl
theorem xr_50_51_1 (h : AHp) (Q : Option Int32 → AHp → Prop) (l0 l1 l2 l3 l4 : Option AV) (x : Int32) (i : Nat) (st : List AV) : VV 50 h 51 [l0, l1, l2, l3, l4] (.inl x :: .inr (1, i) :: st) Q ↔ vp_in x 20 ∧ VV 50 h 52 [l0, l1, l2, l3, l4] (.inr (3, x.toNatClampNeg) :: st) Q := VV_aald rfl rfl
theorem xr_50_51_2 (h : AHp) (Q : Option Int32 → AHp → Prop) (l0 l1 l2 l3 l4 : Option AV) (x : Int32) (i : Nat) (st : List AV) : VV 50 h 51 [l0, l1, l2, l3, l4] (.inl x :: .inr (2, i) :: st) Q ↔ vp_in x 8 ∧ VV 50 h 52 [l0, l1, l2, l3, l4] (.inr (4, x.toNatClampNeg) :: st) Q := VV_aald rfl rfl
theorem xr_50_52 (h : AHp) (Q : Option Int32 → AHp → Prop) (l0 l1 l2 l3 l4 : Option AV) (i : Nat) (st : List AV) : VV 50 h 52 [l0, l1, l2, l3, l4] (.inr (4, i) :: st) Q ↔ VV 50 h 55 [l0, l1, l2, l3, l4] (.inr (7, i) :: st) Q := VV_step rfl rfl rfl rfl
theorem xr_50_55 (h : AHp) (Q : Option Int32 → AHp → Prop) (l0 l1 l2 l3 : Option AV) (x : Int32) (st : List AV) : VV 50 h 55 [l0, l1, l2, l3, some (.inl x)] st Q ↔ VV 50 h 57 [l0, l1, l2, l3, some (.inl x)] (.inl x :: st) Q := VV_step rfl rfl rfl rfl
theorem xr_50_57 (h : AHp) (Q : Option Int32 → AHp → Prop) (l0 l1 l2 l3 l4 : Option AV) (x : Int32) (k i : Nat) (st : List AV) : VV 50 h 57 [l0, l1, l2, l3, l4] (.inl x :: .inr (k, i) :: st) Q ↔ ix_i k x ∧ VV 50 h 58 [l0, l1, l2, l3, l4] (.inl (h k i x.toNatClampNeg) :: st) Q := VV_iald rfl
theorem xr_50_58 (h : AHp) (Q : Option Int32 → AHp → Prop) (l1 l2 l3 l4 : Option AV) (x : Nat × Nat) (st : List AV) : VV 50 h 58 [some (.inr x), l1, l2, l3, l4] st Q ↔ VV 50 h 59 [some (.inr x), l1, l2, l3, l4] (.inr x :: st) Q := VV_step rfl rfl rfl rfl
theorem xr_50_59 (h : AHp) (Q : Option Int32 → AHp → Prop) (l0 l1 l2 l3 l4 : Option AV) (i : Nat) (st : List AV) : VV 50 h 59 [l0, l1, l2, l3, l4] (.inr (0, i) :: st) Q ↔ VV 50 h 62 [l0, l1, l2, l3, l4] (.inr (2, i) :: st) Q := VV_step rfl rfl rfl rfl
theorem xr_50_62 (h : AHp) (Q : Option Int32 → AHp → Prop) (l0 l1 l3 l4 : Option AV) (x : Int32) (st : List AV) : VV 50 h 62 [l0, l1, some (.inl x), l3, l4] st Q ↔ VV 50 h 63 [l0, l1, some (.inl x), l3, l4] (.inl x :: st) Q := VV_step rfl rfl rfl rfl
theorem xr_50_63_1 (h : AHp) (Q : Option Int32 → AHp → Prop) (l0 l1 l2 l3 l4 : Option AV) (x : Int32) (i : Nat) (st : List AV) : VV 50 h 63 [l0, l1, l2, l3, l4] (.inl x :: .inr (1, i) :: st) Q ↔ vp_in x 20 ∧ VV 50 h 64 [l0, l1, l2, l3, l4] (.inr (3, x.toNatClampNeg) :: st) Q := VV_aald rfl rfl
theorem xr_50_63_2 (h : AHp) (Q : Option Int32 → AHp → Prop) (l0 l1 l2 l3 l4 : Option AV) (x : Int32) (i : Nat) (st : List AV) : VV 50 h 63 [l0, l1, l2, l3, l4] (.inl x :: .inr (2, i) :: st) Q ↔ vp_in x 8 ∧ VV 50 h 64 [l0, l1, l2, l3, l4] (.inr (4, x.toNatClampNeg) :: st) Q := VV_aald rfl rfl
theorem xr_50_64 (h : AHp) (Q : Option Int32 → AHp → Prop) (l0 l1 l2 l3 l4 : Option AV) (i : Nat) (st : List AV) : VV 50 h 64 [l0, l1, l2, l3, l4] (.inr (4, i) :: st) Q ↔ VV 50 h 67 [l0, l1, l2, l3, l4] (.inr (7, i) :: st) Q := VV_step rfl rfl rfl rfl
theorem xr_50_67 (h : AHp) (Q : Option Int32 → AHp → Prop) (l0 l1 l2 l3 : Option AV) (x : Int32) (st : List AV) : VV 50 h 67 [l0, l1, l2, l3, some (.inl x)] st Q ↔ VV 50 h 69 [l0, l1, l2, l3, some (.inl x)] (.inl x :: st) Q := VV_step rfl rfl rfl rfl
theorem xr_50_69 (h : AHp) (Q : Option Int32 → AHp → Prop) (l0 l1 l2 l3 l4 : Option AV) (x : Int32) (k i : Nat) (st : List AV) : VV 50 h 69 [l0, l1, l2, l3, l4] (.inl x :: .inr (k, i) :: st) Q ↔ ix_i k x ∧ VV 50 h 70 [l0, l1, l2, l3, l4] (.inl (h k i x.toNatClampNeg) :: st) Q := VV_iald rfl
theorem xr_50_70 (h : AHp) (Q : Option Int32 → AHp → Prop) (l0 l1 l2 l3 l4 : Option AV) (x y : Int32) (st : List AV) : VV 50 h 70 [l0, l1, l2, l3, l4] (.inl y :: .inl x :: st) Q ↔ (¬ x = y → VV 50 h 76 [l0, l1, l2, l3, l4] st Q) ∧ (¬ (¬ x = y) → VV 50 h 73 [l0, l1, l2, l3, l4] st Q) := VV_br2 rfl rfl rfl decide_eq_true_iff
theorem xr_50_73 (h : AHp) (Q : Option Int32 → AHp → Prop) (l0 l1 l2 l4 : Option AV) (x : Int32) (st : List AV) : VV 50 h 73 [l0, l1, l2, some (.inl x), l4] st Q ↔ VV 50 h 76 [l0, l1, l2, some (.inl (x + (1 : Int32))), l4] st Q := VV_step rfl rfl rfl rfl
theorem xr_50_76 (h : AHp) (Q : Option Int32 → AHp → Prop) (l0 l1 l2 l3 : Option AV) (x : Int32) (st : List AV) : VV 50 h 76 [l0, l1, l2, l3, some (.inl x)] st Q ↔ VV 50 h 79 [l0, l1, l2, l3, some (.inl (x + (1 : Int32)))] st Q := VV_step rfl rfl rfl rfl
theorem xr_50_79 (h : AHp) (Q : Option Int32 → AHp → Prop) (l0 l1 l2 l3 l4 : Option AV) (st : List AV) : VV 50 h 79 [l0, l1, l2, l3, l4] st Q ↔ VV 50 h 23 [l0, l1, l2, l3, l4] st Q := VV_step rfl rfl rfl rfl
theorem xr_50_82 (h : AHp) (Q : Option Int32 → AHp → Prop) (l0 l1 l2 l4 : Option AV) (x : Int32) (st : List AV) : VV 50 h 82 [l0, l1, l2, some (.inl x), l4] st Q ↔ VV 50 h 83 [l0, l1, l2, some (.inl x), l4] (.inl x :: st) Q := VV_step rfl rfl rfl rfl
theorem xr_50_83 (h : AHp) (Q : Option Int32 → AHp → Prop) (l0 l1 l2 l3 l4 : Option AV) (x : Int32) : VV 50 h 83 [l0, l1, l2, l3, l4] [.inl x] Q ↔ Q (some x) h := VV_end rfl rfl
theorem xr_51_0 (h : AHp) (Q : Option Int32 → AHp → Prop) (l1 : Option AV) (x : Nat × Nat) (st : List AV) : VV 51 h 0 [some (.inr x), l1] st Q ↔ VV 51 h 1 [some (.inr x), l1] (.inr x :: st) Q := VV_step rfl rfl rfl rfl
theorem xr_51_1 (h : AHp) (Q : Option Int32 → AHp → Prop) (l0 : Option AV) (x : Nat × Nat) (st : List AV) : VV 51 h 1 [l0, some (.inr x)] st Q ↔ VV 51 h 2 [l0, some (.inr x)] (.inr x :: st) Q := VV_step rfl rfl rfl rfl
theorem xr_51_2 (h : AHp) (Q : Option Int32 → AHp → Prop) (l0 l1 : Option AV) (a0 : AV) (i : Nat) : VV 51 h 2 [l0, l1] [a0, .inr (0, i)] Q ↔ Vi 26 h [some (.inr (0, i)), some a0] (fun z h2 => VV 51 h2 5 [l0, l1] [.inl z] Q) := VV_calli (y := 26) (as := [.inr (0, i), a0]) (rest := []) rfl rfl rfl (ah_noV (y := 26) (by decide))
theorem xr_51_5 (h : AHp) (Q : Option Int32 → AHp → Prop) (l0 l1 : Option AV) (x : Int32) (st : List AV) : VV 51 h 5 [l0, l1] (.inl x :: st) Q ↔ (x = 0 → VV 51 h 10 [l0, l1] st Q) ∧ (¬ (x = 0) → VV 51 h 8 [l0, l1] st Q) := VV_br rfl rfl rfl decide_eq_true_iff
theorem xr_51_8 (h : AHp) (Q : Option Int32 → AHp → Prop) (l0 l1 : Option AV) (st : List AV) : VV 51 h 8 [l0, l1] st Q ↔ VV 51 h 9 [l0, l1] (.inl (2 : Int32) :: st) Q := VV_step rfl rfl rfl rfl
theorem xr_51_9 (h : AHp) (Q : Option Int32 → AHp → Prop) (l0 l1 : Option AV) (x : Int32) : VV 51 h 9 [l0, l1] [.inl x] Q ↔ Q (some x) h := VV_end rfl rfl
theorem xr_51_10 (h : AHp) (Q : Option Int32 → AHp → Prop) (l0 : Option AV) (x : Nat × Nat) (st : List AV) : VV 51 h 10 [l0, some (.inr x)] st Q ↔ VV 51 h 11 [l0, some (.inr x)] (.inr x :: st) Q := VV_step rfl rfl rfl rfl
theorem xr_51_11 (h : AHp) (Q : Option Int32 → AHp → Prop) (l0 l1 : Option AV) (i : Nat) : VV 51 h 11 [l0, l1] [.inr (4, i)] Q ↔ Vi 4 h [some (.inr (4, i))] (fun z h2 => VV 51 h2 14 [l0, l1] [.inl z] Q) := VV_calli (y := 4) (as := [.inr (4, i)]) (rest := []) rfl rfl rfl (ah_noV (y := 4) (by decide))
theorem xr_51_14 (h : AHp) (Q : Option Int32 → AHp → Prop) (l0 l1 : Option AV) (x : Int32) (st : List AV) : VV 51 h 14 [l0, l1] (.inl x :: st) Q ↔ (x = 0 → VV 51 h 21 [l0, l1] st Q) ∧ (¬ (x = 0) → VV 51 h 17 [l0, l1] st Q) := VV_br rfl rfl rfl decide_eq_true_iff
theorem xr_51_17 (h : AHp) (Q : Option Int32 → AHp → Prop) (l0 l1 : Option AV) (st : List AV) : VV 51 h 17 [l0, l1] st Q ↔ VV 51 h 18 [l0, l1] (.inl (0 : Int32) :: st) Q := VV_step rfl rfl rfl rfl
theorem xr_51_18 (h : AHp) (Q : Option Int32 → AHp → Prop) (l0 l1 : Option AV) (st : List AV) : VV 51 h 18 [l0, l1] st Q ↔ VV 51 h 22 [l0, l1] st Q := VV_step rfl rfl rfl rfl
theorem xr_51_21 (h : AHp) (Q : Option Int32 → AHp → Prop) (l0 l1 : Option AV) (st : List AV) : VV 51 h 21 [l0, l1] st Q ↔ VV 51 h 22 [l0, l1] (.inl (1 : Int32) :: st) Q := VV_step rfl rfl rfl rfl
theorem xr_51_22 (h : AHp) (Q : Option Int32 → AHp → Prop) (l0 l1 : Option AV) (x : Int32) : VV 51 h 22 [l0, l1] [.inl x] Q ↔ Q (some x) h := VV_end rfl rfl
theorem xr_52_0 (h : AHp) (Q : Option Int32 → AHp → Prop) (l1 l2 l3 : Option AV) (x : Nat × Nat) (st : List AV) : VV 52 h 0 [some (.inr x), l1, l2, l3] st Q ↔ VV 52 h 1 [some (.inr x), l1, l2, l3] (.inr x :: st) Q := VV_step rfl rfl rfl rfl
theorem xr_52_1 (h : AHp) (Q : Option Int32 → AHp → Prop) (l0 l2 l3 : Option AV) (x : Int32) (st : List AV) : VV 52 h 1 [l0, some (.inl x), l2, l3] st Q ↔ VV 52 h 2 [l0, some (.inl x), l2, l3] (.inl x :: st) Q := VV_step rfl rfl rfl rfl
theorem xr_52_2 (h : AHp) (Q : Option Int32 → AHp → Prop) (l0 l1 l2 l3 : Option AV) (a0 : AV) (i : Nat) : VV 52 h 2 [l0, l1, l2, l3] [a0, .inr (0, i)] Q ↔ Vi 18 h [some (.inr (0, i)), some a0] (fun z h2 => VV 52 h2 5 [l0, l1, l2, l3] [.inl z] Q) := VV_calli (y := 18) (as := [.inr (0, i), a0]) (rest := []) rfl rfl rfl (ah_noV (y := 18) (by decide))
theorem xr_52_5 (h : AHp) (Q : Option Int32 → AHp → Prop) (l0 l1 l2 l3 : Option AV) (x : Int32) (st : List AV) : VV 52 h 5 [l0, l1, l2, l3] (.inl x :: st) Q ↔ (¬ x = 0 → VV 52 h 18 [l0, l1, l2, l3] st Q) ∧ (¬ (¬ x = 0) → VV 52 h 8 [l0, l1, l2, l3] st Q) := VV_br rfl rfl rfl decide_eq_true_iff
theorem xr_52_18 (h : AHp) (Q : Option Int32 → AHp → Prop) (l1 l2 l3 : Option AV) (x : Nat × Nat) (st : List AV) : VV 52 h 18 [some (.inr x), l1, l2, l3] st Q ↔ VV 52 h 19 [some (.inr x), l1, l2, l3] (.inr x :: st) Q := VV_step rfl rfl rfl rfl
theorem xr_52_19 (h : AHp) (Q : Option Int32 → AHp → Prop) (l0 l1 l2 l3 : Option AV) (i : Nat) (st : List AV) : VV 52 h 19 [l0, l1, l2, l3] (.inr (0, i) :: st) Q ↔ VV 52 h 22 [l0, l1, l2, l3] (.inr (2, i) :: st) Q := VV_step rfl rfl rfl rfl
theorem xr_52_22 (h : AHp) (Q : Option Int32 → AHp → Prop) (l0 l2 l3 : Option AV) (x : Int32) (st : List AV) : VV 52 h 22 [l0, some (.inl x), l2, l3] st Q ↔ VV 52 h 23 [l0, some (.inl x), l2, l3] (.inl x :: st) Q := VV_step rfl rfl rfl rfl
theorem xr_52_23_1 (h : AHp) (Q : Option Int32 → AHp → Prop) (l0 l1 l2 l3 : Option AV) (x : Int32) (i : Nat) (st : List AV) : VV 52 h 23 [l0, l1, l2, l3] (.inl x :: .inr (1, i) :: st) Q ↔ vp_in x 20 ∧ VV 52 h 24 [l0, l1, l2, l3] (.inr (3, x.toNatClampNeg) :: st) Q := VV_aald rfl rfl
theorem xr_52_23_2 (h : AHp) (Q : Option Int32 → AHp → Prop) (l0 l1 l2 l3 : Option AV) (x : Int32) (i : Nat) (st : List AV) : VV 52 h 23 [l0, l1, l2, l3] (.inl x :: .inr (2, i) :: st) Q ↔ vp_in x 8 ∧ VV 52 h 24 [l0, l1, l2, l3] (.inr (4, x.toNatClampNeg) :: st) Q := VV_aald rfl rfl
theorem xr_52_24 (h : AHp) (Q : Option Int32 → AHp → Prop) (l0 l1 l2 l3 : Option AV) (x : Nat × Nat) (st : List AV) : VV 52 h 24 [l0, l1, l2, l3] (.inr x :: st) Q ↔ VV 52 h 25 [l0, l1, l2, some (.inr x)] st Q := VV_step rfl rfl rfl rfl
theorem xr_52_25 (h : AHp) (Q : Option Int32 → AHp → Prop) (l0 l1 l3 : Option AV) (x : Int32) (st : List AV) : VV 52 h 25 [l0, l1, some (.inl x), l3] st Q ↔ VV 52 h 26 [l0, l1, some (.inl x), l3] (.inl x :: st) Q := VV_step rfl rfl rfl rfl
theorem xr_52_26_0 (h : AHp) (Q : Option Int32 → AHp → Prop) (l0 l1 l2 l3 : Option AV) (st : List AV) : VV 52 h 26 [l0, l1, l2, l3] (.inl (0 : Int32) :: st) Q ↔ VV 52 h 60 [l0, l1, l2, l3] st Q := VV_tsw rfl rfl rfl rfl
theorem xr_52_26_1 (h : AHp) (Q : Option Int32 → AHp → Prop) (l0 l1 l2 l3 : Option AV) (st : List AV) : VV 52 h 26 [l0, l1, l2, l3] (.inl (1 : Int32) :: st) Q ↔ VV 52 h 65 [l0, l1, l2, l3] st Q := VV_tsw rfl rfl rfl rfl
theorem xr_52_26_2 (h : AHp) (Q : Option Int32 → AHp → Prop) (l0 l1 l2 l3 : Option AV) (st : List AV) : VV 52 h 26 [l0, l1, l2, l3] (.inl (2 : Int32) :: st) Q ↔ VV 52 h 71 [l0, l1, l2, l3] st Q := VV_tsw rfl rfl rfl rfl
theorem xr_52_26_3 (h : AHp) (Q : Option Int32 → AHp → Prop) (l0 l1 l2 l3 : Option AV) (st : List AV) : VV 52 h 26 [l0, l1, l2, l3] (.inl (3 : Int32) :: st) Q ↔ VV 52 h 76 [l0, l1, l2, l3] st Q := VV_tsw rfl rfl rfl rfl
theorem xr_52_26_4 (h : AHp) (Q : Option Int32 → AHp → Prop) (l0 l1 l2 l3 : Option AV) (st : List AV) : VV 52 h 26 [l0, l1, l2, l3] (.inl (4 : Int32) :: st) Q ↔ VV 52 h 81 [l0, l1, l2, l3] st Q := VV_tsw rfl rfl rfl rfl
theorem xr_52_26_d (h : AHp) (Q : Option Int32 → AHp → Prop) (l0 l1 l2 l3 : Option AV) (st : List AV) (x : Int32) (hx : x.toInt < 0 ∨ 4 < x.toInt) : VV 52 h 26 [l0, l1, l2, l3] (.inl x :: st) Q ↔ VV 52 h 98 [l0, l1, l2, l3] st Q := VV_tsw rfl (if_pos hx) rfl rfl
theorem xr_52_60 (h : AHp) (Q : Option Int32 → AHp → Prop) (l0 l1 l2 : Option AV) (x : Nat × Nat) (st : List AV) : VV 52 h 60 [l0, l1, l2, some (.inr x)] st Q ↔ VV 52 h 61 [l0, l1, l2, some (.inr x)] (.inr x :: st) Q := VV_step rfl rfl rfl rfl
theorem xr_52_61 (h : AHp) (Q : Option Int32 → AHp → Prop) (l0 l1 l2 l3 : Option AV) (i : Nat) (st : List AV) : VV 52 h 61 [l0, l1, l2, l3] (.inr (4, i) :: st) Q ↔ VV 52 h 64 [l0, l1, l2, l3] (.inl (h 4 i 5) :: st) Q := VV_step rfl rfl rfl rfl
theorem xr_52_64 (h : AHp) (Q : Option Int32 → AHp → Prop) (l0 l1 l2 l3 : Option AV) (x : Int32) : VV 52 h 64 [l0, l1, l2, l3] [.inl x] Q ↔ Q (some x) h := VV_end rfl rfl
theorem xr_52_65 (h : AHp) (Q : Option Int32 → AHp → Prop) (l1 l2 l3 : Option AV) (x : Nat × Nat) (st : List AV) : VV 52 h 65 [some (.inr x), l1, l2, l3] st Q ↔ VV 52 h 66 [some (.inr x), l1, l2, l3] (.inr x :: st) Q := VV_step rfl rfl rfl rfl
theorem xr_52_66 (h : AHp) (Q : Option Int32 → AHp → Prop) (l0 l1 l2 : Option AV) (x : Nat × Nat) (st : List AV) : VV 52 h 66 [l0, l1, l2, some (.inr x)] st Q ↔ VV 52 h 67 [l0, l1, l2, some (.inr x)] (.inr x :: st) Q := VV_step rfl rfl rfl rfl
theorem xr_52_67 (h : AHp) (Q : Option Int32 → AHp → Prop) (l0 l1 l2 l3 : Option AV) (a0 : AV) (i : Nat) : VV 52 h 67 [l0, l1, l2, l3] [a0, .inr (0, i)] Q ↔ Vi 51 h [some (.inr (0, i)), some a0] (fun z h2 => VV 52 h2 70 [l0, l1, l2, l3] [.inl z] Q) := VV_calli (y := 51) (as := [.inr (0, i), a0]) (rest := []) rfl rfl rfl (ah_noV (y := 51) (by decide))
theorem xr_52_70 (h : AHp) (Q : Option Int32 → AHp → Prop) (l0 l1 l2 l3 : Option AV) (x : Int32) : VV 52 h 70 [l0, l1, l2, l3] [.inl x] Q ↔ Q (some x) h := VV_end rfl rfl
theorem xr_52_71 (h : AHp) (Q : Option Int32 → AHp → Prop) (l0 l1 l2 : Option AV) (x : Nat × Nat) (st : List AV) : VV 52 h 71 [l0, l1, l2, some (.inr x)] st Q ↔ VV 52 h 72 [l0, l1, l2, some (.inr x)] (.inr x :: st) Q := VV_step rfl rfl rfl rfl
theorem xr_52_72 (h : AHp) (Q : Option Int32 → AHp → Prop) (l0 l1 l2 l3 : Option AV) (i : Nat) (st : List AV) : VV 52 h 72 [l0, l1, l2, l3] (.inr (4, i) :: st) Q ↔ VV 52 h 75 [l0, l1, l2, l3] (.inl (h 4 i 8) :: st) Q := VV_step rfl rfl rfl rfl
theorem xr_52_75 (h : AHp) (Q : Option Int32 → AHp → Prop) (l0 l1 l2 l3 : Option AV) (x : Int32) : VV 52 h 75 [l0, l1, l2, l3] [.inl x] Q ↔ Q (some x) h := VV_end rfl rfl
theorem xr_52_76 (h : AHp) (Q : Option Int32 → AHp → Prop) (l0 l1 l2 : Option AV) (x : Nat × Nat) (st : List AV) : VV 52 h 76 [l0, l1, l2, some (.inr x)] st Q ↔ VV 52 h 77 [l0, l1, l2, some (.inr x)] (.inr x :: st) Q := VV_step rfl rfl rfl rfl
theorem xr_52_77 (h : AHp) (Q : Option Int32 → AHp → Prop) (l0 l1 l2 l3 : Option AV) (i : Nat) (st : List AV) : VV 52 h 77 [l0, l1, l2, l3] (.inr (4, i) :: st) Q ↔ VV 52 h 80 [l0, l1, l2, l3] (.inl (h 4 i 6) :: st) Q := VV_step rfl rfl rfl rfl
theorem xr_52_80 (h : AHp) (Q : Option Int32 → AHp → Prop) (l0 l1 l2 l3 : Option AV) (x : Int32) : VV 52 h 80 [l0, l1, l2, l3] [.inl x] Q ↔ Q (some x) h := VV_end rfl rfl
theorem xr_52_81 (h : AHp) (Q : Option Int32 → AHp → Prop) (l1 l2 l3 : Option AV) (x : Nat × Nat) (st : List AV) : VV 52 h 81 [some (.inr x), l1, l2, l3] st Q ↔ VV 52 h 82 [some (.inr x), l1, l2, l3] (.inr x :: st) Q := VV_step rfl rfl rfl rfl
theorem xr_52_82 (h : AHp) (Q : Option Int32 → AHp → Prop) (l0 l1 l2 : Option AV) (x : Nat × Nat) (st : List AV) : VV 52 h 82 [l0, l1, l2, some (.inr x)] st Q ↔ VV 52 h 83 [l0, l1, l2, some (.inr x)] (.inr x :: st) Q := VV_step rfl rfl rfl rfl
theorem xr_52_83 (h : AHp) (Q : Option Int32 → AHp → Prop) (l0 l1 l2 l3 : Option AV) (a0 : AV) (i : Nat) : VV 52 h 83 [l0, l1, l2, l3] [a0, .inr (0, i)] Q ↔ Vi 26 h [some (.inr (0, i)), some a0] (fun z h2 => VV 52 h2 86 [l0, l1, l2, l3] [.inl z] Q) := VV_calli (y := 26) (as := [.inr (0, i), a0]) (rest := []) rfl rfl rfl (ah_noV (y := 26) (by decide))
theorem xr_52_86 (h : AHp) (Q : Option Int32 → AHp → Prop) (l0 l1 l2 l3 : Option AV) (x : Int32) (st : List AV) : VV 52 h 86 [l0, l1, l2, l3] (.inl x :: st) Q ↔ (x = 0 → VV 52 h 96 [l0, l1, l2, l3] st Q) ∧ (¬ (x = 0) → VV 52 h 89 [l0, l1, l2, l3] st Q) := VV_br rfl rfl rfl decide_eq_true_iff
theorem xr_52_89 (h : AHp) (Q : Option Int32 → AHp → Prop) (l0 l1 l2 : Option AV) (x : Nat × Nat) (st : List AV) : VV 52 h 89 [l0, l1, l2, some (.inr x)] st Q ↔ VV 52 h 90 [l0, l1, l2, some (.inr x)] (.inr x :: st) Q := VV_step rfl rfl rfl rfl
theorem xr_52_90 (h : AHp) (Q : Option Int32 → AHp → Prop) (l0 l1 l2 l3 : Option AV) (i : Nat) (st : List AV) : VV 52 h 90 [l0, l1, l2, l3] (.inr (4, i) :: st) Q ↔ VV 52 h 93 [l0, l1, l2, l3] (.inl (h 4 i 7) :: st) Q := VV_step rfl rfl rfl rfl
theorem xr_52_93 (h : AHp) (Q : Option Int32 → AHp → Prop) (l0 l1 l2 l3 : Option AV) (st : List AV) : VV 52 h 93 [l0, l1, l2, l3] st Q ↔ VV 52 h 97 [l0, l1, l2, l3] st Q := VV_step rfl rfl rfl rfl
theorem xr_52_96 (h : AHp) (Q : Option Int32 → AHp → Prop) (l0 l1 l2 l3 : Option AV) (st : List AV) : VV 52 h 96 [l0, l1, l2, l3] st Q ↔ VV 52 h 97 [l0, l1, l2, l3] (.inl (-1 : Int32) :: st) Q := VV_step rfl rfl rfl rfl
theorem xr_52_97 (h : AHp) (Q : Option Int32 → AHp → Prop) (l0 l1 l2 l3 : Option AV) (x : Int32) : VV 52 h 97 [l0, l1, l2, l3] [.inl x] Q ↔ Q (some x) h := VV_end rfl rfl
theorem xr_53_0 (h : AHp) (Q : Option Int32 → AHp → Prop) (l1 l2 l3 : Option AV) (x : Nat × Nat) (st : List AV) : VV 53 h 0 [some (.inr x), l1, l2, l3] st Q ↔ VV 53 h 1 [some (.inr x), l1, l2, l3] (.inr x :: st) Q := VV_step rfl rfl rfl rfl
theorem xr_53_1 (h : AHp) (Q : Option Int32 → AHp → Prop) (l0 l2 l3 : Option AV) (x : Int32) (st : List AV) : VV 53 h 1 [l0, some (.inl x), l2, l3] st Q ↔ VV 53 h 2 [l0, some (.inl x), l2, l3] (.inl x :: st) Q := VV_step rfl rfl rfl rfl
theorem xr_53_2 (h : AHp) (Q : Option Int32 → AHp → Prop) (l0 l1 l2 l3 : Option AV) (a0 : AV) (i : Nat) : VV 53 h 2 [l0, l1, l2, l3] [a0, .inr (0, i)] Q ↔ Vi 17 h [some (.inr (0, i)), some a0] (fun z h2 => VV 53 h2 5 [l0, l1, l2, l3] [.inl z] Q) := VV_calli (y := 17) (as := [.inr (0, i), a0]) (rest := []) rfl rfl rfl (ah_noV (y := 17) (by decide))
theorem xr_53_5 (h : AHp) (Q : Option Int32 → AHp → Prop) (l0 l1 l2 l3 : Option AV) (x : Int32) (st : List AV) : VV 53 h 5 [l0, l1, l2, l3] (.inl x :: st) Q ↔ (¬ x = 0 → VV 53 h 10 [l0, l1, l2, l3] st Q) ∧ (¬ (¬ x = 0) → VV 53 h 8 [l0, l1, l2, l3] st Q) := VV_br rfl rfl rfl decide_eq_true_iff
theorem xr_53_8 (h : AHp) (Q : Option Int32 → AHp → Prop) (l0 l1 l2 l3 : Option AV) (st : List AV) : VV 53 h 8 [l0, l1, l2, l3] st Q ↔ VV 53 h 9 [l0, l1, l2, l3] (.inl (-1 : Int32) :: st) Q := VV_step rfl rfl rfl rfl
theorem xr_53_9 (h : AHp) (Q : Option Int32 → AHp → Prop) (l0 l1 l2 l3 : Option AV) (x : Int32) : VV 53 h 9 [l0, l1, l2, l3] [.inl x] Q ↔ Q (some x) h := VV_end rfl rfl
theorem xr_53_10 (h : AHp) (Q : Option Int32 → AHp → Prop) (l1 l2 l3 : Option AV) (x : Nat × Nat) (st : List AV) : VV 53 h 10 [some (.inr x), l1, l2, l3] st Q ↔ VV 53 h 11 [some (.inr x), l1, l2, l3] (.inr x :: st) Q := VV_step rfl rfl rfl rfl
theorem xr_53_11 (h : AHp) (Q : Option Int32 → AHp → Prop) (l0 l1 l2 l3 : Option AV) (i : Nat) (st : List AV) : VV 53 h 11 [l0, l1, l2, l3] (.inr (0, i) :: st) Q ↔ VV 53 h 14 [l0, l1, l2, l3] (.inr (1, i) :: st) Q := VV_step rfl rfl rfl rfl
theorem xr_53_14 (h : AHp) (Q : Option Int32 → AHp → Prop) (l0 l2 l3 : Option AV) (x : Int32) (st : List AV) : VV 53 h 14 [l0, some (.inl x), l2, l3] st Q ↔ VV 53 h 15 [l0, some (.inl x), l2, l3] (.inl x :: st) Q := VV_step rfl rfl rfl rfl
theorem xr_53_15_1 (h : AHp) (Q : Option Int32 → AHp → Prop) (l0 l1 l2 l3 : Option AV) (x : Int32) (i : Nat) (st : List AV) : VV 53 h 15 [l0, l1, l2, l3] (.inl x :: .inr (1, i) :: st) Q ↔ vp_in x 20 ∧ VV 53 h 16 [l0, l1, l2, l3] (.inr (3, x.toNatClampNeg) :: st) Q := VV_aald rfl rfl
theorem xr_53_15_2 (h : AHp) (Q : Option Int32 → AHp → Prop) (l0 l1 l2 l3 : Option AV) (x : Int32) (i : Nat) (st : List AV) : VV 53 h 15 [l0, l1, l2, l3] (.inl x :: .inr (2, i) :: st) Q ↔ vp_in x 8 ∧ VV 53 h 16 [l0, l1, l2, l3] (.inr (4, x.toNatClampNeg) :: st) Q := VV_aald rfl rfl
theorem xr_53_16 (h : AHp) (Q : Option Int32 → AHp → Prop) (l0 l1 l2 l3 : Option AV) (x : Nat × Nat) (st : List AV) : VV 53 h 16 [l0, l1, l2, l3] (.inr x :: st) Q ↔ VV 53 h 17 [l0, l1, l2, some (.inr x)] st Q := VV_step rfl rfl rfl rfl
theorem xr_53_17 (h : AHp) (Q : Option Int32 → AHp → Prop) (l0 l1 l3 : Option AV) (x : Int32) (st : List AV) : VV 53 h 17 [l0, l1, some (.inl x), l3] st Q ↔ VV 53 h 18 [l0, l1, some (.inl x), l3] (.inl x :: st) Q := VV_step rfl rfl rfl rfl
theorem xr_53_18_0 (h : AHp) (Q : Option Int32 → AHp → Prop) (l0 l1 l2 l3 : Option AV) (st : List AV) : VV 53 h 18 [l0, l1, l2, l3] (.inl (0 : Int32) :: st) Q ↔ VV 53 h 48 [l0, l1, l2, l3] st Q := VV_tsw rfl rfl rfl rfl
theorem xr_53_18_1 (h : AHp) (Q : Option Int32 → AHp → Prop) (l0 l1 l2 l3 : Option AV) (st : List AV) : VV 53 h 18 [l0, l1, l2, l3] (.inl (1 : Int32) :: st) Q ↔ VV 53 h 53 [l0, l1, l2, l3] st Q := VV_tsw rfl rfl rfl rfl
theorem xr_53_18_2 (h : AHp) (Q : Option Int32 → AHp → Prop) (l0 l1 l2 l3 : Option AV) (st : List AV) : VV 53 h 18 [l0, l1, l2, l3] (.inl (2 : Int32) :: st) Q ↔ VV 53 h 58 [l0, l1, l2, l3] st Q := VV_tsw rfl rfl rfl rfl
theorem xr_53_18_3 (h : AHp) (Q : Option Int32 → AHp → Prop) (l0 l1 l2 l3 : Option AV) (st : List AV) : VV 53 h 18 [l0, l1, l2, l3] (.inl (3 : Int32) :: st) Q ↔ VV 53 h 63 [l0, l1, l2, l3] st Q := VV_tsw rfl rfl rfl rfl
theorem xr_53_18_d (h : AHp) (Q : Option Int32 → AHp → Prop) (l0 l1 l2 l3 : Option AV) (st : List AV) (x : Int32) (hx : x.toInt < 0 ∨ 3 < x.toInt) : VV 53 h 18 [l0, l1, l2, l3] (.inl x :: st) Q ↔ VV 53 h 68 [l0, l1, l2, l3] st Q := VV_tsw rfl (if_pos hx) rfl rfl
theorem xr_53_48 (h : AHp) (Q : Option Int32 → AHp → Prop) (l0 l1 l2 : Option AV) (x : Nat × Nat) (st : List AV) : VV 53 h 48 [l0, l1, l2, some (.inr x)] st Q ↔ VV 53 h 49 [l0, l1, l2, some (.inr x)] (.inr x :: st) Q := VV_step rfl rfl rfl rfl
theorem xr_53_49 (h : AHp) (Q : Option Int32 → AHp → Prop) (l0 l1 l2 l3 : Option AV) (i : Nat) (st : List AV) : VV 53 h 49 [l0, l1, l2, l3] (.inr (3, i) :: st) Q ↔ VV 53 h 52 [l0, l1, l2, l3] (.inl (h 3 i 0) :: st) Q := VV_step rfl rfl rfl rfl
theorem xr_53_52 (h : AHp) (Q : Option Int32 → AHp → Prop) (l0 l1 l2 l3 : Option AV) (x : Int32) : VV 53 h 52 [l0, l1, l2, l3] [.inl x] Q ↔ Q (some x) h := VV_end rfl rfl
theorem xr_53_53 (h : AHp) (Q : Option Int32 → AHp → Prop) (l0 l1 l2 : Option AV) (x : Nat × Nat) (st : List AV) : VV 53 h 53 [l0, l1, l2, some (.inr x)] st Q ↔ VV 53 h 54 [l0, l1, l2, some (.inr x)] (.inr x :: st) Q := VV_step rfl rfl rfl rfl
theorem xr_53_54 (h : AHp) (Q : Option Int32 → AHp → Prop) (l0 l1 l2 l3 : Option AV) (i : Nat) (st : List AV) : VV 53 h 54 [l0, l1, l2, l3] (.inr (3, i) :: st) Q ↔ VV 53 h 57 [l0, l1, l2, l3] (.inl (h 3 i 1) :: st) Q := VV_step rfl rfl rfl rfl
theorem xr_53_57 (h : AHp) (Q : Option Int32 → AHp → Prop) (l0 l1 l2 l3 : Option AV) (x : Int32) : VV 53 h 57 [l0, l1, l2, l3] [.inl x] Q ↔ Q (some x) h := VV_end rfl rfl
theorem xr_53_58 (h : AHp) (Q : Option Int32 → AHp → Prop) (l0 l1 l2 : Option AV) (x : Nat × Nat) (st : List AV) : VV 53 h 58 [l0, l1, l2, some (.inr x)] st Q ↔ VV 53 h 59 [l0, l1, l2, some (.inr x)] (.inr x :: st) Q := VV_step rfl rfl rfl rfl
theorem xr_53_59 (h : AHp) (Q : Option Int32 → AHp → Prop) (l0 l1 l2 l3 : Option AV) (i : Nat) (st : List AV) : VV 53 h 59 [l0, l1, l2, l3] (.inr (3, i) :: st) Q ↔ VV 53 h 62 [l0, l1, l2, l3] (.inl (h 3 i 2) :: st) Q := VV_step rfl rfl rfl rfl
theorem xr_53_62 (h : AHp) (Q : Option Int32 → AHp → Prop) (l0 l1 l2 l3 : Option AV) (x : Int32) : VV 53 h 62 [l0, l1, l2, l3] [.inl x] Q ↔ Q (some x) h := VV_end rfl rfl
theorem xr_53_63 (h : AHp) (Q : Option Int32 → AHp → Prop) (l0 l1 l2 : Option AV) (x : Nat × Nat) (st : List AV) : VV 53 h 63 [l0, l1, l2, some (.inr x)] st Q ↔ VV 53 h 64 [l0, l1, l2, some (.inr x)] (.inr x :: st) Q := VV_step rfl rfl rfl rfl
theorem xr_53_64 (h : AHp) (Q : Option Int32 → AHp → Prop) (l0 l1 l2 l3 : Option AV) (i : Nat) (st : List AV) : VV 53 h 64 [l0, l1, l2, l3] (.inr (3, i) :: st) Q ↔ VV 53 h 67 [l0, l1, l2, l3] (.inl (h 3 i 3) :: st) Q := VV_step rfl rfl rfl rfl
theorem xr_53_67 (h : AHp) (Q : Option Int32 → AHp → Prop) (l0 l1 l2 l3 : Option AV) (x : Int32) : VV 53 h 67 [l0, l1, l2, l3] [.inl x] Q ↔ Q (some x) h := VV_end rfl rfl
theorem xr_53_68 (h : AHp) (Q : Option Int32 → AHp → Prop) (l0 l1 l2 l3 : Option AV) (st : List AV) : VV 53 h 68 [l0, l1, l2, l3] st Q ↔ VV 53 h 69 [l0, l1, l2, l3] (.inl (-1 : Int32) :: st) Q := VV_step rfl rfl rfl rfl
theorem xr_53_69 (h : AHp) (Q : Option Int32 → AHp → Prop) (l0 l1 l2 l3 : Option AV) (x : Int32) : VV 53 h 69 [l0, l1, l2, l3] [.inl x] Q ↔ Q (some x) h := VV_end rfl rfl
theorem xr_54_0 (h : AHp) (Q : Option Int32 → AHp → Prop) (l0 : Option AV) (x : Int32) (st : List AV) : VV 54 h 0 [l0, some (.inl x)] st Q ↔ VV 54 h 1 [l0, some (.inl x)] (.inl x :: st) Q := VV_step rfl rfl rfl rfl
theorem xr_54_1_0 (h : AHp) (Q : Option Int32 → AHp → Prop) (l0 l1 : Option AV) (st : List AV) : VV 54 h 1 [l0, l1] (.inl (0 : Int32) :: st) Q ↔ VV 54 h 36 [l0, l1] st Q := VV_tsw rfl rfl rfl rfl
theorem xr_54_1_1 (h : AHp) (Q : Option Int32 → AHp → Prop) (l0 l1 : Option AV) (st : List AV) : VV 54 h 1 [l0, l1] (.inl (1 : Int32) :: st) Q ↔ VV 54 h 41 [l0, l1] st Q := VV_tsw rfl rfl rfl rfl
theorem xr_54_1_2 (h : AHp) (Q : Option Int32 → AHp → Prop) (l0 l1 : Option AV) (st : List AV) : VV 54 h 1 [l0, l1] (.inl (2 : Int32) :: st) Q ↔ VV 54 h 46 [l0, l1] st Q := VV_tsw rfl rfl rfl rfl
theorem xr_54_1_3 (h : AHp) (Q : Option Int32 → AHp → Prop) (l0 l1 : Option AV) (st : List AV) : VV 54 h 1 [l0, l1] (.inl (3 : Int32) :: st) Q ↔ VV 54 h 51 [l0, l1] st Q := VV_tsw rfl rfl rfl rfl
theorem xr_54_1_4 (h : AHp) (Q : Option Int32 → AHp → Prop) (l0 l1 : Option AV) (st : List AV) : VV 54 h 1 [l0, l1] (.inl (4 : Int32) :: st) Q ↔ VV 54 h 56 [l0, l1] st Q := VV_tsw rfl rfl rfl rfl
theorem xr_54_1_d (h : AHp) (Q : Option Int32 → AHp → Prop) (l0 l1 : Option AV) (st : List AV) (x : Int32) (hx : x.toInt < 0 ∨ 4 < x.toInt) : VV 54 h 1 [l0, l1] (.inl x :: st) Q ↔ VV 54 h 61 [l0, l1] st Q := VV_tsw rfl (if_pos hx) rfl rfl
theorem xr_54_36 (h : AHp) (Q : Option Int32 → AHp → Prop) (l1 : Option AV) (x : Nat × Nat) (st : List AV) : VV 54 h 36 [some (.inr x), l1] st Q ↔ VV 54 h 37 [some (.inr x), l1] (.inr x :: st) Q := VV_step rfl rfl rfl rfl
theorem xr_54_37 (h : AHp) (Q : Option Int32 → AHp → Prop) (l0 l1 : Option AV) (i : Nat) (st : List AV) : VV 54 h 37 [l0, l1] (.inr (0, i) :: st) Q ↔ VV 54 h 40 [l0, l1] (.inl (h 0 i 2) :: st) Q := VV_step rfl rfl rfl rfl
theorem xr_54_40 (h : AHp) (Q : Option Int32 → AHp → Prop) (l0 l1 : Option AV) (x : Int32) : VV 54 h 40 [l0, l1] [.inl x] Q ↔ Q (some x) h := VV_end rfl rfl
theorem xr_54_41 (h : AHp) (Q : Option Int32 → AHp → Prop) (l1 : Option AV) (x : Nat × Nat) (st : List AV) : VV 54 h 41 [some (.inr x), l1] st Q ↔ VV 54 h 42 [some (.inr x), l1] (.inr x :: st) Q := VV_step rfl rfl rfl rfl
theorem xr_54_42 (h : AHp) (Q : Option Int32 → AHp → Prop) (l0 l1 : Option AV) (i : Nat) (st : List AV) : VV 54 h 42 [l0, l1] (.inr (0, i) :: st) Q ↔ VV 54 h 45 [l0, l1] (.inl (h 0 i 3) :: st) Q := VV_step rfl rfl rfl rfl
theorem xr_54_45 (h : AHp) (Q : Option Int32 → AHp → Prop) (l0 l1 : Option AV) (x : Int32) : VV 54 h 45 [l0, l1] [.inl x] Q ↔ Q (some x) h := VV_end rfl rfl
theorem xr_54_46 (h : AHp) (Q : Option Int32 → AHp → Prop) (l1 : Option AV) (x : Nat × Nat) (st : List AV) : VV 54 h 46 [some (.inr x), l1] st Q ↔ VV 54 h 47 [some (.inr x), l1] (.inr x :: st) Q := VV_step rfl rfl rfl rfl
theorem xr_54_47 (h : AHp) (Q : Option Int32 → AHp → Prop) (l0 l1 : Option AV) (i : Nat) (st : List AV) : VV 54 h 47 [l0, l1] (.inr (0, i) :: st) Q ↔ VV 54 h 50 [l0, l1] (.inl (h 0 i 4) :: st) Q := VV_step rfl rfl rfl rfl
theorem xr_54_50 (h : AHp) (Q : Option Int32 → AHp → Prop) (l0 l1 : Option AV) (x : Int32) : VV 54 h 50 [l0, l1] [.inl x] Q ↔ Q (some x) h := VV_end rfl rfl
theorem xr_54_51 (h : AHp) (Q : Option Int32 → AHp → Prop) (l1 : Option AV) (x : Nat × Nat) (st : List AV) : VV 54 h 51 [some (.inr x), l1] st Q ↔ VV 54 h 52 [some (.inr x), l1] (.inr x :: st) Q := VV_step rfl rfl rfl rfl
theorem xr_54_52 (h : AHp) (Q : Option Int32 → AHp → Prop) (l0 l1 : Option AV) (i : Nat) (st : List AV) : VV 54 h 52 [l0, l1] (.inr (0, i) :: st) Q ↔ VV 54 h 55 [l0, l1] (.inl (h 0 i 5) :: st) Q := VV_step rfl rfl rfl rfl
theorem xr_54_55 (h : AHp) (Q : Option Int32 → AHp → Prop) (l0 l1 : Option AV) (x : Int32) : VV 54 h 55 [l0, l1] [.inl x] Q ↔ Q (some x) h := VV_end rfl rfl
theorem xr_54_56 (h : AHp) (Q : Option Int32 → AHp → Prop) (l1 : Option AV) (x : Nat × Nat) (st : List AV) : VV 54 h 56 [some (.inr x), l1] st Q ↔ VV 54 h 57 [some (.inr x), l1] (.inr x :: st) Q := VV_step rfl rfl rfl rfl
theorem xr_54_57 (h : AHp) (Q : Option Int32 → AHp → Prop) (l0 l1 : Option AV) (i : Nat) : VV 54 h 57 [l0, l1] [.inr (0, i)] Q ↔ Vi 37 h [some (.inr (0, i)), none, none] (fun z h2 => VV 54 h2 60 [l0, l1] [.inl z] Q) := VV_calli (y := 37) (as := [.inr (0, i)]) (rest := []) rfl rfl rfl (ah_noV (y := 37) (by decide))
theorem xr_54_60 (h : AHp) (Q : Option Int32 → AHp → Prop) (l0 l1 : Option AV) (x : Int32) : VV 54 h 60 [l0, l1] [.inl x] Q ↔ Q (some x) h := VV_end rfl rfl
theorem xr_54_61 (h : AHp) (Q : Option Int32 → AHp → Prop) (l0 l1 : Option AV) (st : List AV) : VV 54 h 61 [l0, l1] st Q ↔ VV 54 h 62 [l0, l1] (.inl (-1 : Int32) :: st) Q := VV_step rfl rfl rfl rfl
theorem xr_54_62 (h : AHp) (Q : Option Int32 → AHp → Prop) (l0 l1 : Option AV) (x : Int32) : VV 54 h 62 [l0, l1] [.inl x] Q ↔ Q (some x) h := VV_end rfl rfl
end
section
theorem xr_55_0 (h : AHp) (Q : Option Int32 → AHp → Prop) (x : Nat × Nat) (st : List AV) : VV 55 h 0 [some (.inr x)] st Q ↔ VV 55 h 1 [some (.inr x)] (.inr x :: st) Q := VV_step rfl rfl rfl rfl
theorem xr_55_1 (h : AHp) (Q : Option Int32 → AHp → Prop) (l0 : Option AV) (i : Nat) (st : List AV) : VV 55 h 1 [l0] (.inr (10, i) :: st) Q ↔ VV 55 h 4 [l0] (.inl (h 10 i 20) :: st) Q := VV_step rfl rfl rfl rfl
theorem xr_55_4 (h : AHp) (Q : Option Int32 → AHp → Prop) (l0 : Option AV) (x : Int32) : VV 55 h 4 [l0] [.inl x] Q ↔ Q (some x) h := VV_end rfl rfl
theorem xr_56_0 (h : AHp) (Q : Option Int32 → AHp → Prop) (l1 : Option AV) (x : Nat × Nat) (st : List AV) : VV 56 h 0 [some (.inr x), l1] st Q ↔ VV 56 h 1 [some (.inr x), l1] (.inr x :: st) Q := VV_step rfl rfl rfl rfl
theorem xr_56_1 (h : AHp) (Q : Option Int32 → AHp → Prop) (l0 l1 : Option AV) (st : List AV) : VV 56 h 1 [l0, l1] st Q ↔ VV 56 h 2 [l0, l1] (.inl (0 : Int32) :: st) Q := VV_step rfl rfl rfl rfl
theorem xr_56_2 (h : AHp) (Q : Option Int32 → AHp → Prop) (l0 l1 : Option AV) (v : Int32) (i : Nat) (st : List AV) : VV 56 h 2 [l0, l1] (.inl v :: .inr (10, i) :: st) Q ↔ VV 56 (ah_up h 10 i 20 v) 5 [l0, l1] st Q := VV_step rfl rfl rfl rfl
theorem xr_56_5 (h : AHp) (Q : Option Int32 → AHp → Prop) (l0 : Option AV) (x : Int32) (st : List AV) : VV 56 h 5 [l0, some (.inl x)] st Q ↔ VV 56 h 6 [l0, some (.inl x)] (.inl x :: st) Q := VV_step rfl rfl rfl rfl
theorem xr_56_6 (h : AHp) (Q : Option Int32 → AHp → Prop) (l0 l1 : Option AV) (st : List AV) : VV 56 h 6 [l0, l1] st Q ↔ VV 56 h 7 [l0, l1] (.inl (1 : Int32) :: st) Q := VV_step rfl rfl rfl rfl
theorem xr_56_7 (h : AHp) (Q : Option Int32 → AHp → Prop) (l0 l1 : Option AV) (x y : Int32) (st : List AV) : VV 56 h 7 [l0, l1] (.inl y :: .inl x :: st) Q ↔ (x < y → VV 56 h 16 [l0, l1] st Q) ∧ (¬ (x < y) → VV 56 h 10 [l0, l1] st Q) := VV_br2 rfl rfl rfl decide_eq_true_iff
theorem xr_56_10 (h : AHp) (Q : Option Int32 → AHp → Prop) (l0 : Option AV) (x : Int32) (st : List AV) : VV 56 h 10 [l0, some (.inl x)] st Q ↔ VV 56 h 11 [l0, some (.inl x)] (.inl x :: st) Q := VV_step rfl rfl rfl rfl
theorem xr_56_11 (h : AHp) (Q : Option Int32 → AHp → Prop) (l0 l1 : Option AV) (st : List AV) : VV 56 h 11 [l0, l1] st Q ↔ VV 56 h 13 [l0, l1] (.inl (8 : Int32) :: st) Q := VV_step rfl rfl rfl rfl
theorem xr_56_13 (h : AHp) (Q : Option Int32 → AHp → Prop) (l0 l1 : Option AV) (x y : Int32) (st : List AV) : VV 56 h 13 [l0, l1] (.inl y :: .inl x :: st) Q ↔ (x ≤ y → VV 56 h 18 [l0, l1] st Q) ∧ (¬ (x ≤ y) → VV 56 h 16 [l0, l1] st Q) := VV_br2 rfl rfl rfl decide_eq_true_iff
theorem xr_56_16 (h : AHp) (Q : Option Int32 → AHp → Prop) (l0 l1 : Option AV) (st : List AV) : VV 56 h 16 [l0, l1] st Q ↔ VV 56 h 17 [l0, l1] (.inl (0 : Int32) :: st) Q := VV_step rfl rfl rfl rfl
theorem xr_56_17 (h : AHp) (Q : Option Int32 → AHp → Prop) (l0 l1 : Option AV) (x : Int32) : VV 56 h 17 [l0, l1] [.inl x] Q ↔ (x = 0 ∨ x = 1) ∧ Q (some x) h := VV_zret rfl rfl
theorem xr_56_18 (h : AHp) (Q : Option Int32 → AHp → Prop) (l1 : Option AV) (x : Nat × Nat) (st : List AV) : VV 56 h 18 [some (.inr x), l1] st Q ↔ VV 56 h 19 [some (.inr x), l1] (.inr x :: st) Q := VV_step rfl rfl rfl rfl
theorem xr_56_19 (h : AHp) (Q : Option Int32 → AHp → Prop) (l0 : Option AV) (x : Int32) (st : List AV) : VV 56 h 19 [l0, some (.inl x)] st Q ↔ VV 56 h 20 [l0, some (.inl x)] (.inl x :: st) Q := VV_step rfl rfl rfl rfl
theorem xr_56_20 (h : AHp) (Q : Option Int32 → AHp → Prop) (l0 l1 : Option AV) (v : Int32) (i : Nat) (st : List AV) : VV 56 h 20 [l0, l1] (.inl v :: .inr (10, i) :: st) Q ↔ VV 56 (ah_up h 10 i 0 v) 23 [l0, l1] st Q := VV_step rfl rfl rfl rfl
theorem xr_56_23 (h : AHp) (Q : Option Int32 → AHp → Prop) (l1 : Option AV) (x : Nat × Nat) (st : List AV) : VV 56 h 23 [some (.inr x), l1] st Q ↔ VV 56 h 24 [some (.inr x), l1] (.inr x :: st) Q := VV_step rfl rfl rfl rfl
theorem xr_56_24 (h : AHp) (Q : Option Int32 → AHp → Prop) (l0 l1 : Option AV) (st : List AV) : VV 56 h 24 [l0, l1] st Q ↔ VV 56 h 25 [l0, l1] (.inl (0 : Int32) :: st) Q := VV_step rfl rfl rfl rfl
theorem xr_56_25 (h : AHp) (Q : Option Int32 → AHp → Prop) (l0 l1 : Option AV) (v : Int32) (i : Nat) (st : List AV) : VV 56 h 25 [l0, l1] (.inl v :: .inr (10, i) :: st) Q ↔ VV 56 (ah_up h 10 i 1 v) 28 [l0, l1] st Q := VV_step rfl rfl rfl rfl
theorem xr_56_28 (h : AHp) (Q : Option Int32 → AHp → Prop) (l1 : Option AV) (x : Nat × Nat) (st : List AV) : VV 56 h 28 [some (.inr x), l1] st Q ↔ VV 56 h 29 [some (.inr x), l1] (.inr x :: st) Q := VV_step rfl rfl rfl rfl
theorem xr_56_29 (h : AHp) (Q : Option Int32 → AHp → Prop) (l0 l1 : Option AV) (st : List AV) : VV 56 h 29 [l0, l1] st Q ↔ VV 56 h 30 [l0, l1] (.inl (0 : Int32) :: st) Q := VV_step rfl rfl rfl rfl
theorem xr_56_30 (h : AHp) (Q : Option Int32 → AHp → Prop) (l0 l1 : Option AV) (v : Int32) (i : Nat) (st : List AV) : VV 56 h 30 [l0, l1] (.inl v :: .inr (10, i) :: st) Q ↔ VV 56 (ah_up h 10 i 6 v) 33 [l0, l1] st Q := VV_step rfl rfl rfl rfl
theorem xr_56_33 (h : AHp) (Q : Option Int32 → AHp → Prop) (l1 : Option AV) (x : Nat × Nat) (st : List AV) : VV 56 h 33 [some (.inr x), l1] st Q ↔ VV 56 h 34 [some (.inr x), l1] (.inr x :: st) Q := VV_step rfl rfl rfl rfl
theorem xr_56_34 (h : AHp) (Q : Option Int32 → AHp → Prop) (l0 l1 : Option AV) (st : List AV) : VV 56 h 34 [l0, l1] st Q ↔ VV 56 h 35 [l0, l1] (.inl (0 : Int32) :: st) Q := VV_step rfl rfl rfl rfl
theorem xr_56_35 (h : AHp) (Q : Option Int32 → AHp → Prop) (l0 l1 : Option AV) (v : Int32) (i : Nat) (st : List AV) : VV 56 h 35 [l0, l1] (.inl v :: .inr (10, i) :: st) Q ↔ VV 56 (ah_up h 10 i 17 v) 38 [l0, l1] st Q := VV_step rfl rfl rfl rfl
theorem xr_56_38 (h : AHp) (Q : Option Int32 → AHp → Prop) (l0 l1 : Option AV) (st : List AV) : VV 56 h 38 [l0, l1] st Q ↔ VV 56 h 39 [l0, l1] (.inl (1 : Int32) :: st) Q := VV_step rfl rfl rfl rfl
theorem xr_56_39 (h : AHp) (Q : Option Int32 → AHp → Prop) (l0 l1 : Option AV) (x : Int32) : VV 56 h 39 [l0, l1] [.inl x] Q ↔ (x = 0 ∨ x = 1) ∧ Q (some x) h := VV_zret rfl rfl
theorem xr_57_0 (h : AHp) (Q : Option Int32 → AHp → Prop) (l1 : Option AV) (x : Nat × Nat) (st : List AV) : VV 57 h 0 [some (.inr x), l1] st Q ↔ VV 57 h 1 [some (.inr x), l1] (.inr x :: st) Q := VV_step rfl rfl rfl rfl
theorem xr_57_1 (h : AHp) (Q : Option Int32 → AHp → Prop) (l0 l1 : Option AV) (st : List AV) : VV 57 h 1 [l0, l1] st Q ↔ VV 57 h 2 [l0, l1] (.inl (0 : Int32) :: st) Q := VV_step rfl rfl rfl rfl
theorem xr_57_2 (h : AHp) (Q : Option Int32 → AHp → Prop) (l0 l1 : Option AV) (v : Int32) (i : Nat) (st : List AV) : VV 57 h 2 [l0, l1] (.inl v :: .inr (10, i) :: st) Q ↔ VV 57 (ah_up h 10 i 20 v) 5 [l0, l1] st Q := VV_step rfl rfl rfl rfl
theorem xr_57_5 (h : AHp) (Q : Option Int32 → AHp → Prop) (l0 : Option AV) (x : Int32) (st : List AV) : VV 57 h 5 [l0, some (.inl x)] st Q ↔ VV 57 h 6 [l0, some (.inl x)] (.inl x :: st) Q := VV_step rfl rfl rfl rfl
theorem xr_57_6 (h : AHp) (Q : Option Int32 → AHp → Prop) (l0 l1 : Option AV) (x : Int32) (st : List AV) : VV 57 h 6 [l0, l1] (.inl x :: st) Q ↔ (x < 0 → VV 57 h 14 [l0, l1] st Q) ∧ (¬ (x < 0) → VV 57 h 9 [l0, l1] st Q) := VV_br rfl rfl rfl decide_eq_true_iff
theorem xr_57_9 (h : AHp) (Q : Option Int32 → AHp → Prop) (l0 : Option AV) (x : Int32) (st : List AV) : VV 57 h 9 [l0, some (.inl x)] st Q ↔ VV 57 h 10 [l0, some (.inl x)] (.inl x :: st) Q := VV_step rfl rfl rfl rfl
theorem xr_57_10 (h : AHp) (Q : Option Int32 → AHp → Prop) (l0 l1 : Option AV) (st : List AV) : VV 57 h 10 [l0, l1] st Q ↔ VV 57 h 11 [l0, l1] (.inl (1 : Int32) :: st) Q := VV_step rfl rfl rfl rfl
theorem xr_57_11 (h : AHp) (Q : Option Int32 → AHp → Prop) (l0 l1 : Option AV) (x y : Int32) (st : List AV) : VV 57 h 11 [l0, l1] (.inl y :: .inl x :: st) Q ↔ (x ≤ y → VV 57 h 16 [l0, l1] st Q) ∧ (¬ (x ≤ y) → VV 57 h 14 [l0, l1] st Q) := VV_br2 rfl rfl rfl decide_eq_true_iff
theorem xr_57_14 (h : AHp) (Q : Option Int32 → AHp → Prop) (l0 l1 : Option AV) (st : List AV) : VV 57 h 14 [l0, l1] st Q ↔ VV 57 h 15 [l0, l1] (.inl (0 : Int32) :: st) Q := VV_step rfl rfl rfl rfl
theorem xr_57_15 (h : AHp) (Q : Option Int32 → AHp → Prop) (l0 l1 : Option AV) (x : Int32) : VV 57 h 15 [l0, l1] [.inl x] Q ↔ (x = 0 ∨ x = 1) ∧ Q (some x) h := VV_zret rfl rfl
theorem xr_57_16 (h : AHp) (Q : Option Int32 → AHp → Prop) (l1 : Option AV) (x : Nat × Nat) (st : List AV) : VV 57 h 16 [some (.inr x), l1] st Q ↔ VV 57 h 17 [some (.inr x), l1] (.inr x :: st) Q := VV_step rfl rfl rfl rfl
theorem xr_57_17 (h : AHp) (Q : Option Int32 → AHp → Prop) (l0 : Option AV) (x : Int32) (st : List AV) : VV 57 h 17 [l0, some (.inl x)] st Q ↔ VV 57 h 18 [l0, some (.inl x)] (.inl x :: st) Q := VV_step rfl rfl rfl rfl
theorem xr_57_18 (h : AHp) (Q : Option Int32 → AHp → Prop) (l0 l1 : Option AV) (v : Int32) (i : Nat) (st : List AV) : VV 57 h 18 [l0, l1] (.inl v :: .inr (10, i) :: st) Q ↔ VV 57 (ah_up h 10 i 18 v) 21 [l0, l1] st Q := VV_step rfl rfl rfl rfl
theorem xr_57_21 (h : AHp) (Q : Option Int32 → AHp → Prop) (l0 l1 : Option AV) (st : List AV) : VV 57 h 21 [l0, l1] st Q ↔ VV 57 h 22 [l0, l1] (.inl (1 : Int32) :: st) Q := VV_step rfl rfl rfl rfl
theorem xr_57_22 (h : AHp) (Q : Option Int32 → AHp → Prop) (l0 l1 : Option AV) (x : Int32) : VV 57 h 22 [l0, l1] [.inl x] Q ↔ (x = 0 ∨ x = 1) ∧ Q (some x) h := VV_zret rfl rfl
theorem xr_58_0 (h : AHp) (Q : Option Int32 → AHp → Prop) (l1 : Option AV) (x : Nat × Nat) (st : List AV) : VV 58 h 0 [some (.inr x), l1] st Q ↔ VV 58 h 1 [some (.inr x), l1] (.inr x :: st) Q := VV_step rfl rfl rfl rfl
theorem xr_58_1 (h : AHp) (Q : Option Int32 → AHp → Prop) (l0 l1 : Option AV) (st : List AV) : VV 58 h 1 [l0, l1] st Q ↔ VV 58 h 2 [l0, l1] (.inl (0 : Int32) :: st) Q := VV_step rfl rfl rfl rfl
theorem xr_58_2 (h : AHp) (Q : Option Int32 → AHp → Prop) (l0 l1 : Option AV) (v : Int32) (i : Nat) (st : List AV) : VV 58 h 2 [l0, l1] (.inl v :: .inr (10, i) :: st) Q ↔ VV 58 (ah_up h 10 i 20 v) 5 [l0, l1] st Q := VV_step rfl rfl rfl rfl
theorem xr_58_5 (h : AHp) (Q : Option Int32 → AHp → Prop) (l0 : Option AV) (x : Int32) (st : List AV) : VV 58 h 5 [l0, some (.inl x)] st Q ↔ VV 58 h 6 [l0, some (.inl x)] (.inl x :: st) Q := VV_step rfl rfl rfl rfl
theorem xr_58_6 (h : AHp) (Q : Option Int32 → AHp → Prop) (l0 l1 : Option AV) (st : List AV) : VV 58 h 6 [l0, l1] st Q ↔ VV 58 h 7 [l0, l1] (.inl (1 : Int32) :: st) Q := VV_step rfl rfl rfl rfl
theorem xr_58_7 (h : AHp) (Q : Option Int32 → AHp → Prop) (l0 l1 : Option AV) (x y : Int32) (st : List AV) : VV 58 h 7 [l0, l1] (.inl y :: .inl x :: st) Q ↔ (x < y → VV 58 h 16 [l0, l1] st Q) ∧ (¬ (x < y) → VV 58 h 10 [l0, l1] st Q) := VV_br2 rfl rfl rfl decide_eq_true_iff
theorem xr_58_10 (h : AHp) (Q : Option Int32 → AHp → Prop) (l0 : Option AV) (x : Int32) (st : List AV) : VV 58 h 10 [l0, some (.inl x)] st Q ↔ VV 58 h 11 [l0, some (.inl x)] (.inl x :: st) Q := VV_step rfl rfl rfl rfl
theorem xr_58_11 (h : AHp) (Q : Option Int32 → AHp → Prop) (l0 l1 : Option AV) (st : List AV) : VV 58 h 11 [l0, l1] st Q ↔ VV 58 h 13 [l0, l1] (.inl (99 : Int32) :: st) Q := VV_step rfl rfl rfl rfl
theorem xr_58_13 (h : AHp) (Q : Option Int32 → AHp → Prop) (l0 l1 : Option AV) (x y : Int32) (st : List AV) : VV 58 h 13 [l0, l1] (.inl y :: .inl x :: st) Q ↔ (x ≤ y → VV 58 h 18 [l0, l1] st Q) ∧ (¬ (x ≤ y) → VV 58 h 16 [l0, l1] st Q) := VV_br2 rfl rfl rfl decide_eq_true_iff
theorem xr_58_16 (h : AHp) (Q : Option Int32 → AHp → Prop) (l0 l1 : Option AV) (st : List AV) : VV 58 h 16 [l0, l1] st Q ↔ VV 58 h 17 [l0, l1] (.inl (0 : Int32) :: st) Q := VV_step rfl rfl rfl rfl
theorem xr_58_17 (h : AHp) (Q : Option Int32 → AHp → Prop) (l0 l1 : Option AV) (x : Int32) : VV 58 h 17 [l0, l1] [.inl x] Q ↔ (x = 0 ∨ x = 1) ∧ Q (some x) h := VV_zret rfl rfl
theorem xr_58_18 (h : AHp) (Q : Option Int32 → AHp → Prop) (l1 : Option AV) (x : Nat × Nat) (st : List AV) : VV 58 h 18 [some (.inr x), l1] st Q ↔ VV 58 h 19 [some (.inr x), l1] (.inr x :: st) Q := VV_step rfl rfl rfl rfl
theorem xr_58_19 (h : AHp) (Q : Option Int32 → AHp → Prop) (l0 : Option AV) (x : Int32) (st : List AV) : VV 58 h 19 [l0, some (.inl x)] st Q ↔ VV 58 h 20 [l0, some (.inl x)] (.inl x :: st) Q := VV_step rfl rfl rfl rfl
theorem xr_58_20 (h : AHp) (Q : Option Int32 → AHp → Prop) (l0 l1 : Option AV) (v : Int32) (i : Nat) (st : List AV) : VV 58 h 20 [l0, l1] (.inl v :: .inr (10, i) :: st) Q ↔ VV 58 (ah_up h 10 i 19 v) 23 [l0, l1] st Q := VV_step rfl rfl rfl rfl
theorem xr_58_23 (h : AHp) (Q : Option Int32 → AHp → Prop) (l0 l1 : Option AV) (st : List AV) : VV 58 h 23 [l0, l1] st Q ↔ VV 58 h 24 [l0, l1] (.inl (1 : Int32) :: st) Q := VV_step rfl rfl rfl rfl
theorem xr_58_24 (h : AHp) (Q : Option Int32 → AHp → Prop) (l0 l1 : Option AV) (x : Int32) : VV 58 h 24 [l0, l1] [.inl x] Q ↔ (x = 0 ∨ x = 1) ∧ Q (some x) h := VV_zret rfl rfl
theorem xr_59_0 (h : AHp) (Q : Option Int32 → AHp → Prop) (x : Int32) (st : List AV) : VV 59 h 0 [some (.inl x)] st Q ↔ VV 59 h 1 [some (.inl x)] (.inl x :: st) Q := VV_step rfl rfl rfl rfl
theorem xr_59_1 (h : AHp) (Q : Option Int32 → AHp → Prop) (l0 : Option AV) (x : Int32) (st : List AV) : VV 59 h 1 [l0] (.inl x :: st) Q ↔ (x < 0 → VV 59 h 14 [l0] st Q) ∧ (¬ (x < 0) → VV 59 h 4 [l0] st Q) := VV_br rfl rfl rfl decide_eq_true_iff
theorem xr_59_4 (h : AHp) (Q : Option Int32 → AHp → Prop) (x : Int32) (st : List AV) : VV 59 h 4 [some (.inl x)] st Q ↔ VV 59 h 5 [some (.inl x)] (.inl x :: st) Q := VV_step rfl rfl rfl rfl
theorem xr_59_5 (h : AHp) (Q : Option Int32 → AHp → Prop) (l0 : Option AV) (st : List AV) : VV 59 h 5 [l0] st Q ↔ VV 59 h 7 [l0] (.inl (65535 : Int32) :: st) Q := VV_step rfl rfl rfl rfl
theorem xr_59_7 (h : AHp) (Q : Option Int32 → AHp → Prop) (l0 : Option AV) (x y : Int32) (st : List AV) : VV 59 h 7 [l0] (.inl y :: .inl x :: st) Q ↔ (y < x → VV 59 h 14 [l0] st Q) ∧ (¬ (y < x) → VV 59 h 10 [l0] st Q) := VV_br2 rfl rfl rfl decide_eq_true_iff
theorem xr_59_10 (h : AHp) (Q : Option Int32 → AHp → Prop) (l0 : Option AV) (st : List AV) : VV 59 h 10 [l0] st Q ↔ VV 59 h 11 [l0] (.inl (1 : Int32) :: st) Q := VV_step rfl rfl rfl rfl
theorem xr_59_11 (h : AHp) (Q : Option Int32 → AHp → Prop) (l0 : Option AV) (st : List AV) : VV 59 h 11 [l0] st Q ↔ VV 59 h 15 [l0] st Q := VV_step rfl rfl rfl rfl
theorem xr_59_14 (h : AHp) (Q : Option Int32 → AHp → Prop) (l0 : Option AV) (st : List AV) : VV 59 h 14 [l0] st Q ↔ VV 59 h 15 [l0] (.inl (0 : Int32) :: st) Q := VV_step rfl rfl rfl rfl
theorem xr_59_15 (h : AHp) (Q : Option Int32 → AHp → Prop) (l0 : Option AV) (x : Int32) : VV 59 h 15 [l0] [.inl x] Q ↔ (x = 0 ∨ x = 1) ∧ Q (some x) h := VV_zret rfl rfl
theorem xr_60_0 (h : AHp) (Q : Option Int32 → AHp → Prop) (l0 : Option AV) (x : Int32) (st : List AV) : VV 60 h 0 [l0, some (.inl x)] st Q ↔ VV 60 h 1 [l0, some (.inl x)] (.inl x :: st) Q := VV_step rfl rfl rfl rfl
theorem xr_60_1 (h : AHp) (Q : Option Int32 → AHp → Prop) (l0 l1 : Option AV) (x : Int32) (st : List AV) : VV 60 h 1 [l0, l1] (.inl x :: st) Q ↔ (x < 0 → VV 60 h 16 [l0, l1] st Q) ∧ (¬ (x < 0) → VV 60 h 4 [l0, l1] st Q) := VV_br rfl rfl rfl decide_eq_true_iff
theorem xr_60_4 (h : AHp) (Q : Option Int32 → AHp → Prop) (l0 : Option AV) (x : Int32) (st : List AV) : VV 60 h 4 [l0, some (.inl x)] st Q ↔ VV 60 h 5 [l0, some (.inl x)] (.inl x :: st) Q := VV_step rfl rfl rfl rfl
theorem xr_60_5 (h : AHp) (Q : Option Int32 → AHp → Prop) (l1 : Option AV) (x : Nat × Nat) (st : List AV) : VV 60 h 5 [some (.inr x), l1] st Q ↔ VV 60 h 6 [some (.inr x), l1] (.inr x :: st) Q := VV_step rfl rfl rfl rfl
theorem xr_60_6 (h : AHp) (Q : Option Int32 → AHp → Prop) (l0 l1 : Option AV) (i : Nat) (st : List AV) : VV 60 h 6 [l0, l1] (.inr (10, i) :: st) Q ↔ VV 60 h 9 [l0, l1] (.inl (h 10 i 1) :: st) Q := VV_step rfl rfl rfl rfl
theorem xr_60_9 (h : AHp) (Q : Option Int32 → AHp → Prop) (l0 l1 : Option AV) (x y : Int32) (st : List AV) : VV 60 h 9 [l0, l1] (.inl y :: .inl x :: st) Q ↔ (y ≤ x → VV 60 h 16 [l0, l1] st Q) ∧ (¬ (y ≤ x) → VV 60 h 12 [l0, l1] st Q) := VV_br2 rfl rfl rfl decide_eq_true_iff
theorem xr_60_12 (h : AHp) (Q : Option Int32 → AHp → Prop) (l0 l1 : Option AV) (st : List AV) : VV 60 h 12 [l0, l1] st Q ↔ VV 60 h 13 [l0, l1] (.inl (1 : Int32) :: st) Q := VV_step rfl rfl rfl rfl
theorem xr_60_13 (h : AHp) (Q : Option Int32 → AHp → Prop) (l0 l1 : Option AV) (st : List AV) : VV 60 h 13 [l0, l1] st Q ↔ VV 60 h 17 [l0, l1] st Q := VV_step rfl rfl rfl rfl
theorem xr_60_16 (h : AHp) (Q : Option Int32 → AHp → Prop) (l0 l1 : Option AV) (st : List AV) : VV 60 h 16 [l0, l1] st Q ↔ VV 60 h 17 [l0, l1] (.inl (0 : Int32) :: st) Q := VV_step rfl rfl rfl rfl
theorem xr_60_17 (h : AHp) (Q : Option Int32 → AHp → Prop) (l0 l1 : Option AV) (x : Int32) : VV 60 h 17 [l0, l1] [.inl x] Q ↔ (x = 0 ∨ x = 1) ∧ Q (some x) h := VV_zret rfl rfl
theorem xr_61_0 (h : AHp) (Q : Option Int32 → AHp → Prop) (l0 : Option AV) (x : Int32) (st : List AV) : VV 61 h 0 [l0, some (.inl x)] st Q ↔ VV 61 h 1 [l0, some (.inl x)] (.inl x :: st) Q := VV_step rfl rfl rfl rfl
theorem xr_61_1 (h : AHp) (Q : Option Int32 → AHp → Prop) (l0 l1 : Option AV) (x : Int32) (st : List AV) : VV 61 h 1 [l0, l1] (.inl x :: st) Q ↔ (x < 0 → VV 61 h 16 [l0, l1] st Q) ∧ (¬ (x < 0) → VV 61 h 4 [l0, l1] st Q) := VV_br rfl rfl rfl decide_eq_true_iff
theorem xr_61_4 (h : AHp) (Q : Option Int32 → AHp → Prop) (l0 : Option AV) (x : Int32) (st : List AV) : VV 61 h 4 [l0, some (.inl x)] st Q ↔ VV 61 h 5 [l0, some (.inl x)] (.inl x :: st) Q := VV_step rfl rfl rfl rfl
theorem xr_61_5 (h : AHp) (Q : Option Int32 → AHp → Prop) (l1 : Option AV) (x : Nat × Nat) (st : List AV) : VV 61 h 5 [some (.inr x), l1] st Q ↔ VV 61 h 6 [some (.inr x), l1] (.inr x :: st) Q := VV_step rfl rfl rfl rfl
theorem xr_61_6 (h : AHp) (Q : Option Int32 → AHp → Prop) (l0 l1 : Option AV) (i : Nat) (st : List AV) : VV 61 h 6 [l0, l1] (.inr (10, i) :: st) Q ↔ VV 61 h 9 [l0, l1] (.inl (h 10 i 6) :: st) Q := VV_step rfl rfl rfl rfl
theorem xr_61_9 (h : AHp) (Q : Option Int32 → AHp → Prop) (l0 l1 : Option AV) (x y : Int32) (st : List AV) : VV 61 h 9 [l0, l1] (.inl y :: .inl x :: st) Q ↔ (y ≤ x → VV 61 h 16 [l0, l1] st Q) ∧ (¬ (y ≤ x) → VV 61 h 12 [l0, l1] st Q) := VV_br2 rfl rfl rfl decide_eq_true_iff
theorem xr_61_12 (h : AHp) (Q : Option Int32 → AHp → Prop) (l0 l1 : Option AV) (st : List AV) : VV 61 h 12 [l0, l1] st Q ↔ VV 61 h 13 [l0, l1] (.inl (1 : Int32) :: st) Q := VV_step rfl rfl rfl rfl
theorem xr_61_13 (h : AHp) (Q : Option Int32 → AHp → Prop) (l0 l1 : Option AV) (st : List AV) : VV 61 h 13 [l0, l1] st Q ↔ VV 61 h 17 [l0, l1] st Q := VV_step rfl rfl rfl rfl
theorem xr_61_16 (h : AHp) (Q : Option Int32 → AHp → Prop) (l0 l1 : Option AV) (st : List AV) : VV 61 h 16 [l0, l1] st Q ↔ VV 61 h 17 [l0, l1] (.inl (0 : Int32) :: st) Q := VV_step rfl rfl rfl rfl
theorem xr_61_17 (h : AHp) (Q : Option Int32 → AHp → Prop) (l0 l1 : Option AV) (x : Int32) : VV 61 h 17 [l0, l1] [.inl x] Q ↔ (x = 0 ∨ x = 1) ∧ Q (some x) h := VV_zret rfl rfl
theorem xr_62_0 (h : AHp) (Q : Option Int32 → AHp → Prop) (l0 : Option AV) (x : Int32) (st : List AV) : VV 62 h 0 [l0, some (.inl x)] st Q ↔ VV 62 h 1 [l0, some (.inl x)] (.inl x :: st) Q := VV_step rfl rfl rfl rfl
theorem xr_62_1 (h : AHp) (Q : Option Int32 → AHp → Prop) (l0 l1 : Option AV) (x : Int32) (st : List AV) : VV 62 h 1 [l0, l1] (.inl x :: st) Q ↔ (x < 0 → VV 62 h 16 [l0, l1] st Q) ∧ (¬ (x < 0) → VV 62 h 4 [l0, l1] st Q) := VV_br rfl rfl rfl decide_eq_true_iff
theorem xr_62_4 (h : AHp) (Q : Option Int32 → AHp → Prop) (l0 : Option AV) (x : Int32) (st : List AV) : VV 62 h 4 [l0, some (.inl x)] st Q ↔ VV 62 h 5 [l0, some (.inl x)] (.inl x :: st) Q := VV_step rfl rfl rfl rfl
theorem xr_62_5 (h : AHp) (Q : Option Int32 → AHp → Prop) (l1 : Option AV) (x : Nat × Nat) (st : List AV) : VV 62 h 5 [some (.inr x), l1] st Q ↔ VV 62 h 6 [some (.inr x), l1] (.inr x :: st) Q := VV_step rfl rfl rfl rfl
theorem xr_62_6 (h : AHp) (Q : Option Int32 → AHp → Prop) (l0 l1 : Option AV) (i : Nat) (st : List AV) : VV 62 h 6 [l0, l1] (.inr (10, i) :: st) Q ↔ VV 62 h 9 [l0, l1] (.inl (h 10 i 0) :: st) Q := VV_step rfl rfl rfl rfl
theorem xr_62_9 (h : AHp) (Q : Option Int32 → AHp → Prop) (l0 l1 : Option AV) (x y : Int32) (st : List AV) : VV 62 h 9 [l0, l1] (.inl y :: .inl x :: st) Q ↔ (y ≤ x → VV 62 h 16 [l0, l1] st Q) ∧ (¬ (y ≤ x) → VV 62 h 12 [l0, l1] st Q) := VV_br2 rfl rfl rfl decide_eq_true_iff
theorem xr_62_12 (h : AHp) (Q : Option Int32 → AHp → Prop) (l0 l1 : Option AV) (st : List AV) : VV 62 h 12 [l0, l1] st Q ↔ VV 62 h 13 [l0, l1] (.inl (1 : Int32) :: st) Q := VV_step rfl rfl rfl rfl
theorem xr_62_13 (h : AHp) (Q : Option Int32 → AHp → Prop) (l0 l1 : Option AV) (st : List AV) : VV 62 h 13 [l0, l1] st Q ↔ VV 62 h 17 [l0, l1] st Q := VV_step rfl rfl rfl rfl
theorem xr_62_16 (h : AHp) (Q : Option Int32 → AHp → Prop) (l0 l1 : Option AV) (st : List AV) : VV 62 h 16 [l0, l1] st Q ↔ VV 62 h 17 [l0, l1] (.inl (0 : Int32) :: st) Q := VV_step rfl rfl rfl rfl
theorem xr_62_17 (h : AHp) (Q : Option Int32 → AHp → Prop) (l0 l1 : Option AV) (x : Int32) : VV 62 h 17 [l0, l1] [.inl x] Q ↔ (x = 0 ∨ x = 1) ∧ Q (some x) h := VV_zret rfl rfl
theorem xr_63_0 (h : AHp) (Q : Option Int32 → AHp → Prop) (l1 l2 : Option AV) (x : Nat × Nat) (st : List AV) : VV 63 h 0 [some (.inr x), l1, l2] st Q ↔ VV 63 h 1 [some (.inr x), l1, l2] (.inr x :: st) Q := VV_step rfl rfl rfl rfl
theorem xr_63_1 (h : AHp) (Q : Option Int32 → AHp → Prop) (l0 l1 l2 : Option AV) (st : List AV) : VV 63 h 1 [l0, l1, l2] st Q ↔ VV 63 h 2 [l0, l1, l2] (.inl (0 : Int32) :: st) Q := VV_step rfl rfl rfl rfl
theorem xr_63_2 (h : AHp) (Q : Option Int32 → AHp → Prop) (l0 l1 l2 : Option AV) (v : Int32) (i : Nat) (st : List AV) : VV 63 h 2 [l0, l1, l2] (.inl v :: .inr (10, i) :: st) Q ↔ VV 63 (ah_up h 10 i 20 v) 5 [l0, l1, l2] st Q := VV_step rfl rfl rfl rfl
theorem xr_63_5 (h : AHp) (Q : Option Int32 → AHp → Prop) (l1 l2 : Option AV) (x : Nat × Nat) (st : List AV) : VV 63 h 5 [some (.inr x), l1, l2] st Q ↔ VV 63 h 6 [some (.inr x), l1, l2] (.inr x :: st) Q := VV_step rfl rfl rfl rfl
theorem xr_63_6 (h : AHp) (Q : Option Int32 → AHp → Prop) (l0 l1 l2 : Option AV) (i : Nat) (st : List AV) : VV 63 h 6 [l0, l1, l2] (.inr (10, i) :: st) Q ↔ VV 63 h 9 [l0, l1, l2] (.inl (h 10 i 1) :: st) Q := VV_step rfl rfl rfl rfl
theorem xr_63_9 (h : AHp) (Q : Option Int32 → AHp → Prop) (l0 l1 l2 : Option AV) (st : List AV) : VV 63 h 9 [l0, l1, l2] st Q ↔ VV 63 h 11 [l0, l1, l2] (.inl (20 : Int32) :: st) Q := VV_step rfl rfl rfl rfl
theorem xr_63_11 (h : AHp) (Q : Option Int32 → AHp → Prop) (l0 l1 l2 : Option AV) (x y : Int32) (st : List AV) : VV 63 h 11 [l0, l1, l2] (.inl y :: .inl x :: st) Q ↔ (x = y → VV 63 h 29 [l0, l1, l2] st Q) ∧ (¬ (x = y) → VV 63 h 14 [l0, l1, l2] st Q) := VV_br2 rfl rfl rfl decide_eq_true_iff
theorem xr_63_14 (h : AHp) (Q : Option Int32 → AHp → Prop) (l1 l2 : Option AV) (x : Nat × Nat) (st : List AV) : VV 63 h 14 [some (.inr x), l1, l2] st Q ↔ VV 63 h 15 [some (.inr x), l1, l2] (.inr x :: st) Q := VV_step rfl rfl rfl rfl
theorem xr_63_15 (h : AHp) (Q : Option Int32 → AHp → Prop) (l0 l2 : Option AV) (x : Int32) (st : List AV) : VV 63 h 15 [l0, some (.inl x), l2] st Q ↔ VV 63 h 16 [l0, some (.inl x), l2] (.inl x :: st) Q := VV_step rfl rfl rfl rfl
theorem xr_63_16 (h : AHp) (Q : Option Int32 → AHp → Prop) (l0 l1 l2 : Option AV) (a0 : AV) (i : Nat) : VV 63 h 16 [l0, l1, l2] [a0, .inr (10, i)] Q ↔ Vi 62 h [some (.inr (10, i)), some a0] (fun z h2 => VV 63 h2 19 [l0, l1, l2] [.inl z] Q) := VV_calli (y := 62) (as := [.inr (10, i), a0]) (rest := []) rfl rfl rfl (ah_noV (y := 62) (by decide))
theorem xr_63_19 (h : AHp) (Q : Option Int32 → AHp → Prop) (l0 l1 l2 : Option AV) (x : Int32) (st : List AV) : VV 63 h 19 [l0, l1, l2] (.inl x :: st) Q ↔ (x = 0 → VV 63 h 29 [l0, l1, l2] st Q) ∧ (¬ (x = 0) → VV 63 h 22 [l0, l1, l2] st Q) := VV_br rfl rfl rfl decide_eq_true_iff
theorem xr_63_22 (h : AHp) (Q : Option Int32 → AHp → Prop) (l0 l1 : Option AV) (x : Int32) (st : List AV) : VV 63 h 22 [l0, l1, some (.inl x)] st Q ↔ VV 63 h 23 [l0, l1, some (.inl x)] (.inl x :: st) Q := VV_step rfl rfl rfl rfl
theorem xr_63_23 (h : AHp) (Q : Option Int32 → AHp → Prop) (l0 l1 l2 : Option AV) (a0 : AV) : VV 63 h 23 [l0, l1, l2] [a0] Q ↔ Vi 59 h [some a0] (fun z h2 => VV 63 h2 26 [l0, l1, l2] [.inl z] Q) := VV_calli (y := 59) (as := [a0]) (rest := []) rfl rfl rfl (ah_noV (y := 59) (by decide))
theorem xr_63_26 (h : AHp) (Q : Option Int32 → AHp → Prop) (l0 l1 l2 : Option AV) (x : Int32) (st : List AV) : VV 63 h 26 [l0, l1, l2] (.inl x :: st) Q ↔ (¬ x = 0 → VV 63 h 31 [l0, l1, l2] st Q) ∧ (¬ (¬ x = 0) → VV 63 h 29 [l0, l1, l2] st Q) := VV_br rfl rfl rfl decide_eq_true_iff
theorem xr_63_29 (h : AHp) (Q : Option Int32 → AHp → Prop) (l0 l1 l2 : Option AV) (st : List AV) : VV 63 h 29 [l0, l1, l2] st Q ↔ VV 63 h 30 [l0, l1, l2] (.inl (-1 : Int32) :: st) Q := VV_step rfl rfl rfl rfl
theorem xr_63_30 (h : AHp) (Q : Option Int32 → AHp → Prop) (l0 l1 l2 : Option AV) (x : Int32) : VV 63 h 30 [l0, l1, l2] [.inl x] Q ↔ Q (some x) h := VV_end rfl rfl
theorem xr_63_31 (h : AHp) (Q : Option Int32 → AHp → Prop) (l1 l2 : Option AV) (x : Nat × Nat) (st : List AV) : VV 63 h 31 [some (.inr x), l1, l2] st Q ↔ VV 63 h 32 [some (.inr x), l1, l2] (.inr x :: st) Q := VV_step rfl rfl rfl rfl
theorem xr_63_32 (h : AHp) (Q : Option Int32 → AHp → Prop) (l0 l1 l2 : Option AV) (i : Nat) (st : List AV) : VV 63 h 32 [l0, l1, l2] (.inr (10, i) :: st) Q ↔ VV 63 h 35 [l0, l1, l2] (.inr (12, i) :: st) Q := VV_step rfl rfl rfl rfl
theorem xr_63_35 (h : AHp) (Q : Option Int32 → AHp → Prop) (l1 l2 : Option AV) (x : Nat × Nat) (st : List AV) : VV 63 h 35 [some (.inr x), l1, l2] st Q ↔ VV 63 h 36 [some (.inr x), l1, l2] (.inr x :: st) Q := VV_step rfl rfl rfl rfl
theorem xr_63_36 (h : AHp) (Q : Option Int32 → AHp → Prop) (l0 l1 l2 : Option AV) (i : Nat) (st : List AV) : VV 63 h 36 [l0, l1, l2] (.inr (10, i) :: st) Q ↔ VV 63 h 39 [l0, l1, l2] (.inl (h 10 i 1) :: st) Q := VV_step rfl rfl rfl rfl
theorem xr_63_39 (h : AHp) (Q : Option Int32 → AHp → Prop) (l0 l2 : Option AV) (x : Int32) (st : List AV) : VV 63 h 39 [l0, some (.inl x), l2] st Q ↔ VV 63 h 40 [l0, some (.inl x), l2] (.inl x :: st) Q := VV_step rfl rfl rfl rfl
theorem xr_63_40 (h : AHp) (Q : Option Int32 → AHp → Prop) (l0 l1 l2 : Option AV) (x v : Int32) (k i : Nat) (st : List AV) : VV 63 h 40 [l0, l1, l2] (.inl v :: .inl x :: .inr (k, i) :: st) Q ↔ ix_i k x ∧ VV 63 (ah_up h k i x.toNatClampNeg v) 41 [l0, l1, l2] st Q := VV_iast rfl
theorem xr_63_41 (h : AHp) (Q : Option Int32 → AHp → Prop) (l1 l2 : Option AV) (x : Nat × Nat) (st : List AV) : VV 63 h 41 [some (.inr x), l1, l2] st Q ↔ VV 63 h 42 [some (.inr x), l1, l2] (.inr x :: st) Q := VV_step rfl rfl rfl rfl
theorem xr_63_42 (h : AHp) (Q : Option Int32 → AHp → Prop) (l0 l1 l2 : Option AV) (i : Nat) (st : List AV) : VV 63 h 42 [l0, l1, l2] (.inr (10, i) :: st) Q ↔ VV 63 h 45 [l0, l1, l2] (.inr (13, i) :: st) Q := VV_step rfl rfl rfl rfl
theorem xr_63_45 (h : AHp) (Q : Option Int32 → AHp → Prop) (l1 l2 : Option AV) (x : Nat × Nat) (st : List AV) : VV 63 h 45 [some (.inr x), l1, l2] st Q ↔ VV 63 h 46 [some (.inr x), l1, l2] (.inr x :: st) Q := VV_step rfl rfl rfl rfl
theorem xr_63_46 (h : AHp) (Q : Option Int32 → AHp → Prop) (l0 l1 l2 : Option AV) (i : Nat) (st : List AV) : VV 63 h 46 [l0, l1, l2] (.inr (10, i) :: st) Q ↔ VV 63 h 49 [l0, l1, l2] (.inl (h 10 i 1) :: st) Q := VV_step rfl rfl rfl rfl
theorem xr_63_49 (h : AHp) (Q : Option Int32 → AHp → Prop) (l0 l1 : Option AV) (x : Int32) (st : List AV) : VV 63 h 49 [l0, l1, some (.inl x)] st Q ↔ VV 63 h 50 [l0, l1, some (.inl x)] (.inl x :: st) Q := VV_step rfl rfl rfl rfl
theorem xr_63_50 (h : AHp) (Q : Option Int32 → AHp → Prop) (l0 l1 l2 : Option AV) (x v : Int32) (k i : Nat) (st : List AV) : VV 63 h 50 [l0, l1, l2] (.inl v :: .inl x :: .inr (k, i) :: st) Q ↔ ix_i k x ∧ VV 63 (ah_up h k i x.toNatClampNeg v) 51 [l0, l1, l2] st Q := VV_iast rfl
theorem xr_63_51 (h : AHp) (Q : Option Int32 → AHp → Prop) (l1 l2 : Option AV) (x : Nat × Nat) (st : List AV) : VV 63 h 51 [some (.inr x), l1, l2] st Q ↔ VV 63 h 52 [some (.inr x), l1, l2] (.inr x :: st) Q := VV_step rfl rfl rfl rfl
theorem xr_63_52 (h : AHp) (Q : Option Int32 → AHp → Prop) (l0 l1 l2 : Option AV) (i : Nat) (st : List AV) : VV 63 h 52 [l0, l1, l2] (.inr (10, i) :: st) Q ↔ VV 63 h 55 [l0, l1, l2] (.inr (14, i) :: st) Q := VV_step rfl rfl rfl rfl
theorem xr_63_55 (h : AHp) (Q : Option Int32 → AHp → Prop) (l1 l2 : Option AV) (x : Nat × Nat) (st : List AV) : VV 63 h 55 [some (.inr x), l1, l2] st Q ↔ VV 63 h 56 [some (.inr x), l1, l2] (.inr x :: st) Q := VV_step rfl rfl rfl rfl
theorem xr_63_56 (h : AHp) (Q : Option Int32 → AHp → Prop) (l0 l1 l2 : Option AV) (i : Nat) (st : List AV) : VV 63 h 56 [l0, l1, l2] (.inr (10, i) :: st) Q ↔ VV 63 h 59 [l0, l1, l2] (.inl (h 10 i 1) :: st) Q := VV_step rfl rfl rfl rfl
theorem xr_63_59 (h : AHp) (Q : Option Int32 → AHp → Prop) (l0 l1 l2 : Option AV) (st : List AV) : VV 63 h 59 [l0, l1, l2] st Q ↔ VV 63 h 60 [l0, l1, l2] (.inl (0 : Int32) :: st) Q := VV_step rfl rfl rfl rfl
theorem xr_63_60 (h : AHp) (Q : Option Int32 → AHp → Prop) (l0 l1 l2 : Option AV) (x v : Int32) (k i : Nat) (st : List AV) : VV 63 h 60 [l0, l1, l2] (.inl v :: .inl x :: .inr (k, i) :: st) Q ↔ ix_i k x ∧ VV 63 (ah_up h k i x.toNatClampNeg v) 61 [l0, l1, l2] st Q := VV_iast rfl
theorem xr_63_61 (h : AHp) (Q : Option Int32 → AHp → Prop) (l1 l2 : Option AV) (x : Nat × Nat) (st : List AV) : VV 63 h 61 [some (.inr x), l1, l2] st Q ↔ VV 63 h 62 [some (.inr x), l1, l2] (.inr x :: st) Q := VV_step rfl rfl rfl rfl
theorem xr_63_62 (h : AHp) (Q : Option Int32 → AHp → Prop) (l0 l1 l2 : Option AV) (i : Nat) (st : List AV) : VV 63 h 62 [l0, l1, l2] (.inr (10, i) :: st) Q ↔ VV 63 h 65 [l0, l1, l2] (.inr (15, i) :: st) Q := VV_step rfl rfl rfl rfl
theorem xr_63_65 (h : AHp) (Q : Option Int32 → AHp → Prop) (l1 l2 : Option AV) (x : Nat × Nat) (st : List AV) : VV 63 h 65 [some (.inr x), l1, l2] st Q ↔ VV 63 h 66 [some (.inr x), l1, l2] (.inr x :: st) Q := VV_step rfl rfl rfl rfl
theorem xr_63_66 (h : AHp) (Q : Option Int32 → AHp → Prop) (l0 l1 l2 : Option AV) (i : Nat) (st : List AV) : VV 63 h 66 [l0, l1, l2] (.inr (10, i) :: st) Q ↔ VV 63 h 69 [l0, l1, l2] (.inl (h 10 i 1) :: st) Q := VV_step rfl rfl rfl rfl
theorem xr_63_69 (h : AHp) (Q : Option Int32 → AHp → Prop) (l0 l1 l2 : Option AV) (st : List AV) : VV 63 h 69 [l0, l1, l2] st Q ↔ VV 63 h 70 [l0, l1, l2] (.inl (-1 : Int32) :: st) Q := VV_step rfl rfl rfl rfl
theorem xr_63_70 (h : AHp) (Q : Option Int32 → AHp → Prop) (l0 l1 l2 : Option AV) (x v : Int32) (k i : Nat) (st : List AV) : VV 63 h 70 [l0, l1, l2] (.inl v :: .inl x :: .inr (k, i) :: st) Q ↔ ix_i k x ∧ VV 63 (ah_up h k i x.toNatClampNeg v) 71 [l0, l1, l2] st Q := VV_iast rfl
theorem xr_63_71 (h : AHp) (Q : Option Int32 → AHp → Prop) (l1 l2 : Option AV) (x : Nat × Nat) (st : List AV) : VV 63 h 71 [some (.inr x), l1, l2] st Q ↔ VV 63 h 72 [some (.inr x), l1, l2] (.inr x :: st) Q := VV_step rfl rfl rfl rfl
theorem xr_63_72 (h : AHp) (Q : Option Int32 → AHp → Prop) (l0 l1 l2 : Option AV) (v : AV) (st : List AV) : VV 63 h 72 [l0, l1, l2] (v :: st) Q ↔ VV 63 h 73 [l0, l1, l2] (v :: v :: st) Q := VV_step rfl rfl rfl rfl
theorem xr_63_73 (h : AHp) (Q : Option Int32 → AHp → Prop) (l0 l1 l2 : Option AV) (i : Nat) (st : List AV) : VV 63 h 73 [l0, l1, l2] (.inr (10, i) :: st) Q ↔ VV 63 h 76 [l0, l1, l2] (.inl (h 10 i 1) :: st) Q := VV_step rfl rfl rfl rfl
theorem xr_63_76 (h : AHp) (Q : Option Int32 → AHp → Prop) (l0 l1 l2 : Option AV) (st : List AV) : VV 63 h 76 [l0, l1, l2] st Q ↔ VV 63 h 77 [l0, l1, l2] (.inl (1 : Int32) :: st) Q := VV_step rfl rfl rfl rfl
theorem xr_63_77 (h : AHp) (Q : Option Int32 → AHp → Prop) (l0 l1 l2 : Option AV) (x y : Int32) (st : List AV) : VV 63 h 77 [l0, l1, l2] (.inl y :: .inl x :: st) Q ↔ VV 63 h 78 [l0, l1, l2] (.inl (x + y) :: st) Q := VV_step rfl rfl rfl rfl
theorem xr_63_78 (h : AHp) (Q : Option Int32 → AHp → Prop) (l0 l1 l2 : Option AV) (v : Int32) (i : Nat) (st : List AV) : VV 63 h 78 [l0, l1, l2] (.inl v :: .inr (10, i) :: st) Q ↔ VV 63 (ah_up h 10 i 1 v) 81 [l0, l1, l2] st Q := VV_step rfl rfl rfl rfl
theorem xr_63_81 (h : AHp) (Q : Option Int32 → AHp → Prop) (l1 l2 : Option AV) (x : Nat × Nat) (st : List AV) : VV 63 h 81 [some (.inr x), l1, l2] st Q ↔ VV 63 h 82 [some (.inr x), l1, l2] (.inr x :: st) Q := VV_step rfl rfl rfl rfl
theorem xr_63_82 (h : AHp) (Q : Option Int32 → AHp → Prop) (l0 l1 l2 : Option AV) (i : Nat) (st : List AV) : VV 63 h 82 [l0, l1, l2] (.inr (10, i) :: st) Q ↔ VV 63 h 85 [l0, l1, l2] (.inl (h 10 i 1) :: st) Q := VV_step rfl rfl rfl rfl
theorem xr_63_85 (h : AHp) (Q : Option Int32 → AHp → Prop) (l0 l1 l2 : Option AV) (st : List AV) : VV 63 h 85 [l0, l1, l2] st Q ↔ VV 63 h 86 [l0, l1, l2] (.inl (1 : Int32) :: st) Q := VV_step rfl rfl rfl rfl
theorem xr_63_86 (h : AHp) (Q : Option Int32 → AHp → Prop) (l0 l1 l2 : Option AV) (x y : Int32) (st : List AV) : VV 63 h 86 [l0, l1, l2] (.inl y :: .inl x :: st) Q ↔ VV 63 h 87 [l0, l1, l2] (.inl (x - y) :: st) Q := VV_step rfl rfl rfl rfl
theorem xr_63_87 (h : AHp) (Q : Option Int32 → AHp → Prop) (l0 l1 l2 : Option AV) (x : Int32) : VV 63 h 87 [l0, l1, l2] [.inl x] Q ↔ Q (some x) h := VV_end rfl rfl
theorem xr_64_0 (h : AHp) (Q : Option Int32 → AHp → Prop) (l1 l2 l3 l4 l5 : Option AV) (x : Nat × Nat) (st : List AV) : VV 64 h 0 [some (.inr x), l1, l2, l3, l4, l5] st Q ↔ VV 64 h 1 [some (.inr x), l1, l2, l3, l4, l5] (.inr x :: st) Q := VV_step rfl rfl rfl rfl
theorem xr_64_1 (h : AHp) (Q : Option Int32 → AHp → Prop) (l0 l1 l2 l3 l4 l5 : Option AV) (st : List AV) : VV 64 h 1 [l0, l1, l2, l3, l4, l5] st Q ↔ VV 64 h 2 [l0, l1, l2, l3, l4, l5] (.inl (0 : Int32) :: st) Q := VV_step rfl rfl rfl rfl
theorem xr_64_2 (h : AHp) (Q : Option Int32 → AHp → Prop) (l0 l1 l2 l3 l4 l5 : Option AV) (v : Int32) (i : Nat) (st : List AV) : VV 64 h 2 [l0, l1, l2, l3, l4, l5] (.inl v :: .inr (10, i) :: st) Q ↔ VV 64 (ah_up h 10 i 20 v) 5 [l0, l1, l2, l3, l4, l5] st Q := VV_step rfl rfl rfl rfl
theorem xr_64_5 (h : AHp) (Q : Option Int32 → AHp → Prop) (l1 l2 l3 l4 l5 : Option AV) (x : Nat × Nat) (st : List AV) : VV 64 h 5 [some (.inr x), l1, l2, l3, l4, l5] st Q ↔ VV 64 h 6 [some (.inr x), l1, l2, l3, l4, l5] (.inr x :: st) Q := VV_step rfl rfl rfl rfl
theorem xr_64_6 (h : AHp) (Q : Option Int32 → AHp → Prop) (l0 l2 l3 l4 l5 : Option AV) (x : Int32) (st : List AV) : VV 64 h 6 [l0, some (.inl x), l2, l3, l4, l5] st Q ↔ VV 64 h 7 [l0, some (.inl x), l2, l3, l4, l5] (.inl x :: st) Q := VV_step rfl rfl rfl rfl
theorem xr_64_7 (h : AHp) (Q : Option Int32 → AHp → Prop) (l0 l1 l2 l3 l4 l5 : Option AV) (a0 : AV) (i : Nat) : VV 64 h 7 [l0, l1, l2, l3, l4, l5] [a0, .inr (10, i)] Q ↔ Vi 60 h [some (.inr (10, i)), some a0] (fun z h2 => VV 64 h2 10 [l0, l1, l2, l3, l4, l5] [.inl z] Q) := VV_calli (y := 60) (as := [.inr (10, i), a0]) (rest := []) rfl rfl rfl (ah_noV (y := 60) (by decide))
theorem xr_64_10 (h : AHp) (Q : Option Int32 → AHp → Prop) (l0 l1 l2 l3 l4 l5 : Option AV) (x : Int32) (st : List AV) : VV 64 h 10 [l0, l1, l2, l3, l4, l5] (.inl x :: st) Q ↔ (x = 0 → VV 64 h 30 [l0, l1, l2, l3, l4, l5] st Q) ∧ (¬ (x = 0) → VV 64 h 13 [l0, l1, l2, l3, l4, l5] st Q) := VV_br rfl rfl rfl decide_eq_true_iff
theorem xr_64_13 (h : AHp) (Q : Option Int32 → AHp → Prop) (l1 l2 l3 l4 l5 : Option AV) (x : Nat × Nat) (st : List AV) : VV 64 h 13 [some (.inr x), l1, l2, l3, l4, l5] st Q ↔ VV 64 h 14 [some (.inr x), l1, l2, l3, l4, l5] (.inr x :: st) Q := VV_step rfl rfl rfl rfl
theorem xr_64_14 (h : AHp) (Q : Option Int32 → AHp → Prop) (l0 l1 l2 l3 l4 l5 : Option AV) (i : Nat) (st : List AV) : VV 64 h 14 [l0, l1, l2, l3, l4, l5] (.inr (10, i) :: st) Q ↔ VV 64 h 17 [l0, l1, l2, l3, l4, l5] (.inr (15, i) :: st) Q := VV_step rfl rfl rfl rfl
theorem xr_64_17 (h : AHp) (Q : Option Int32 → AHp → Prop) (l0 l2 l3 l4 l5 : Option AV) (x : Int32) (st : List AV) : VV 64 h 17 [l0, some (.inl x), l2, l3, l4, l5] st Q ↔ VV 64 h 18 [l0, some (.inl x), l2, l3, l4, l5] (.inl x :: st) Q := VV_step rfl rfl rfl rfl
theorem xr_64_18 (h : AHp) (Q : Option Int32 → AHp → Prop) (l0 l1 l2 l3 l4 l5 : Option AV) (x : Int32) (k i : Nat) (st : List AV) : VV 64 h 18 [l0, l1, l2, l3, l4, l5] (.inl x :: .inr (k, i) :: st) Q ↔ ix_i k x ∧ VV 64 h 19 [l0, l1, l2, l3, l4, l5] (.inl (h k i x.toNatClampNeg) :: st) Q := VV_iald rfl
theorem xr_64_19 (h : AHp) (Q : Option Int32 → AHp → Prop) (l0 l1 l2 l3 l4 l5 : Option AV) (st : List AV) : VV 64 h 19 [l0, l1, l2, l3, l4, l5] st Q ↔ VV 64 h 20 [l0, l1, l2, l3, l4, l5] (.inl (-1 : Int32) :: st) Q := VV_step rfl rfl rfl rfl
theorem xr_64_20 (h : AHp) (Q : Option Int32 → AHp → Prop) (l0 l1 l2 l3 l4 l5 : Option AV) (x y : Int32) (st : List AV) : VV 64 h 20 [l0, l1, l2, l3, l4, l5] (.inl y :: .inl x :: st) Q ↔ (¬ x = y → VV 64 h 30 [l0, l1, l2, l3, l4, l5] st Q) ∧ (¬ (¬ x = y) → VV 64 h 23 [l0, l1, l2, l3, l4, l5] st Q) := VV_br2 rfl rfl rfl decide_eq_true_iff
theorem xr_64_23 (h : AHp) (Q : Option Int32 → AHp → Prop) (l0 l1 l2 l4 l5 : Option AV) (x : Int32) (st : List AV) : VV 64 h 23 [l0, l1, l2, some (.inl x), l4, l5] st Q ↔ VV 64 h 24 [l0, l1, l2, some (.inl x), l4, l5] (.inl x :: st) Q := VV_step rfl rfl rfl rfl
theorem xr_64_24 (h : AHp) (Q : Option Int32 → AHp → Prop) (l0 l1 l2 l3 l4 l5 : Option AV) (a0 : AV) : VV 64 h 24 [l0, l1, l2, l3, l4, l5] [a0] Q ↔ Vi 59 h [some a0] (fun z h2 => VV 64 h2 27 [l0, l1, l2, l3, l4, l5] [.inl z] Q) := VV_calli (y := 59) (as := [a0]) (rest := []) rfl rfl rfl (ah_noV (y := 59) (by decide))
theorem xr_64_27 (h : AHp) (Q : Option Int32 → AHp → Prop) (l0 l1 l2 l3 l4 l5 : Option AV) (x : Int32) (st : List AV) : VV 64 h 27 [l0, l1, l2, l3, l4, l5] (.inl x :: st) Q ↔ (¬ x = 0 → VV 64 h 32 [l0, l1, l2, l3, l4, l5] st Q) ∧ (¬ (¬ x = 0) → VV 64 h 30 [l0, l1, l2, l3, l4, l5] st Q) := VV_br rfl rfl rfl decide_eq_true_iff
theorem xr_64_30 (h : AHp) (Q : Option Int32 → AHp → Prop) (l0 l1 l2 l3 l4 l5 : Option AV) (st : List AV) : VV 64 h 30 [l0, l1, l2, l3, l4, l5] st Q ↔ VV 64 h 31 [l0, l1, l2, l3, l4, l5] (.inl (-1 : Int32) :: st) Q := VV_step rfl rfl rfl rfl
theorem xr_64_31 (h : AHp) (Q : Option Int32 → AHp → Prop) (l0 l1 l2 l3 l4 l5 : Option AV) (x : Int32) : VV 64 h 31 [l0, l1, l2, l3, l4, l5] [.inl x] Q ↔ Q (some x) h := VV_end rfl rfl
theorem xr_64_32 (h : AHp) (Q : Option Int32 → AHp → Prop) (l0 l1 l2 l3 l4 l5 : Option AV) (st : List AV) : VV 64 h 32 [l0, l1, l2, l3, l4, l5] st Q ↔ VV 64 h 33 [l0, l1, l2, l3, l4, l5] (.inl (0 : Int32) :: st) Q := VV_step rfl rfl rfl rfl
theorem xr_64_33 (h : AHp) (Q : Option Int32 → AHp → Prop) (l0 l1 l2 l3 l4 l5 : Option AV) (x : Int32) (st : List AV) : VV 64 h 33 [l0, l1, l2, l3, l4, l5] (.inl x :: st) Q ↔ VV 64 h 35 [l0, l1, l2, l3, some (.inl x), l5] st Q := VV_step rfl rfl rfl rfl
theorem xr_64_35 (h : AHp) (Q : Option Int32 → AHp → Prop) (l0 l1 l3 l4 l5 : Option AV) (x : Int32) (st : List AV) : VV 64 h 35 [l0, l1, some (.inl x), l3, l4, l5] st Q ↔ VV 64 h 36 [l0, l1, some (.inl x), l3, l4, l5] (.inl x :: st) Q := VV_step rfl rfl rfl rfl
theorem xr_64_36 (h : AHp) (Q : Option Int32 → AHp → Prop) (l0 l1 l2 l3 l4 l5 : Option AV) (x : Int32) (st : List AV) : VV 64 h 36 [l0, l1, l2, l3, l4, l5] (.inl x :: st) Q ↔ (x < 0 → VV 64 h 75 [l0, l1, l2, l3, l4, l5] st Q) ∧ (¬ (x < 0) → VV 64 h 39 [l0, l1, l2, l3, l4, l5] st Q) := VV_br rfl rfl rfl decide_eq_true_iff
theorem xr_64_39 (h : AHp) (Q : Option Int32 → AHp → Prop) (l1 l2 l3 l4 l5 : Option AV) (x : Nat × Nat) (st : List AV) : VV 64 h 39 [some (.inr x), l1, l2, l3, l4, l5] st Q ↔ VV 64 h 40 [some (.inr x), l1, l2, l3, l4, l5] (.inr x :: st) Q := VV_step rfl rfl rfl rfl
theorem xr_64_40 (h : AHp) (Q : Option Int32 → AHp → Prop) (l0 l1 l3 l4 l5 : Option AV) (x : Int32) (st : List AV) : VV 64 h 40 [l0, l1, some (.inl x), l3, l4, l5] st Q ↔ VV 64 h 41 [l0, l1, some (.inl x), l3, l4, l5] (.inl x :: st) Q := VV_step rfl rfl rfl rfl
theorem xr_64_41 (h : AHp) (Q : Option Int32 → AHp → Prop) (l0 l1 l2 l3 l4 l5 : Option AV) (a0 : AV) (i : Nat) : VV 64 h 41 [l0, l1, l2, l3, l4, l5] [a0, .inr (10, i)] Q ↔ Vi 60 h [some (.inr (10, i)), some a0] (fun z h2 => VV 64 h2 44 [l0, l1, l2, l3, l4, l5] [.inl z] Q) := VV_calli (y := 60) (as := [.inr (10, i), a0]) (rest := []) rfl rfl rfl (ah_noV (y := 60) (by decide))
theorem xr_64_44 (h : AHp) (Q : Option Int32 → AHp → Prop) (l0 l1 l2 l3 l4 l5 : Option AV) (x : Int32) (st : List AV) : VV 64 h 44 [l0, l1, l2, l3, l4, l5] (.inl x :: st) Q ↔ (x = 0 → VV 64 h 62 [l0, l1, l2, l3, l4, l5] st Q) ∧ (¬ (x = 0) → VV 64 h 47 [l0, l1, l2, l3, l4, l5] st Q) := VV_br rfl rfl rfl decide_eq_true_iff
theorem xr_64_47 (h : AHp) (Q : Option Int32 → AHp → Prop) (l1 l2 l3 l4 l5 : Option AV) (x : Nat × Nat) (st : List AV) : VV 64 h 47 [some (.inr x), l1, l2, l3, l4, l5] st Q ↔ VV 64 h 48 [some (.inr x), l1, l2, l3, l4, l5] (.inr x :: st) Q := VV_step rfl rfl rfl rfl
theorem xr_64_48 (h : AHp) (Q : Option Int32 → AHp → Prop) (l0 l1 l2 l3 l4 l5 : Option AV) (i : Nat) (st : List AV) : VV 64 h 48 [l0, l1, l2, l3, l4, l5] (.inr (10, i) :: st) Q ↔ VV 64 h 51 [l0, l1, l2, l3, l4, l5] (.inr (12, i) :: st) Q := VV_step rfl rfl rfl rfl
theorem xr_64_51 (h : AHp) (Q : Option Int32 → AHp → Prop) (l0 l1 l3 l4 l5 : Option AV) (x : Int32) (st : List AV) : VV 64 h 51 [l0, l1, some (.inl x), l3, l4, l5] st Q ↔ VV 64 h 52 [l0, l1, some (.inl x), l3, l4, l5] (.inl x :: st) Q := VV_step rfl rfl rfl rfl
theorem xr_64_52 (h : AHp) (Q : Option Int32 → AHp → Prop) (l0 l1 l2 l3 l4 l5 : Option AV) (x : Int32) (k i : Nat) (st : List AV) : VV 64 h 52 [l0, l1, l2, l3, l4, l5] (.inl x :: .inr (k, i) :: st) Q ↔ ix_i k x ∧ VV 64 h 53 [l0, l1, l2, l3, l4, l5] (.inl (h k i x.toNatClampNeg) :: st) Q := VV_iald rfl
theorem xr_64_53 (h : AHp) (Q : Option Int32 → AHp → Prop) (l1 l2 l3 l4 l5 : Option AV) (x : Nat × Nat) (st : List AV) : VV 64 h 53 [some (.inr x), l1, l2, l3, l4, l5] st Q ↔ VV 64 h 54 [some (.inr x), l1, l2, l3, l4, l5] (.inr x :: st) Q := VV_step rfl rfl rfl rfl
theorem xr_64_54 (h : AHp) (Q : Option Int32 → AHp → Prop) (l0 l1 l2 l3 l4 l5 : Option AV) (i : Nat) (st : List AV) : VV 64 h 54 [l0, l1, l2, l3, l4, l5] (.inr (10, i) :: st) Q ↔ VV 64 h 57 [l0, l1, l2, l3, l4, l5] (.inr (12, i) :: st) Q := VV_step rfl rfl rfl rfl
theorem xr_64_57 (h : AHp) (Q : Option Int32 → AHp → Prop) (l0 l2 l3 l4 l5 : Option AV) (x : Int32) (st : List AV) : VV 64 h 57 [l0, some (.inl x), l2, l3, l4, l5] st Q ↔ VV 64 h 58 [l0, some (.inl x), l2, l3, l4, l5] (.inl x :: st) Q := VV_step rfl rfl rfl rfl
theorem xr_64_58 (h : AHp) (Q : Option Int32 → AHp → Prop) (l0 l1 l2 l3 l4 l5 : Option AV) (x : Int32) (k i : Nat) (st : List AV) : VV 64 h 58 [l0, l1, l2, l3, l4, l5] (.inl x :: .inr (k, i) :: st) Q ↔ ix_i k x ∧ VV 64 h 59 [l0, l1, l2, l3, l4, l5] (.inl (h k i x.toNatClampNeg) :: st) Q := VV_iald rfl
theorem xr_64_59 (h : AHp) (Q : Option Int32 → AHp → Prop) (l0 l1 l2 l3 l4 l5 : Option AV) (x y : Int32) (st : List AV) : VV 64 h 59 [l0, l1, l2, l3, l4, l5] (.inl y :: .inl x :: st) Q ↔ (x = y → VV 64 h 64 [l0, l1, l2, l3, l4, l5] st Q) ∧ (¬ (x = y) → VV 64 h 62 [l0, l1, l2, l3, l4, l5] st Q) := VV_br2 rfl rfl rfl decide_eq_true_iff
theorem xr_64_62 (h : AHp) (Q : Option Int32 → AHp → Prop) (l0 l1 l2 l3 l4 l5 : Option AV) (st : List AV) : VV 64 h 62 [l0, l1, l2, l3, l4, l5] st Q ↔ VV 64 h 63 [l0, l1, l2, l3, l4, l5] (.inl (-1 : Int32) :: st) Q := VV_step rfl rfl rfl rfl
theorem xr_64_63 (h : AHp) (Q : Option Int32 → AHp → Prop) (l0 l1 l2 l3 l4 l5 : Option AV) (x : Int32) : VV 64 h 63 [l0, l1, l2, l3, l4, l5] [.inl x] Q ↔ Q (some x) h := VV_end rfl rfl
theorem xr_64_64 (h : AHp) (Q : Option Int32 → AHp → Prop) (l1 l2 l3 l4 l5 : Option AV) (x : Nat × Nat) (st : List AV) : VV 64 h 64 [some (.inr x), l1, l2, l3, l4, l5] st Q ↔ VV 64 h 65 [some (.inr x), l1, l2, l3, l4, l5] (.inr x :: st) Q := VV_step rfl rfl rfl rfl
theorem xr_64_65 (h : AHp) (Q : Option Int32 → AHp → Prop) (l0 l1 l2 l3 l4 l5 : Option AV) (i : Nat) (st : List AV) : VV 64 h 65 [l0, l1, l2, l3, l4, l5] (.inr (10, i) :: st) Q ↔ VV 64 h 68 [l0, l1, l2, l3, l4, l5] (.inr (13, i) :: st) Q := VV_step rfl rfl rfl rfl
theorem xr_64_68 (h : AHp) (Q : Option Int32 → AHp → Prop) (l0 l1 l3 l4 l5 : Option AV) (x : Int32) (st : List AV) : VV 64 h 68 [l0, l1, some (.inl x), l3, l4, l5] st Q ↔ VV 64 h 69 [l0, l1, some (.inl x), l3, l4, l5] (.inl x :: st) Q := VV_step rfl rfl rfl rfl
theorem xr_64_69 (h : AHp) (Q : Option Int32 → AHp → Prop) (l0 l1 l2 l3 l4 l5 : Option AV) (x : Int32) (k i : Nat) (st : List AV) : VV 64 h 69 [l0, l1, l2, l3, l4, l5] (.inl x :: .inr (k, i) :: st) Q ↔ ix_i k x ∧ VV 64 h 70 [l0, l1, l2, l3, l4, l5] (.inl (h k i x.toNatClampNeg) :: st) Q := VV_iald rfl
theorem xr_64_70 (h : AHp) (Q : Option Int32 → AHp → Prop) (l0 l1 l2 l3 l4 l5 : Option AV) (x : Int32) (st : List AV) : VV 64 h 70 [l0, l1, l2, l3, l4, l5] (.inl x :: st) Q ↔ VV 64 h 72 [l0, l1, l2, l3, some (.inl x), l5] st Q := VV_step rfl rfl rfl rfl
theorem xr_64_72 (h : AHp) (Q : Option Int32 → AHp → Prop) (l0 l1 l2 l3 l4 l5 : Option AV) (st : List AV) : VV 64 h 72 [l0, l1, l2, l3, l4, l5] st Q ↔ VV 64 h 130 [l0, l1, l2, l3, l4, l5] st Q := VV_step rfl rfl rfl rfl
theorem xr_64_75 (h : AHp) (Q : Option Int32 → AHp → Prop) (l0 l1 l2 l3 l4 l5 : Option AV) (st : List AV) : VV 64 h 75 [l0, l1, l2, l3, l4, l5] st Q ↔ VV 64 h 76 [l0, l1, l2, l3, l4, l5] (.inl (-1 : Int32) :: st) Q := VV_step rfl rfl rfl rfl
theorem xr_64_76 (h : AHp) (Q : Option Int32 → AHp → Prop) (l0 l1 l3 l4 l5 : Option AV) (x : Int32) (st : List AV) : VV 64 h 76 [l0, l1, some (.inl x), l3, l4, l5] st Q ↔ VV 64 h 77 [l0, l1, some (.inl x), l3, l4, l5] (.inl x :: st) Q := VV_step rfl rfl rfl rfl
theorem xr_64_77 (h : AHp) (Q : Option Int32 → AHp → Prop) (l0 l1 l2 l3 l4 l5 : Option AV) (x y : Int32) (st : List AV) : VV 64 h 77 [l0, l1, l2, l3, l4, l5] (.inl y :: .inl x :: st) Q ↔ VV 64 h 78 [l0, l1, l2, l3, l4, l5] (.inl (x - y) :: st) Q := VV_step rfl rfl rfl rfl
theorem xr_64_78 (h : AHp) (Q : Option Int32 → AHp → Prop) (l0 l1 l2 l3 l4 l5 : Option AV) (x : Int32) (st : List AV) : VV 64 h 78 [l0, l1, l2, l3, l4, l5] (.inl x :: st) Q ↔ VV 64 h 80 [l0, l1, l2, l3, l4, some (.inl x)] st Q := VV_step rfl rfl rfl rfl
theorem xr_64_80 (h : AHp) (Q : Option Int32 → AHp → Prop) (l1 l2 l3 l4 l5 : Option AV) (x : Nat × Nat) (st : List AV) : VV 64 h 80 [some (.inr x), l1, l2, l3, l4, l5] st Q ↔ VV 64 h 81 [some (.inr x), l1, l2, l3, l4, l5] (.inr x :: st) Q := VV_step rfl rfl rfl rfl
theorem xr_64_81 (h : AHp) (Q : Option Int32 → AHp → Prop) (l0 l1 l2 l3 l4 : Option AV) (x : Int32) (st : List AV) : VV 64 h 81 [l0, l1, l2, l3, l4, some (.inl x)] st Q ↔ VV 64 h 83 [l0, l1, l2, l3, l4, some (.inl x)] (.inl x :: st) Q := VV_step rfl rfl rfl rfl
theorem xr_64_83 (h : AHp) (Q : Option Int32 → AHp → Prop) (l0 l1 l2 l3 l4 l5 : Option AV) (a0 : AV) (i : Nat) : VV 64 h 83 [l0, l1, l2, l3, l4, l5] [a0, .inr (10, i)] Q ↔ Vi 61 h [some (.inr (10, i)), some a0] (fun z h2 => VV 64 h2 86 [l0, l1, l2, l3, l4, l5] [.inl z] Q) := VV_calli (y := 61) (as := [.inr (10, i), a0]) (rest := []) rfl rfl rfl (ah_noV (y := 61) (by decide))
theorem xr_64_86 (h : AHp) (Q : Option Int32 → AHp → Prop) (l0 l1 l2 l3 l4 l5 : Option AV) (x : Int32) (st : List AV) : VV 64 h 86 [l0, l1, l2, l3, l4, l5] (.inl x :: st) Q ↔ (x = 0 → VV 64 h 109 [l0, l1, l2, l3, l4, l5] st Q) ∧ (¬ (x = 0) → VV 64 h 89 [l0, l1, l2, l3, l4, l5] st Q) := VV_br rfl rfl rfl decide_eq_true_iff
theorem xr_64_89 (h : AHp) (Q : Option Int32 → AHp → Prop) (l1 l2 l3 l4 l5 : Option AV) (x : Nat × Nat) (st : List AV) : VV 64 h 89 [some (.inr x), l1, l2, l3, l4, l5] st Q ↔ VV 64 h 90 [some (.inr x), l1, l2, l3, l4, l5] (.inr x :: st) Q := VV_step rfl rfl rfl rfl
theorem xr_64_90 (h : AHp) (Q : Option Int32 → AHp → Prop) (l0 l1 l2 l3 l4 l5 : Option AV) (i : Nat) (st : List AV) : VV 64 h 90 [l0, l1, l2, l3, l4, l5] (.inr (10, i) :: st) Q ↔ VV 64 h 93 [l0, l1, l2, l3, l4, l5] (.inr (22, i) :: st) Q := VV_step rfl rfl rfl rfl
theorem xr_64_93 (h : AHp) (Q : Option Int32 → AHp → Prop) (l0 l1 l2 l3 l4 l5 : Option AV) (st : List AV) : VV 64 h 93 [l0, l1, l2, l3, l4, l5] st Q ↔ VV 64 h 95 [l0, l1, l2, l3, l4, l5] (.inl (8 : Int32) :: st) Q := VV_step rfl rfl rfl rfl
theorem xr_64_95 (h : AHp) (Q : Option Int32 → AHp → Prop) (l0 l1 l2 l3 l4 : Option AV) (x : Int32) (st : List AV) : VV 64 h 95 [l0, l1, l2, l3, l4, some (.inl x)] st Q ↔ VV 64 h 97 [l0, l1, l2, l3, l4, some (.inl x)] (.inl x :: st) Q := VV_step rfl rfl rfl rfl
theorem xr_64_97 (h : AHp) (Q : Option Int32 → AHp → Prop) (l0 l1 l2 l3 l4 l5 : Option AV) (x y : Int32) (st : List AV) : VV 64 h 97 [l0, l1, l2, l3, l4, l5] (.inl y :: .inl x :: st) Q ↔ VV 64 h 98 [l0, l1, l2, l3, l4, l5] (.inl (x * y) :: st) Q := VV_step rfl rfl rfl rfl
theorem xr_64_98 (h : AHp) (Q : Option Int32 → AHp → Prop) (l1 l2 l3 l4 l5 : Option AV) (x : Nat × Nat) (st : List AV) : VV 64 h 98 [some (.inr x), l1, l2, l3, l4, l5] st Q ↔ VV 64 h 99 [some (.inr x), l1, l2, l3, l4, l5] (.inr x :: st) Q := VV_step rfl rfl rfl rfl
theorem xr_64_99 (h : AHp) (Q : Option Int32 → AHp → Prop) (l0 l1 l2 l3 l4 l5 : Option AV) (i : Nat) (st : List AV) : VV 64 h 99 [l0, l1, l2, l3, l4, l5] (.inr (10, i) :: st) Q ↔ VV 64 h 102 [l0, l1, l2, l3, l4, l5] (.inr (12, i) :: st) Q := VV_step rfl rfl rfl rfl
theorem xr_64_102 (h : AHp) (Q : Option Int32 → AHp → Prop) (l0 l2 l3 l4 l5 : Option AV) (x : Int32) (st : List AV) : VV 64 h 102 [l0, some (.inl x), l2, l3, l4, l5] st Q ↔ VV 64 h 103 [l0, some (.inl x), l2, l3, l4, l5] (.inl x :: st) Q := VV_step rfl rfl rfl rfl
theorem xr_64_103 (h : AHp) (Q : Option Int32 → AHp → Prop) (l0 l1 l2 l3 l4 l5 : Option AV) (x : Int32) (k i : Nat) (st : List AV) : VV 64 h 103 [l0, l1, l2, l3, l4, l5] (.inl x :: .inr (k, i) :: st) Q ↔ ix_i k x ∧ VV 64 h 104 [l0, l1, l2, l3, l4, l5] (.inl (h k i x.toNatClampNeg) :: st) Q := VV_iald rfl
theorem xr_64_104 (h : AHp) (Q : Option Int32 → AHp → Prop) (l0 l1 l2 l3 l4 l5 : Option AV) (x y : Int32) (st : List AV) : VV 64 h 104 [l0, l1, l2, l3, l4, l5] (.inl y :: .inl x :: st) Q ↔ VV 64 h 105 [l0, l1, l2, l3, l4, l5] (.inl (x + y) :: st) Q := VV_step rfl rfl rfl rfl
theorem xr_64_105 (h : AHp) (Q : Option Int32 → AHp → Prop) (l0 l1 l2 l3 l4 l5 : Option AV) (x : Int32) (k i : Nat) (st : List AV) : VV 64 h 105 [l0, l1, l2, l3, l4, l5] (.inl x :: .inr (k, i) :: st) Q ↔ ix_z k x ∧ VV 64 h 106 [l0, l1, l2, l3, l4, l5] (.inl (h k i x.toNatClampNeg) :: st) Q := VV_bald rfl
theorem xr_64_106 (h : AHp) (Q : Option Int32 → AHp → Prop) (l0 l1 l2 l3 l4 l5 : Option AV) (x : Int32) (st : List AV) : VV 64 h 106 [l0, l1, l2, l3, l4, l5] (.inl x :: st) Q ↔ (¬ x = 0 → VV 64 h 111 [l0, l1, l2, l3, l4, l5] st Q) ∧ (¬ (¬ x = 0) → VV 64 h 109 [l0, l1, l2, l3, l4, l5] st Q) := VV_br rfl rfl rfl decide_eq_true_iff
theorem xr_64_109 (h : AHp) (Q : Option Int32 → AHp → Prop) (l0 l1 l2 l3 l4 l5 : Option AV) (st : List AV) : VV 64 h 109 [l0, l1, l2, l3, l4, l5] st Q ↔ VV 64 h 110 [l0, l1, l2, l3, l4, l5] (.inl (-1 : Int32) :: st) Q := VV_step rfl rfl rfl rfl
theorem xr_64_110 (h : AHp) (Q : Option Int32 → AHp → Prop) (l0 l1 l2 l3 l4 l5 : Option AV) (x : Int32) : VV 64 h 110 [l0, l1, l2, l3, l4, l5] [.inl x] Q ↔ Q (some x) h := VV_end rfl rfl
theorem xr_64_111 (h : AHp) (Q : Option Int32 → AHp → Prop) (l1 l2 l3 l4 l5 : Option AV) (x : Nat × Nat) (st : List AV) : VV 64 h 111 [some (.inr x), l1, l2, l3, l4, l5] st Q ↔ VV 64 h 112 [some (.inr x), l1, l2, l3, l4, l5] (.inr x :: st) Q := VV_step rfl rfl rfl rfl
theorem xr_64_112 (h : AHp) (Q : Option Int32 → AHp → Prop) (l0 l1 l2 l3 l4 l5 : Option AV) (i : Nat) (st : List AV) : VV 64 h 112 [l0, l1, l2, l3, l4, l5] (.inr (10, i) :: st) Q ↔ VV 64 h 115 [l0, l1, l2, l3, l4, l5] (.inr (23, i) :: st) Q := VV_step rfl rfl rfl rfl
theorem xr_64_115 (h : AHp) (Q : Option Int32 → AHp → Prop) (l0 l1 l2 l3 l4 l5 : Option AV) (st : List AV) : VV 64 h 115 [l0, l1, l2, l3, l4, l5] st Q ↔ VV 64 h 117 [l0, l1, l2, l3, l4, l5] (.inl (8 : Int32) :: st) Q := VV_step rfl rfl rfl rfl
theorem xr_64_117 (h : AHp) (Q : Option Int32 → AHp → Prop) (l0 l1 l2 l3 l4 : Option AV) (x : Int32) (st : List AV) : VV 64 h 117 [l0, l1, l2, l3, l4, some (.inl x)] st Q ↔ VV 64 h 119 [l0, l1, l2, l3, l4, some (.inl x)] (.inl x :: st) Q := VV_step rfl rfl rfl rfl
theorem xr_64_119 (h : AHp) (Q : Option Int32 → AHp → Prop) (l0 l1 l2 l3 l4 l5 : Option AV) (x y : Int32) (st : List AV) : VV 64 h 119 [l0, l1, l2, l3, l4, l5] (.inl y :: .inl x :: st) Q ↔ VV 64 h 120 [l0, l1, l2, l3, l4, l5] (.inl (x * y) :: st) Q := VV_step rfl rfl rfl rfl
theorem xr_64_120 (h : AHp) (Q : Option Int32 → AHp → Prop) (l1 l2 l3 l4 l5 : Option AV) (x : Nat × Nat) (st : List AV) : VV 64 h 120 [some (.inr x), l1, l2, l3, l4, l5] st Q ↔ VV 64 h 121 [some (.inr x), l1, l2, l3, l4, l5] (.inr x :: st) Q := VV_step rfl rfl rfl rfl
theorem xr_64_121 (h : AHp) (Q : Option Int32 → AHp → Prop) (l0 l1 l2 l3 l4 l5 : Option AV) (i : Nat) (st : List AV) : VV 64 h 121 [l0, l1, l2, l3, l4, l5] (.inr (10, i) :: st) Q ↔ VV 64 h 124 [l0, l1, l2, l3, l4, l5] (.inr (12, i) :: st) Q := VV_step rfl rfl rfl rfl
theorem xr_64_124 (h : AHp) (Q : Option Int32 → AHp → Prop) (l0 l2 l3 l4 l5 : Option AV) (x : Int32) (st : List AV) : VV 64 h 124 [l0, some (.inl x), l2, l3, l4, l5] st Q ↔ VV 64 h 125 [l0, some (.inl x), l2, l3, l4, l5] (.inl x :: st) Q := VV_step rfl rfl rfl rfl
theorem xr_64_125 (h : AHp) (Q : Option Int32 → AHp → Prop) (l0 l1 l2 l3 l4 l5 : Option AV) (x : Int32) (k i : Nat) (st : List AV) : VV 64 h 125 [l0, l1, l2, l3, l4, l5] (.inl x :: .inr (k, i) :: st) Q ↔ ix_i k x ∧ VV 64 h 126 [l0, l1, l2, l3, l4, l5] (.inl (h k i x.toNatClampNeg) :: st) Q := VV_iald rfl
theorem xr_64_126 (h : AHp) (Q : Option Int32 → AHp → Prop) (l0 l1 l2 l3 l4 l5 : Option AV) (x y : Int32) (st : List AV) : VV 64 h 126 [l0, l1, l2, l3, l4, l5] (.inl y :: .inl x :: st) Q ↔ VV 64 h 127 [l0, l1, l2, l3, l4, l5] (.inl (x + y) :: st) Q := VV_step rfl rfl rfl rfl
theorem xr_64_127 (h : AHp) (Q : Option Int32 → AHp → Prop) (l0 l1 l2 l3 l4 l5 : Option AV) (x : Int32) (k i : Nat) (st : List AV) : VV 64 h 127 [l0, l1, l2, l3, l4, l5] (.inl x :: .inr (k, i) :: st) Q ↔ ix_i k x ∧ VV 64 h 128 [l0, l1, l2, l3, l4, l5] (.inl (h k i x.toNatClampNeg) :: st) Q := VV_iald rfl
theorem xr_64_128 (h : AHp) (Q : Option Int32 → AHp → Prop) (l0 l1 l2 l3 l4 l5 : Option AV) (x : Int32) (st : List AV) : VV 64 h 128 [l0, l1, l2, l3, l4, l5] (.inl x :: st) Q ↔ VV 64 h 130 [l0, l1, l2, l3, some (.inl x), l5] st Q := VV_step rfl rfl rfl rfl
theorem xr_64_130 (h : AHp) (Q : Option Int32 → AHp → Prop) (l1 l2 l3 l4 l5 : Option AV) (x : Nat × Nat) (st : List AV) : VV 64 h 130 [some (.inr x), l1, l2, l3, l4, l5] st Q ↔ VV 64 h 131 [some (.inr x), l1, l2, l3, l4, l5] (.inr x :: st) Q := VV_step rfl rfl rfl rfl
theorem xr_64_131 (h : AHp) (Q : Option Int32 → AHp → Prop) (l0 l1 l2 l3 l4 l5 : Option AV) (i : Nat) (st : List AV) : VV 64 h 131 [l0, l1, l2, l3, l4, l5] (.inr (10, i) :: st) Q ↔ VV 64 h 134 [l0, l1, l2, l3, l4, l5] (.inr (13, i) :: st) Q := VV_step rfl rfl rfl rfl
theorem xr_64_134 (h : AHp) (Q : Option Int32 → AHp → Prop) (l0 l2 l3 l4 l5 : Option AV) (x : Int32) (st : List AV) : VV 64 h 134 [l0, some (.inl x), l2, l3, l4, l5] st Q ↔ VV 64 h 135 [l0, some (.inl x), l2, l3, l4, l5] (.inl x :: st) Q := VV_step rfl rfl rfl rfl
theorem xr_64_135 (h : AHp) (Q : Option Int32 → AHp → Prop) (l0 l1 l2 l3 l5 : Option AV) (x : Int32) (st : List AV) : VV 64 h 135 [l0, l1, l2, l3, some (.inl x), l5] st Q ↔ VV 64 h 137 [l0, l1, l2, l3, some (.inl x), l5] (.inl x :: st) Q := VV_step rfl rfl rfl rfl
theorem xr_64_137 (h : AHp) (Q : Option Int32 → AHp → Prop) (l0 l1 l2 l4 l5 : Option AV) (x : Int32) (st : List AV) : VV 64 h 137 [l0, l1, l2, some (.inl x), l4, l5] st Q ↔ VV 64 h 138 [l0, l1, l2, some (.inl x), l4, l5] (.inl x :: st) Q := VV_step rfl rfl rfl rfl
theorem xr_64_138 (h : AHp) (Q : Option Int32 → AHp → Prop) (l0 l1 l2 l3 l4 l5 : Option AV) (x y : Int32) (st : List AV) : VV 64 h 138 [l0, l1, l2, l3, l4, l5] (.inl y :: .inl x :: st) Q ↔ VV 64 h 139 [l0, l1, l2, l3, l4, l5] (.inl (x ^^^ y) :: st) Q := VV_step rfl rfl rfl rfl
theorem xr_64_139 (h : AHp) (Q : Option Int32 → AHp → Prop) (l0 l1 l2 l3 l4 l5 : Option AV) (x v : Int32) (k i : Nat) (st : List AV) : VV 64 h 139 [l0, l1, l2, l3, l4, l5] (.inl v :: .inl x :: .inr (k, i) :: st) Q ↔ ix_i k x ∧ VV 64 (ah_up h k i x.toNatClampNeg v) 140 [l0, l1, l2, l3, l4, l5] st Q := VV_iast rfl
theorem xr_64_140 (h : AHp) (Q : Option Int32 → AHp → Prop) (l1 l2 l3 l4 l5 : Option AV) (x : Nat × Nat) (st : List AV) : VV 64 h 140 [some (.inr x), l1, l2, l3, l4, l5] st Q ↔ VV 64 h 141 [some (.inr x), l1, l2, l3, l4, l5] (.inr x :: st) Q := VV_step rfl rfl rfl rfl
theorem xr_64_141 (h : AHp) (Q : Option Int32 → AHp → Prop) (l0 l1 l2 l3 l4 l5 : Option AV) (i : Nat) (st : List AV) : VV 64 h 141 [l0, l1, l2, l3, l4, l5] (.inr (10, i) :: st) Q ↔ VV 64 h 144 [l0, l1, l2, l3, l4, l5] (.inr (14, i) :: st) Q := VV_step rfl rfl rfl rfl
theorem xr_64_144 (h : AHp) (Q : Option Int32 → AHp → Prop) (l0 l2 l3 l4 l5 : Option AV) (x : Int32) (st : List AV) : VV 64 h 144 [l0, some (.inl x), l2, l3, l4, l5] st Q ↔ VV 64 h 145 [l0, some (.inl x), l2, l3, l4, l5] (.inl x :: st) Q := VV_step rfl rfl rfl rfl
theorem xr_64_145 (h : AHp) (Q : Option Int32 → AHp → Prop) (l0 l1 l2 l3 l4 l5 : Option AV) (st : List AV) : VV 64 h 145 [l0, l1, l2, l3, l4, l5] st Q ↔ VV 64 h 146 [l0, l1, l2, l3, l4, l5] (.inl (0 : Int32) :: st) Q := VV_step rfl rfl rfl rfl
theorem xr_64_146 (h : AHp) (Q : Option Int32 → AHp → Prop) (l0 l1 l2 l3 l4 l5 : Option AV) (x v : Int32) (k i : Nat) (st : List AV) : VV 64 h 146 [l0, l1, l2, l3, l4, l5] (.inl v :: .inl x :: .inr (k, i) :: st) Q ↔ ix_i k x ∧ VV 64 (ah_up h k i x.toNatClampNeg v) 147 [l0, l1, l2, l3, l4, l5] st Q := VV_iast rfl
theorem xr_64_147 (h : AHp) (Q : Option Int32 → AHp → Prop) (l1 l2 l3 l4 l5 : Option AV) (x : Nat × Nat) (st : List AV) : VV 64 h 147 [some (.inr x), l1, l2, l3, l4, l5] st Q ↔ VV 64 h 148 [some (.inr x), l1, l2, l3, l4, l5] (.inr x :: st) Q := VV_step rfl rfl rfl rfl
theorem xr_64_148 (h : AHp) (Q : Option Int32 → AHp → Prop) (l0 l1 l2 l3 l4 l5 : Option AV) (i : Nat) (st : List AV) : VV 64 h 148 [l0, l1, l2, l3, l4, l5] (.inr (10, i) :: st) Q ↔ VV 64 h 151 [l0, l1, l2, l3, l4, l5] (.inr (13, i) :: st) Q := VV_step rfl rfl rfl rfl
theorem xr_64_151 (h : AHp) (Q : Option Int32 → AHp → Prop) (l0 l2 l3 l4 l5 : Option AV) (x : Int32) (st : List AV) : VV 64 h 151 [l0, some (.inl x), l2, l3, l4, l5] st Q ↔ VV 64 h 152 [l0, some (.inl x), l2, l3, l4, l5] (.inl x :: st) Q := VV_step rfl rfl rfl rfl
theorem xr_64_152 (h : AHp) (Q : Option Int32 → AHp → Prop) (l0 l1 l2 l3 l4 l5 : Option AV) (x : Int32) (k i : Nat) (st : List AV) : VV 64 h 152 [l0, l1, l2, l3, l4, l5] (.inl x :: .inr (k, i) :: st) Q ↔ ix_i k x ∧ VV 64 h 153 [l0, l1, l2, l3, l4, l5] (.inl (h k i x.toNatClampNeg) :: st) Q := VV_iald rfl
theorem xr_64_153 (h : AHp) (Q : Option Int32 → AHp → Prop) (l0 l1 l2 l3 l4 l5 : Option AV) (x : Int32) : VV 64 h 153 [l0, l1, l2, l3, l4, l5] [.inl x] Q ↔ Q (some x) h := VV_end rfl rfl
theorem xr_65_0 (h : AHp) (Q : Option Int32 → AHp → Prop) (l1 l2 : Option AV) (x : Nat × Nat) (st : List AV) : VV 65 h 0 [some (.inr x), l1, l2] st Q ↔ VV 65 h 1 [some (.inr x), l1, l2] (.inr x :: st) Q := VV_step rfl rfl rfl rfl
theorem xr_65_1 (h : AHp) (Q : Option Int32 → AHp → Prop) (l0 l1 l2 : Option AV) (st : List AV) : VV 65 h 1 [l0, l1, l2] st Q ↔ VV 65 h 2 [l0, l1, l2] (.inl (0 : Int32) :: st) Q := VV_step rfl rfl rfl rfl
theorem xr_65_2 (h : AHp) (Q : Option Int32 → AHp → Prop) (l0 l1 l2 : Option AV) (v : Int32) (i : Nat) (st : List AV) : VV 65 h 2 [l0, l1, l2] (.inl v :: .inr (10, i) :: st) Q ↔ VV 65 (ah_up h 10 i 20 v) 5 [l0, l1, l2] st Q := VV_step rfl rfl rfl rfl
theorem xr_65_5 (h : AHp) (Q : Option Int32 → AHp → Prop) (l1 l2 : Option AV) (x : Nat × Nat) (st : List AV) : VV 65 h 5 [some (.inr x), l1, l2] st Q ↔ VV 65 h 6 [some (.inr x), l1, l2] (.inr x :: st) Q := VV_step rfl rfl rfl rfl
theorem xr_65_6 (h : AHp) (Q : Option Int32 → AHp → Prop) (l0 l1 l2 : Option AV) (i : Nat) (st : List AV) : VV 65 h 6 [l0, l1, l2] (.inr (10, i) :: st) Q ↔ VV 65 h 9 [l0, l1, l2] (.inl (h 10 i 6) :: st) Q := VV_step rfl rfl rfl rfl
theorem xr_65_9 (h : AHp) (Q : Option Int32 → AHp → Prop) (l0 l1 l2 : Option AV) (st : List AV) : VV 65 h 9 [l0, l1, l2] st Q ↔ VV 65 h 11 [l0, l1, l2] (.inl (8 : Int32) :: st) Q := VV_step rfl rfl rfl rfl
theorem xr_65_11 (h : AHp) (Q : Option Int32 → AHp → Prop) (l0 l1 l2 : Option AV) (x y : Int32) (st : List AV) : VV 65 h 11 [l0, l1, l2] (.inl y :: .inl x :: st) Q ↔ (x = y → VV 65 h 25 [l0, l1, l2] st Q) ∧ (¬ (x = y) → VV 65 h 14 [l0, l1, l2] st Q) := VV_br2 rfl rfl rfl decide_eq_true_iff
theorem xr_65_14 (h : AHp) (Q : Option Int32 → AHp → Prop) (l0 l2 : Option AV) (x : Int32) (st : List AV) : VV 65 h 14 [l0, some (.inl x), l2] st Q ↔ VV 65 h 15 [l0, some (.inl x), l2] (.inl x :: st) Q := VV_step rfl rfl rfl rfl
theorem xr_65_15 (h : AHp) (Q : Option Int32 → AHp → Prop) (l0 l1 l2 : Option AV) (st : List AV) : VV 65 h 15 [l0, l1, l2] st Q ↔ VV 65 h 16 [l0, l1, l2] (.inl (1 : Int32) :: st) Q := VV_step rfl rfl rfl rfl
theorem xr_65_16 (h : AHp) (Q : Option Int32 → AHp → Prop) (l0 l1 l2 : Option AV) (x y : Int32) (st : List AV) : VV 65 h 16 [l0, l1, l2] (.inl y :: .inl x :: st) Q ↔ (x < y → VV 65 h 25 [l0, l1, l2] st Q) ∧ (¬ (x < y) → VV 65 h 19 [l0, l1, l2] st Q) := VV_br2 rfl rfl rfl decide_eq_true_iff
theorem xr_65_19 (h : AHp) (Q : Option Int32 → AHp → Prop) (l0 l2 : Option AV) (x : Int32) (st : List AV) : VV 65 h 19 [l0, some (.inl x), l2] st Q ↔ VV 65 h 20 [l0, some (.inl x), l2] (.inl x :: st) Q := VV_step rfl rfl rfl rfl
theorem xr_65_20 (h : AHp) (Q : Option Int32 → AHp → Prop) (l0 l1 l2 : Option AV) (st : List AV) : VV 65 h 20 [l0, l1, l2] st Q ↔ VV 65 h 22 [l0, l1, l2] (.inl (9 : Int32) :: st) Q := VV_step rfl rfl rfl rfl
theorem xr_65_22 (h : AHp) (Q : Option Int32 → AHp → Prop) (l0 l1 l2 : Option AV) (x y : Int32) (st : List AV) : VV 65 h 22 [l0, l1, l2] (.inl y :: .inl x :: st) Q ↔ (x ≤ y → VV 65 h 27 [l0, l1, l2] st Q) ∧ (¬ (x ≤ y) → VV 65 h 25 [l0, l1, l2] st Q) := VV_br2 rfl rfl rfl decide_eq_true_iff
theorem xr_65_25 (h : AHp) (Q : Option Int32 → AHp → Prop) (l0 l1 l2 : Option AV) (st : List AV) : VV 65 h 25 [l0, l1, l2] st Q ↔ VV 65 h 26 [l0, l1, l2] (.inl (-1 : Int32) :: st) Q := VV_step rfl rfl rfl rfl
theorem xr_65_26 (h : AHp) (Q : Option Int32 → AHp → Prop) (l0 l1 l2 : Option AV) (x : Int32) : VV 65 h 26 [l0, l1, l2] [.inl x] Q ↔ Q (some x) h := VV_end rfl rfl
theorem xr_65_27 (h : AHp) (Q : Option Int32 → AHp → Prop) (l1 l2 : Option AV) (x : Nat × Nat) (st : List AV) : VV 65 h 27 [some (.inr x), l1, l2] st Q ↔ VV 65 h 28 [some (.inr x), l1, l2] (.inr x :: st) Q := VV_step rfl rfl rfl rfl
theorem xr_65_28 (h : AHp) (Q : Option Int32 → AHp → Prop) (l0 l1 l2 : Option AV) (i : Nat) (st : List AV) : VV 65 h 28 [l0, l1, l2] (.inr (10, i) :: st) Q ↔ VV 65 h 31 [l0, l1, l2] (.inr (17, i) :: st) Q := VV_step rfl rfl rfl rfl
theorem xr_65_31 (h : AHp) (Q : Option Int32 → AHp → Prop) (l1 l2 : Option AV) (x : Nat × Nat) (st : List AV) : VV 65 h 31 [some (.inr x), l1, l2] st Q ↔ VV 65 h 32 [some (.inr x), l1, l2] (.inr x :: st) Q := VV_step rfl rfl rfl rfl
theorem xr_65_32 (h : AHp) (Q : Option Int32 → AHp → Prop) (l0 l1 l2 : Option AV) (i : Nat) (st : List AV) : VV 65 h 32 [l0, l1, l2] (.inr (10, i) :: st) Q ↔ VV 65 h 35 [l0, l1, l2] (.inl (h 10 i 6) :: st) Q := VV_step rfl rfl rfl rfl
theorem xr_65_35 (h : AHp) (Q : Option Int32 → AHp → Prop) (l0 l2 : Option AV) (x : Int32) (st : List AV) : VV 65 h 35 [l0, some (.inl x), l2] st Q ↔ VV 65 h 36 [l0, some (.inl x), l2] (.inl x :: st) Q := VV_step rfl rfl rfl rfl
theorem xr_65_36 (h : AHp) (Q : Option Int32 → AHp → Prop) (l0 l1 l2 : Option AV) (x v : Int32) (k i : Nat) (st : List AV) : VV 65 h 36 [l0, l1, l2] (.inl v :: .inl x :: .inr (k, i) :: st) Q ↔ ix_i k x ∧ VV 65 (ah_up h k i x.toNatClampNeg v) 37 [l0, l1, l2] st Q := VV_iast rfl
theorem xr_65_37 (h : AHp) (Q : Option Int32 → AHp → Prop) (l1 l2 : Option AV) (x : Nat × Nat) (st : List AV) : VV 65 h 37 [some (.inr x), l1, l2] st Q ↔ VV 65 h 38 [some (.inr x), l1, l2] (.inr x :: st) Q := VV_step rfl rfl rfl rfl
theorem xr_65_38 (h : AHp) (Q : Option Int32 → AHp → Prop) (l0 l1 l2 : Option AV) (i : Nat) (st : List AV) : VV 65 h 38 [l0, l1, l2] (.inr (10, i) :: st) Q ↔ VV 65 h 41 [l0, l1, l2] (.inr (18, i) :: st) Q := VV_step rfl rfl rfl rfl
theorem xr_65_41 (h : AHp) (Q : Option Int32 → AHp → Prop) (l1 l2 : Option AV) (x : Nat × Nat) (st : List AV) : VV 65 h 41 [some (.inr x), l1, l2] st Q ↔ VV 65 h 42 [some (.inr x), l1, l2] (.inr x :: st) Q := VV_step rfl rfl rfl rfl
theorem xr_65_42 (h : AHp) (Q : Option Int32 → AHp → Prop) (l0 l1 l2 : Option AV) (i : Nat) (st : List AV) : VV 65 h 42 [l0, l1, l2] (.inr (10, i) :: st) Q ↔ VV 65 h 45 [l0, l1, l2] (.inl (h 10 i 6) :: st) Q := VV_step rfl rfl rfl rfl
theorem xr_65_45 (h : AHp) (Q : Option Int32 → AHp → Prop) (l1 l2 : Option AV) (x : Nat × Nat) (st : List AV) : VV 65 h 45 [some (.inr x), l1, l2] st Q ↔ VV 65 h 46 [some (.inr x), l1, l2] (.inr x :: st) Q := VV_step rfl rfl rfl rfl
theorem xr_65_46 (h : AHp) (Q : Option Int32 → AHp → Prop) (l0 l1 l2 : Option AV) (i : Nat) (st : List AV) : VV 65 h 46 [l0, l1, l2] (.inr (10, i) :: st) Q ↔ VV 65 h 49 [l0, l1, l2] (.inl (h 10 i 17) :: st) Q := VV_step rfl rfl rfl rfl
theorem xr_65_49 (h : AHp) (Q : Option Int32 → AHp → Prop) (l0 l1 l2 : Option AV) (x v : Int32) (k i : Nat) (st : List AV) : VV 65 h 49 [l0, l1, l2] (.inl v :: .inl x :: .inr (k, i) :: st) Q ↔ ix_i k x ∧ VV 65 (ah_up h k i x.toNatClampNeg v) 50 [l0, l1, l2] st Q := VV_iast rfl
theorem xr_65_50 (h : AHp) (Q : Option Int32 → AHp → Prop) (l1 l2 : Option AV) (x : Nat × Nat) (st : List AV) : VV 65 h 50 [some (.inr x), l1, l2] st Q ↔ VV 65 h 51 [some (.inr x), l1, l2] (.inr x :: st) Q := VV_step rfl rfl rfl rfl
theorem xr_65_51 (h : AHp) (Q : Option Int32 → AHp → Prop) (l0 l1 l2 : Option AV) (i : Nat) (st : List AV) : VV 65 h 51 [l0, l1, l2] (.inr (10, i) :: st) Q ↔ VV 65 h 54 [l0, l1, l2] (.inr (19, i) :: st) Q := VV_step rfl rfl rfl rfl
theorem xr_65_54 (h : AHp) (Q : Option Int32 → AHp → Prop) (l1 l2 : Option AV) (x : Nat × Nat) (st : List AV) : VV 65 h 54 [some (.inr x), l1, l2] st Q ↔ VV 65 h 55 [some (.inr x), l1, l2] (.inr x :: st) Q := VV_step rfl rfl rfl rfl
theorem xr_65_55 (h : AHp) (Q : Option Int32 → AHp → Prop) (l0 l1 l2 : Option AV) (i : Nat) (st : List AV) : VV 65 h 55 [l0, l1, l2] (.inr (10, i) :: st) Q ↔ VV 65 h 58 [l0, l1, l2] (.inl (h 10 i 6) :: st) Q := VV_step rfl rfl rfl rfl
theorem xr_65_58 (h : AHp) (Q : Option Int32 → AHp → Prop) (l0 l1 l2 : Option AV) (st : List AV) : VV 65 h 58 [l0, l1, l2] st Q ↔ VV 65 h 59 [l0, l1, l2] (.inl (-1 : Int32) :: st) Q := VV_step rfl rfl rfl rfl
theorem xr_65_59 (h : AHp) (Q : Option Int32 → AHp → Prop) (l0 l1 l2 : Option AV) (x v : Int32) (k i : Nat) (st : List AV) : VV 65 h 59 [l0, l1, l2] (.inl v :: .inl x :: .inr (k, i) :: st) Q ↔ ix_i k x ∧ VV 65 (ah_up h k i x.toNatClampNeg v) 60 [l0, l1, l2] st Q := VV_iast rfl
theorem xr_65_60 (h : AHp) (Q : Option Int32 → AHp → Prop) (l1 l2 : Option AV) (x : Nat × Nat) (st : List AV) : VV 65 h 60 [some (.inr x), l1, l2] st Q ↔ VV 65 h 61 [some (.inr x), l1, l2] (.inr x :: st) Q := VV_step rfl rfl rfl rfl
theorem xr_65_61 (h : AHp) (Q : Option Int32 → AHp → Prop) (l0 l1 l2 : Option AV) (i : Nat) (st : List AV) : VV 65 h 61 [l0, l1, l2] (.inr (10, i) :: st) Q ↔ VV 65 h 64 [l0, l1, l2] (.inr (20, i) :: st) Q := VV_step rfl rfl rfl rfl
theorem xr_65_64 (h : AHp) (Q : Option Int32 → AHp → Prop) (l1 l2 : Option AV) (x : Nat × Nat) (st : List AV) : VV 65 h 64 [some (.inr x), l1, l2] st Q ↔ VV 65 h 65 [some (.inr x), l1, l2] (.inr x :: st) Q := VV_step rfl rfl rfl rfl
theorem xr_65_65 (h : AHp) (Q : Option Int32 → AHp → Prop) (l0 l1 l2 : Option AV) (i : Nat) (st : List AV) : VV 65 h 65 [l0, l1, l2] (.inr (10, i) :: st) Q ↔ VV 65 h 68 [l0, l1, l2] (.inl (h 10 i 6) :: st) Q := VV_step rfl rfl rfl rfl
theorem xr_65_68 (h : AHp) (Q : Option Int32 → AHp → Prop) (l0 l1 l2 : Option AV) (st : List AV) : VV 65 h 68 [l0, l1, l2] st Q ↔ VV 65 h 69 [l0, l1, l2] (.inl (-1 : Int32) :: st) Q := VV_step rfl rfl rfl rfl
theorem xr_65_69 (h : AHp) (Q : Option Int32 → AHp → Prop) (l0 l1 l2 : Option AV) (x v : Int32) (k i : Nat) (st : List AV) : VV 65 h 69 [l0, l1, l2] (.inl v :: .inl x :: .inr (k, i) :: st) Q ↔ ix_i k x ∧ VV 65 (ah_up h k i x.toNatClampNeg v) 70 [l0, l1, l2] st Q := VV_iast rfl
theorem xr_65_70 (h : AHp) (Q : Option Int32 → AHp → Prop) (l0 l1 l2 : Option AV) (st : List AV) : VV 65 h 70 [l0, l1, l2] st Q ↔ VV 65 h 71 [l0, l1, l2] (.inl (0 : Int32) :: st) Q := VV_step rfl rfl rfl rfl
theorem xr_65_71 (h : AHp) (Q : Option Int32 → AHp → Prop) (l0 l1 l2 : Option AV) (x : Int32) (st : List AV) : VV 65 h 71 [l0, l1, l2] (.inl x :: st) Q ↔ VV 65 h 72 [l0, l1, some (.inl x)] st Q := VV_step rfl rfl rfl rfl
theorem xr_65_72 (h : AHp) (Q : Option Int32 → AHp → Prop) (l0 l1 : Option AV) (x : Int32) (st : List AV) : VV 65 h 72 [l0, l1, some (.inl x)] st Q ↔ VV 65 h 73 [l0, l1, some (.inl x)] (.inl x :: st) Q := VV_step rfl rfl rfl rfl
theorem xr_65_73 (h : AHp) (Q : Option Int32 → AHp → Prop) (l0 l1 l2 : Option AV) (st : List AV) : VV 65 h 73 [l0, l1, l2] st Q ↔ VV 65 h 75 [l0, l1, l2] (.inl (8 : Int32) :: st) Q := VV_step rfl rfl rfl rfl
theorem xr_65_75 (h : AHp) (Q : Option Int32 → AHp → Prop) (l0 l1 l2 : Option AV) (x y : Int32) (st : List AV) : VV 65 h 75 [l0, l1, l2] (.inl y :: .inl x :: st) Q ↔ (y ≤ x → VV 65 h 114 [l0, l1, l2] st Q) ∧ (¬ (y ≤ x) → VV 65 h 78 [l0, l1, l2] st Q) := VV_br2 rfl rfl rfl decide_eq_true_iff
theorem xr_65_78 (h : AHp) (Q : Option Int32 → AHp → Prop) (l1 l2 : Option AV) (x : Nat × Nat) (st : List AV) : VV 65 h 78 [some (.inr x), l1, l2] st Q ↔ VV 65 h 79 [some (.inr x), l1, l2] (.inr x :: st) Q := VV_step rfl rfl rfl rfl
theorem xr_65_79 (h : AHp) (Q : Option Int32 → AHp → Prop) (l0 l1 l2 : Option AV) (i : Nat) (st : List AV) : VV 65 h 79 [l0, l1, l2] (.inr (10, i) :: st) Q ↔ VV 65 h 82 [l0, l1, l2] (.inr (21, i) :: st) Q := VV_step rfl rfl rfl rfl
theorem xr_65_82 (h : AHp) (Q : Option Int32 → AHp → Prop) (l0 l1 l2 : Option AV) (st : List AV) : VV 65 h 82 [l0, l1, l2] st Q ↔ VV 65 h 84 [l0, l1, l2] (.inl (8 : Int32) :: st) Q := VV_step rfl rfl rfl rfl
theorem xr_65_84 (h : AHp) (Q : Option Int32 → AHp → Prop) (l1 l2 : Option AV) (x : Nat × Nat) (st : List AV) : VV 65 h 84 [some (.inr x), l1, l2] st Q ↔ VV 65 h 85 [some (.inr x), l1, l2] (.inr x :: st) Q := VV_step rfl rfl rfl rfl
theorem xr_65_85 (h : AHp) (Q : Option Int32 → AHp → Prop) (l0 l1 l2 : Option AV) (i : Nat) (st : List AV) : VV 65 h 85 [l0, l1, l2] (.inr (10, i) :: st) Q ↔ VV 65 h 88 [l0, l1, l2] (.inl (h 10 i 6) :: st) Q := VV_step rfl rfl rfl rfl
theorem xr_65_88 (h : AHp) (Q : Option Int32 → AHp → Prop) (l0 l1 l2 : Option AV) (x y : Int32) (st : List AV) : VV 65 h 88 [l0, l1, l2] (.inl y :: .inl x :: st) Q ↔ VV 65 h 89 [l0, l1, l2] (.inl (x * y) :: st) Q := VV_step rfl rfl rfl rfl
theorem xr_65_89 (h : AHp) (Q : Option Int32 → AHp → Prop) (l0 l1 : Option AV) (x : Int32) (st : List AV) : VV 65 h 89 [l0, l1, some (.inl x)] st Q ↔ VV 65 h 90 [l0, l1, some (.inl x)] (.inl x :: st) Q := VV_step rfl rfl rfl rfl
theorem xr_65_90 (h : AHp) (Q : Option Int32 → AHp → Prop) (l0 l1 l2 : Option AV) (x y : Int32) (st : List AV) : VV 65 h 90 [l0, l1, l2] (.inl y :: .inl x :: st) Q ↔ VV 65 h 91 [l0, l1, l2] (.inl (x + y) :: st) Q := VV_step rfl rfl rfl rfl
theorem xr_65_91 (h : AHp) (Q : Option Int32 → AHp → Prop) (l0 l1 l2 : Option AV) (st : List AV) : VV 65 h 91 [l0, l1, l2] st Q ↔ VV 65 h 92 [l0, l1, l2] (.inl (0 : Int32) :: st) Q := VV_step rfl rfl rfl rfl
theorem xr_65_92 (h : AHp) (Q : Option Int32 → AHp → Prop) (l0 l1 l2 : Option AV) (x v : Int32) (k i : Nat) (st : List AV) : VV 65 h 92 [l0, l1, l2] (.inl v :: .inl x :: .inr (k, i) :: st) Q ↔ ix_i k x ∧ VV 65 (ah_up h k i x.toNatClampNeg v) 93 [l0, l1, l2] st Q := VV_iast rfl
theorem xr_65_93 (h : AHp) (Q : Option Int32 → AHp → Prop) (l1 l2 : Option AV) (x : Nat × Nat) (st : List AV) : VV 65 h 93 [some (.inr x), l1, l2] st Q ↔ VV 65 h 94 [some (.inr x), l1, l2] (.inr x :: st) Q := VV_step rfl rfl rfl rfl
theorem xr_65_94 (h : AHp) (Q : Option Int32 → AHp → Prop) (l0 l1 l2 : Option AV) (i : Nat) (st : List AV) : VV 65 h 94 [l0, l1, l2] (.inr (10, i) :: st) Q ↔ VV 65 h 97 [l0, l1, l2] (.inr (22, i) :: st) Q := VV_step rfl rfl rfl rfl
theorem xr_65_97 (h : AHp) (Q : Option Int32 → AHp → Prop) (l0 l1 l2 : Option AV) (st : List AV) : VV 65 h 97 [l0, l1, l2] st Q ↔ VV 65 h 99 [l0, l1, l2] (.inl (8 : Int32) :: st) Q := VV_step rfl rfl rfl rfl
theorem xr_65_99 (h : AHp) (Q : Option Int32 → AHp → Prop) (l1 l2 : Option AV) (x : Nat × Nat) (st : List AV) : VV 65 h 99 [some (.inr x), l1, l2] st Q ↔ VV 65 h 100 [some (.inr x), l1, l2] (.inr x :: st) Q := VV_step rfl rfl rfl rfl
theorem xr_65_100 (h : AHp) (Q : Option Int32 → AHp → Prop) (l0 l1 l2 : Option AV) (i : Nat) (st : List AV) : VV 65 h 100 [l0, l1, l2] (.inr (10, i) :: st) Q ↔ VV 65 h 103 [l0, l1, l2] (.inl (h 10 i 6) :: st) Q := VV_step rfl rfl rfl rfl
theorem xr_65_103 (h : AHp) (Q : Option Int32 → AHp → Prop) (l0 l1 l2 : Option AV) (x y : Int32) (st : List AV) : VV 65 h 103 [l0, l1, l2] (.inl y :: .inl x :: st) Q ↔ VV 65 h 104 [l0, l1, l2] (.inl (x * y) :: st) Q := VV_step rfl rfl rfl rfl
theorem xr_65_104 (h : AHp) (Q : Option Int32 → AHp → Prop) (l0 l1 : Option AV) (x : Int32) (st : List AV) : VV 65 h 104 [l0, l1, some (.inl x)] st Q ↔ VV 65 h 105 [l0, l1, some (.inl x)] (.inl x :: st) Q := VV_step rfl rfl rfl rfl
theorem xr_65_105 (h : AHp) (Q : Option Int32 → AHp → Prop) (l0 l1 l2 : Option AV) (x y : Int32) (st : List AV) : VV 65 h 105 [l0, l1, l2] (.inl y :: .inl x :: st) Q ↔ VV 65 h 106 [l0, l1, l2] (.inl (x + y) :: st) Q := VV_step rfl rfl rfl rfl
theorem xr_65_106 (h : AHp) (Q : Option Int32 → AHp → Prop) (l0 l1 l2 : Option AV) (st : List AV) : VV 65 h 106 [l0, l1, l2] st Q ↔ VV 65 h 107 [l0, l1, l2] (.inl (0 : Int32) :: st) Q := VV_step rfl rfl rfl rfl
theorem xr_65_107 (h : AHp) (Q : Option Int32 → AHp → Prop) (l0 l1 l2 : Option AV) (x v : Int32) (k i : Nat) (st : List AV) : VV 65 h 107 [l0, l1, l2] (.inl v :: .inl x :: .inr (k, i) :: st) Q ↔ (ix_z k x ∧ (v = 0 ∨ v = 1)) ∧ VV 65 (ah_up h k i x.toNatClampNeg v) 108 [l0, l1, l2] st Q := VV_bast rfl
theorem xr_65_108 (h : AHp) (Q : Option Int32 → AHp → Prop) (l0 l1 : Option AV) (x : Int32) (st : List AV) : VV 65 h 108 [l0, l1, some (.inl x)] st Q ↔ VV 65 h 111 [l0, l1, some (.inl (x + (1 : Int32)))] st Q := VV_step rfl rfl rfl rfl
theorem xr_65_111 (h : AHp) (Q : Option Int32 → AHp → Prop) (l0 l1 l2 : Option AV) (st : List AV) : VV 65 h 111 [l0, l1, l2] st Q ↔ VV 65 h 72 [l0, l1, l2] st Q := VV_step rfl rfl rfl rfl
theorem xr_65_114 (h : AHp) (Q : Option Int32 → AHp → Prop) (l1 l2 : Option AV) (x : Nat × Nat) (st : List AV) : VV 65 h 114 [some (.inr x), l1, l2] st Q ↔ VV 65 h 115 [some (.inr x), l1, l2] (.inr x :: st) Q := VV_step rfl rfl rfl rfl
theorem xr_65_115 (h : AHp) (Q : Option Int32 → AHp → Prop) (l0 l1 l2 : Option AV) (v : AV) (st : List AV) : VV 65 h 115 [l0, l1, l2] (v :: st) Q ↔ VV 65 h 116 [l0, l1, l2] (v :: v :: st) Q := VV_step rfl rfl rfl rfl
theorem xr_65_116 (h : AHp) (Q : Option Int32 → AHp → Prop) (l0 l1 l2 : Option AV) (i : Nat) (st : List AV) : VV 65 h 116 [l0, l1, l2] (.inr (10, i) :: st) Q ↔ VV 65 h 119 [l0, l1, l2] (.inl (h 10 i 6) :: st) Q := VV_step rfl rfl rfl rfl
theorem xr_65_119 (h : AHp) (Q : Option Int32 → AHp → Prop) (l0 l1 l2 : Option AV) (st : List AV) : VV 65 h 119 [l0, l1, l2] st Q ↔ VV 65 h 120 [l0, l1, l2] (.inl (1 : Int32) :: st) Q := VV_step rfl rfl rfl rfl
theorem xr_65_120 (h : AHp) (Q : Option Int32 → AHp → Prop) (l0 l1 l2 : Option AV) (x y : Int32) (st : List AV) : VV 65 h 120 [l0, l1, l2] (.inl y :: .inl x :: st) Q ↔ VV 65 h 121 [l0, l1, l2] (.inl (x + y) :: st) Q := VV_step rfl rfl rfl rfl
theorem xr_65_121 (h : AHp) (Q : Option Int32 → AHp → Prop) (l0 l1 l2 : Option AV) (v : Int32) (i : Nat) (st : List AV) : VV 65 h 121 [l0, l1, l2] (.inl v :: .inr (10, i) :: st) Q ↔ VV 65 (ah_up h 10 i 6 v) 124 [l0, l1, l2] st Q := VV_step rfl rfl rfl rfl
theorem xr_65_124 (h : AHp) (Q : Option Int32 → AHp → Prop) (l1 l2 : Option AV) (x : Nat × Nat) (st : List AV) : VV 65 h 124 [some (.inr x), l1, l2] st Q ↔ VV 65 h 125 [some (.inr x), l1, l2] (.inr x :: st) Q := VV_step rfl rfl rfl rfl
theorem xr_65_125 (h : AHp) (Q : Option Int32 → AHp → Prop) (l0 l1 l2 : Option AV) (i : Nat) (st : List AV) : VV 65 h 125 [l0, l1, l2] (.inr (10, i) :: st) Q ↔ VV 65 h 128 [l0, l1, l2] (.inl (h 10 i 6) :: st) Q := VV_step rfl rfl rfl rfl
theorem xr_65_128 (h : AHp) (Q : Option Int32 → AHp → Prop) (l0 l1 l2 : Option AV) (st : List AV) : VV 65 h 128 [l0, l1, l2] st Q ↔ VV 65 h 129 [l0, l1, l2] (.inl (1 : Int32) :: st) Q := VV_step rfl rfl rfl rfl
theorem xr_65_129 (h : AHp) (Q : Option Int32 → AHp → Prop) (l0 l1 l2 : Option AV) (x y : Int32) (st : List AV) : VV 65 h 129 [l0, l1, l2] (.inl y :: .inl x :: st) Q ↔ VV 65 h 130 [l0, l1, l2] (.inl (x - y) :: st) Q := VV_step rfl rfl rfl rfl
theorem xr_65_130 (h : AHp) (Q : Option Int32 → AHp → Prop) (l0 l1 l2 : Option AV) (x : Int32) : VV 65 h 130 [l0, l1, l2] [.inl x] Q ↔ Q (some x) h := VV_end rfl rfl
theorem xr_66_0 (h : AHp) (Q : Option Int32 → AHp → Prop) (l1 l2 l3 : Option AV) (x : Nat × Nat) (st : List AV) : VV 66 h 0 [some (.inr x), l1, l2, l3] st Q ↔ VV 66 h 1 [some (.inr x), l1, l2, l3] (.inr x :: st) Q := VV_step rfl rfl rfl rfl
theorem xr_66_1 (h : AHp) (Q : Option Int32 → AHp → Prop) (l0 l1 l2 l3 : Option AV) (st : List AV) : VV 66 h 1 [l0, l1, l2, l3] st Q ↔ VV 66 h 2 [l0, l1, l2, l3] (.inl (0 : Int32) :: st) Q := VV_step rfl rfl rfl rfl
theorem xr_66_2 (h : AHp) (Q : Option Int32 → AHp → Prop) (l0 l1 l2 l3 : Option AV) (v : Int32) (i : Nat) (st : List AV) : VV 66 h 2 [l0, l1, l2, l3] (.inl v :: .inr (10, i) :: st) Q ↔ VV 66 (ah_up h 10 i 20 v) 5 [l0, l1, l2, l3] st Q := VV_step rfl rfl rfl rfl
theorem xr_66_5 (h : AHp) (Q : Option Int32 → AHp → Prop) (l1 l2 l3 : Option AV) (x : Nat × Nat) (st : List AV) : VV 66 h 5 [some (.inr x), l1, l2, l3] st Q ↔ VV 66 h 6 [some (.inr x), l1, l2, l3] (.inr x :: st) Q := VV_step rfl rfl rfl rfl
theorem xr_66_6 (h : AHp) (Q : Option Int32 → AHp → Prop) (l0 l2 l3 : Option AV) (x : Int32) (st : List AV) : VV 66 h 6 [l0, some (.inl x), l2, l3] st Q ↔ VV 66 h 7 [l0, some (.inl x), l2, l3] (.inl x :: st) Q := VV_step rfl rfl rfl rfl
theorem xr_66_7 (h : AHp) (Q : Option Int32 → AHp → Prop) (l0 l1 l2 l3 : Option AV) (a0 : AV) (i : Nat) : VV 66 h 7 [l0, l1, l2, l3] [a0, .inr (10, i)] Q ↔ Vi 61 h [some (.inr (10, i)), some a0] (fun z h2 => VV 66 h2 10 [l0, l1, l2, l3] [.inl z] Q) := VV_calli (y := 61) (as := [.inr (10, i), a0]) (rest := []) rfl rfl rfl (ah_noV (y := 61) (by decide))
theorem xr_66_10 (h : AHp) (Q : Option Int32 → AHp → Prop) (l0 l1 l2 l3 : Option AV) (x : Int32) (st : List AV) : VV 66 h 10 [l0, l1, l2, l3] (.inl x :: st) Q ↔ (x = 0 → VV 66 h 42 [l0, l1, l2, l3] st Q) ∧ (¬ (x = 0) → VV 66 h 13 [l0, l1, l2, l3] st Q) := VV_br rfl rfl rfl decide_eq_true_iff
theorem xr_66_13 (h : AHp) (Q : Option Int32 → AHp → Prop) (l1 l2 l3 : Option AV) (x : Nat × Nat) (st : List AV) : VV 66 h 13 [some (.inr x), l1, l2, l3] st Q ↔ VV 66 h 14 [some (.inr x), l1, l2, l3] (.inr x :: st) Q := VV_step rfl rfl rfl rfl
theorem xr_66_14 (h : AHp) (Q : Option Int32 → AHp → Prop) (l0 l1 l3 : Option AV) (x : Int32) (st : List AV) : VV 66 h 14 [l0, l1, some (.inl x), l3] st Q ↔ VV 66 h 15 [l0, l1, some (.inl x), l3] (.inl x :: st) Q := VV_step rfl rfl rfl rfl
theorem xr_66_15 (h : AHp) (Q : Option Int32 → AHp → Prop) (l0 l1 l2 l3 : Option AV) (a0 : AV) (i : Nat) : VV 66 h 15 [l0, l1, l2, l3] [a0, .inr (10, i)] Q ↔ Vi 62 h [some (.inr (10, i)), some a0] (fun z h2 => VV 66 h2 18 [l0, l1, l2, l3] [.inl z] Q) := VV_calli (y := 62) (as := [.inr (10, i), a0]) (rest := []) rfl rfl rfl (ah_noV (y := 62) (by decide))
theorem xr_66_18 (h : AHp) (Q : Option Int32 → AHp → Prop) (l0 l1 l2 l3 : Option AV) (x : Int32) (st : List AV) : VV 66 h 18 [l0, l1, l2, l3] (.inl x :: st) Q ↔ (x = 0 → VV 66 h 42 [l0, l1, l2, l3] st Q) ∧ (¬ (x = 0) → VV 66 h 21 [l0, l1, l2, l3] st Q) := VV_br rfl rfl rfl decide_eq_true_iff
theorem xr_66_21 (h : AHp) (Q : Option Int32 → AHp → Prop) (l0 l1 l2 : Option AV) (x : Int32) (st : List AV) : VV 66 h 21 [l0, l1, l2, some (.inl x)] st Q ↔ VV 66 h 22 [l0, l1, l2, some (.inl x)] (.inl x :: st) Q := VV_step rfl rfl rfl rfl
theorem xr_66_22 (h : AHp) (Q : Option Int32 → AHp → Prop) (l0 l1 l2 l3 : Option AV) (a0 : AV) : VV 66 h 22 [l0, l1, l2, l3] [a0] Q ↔ Vi 59 h [some a0] (fun z h2 => VV 66 h2 25 [l0, l1, l2, l3] [.inl z] Q) := VV_calli (y := 59) (as := [a0]) (rest := []) rfl rfl rfl (ah_noV (y := 59) (by decide))
theorem xr_66_25 (h : AHp) (Q : Option Int32 → AHp → Prop) (l0 l1 l2 l3 : Option AV) (x : Int32) (st : List AV) : VV 66 h 25 [l0, l1, l2, l3] (.inl x :: st) Q ↔ (x = 0 → VV 66 h 42 [l0, l1, l2, l3] st Q) ∧ (¬ (x = 0) → VV 66 h 28 [l0, l1, l2, l3] st Q) := VV_br rfl rfl rfl decide_eq_true_iff
theorem xr_66_28 (h : AHp) (Q : Option Int32 → AHp → Prop) (l1 l2 l3 : Option AV) (x : Nat × Nat) (st : List AV) : VV 66 h 28 [some (.inr x), l1, l2, l3] st Q ↔ VV 66 h 29 [some (.inr x), l1, l2, l3] (.inr x :: st) Q := VV_step rfl rfl rfl rfl
theorem xr_66_29 (h : AHp) (Q : Option Int32 → AHp → Prop) (l0 l1 l2 l3 : Option AV) (i : Nat) (st : List AV) : VV 66 h 29 [l0, l1, l2, l3] (.inr (10, i) :: st) Q ↔ VV 66 h 32 [l0, l1, l2, l3] (.inr (22, i) :: st) Q := VV_step rfl rfl rfl rfl
theorem xr_66_32 (h : AHp) (Q : Option Int32 → AHp → Prop) (l0 l1 l2 l3 : Option AV) (st : List AV) : VV 66 h 32 [l0, l1, l2, l3] st Q ↔ VV 66 h 34 [l0, l1, l2, l3] (.inl (8 : Int32) :: st) Q := VV_step rfl rfl rfl rfl
theorem xr_66_34 (h : AHp) (Q : Option Int32 → AHp → Prop) (l0 l2 l3 : Option AV) (x : Int32) (st : List AV) : VV 66 h 34 [l0, some (.inl x), l2, l3] st Q ↔ VV 66 h 35 [l0, some (.inl x), l2, l3] (.inl x :: st) Q := VV_step rfl rfl rfl rfl
theorem xr_66_35 (h : AHp) (Q : Option Int32 → AHp → Prop) (l0 l1 l2 l3 : Option AV) (x y : Int32) (st : List AV) : VV 66 h 35 [l0, l1, l2, l3] (.inl y :: .inl x :: st) Q ↔ VV 66 h 36 [l0, l1, l2, l3] (.inl (x * y) :: st) Q := VV_step rfl rfl rfl rfl
theorem xr_66_36 (h : AHp) (Q : Option Int32 → AHp → Prop) (l0 l1 l3 : Option AV) (x : Int32) (st : List AV) : VV 66 h 36 [l0, l1, some (.inl x), l3] st Q ↔ VV 66 h 37 [l0, l1, some (.inl x), l3] (.inl x :: st) Q := VV_step rfl rfl rfl rfl
theorem xr_66_37 (h : AHp) (Q : Option Int32 → AHp → Prop) (l0 l1 l2 l3 : Option AV) (x y : Int32) (st : List AV) : VV 66 h 37 [l0, l1, l2, l3] (.inl y :: .inl x :: st) Q ↔ VV 66 h 38 [l0, l1, l2, l3] (.inl (x + y) :: st) Q := VV_step rfl rfl rfl rfl
theorem xr_66_38 (h : AHp) (Q : Option Int32 → AHp → Prop) (l0 l1 l2 l3 : Option AV) (x : Int32) (k i : Nat) (st : List AV) : VV 66 h 38 [l0, l1, l2, l3] (.inl x :: .inr (k, i) :: st) Q ↔ ix_z k x ∧ VV 66 h 39 [l0, l1, l2, l3] (.inl (h k i x.toNatClampNeg) :: st) Q := VV_bald rfl
theorem xr_66_39 (h : AHp) (Q : Option Int32 → AHp → Prop) (l0 l1 l2 l3 : Option AV) (x : Int32) (st : List AV) : VV 66 h 39 [l0, l1, l2, l3] (.inl x :: st) Q ↔ (x = 0 → VV 66 h 44 [l0, l1, l2, l3] st Q) ∧ (¬ (x = 0) → VV 66 h 42 [l0, l1, l2, l3] st Q) := VV_br rfl rfl rfl decide_eq_true_iff
theorem xr_66_42 (h : AHp) (Q : Option Int32 → AHp → Prop) (l0 l1 l2 l3 : Option AV) (st : List AV) : VV 66 h 42 [l0, l1, l2, l3] st Q ↔ VV 66 h 43 [l0, l1, l2, l3] (.inl (0 : Int32) :: st) Q := VV_step rfl rfl rfl rfl
theorem xr_66_43 (h : AHp) (Q : Option Int32 → AHp → Prop) (l0 l1 l2 l3 : Option AV) (x : Int32) : VV 66 h 43 [l0, l1, l2, l3] [.inl x] Q ↔ (x = 0 ∨ x = 1) ∧ Q (some x) h := VV_zret rfl rfl
theorem xr_66_44 (h : AHp) (Q : Option Int32 → AHp → Prop) (l1 l2 l3 : Option AV) (x : Nat × Nat) (st : List AV) : VV 66 h 44 [some (.inr x), l1, l2, l3] st Q ↔ VV 66 h 45 [some (.inr x), l1, l2, l3] (.inr x :: st) Q := VV_step rfl rfl rfl rfl
theorem xr_66_45 (h : AHp) (Q : Option Int32 → AHp → Prop) (l0 l1 l2 l3 : Option AV) (i : Nat) (st : List AV) : VV 66 h 45 [l0, l1, l2, l3] (.inr (10, i) :: st) Q ↔ VV 66 h 48 [l0, l1, l2, l3] (.inr (21, i) :: st) Q := VV_step rfl rfl rfl rfl
theorem xr_66_48 (h : AHp) (Q : Option Int32 → AHp → Prop) (l0 l1 l2 l3 : Option AV) (st : List AV) : VV 66 h 48 [l0, l1, l2, l3] st Q ↔ VV 66 h 50 [l0, l1, l2, l3] (.inl (8 : Int32) :: st) Q := VV_step rfl rfl rfl rfl
theorem xr_66_50 (h : AHp) (Q : Option Int32 → AHp → Prop) (l0 l2 l3 : Option AV) (x : Int32) (st : List AV) : VV 66 h 50 [l0, some (.inl x), l2, l3] st Q ↔ VV 66 h 51 [l0, some (.inl x), l2, l3] (.inl x :: st) Q := VV_step rfl rfl rfl rfl
theorem xr_66_51 (h : AHp) (Q : Option Int32 → AHp → Prop) (l0 l1 l2 l3 : Option AV) (x y : Int32) (st : List AV) : VV 66 h 51 [l0, l1, l2, l3] (.inl y :: .inl x :: st) Q ↔ VV 66 h 52 [l0, l1, l2, l3] (.inl (x * y) :: st) Q := VV_step rfl rfl rfl rfl
theorem xr_66_52 (h : AHp) (Q : Option Int32 → AHp → Prop) (l0 l1 l3 : Option AV) (x : Int32) (st : List AV) : VV 66 h 52 [l0, l1, some (.inl x), l3] st Q ↔ VV 66 h 53 [l0, l1, some (.inl x), l3] (.inl x :: st) Q := VV_step rfl rfl rfl rfl
theorem xr_66_53 (h : AHp) (Q : Option Int32 → AHp → Prop) (l0 l1 l2 l3 : Option AV) (x y : Int32) (st : List AV) : VV 66 h 53 [l0, l1, l2, l3] (.inl y :: .inl x :: st) Q ↔ VV 66 h 54 [l0, l1, l2, l3] (.inl (x + y) :: st) Q := VV_step rfl rfl rfl rfl
theorem xr_66_54 (h : AHp) (Q : Option Int32 → AHp → Prop) (l0 l1 l2 : Option AV) (x : Int32) (st : List AV) : VV 66 h 54 [l0, l1, l2, some (.inl x)] st Q ↔ VV 66 h 55 [l0, l1, l2, some (.inl x)] (.inl x :: st) Q := VV_step rfl rfl rfl rfl
theorem xr_66_55 (h : AHp) (Q : Option Int32 → AHp → Prop) (l0 l1 l2 l3 : Option AV) (x v : Int32) (k i : Nat) (st : List AV) : VV 66 h 55 [l0, l1, l2, l3] (.inl v :: .inl x :: .inr (k, i) :: st) Q ↔ ix_i k x ∧ VV 66 (ah_up h k i x.toNatClampNeg v) 56 [l0, l1, l2, l3] st Q := VV_iast rfl
theorem xr_66_56 (h : AHp) (Q : Option Int32 → AHp → Prop) (l0 l1 l2 l3 : Option AV) (st : List AV) : VV 66 h 56 [l0, l1, l2, l3] st Q ↔ VV 66 h 57 [l0, l1, l2, l3] (.inl (1 : Int32) :: st) Q := VV_step rfl rfl rfl rfl
theorem xr_66_57 (h : AHp) (Q : Option Int32 → AHp → Prop) (l0 l1 l2 l3 : Option AV) (x : Int32) : VV 66 h 57 [l0, l1, l2, l3] [.inl x] Q ↔ (x = 0 ∨ x = 1) ∧ Q (some x) h := VV_zret rfl rfl
theorem xr_67_0 (h : AHp) (Q : Option Int32 → AHp → Prop) (l0 l1 l2 l3 : Option AV) (st : List AV) : VV 67 h 0 [l0, l1, l2, l3] st Q ↔ VV 67 h 1 [l0, l1, l2, l3] (.inl (0 : Int32) :: st) Q := VV_step rfl rfl rfl rfl
theorem xr_67_1 (h : AHp) (Q : Option Int32 → AHp → Prop) (l0 l1 l2 l3 : Option AV) (x : Int32) (st : List AV) : VV 67 h 1 [l0, l1, l2, l3] (.inl x :: st) Q ↔ VV 67 h 2 [l0, l1, some (.inl x), l3] st Q := VV_step rfl rfl rfl rfl
theorem xr_67_2 (h : AHp) (Q : Option Int32 → AHp → Prop) (l0 l1 l2 l3 : Option AV) (st : List AV) : VV 67 h 2 [l0, l1, l2, l3] st Q ↔ VV 67 h 3 [l0, l1, l2, l3] (.inl (0 : Int32) :: st) Q := VV_step rfl rfl rfl rfl
theorem xr_67_3 (h : AHp) (Q : Option Int32 → AHp → Prop) (l0 l1 l2 l3 : Option AV) (x : Int32) (st : List AV) : VV 67 h 3 [l0, l1, l2, l3] (.inl x :: st) Q ↔ VV 67 h 4 [l0, l1, l2, some (.inl x)] st Q := VV_step rfl rfl rfl rfl
theorem xr_67_4 (h : AHp) (Q : Option Int32 → AHp → Prop) (l0 l1 l2 : Option AV) (x : Int32) (st : List AV) : VV 67 h 4 [l0, l1, l2, some (.inl x)] st Q ↔ VV 67 h 5 [l0, l1, l2, some (.inl x)] (.inl x :: st) Q := VV_step rfl rfl rfl rfl
theorem xr_67_5 (h : AHp) (Q : Option Int32 → AHp → Prop) (l1 l2 l3 : Option AV) (x : Nat × Nat) (st : List AV) : VV 67 h 5 [some (.inr x), l1, l2, l3] st Q ↔ VV 67 h 6 [some (.inr x), l1, l2, l3] (.inr x :: st) Q := VV_step rfl rfl rfl rfl
theorem xr_67_6 (h : AHp) (Q : Option Int32 → AHp → Prop) (l0 l1 l2 l3 : Option AV) (i : Nat) (st : List AV) : VV 67 h 6 [l0, l1, l2, l3] (.inr (10, i) :: st) Q ↔ VV 67 h 9 [l0, l1, l2, l3] (.inl (h 10 i 0) :: st) Q := VV_step rfl rfl rfl rfl
theorem xr_67_9 (h : AHp) (Q : Option Int32 → AHp → Prop) (l0 l1 l2 l3 : Option AV) (x y : Int32) (st : List AV) : VV 67 h 9 [l0, l1, l2, l3] (.inl y :: .inl x :: st) Q ↔ (y ≤ x → VV 67 h 40 [l0, l1, l2, l3] st Q) ∧ (¬ (y ≤ x) → VV 67 h 12 [l0, l1, l2, l3] st Q) := VV_br2 rfl rfl rfl decide_eq_true_iff
theorem xr_67_12 (h : AHp) (Q : Option Int32 → AHp → Prop) (l0 l1 l3 : Option AV) (x : Int32) (st : List AV) : VV 67 h 12 [l0, l1, some (.inl x), l3] st Q ↔ VV 67 h 13 [l0, l1, some (.inl x), l3] (.inl x :: st) Q := VV_step rfl rfl rfl rfl
theorem xr_67_13 (h : AHp) (Q : Option Int32 → AHp → Prop) (l1 l2 l3 : Option AV) (x : Nat × Nat) (st : List AV) : VV 67 h 13 [some (.inr x), l1, l2, l3] st Q ↔ VV 67 h 14 [some (.inr x), l1, l2, l3] (.inr x :: st) Q := VV_step rfl rfl rfl rfl
theorem xr_67_14 (h : AHp) (Q : Option Int32 → AHp → Prop) (l0 l1 l2 l3 : Option AV) (i : Nat) (st : List AV) : VV 67 h 14 [l0, l1, l2, l3] (.inr (10, i) :: st) Q ↔ VV 67 h 17 [l0, l1, l2, l3] (.inr (22, i) :: st) Q := VV_step rfl rfl rfl rfl
theorem xr_67_17 (h : AHp) (Q : Option Int32 → AHp → Prop) (l0 l1 l2 l3 : Option AV) (st : List AV) : VV 67 h 17 [l0, l1, l2, l3] st Q ↔ VV 67 h 19 [l0, l1, l2, l3] (.inl (8 : Int32) :: st) Q := VV_step rfl rfl rfl rfl
theorem xr_67_19 (h : AHp) (Q : Option Int32 → AHp → Prop) (l0 l2 l3 : Option AV) (x : Int32) (st : List AV) : VV 67 h 19 [l0, some (.inl x), l2, l3] st Q ↔ VV 67 h 20 [l0, some (.inl x), l2, l3] (.inl x :: st) Q := VV_step rfl rfl rfl rfl
theorem xr_67_20 (h : AHp) (Q : Option Int32 → AHp → Prop) (l0 l1 l2 l3 : Option AV) (x y : Int32) (st : List AV) : VV 67 h 20 [l0, l1, l2, l3] (.inl y :: .inl x :: st) Q ↔ VV 67 h 21 [l0, l1, l2, l3] (.inl (x * y) :: st) Q := VV_step rfl rfl rfl rfl
theorem xr_67_21 (h : AHp) (Q : Option Int32 → AHp → Prop) (l0 l1 l2 : Option AV) (x : Int32) (st : List AV) : VV 67 h 21 [l0, l1, l2, some (.inl x)] st Q ↔ VV 67 h 22 [l0, l1, l2, some (.inl x)] (.inl x :: st) Q := VV_step rfl rfl rfl rfl
theorem xr_67_22 (h : AHp) (Q : Option Int32 → AHp → Prop) (l0 l1 l2 l3 : Option AV) (x y : Int32) (st : List AV) : VV 67 h 22 [l0, l1, l2, l3] (.inl y :: .inl x :: st) Q ↔ VV 67 h 23 [l0, l1, l2, l3] (.inl (x + y) :: st) Q := VV_step rfl rfl rfl rfl
theorem xr_67_23 (h : AHp) (Q : Option Int32 → AHp → Prop) (l0 l1 l2 l3 : Option AV) (x : Int32) (k i : Nat) (st : List AV) : VV 67 h 23 [l0, l1, l2, l3] (.inl x :: .inr (k, i) :: st) Q ↔ ix_z k x ∧ VV 67 h 24 [l0, l1, l2, l3] (.inl (h k i x.toNatClampNeg) :: st) Q := VV_bald rfl
theorem xr_67_24 (h : AHp) (Q : Option Int32 → AHp → Prop) (l0 l1 l2 l3 : Option AV) (x : Int32) (st : List AV) : VV 67 h 24 [l0, l1, l2, l3] (.inl x :: st) Q ↔ (x = 0 → VV 67 h 31 [l0, l1, l2, l3] st Q) ∧ (¬ (x = 0) → VV 67 h 27 [l0, l1, l2, l3] st Q) := VV_br rfl rfl rfl decide_eq_true_iff
theorem xr_67_27 (h : AHp) (Q : Option Int32 → AHp → Prop) (l0 l1 l2 l3 : Option AV) (st : List AV) : VV 67 h 27 [l0, l1, l2, l3] st Q ↔ VV 67 h 28 [l0, l1, l2, l3] (.inl (1 : Int32) :: st) Q := VV_step rfl rfl rfl rfl
theorem xr_67_28 (h : AHp) (Q : Option Int32 → AHp → Prop) (l0 l1 l2 l3 : Option AV) (st : List AV) : VV 67 h 28 [l0, l1, l2, l3] st Q ↔ VV 67 h 32 [l0, l1, l2, l3] st Q := VV_step rfl rfl rfl rfl
theorem xr_67_31 (h : AHp) (Q : Option Int32 → AHp → Prop) (l0 l1 l2 l3 : Option AV) (st : List AV) : VV 67 h 31 [l0, l1, l2, l3] st Q ↔ VV 67 h 32 [l0, l1, l2, l3] (.inl (0 : Int32) :: st) Q := VV_step rfl rfl rfl rfl
theorem xr_67_32 (h : AHp) (Q : Option Int32 → AHp → Prop) (l0 l1 l2 l3 : Option AV) (x y : Int32) (st : List AV) : VV 67 h 32 [l0, l1, l2, l3] (.inl y :: .inl x :: st) Q ↔ VV 67 h 33 [l0, l1, l2, l3] (.inl (x + y) :: st) Q := VV_step rfl rfl rfl rfl
theorem xr_67_33 (h : AHp) (Q : Option Int32 → AHp → Prop) (l0 l1 l2 l3 : Option AV) (x : Int32) (st : List AV) : VV 67 h 33 [l0, l1, l2, l3] (.inl x :: st) Q ↔ VV 67 h 34 [l0, l1, some (.inl x), l3] st Q := VV_step rfl rfl rfl rfl
theorem xr_67_34 (h : AHp) (Q : Option Int32 → AHp → Prop) (l0 l1 l2 : Option AV) (x : Int32) (st : List AV) : VV 67 h 34 [l0, l1, l2, some (.inl x)] st Q ↔ VV 67 h 37 [l0, l1, l2, some (.inl (x + (1 : Int32)))] st Q := VV_step rfl rfl rfl rfl
theorem xr_67_37 (h : AHp) (Q : Option Int32 → AHp → Prop) (l0 l1 l2 l3 : Option AV) (st : List AV) : VV 67 h 37 [l0, l1, l2, l3] st Q ↔ VV 67 h 4 [l0, l1, l2, l3] st Q := VV_step rfl rfl rfl rfl
theorem xr_67_40 (h : AHp) (Q : Option Int32 → AHp → Prop) (l0 l1 l3 : Option AV) (x : Int32) (st : List AV) : VV 67 h 40 [l0, l1, some (.inl x), l3] st Q ↔ VV 67 h 41 [l0, l1, some (.inl x), l3] (.inl x :: st) Q := VV_step rfl rfl rfl rfl
theorem xr_67_41 (h : AHp) (Q : Option Int32 → AHp → Prop) (l0 l1 l2 l3 : Option AV) (x : Int32) : VV 67 h 41 [l0, l1, l2, l3] [.inl x] Q ↔ Q (some x) h := VV_end rfl rfl
theorem xr_68_0 (h : AHp) (Q : Option Int32 → AHp → Prop) (l1 l2 l3 : Option AV) (x : Nat × Nat) (st : List AV) : VV 68 h 0 [some (.inr x), l1, l2, l3] st Q ↔ VV 68 h 1 [some (.inr x), l1, l2, l3] (.inr x :: st) Q := VV_step rfl rfl rfl rfl
theorem xr_68_1 (h : AHp) (Q : Option Int32 → AHp → Prop) (l0 l1 l2 l3 : Option AV) (i : Nat) (st : List AV) : VV 68 h 1 [l0, l1, l2, l3] (.inr (10, i) :: st) Q ↔ VV 68 h 4 [l0, l1, l2, l3] (.inr (19, i) :: st) Q := VV_step rfl rfl rfl rfl
theorem xr_68_4 (h : AHp) (Q : Option Int32 → AHp → Prop) (l0 l2 l3 : Option AV) (x : Int32) (st : List AV) : VV 68 h 4 [l0, some (.inl x), l2, l3] st Q ↔ VV 68 h 5 [l0, some (.inl x), l2, l3] (.inl x :: st) Q := VV_step rfl rfl rfl rfl
theorem xr_68_5 (h : AHp) (Q : Option Int32 → AHp → Prop) (l0 l1 l2 l3 : Option AV) (x : Int32) (k i : Nat) (st : List AV) : VV 68 h 5 [l0, l1, l2, l3] (.inl x :: .inr (k, i) :: st) Q ↔ ix_i k x ∧ VV 68 h 6 [l0, l1, l2, l3] (.inl (h k i x.toNatClampNeg) :: st) Q := VV_iald rfl
theorem xr_68_6 (h : AHp) (Q : Option Int32 → AHp → Prop) (l0 l1 l2 l3 : Option AV) (x : Int32) (st : List AV) : VV 68 h 6 [l0, l1, l2, l3] (.inl x :: st) Q ↔ VV 68 h 7 [l0, l1, some (.inl x), l3] st Q := VV_step rfl rfl rfl rfl
theorem xr_68_7 (h : AHp) (Q : Option Int32 → AHp → Prop) (l0 l1 l2 l3 : Option AV) (st : List AV) : VV 68 h 7 [l0, l1, l2, l3] st Q ↔ VV 68 h 9 [l0, l1, l2, l3] (.inl (8 : Int32) :: st) Q := VV_step rfl rfl rfl rfl
theorem xr_68_9 (h : AHp) (Q : Option Int32 → AHp → Prop) (l0 l2 l3 : Option AV) (x : Int32) (st : List AV) : VV 68 h 9 [l0, some (.inl x), l2, l3] st Q ↔ VV 68 h 10 [l0, some (.inl x), l2, l3] (.inl x :: st) Q := VV_step rfl rfl rfl rfl
theorem xr_68_10 (h : AHp) (Q : Option Int32 → AHp → Prop) (l0 l1 l2 l3 : Option AV) (x y : Int32) (st : List AV) : VV 68 h 10 [l0, l1, l2, l3] (.inl y :: .inl x :: st) Q ↔ VV 68 h 11 [l0, l1, l2, l3] (.inl (x * y) :: st) Q := VV_step rfl rfl rfl rfl
theorem xr_68_11 (h : AHp) (Q : Option Int32 → AHp → Prop) (l1 l2 l3 : Option AV) (x : Nat × Nat) (st : List AV) : VV 68 h 11 [some (.inr x), l1, l2, l3] st Q ↔ VV 68 h 12 [some (.inr x), l1, l2, l3] (.inr x :: st) Q := VV_step rfl rfl rfl rfl
theorem xr_68_12 (h : AHp) (Q : Option Int32 → AHp → Prop) (l0 l1 l2 l3 : Option AV) (i : Nat) (st : List AV) : VV 68 h 12 [l0, l1, l2, l3] (.inr (10, i) :: st) Q ↔ VV 68 h 15 [l0, l1, l2, l3] (.inr (12, i) :: st) Q := VV_step rfl rfl rfl rfl
theorem xr_68_15 (h : AHp) (Q : Option Int32 → AHp → Prop) (l0 l1 l3 : Option AV) (x : Int32) (st : List AV) : VV 68 h 15 [l0, l1, some (.inl x), l3] st Q ↔ VV 68 h 16 [l0, l1, some (.inl x), l3] (.inl x :: st) Q := VV_step rfl rfl rfl rfl
theorem xr_68_16 (h : AHp) (Q : Option Int32 → AHp → Prop) (l0 l1 l2 l3 : Option AV) (x : Int32) (k i : Nat) (st : List AV) : VV 68 h 16 [l0, l1, l2, l3] (.inl x :: .inr (k, i) :: st) Q ↔ ix_i k x ∧ VV 68 h 17 [l0, l1, l2, l3] (.inl (h k i x.toNatClampNeg) :: st) Q := VV_iald rfl
theorem xr_68_17 (h : AHp) (Q : Option Int32 → AHp → Prop) (l0 l1 l2 l3 : Option AV) (x y : Int32) (st : List AV) : VV 68 h 17 [l0, l1, l2, l3] (.inl y :: .inl x :: st) Q ↔ VV 68 h 18 [l0, l1, l2, l3] (.inl (x + y) :: st) Q := VV_step rfl rfl rfl rfl
theorem xr_68_18 (h : AHp) (Q : Option Int32 → AHp → Prop) (l0 l1 l2 l3 : Option AV) (x : Int32) (st : List AV) : VV 68 h 18 [l0, l1, l2, l3] (.inl x :: st) Q ↔ VV 68 h 19 [l0, l1, l2, some (.inl x)] st Q := VV_step rfl rfl rfl rfl
theorem xr_68_19 (h : AHp) (Q : Option Int32 → AHp → Prop) (l1 l2 l3 : Option AV) (x : Nat × Nat) (st : List AV) : VV 68 h 19 [some (.inr x), l1, l2, l3] st Q ↔ VV 68 h 20 [some (.inr x), l1, l2, l3] (.inr x :: st) Q := VV_step rfl rfl rfl rfl
theorem xr_68_20 (h : AHp) (Q : Option Int32 → AHp → Prop) (l0 l1 l2 l3 : Option AV) (i : Nat) (st : List AV) : VV 68 h 20 [l0, l1, l2, l3] (.inr (10, i) :: st) Q ↔ VV 68 h 23 [l0, l1, l2, l3] (.inr (22, i) :: st) Q := VV_step rfl rfl rfl rfl
theorem xr_68_23 (h : AHp) (Q : Option Int32 → AHp → Prop) (l0 l1 l2 : Option AV) (x : Int32) (st : List AV) : VV 68 h 23 [l0, l1, l2, some (.inl x)] st Q ↔ VV 68 h 24 [l0, l1, l2, some (.inl x)] (.inl x :: st) Q := VV_step rfl rfl rfl rfl
theorem xr_68_24 (h : AHp) (Q : Option Int32 → AHp → Prop) (l0 l1 l2 l3 : Option AV) (st : List AV) : VV 68 h 24 [l0, l1, l2, l3] st Q ↔ VV 68 h 25 [l0, l1, l2, l3] (.inl (1 : Int32) :: st) Q := VV_step rfl rfl rfl rfl
theorem xr_68_25 (h : AHp) (Q : Option Int32 → AHp → Prop) (l0 l1 l2 l3 : Option AV) (x v : Int32) (k i : Nat) (st : List AV) : VV 68 h 25 [l0, l1, l2, l3] (.inl v :: .inl x :: .inr (k, i) :: st) Q ↔ (ix_z k x ∧ (v = 0 ∨ v = 1)) ∧ VV 68 (ah_up h k i x.toNatClampNeg v) 26 [l0, l1, l2, l3] st Q := VV_bast rfl
theorem xr_68_26 (h : AHp) (Q : Option Int32 → AHp → Prop) (l1 l2 l3 : Option AV) (x : Nat × Nat) (st : List AV) : VV 68 h 26 [some (.inr x), l1, l2, l3] st Q ↔ VV 68 h 27 [some (.inr x), l1, l2, l3] (.inr x :: st) Q := VV_step rfl rfl rfl rfl
theorem xr_68_27 (h : AHp) (Q : Option Int32 → AHp → Prop) (l0 l1 l2 l3 : Option AV) (i : Nat) (st : List AV) : VV 68 h 27 [l0, l1, l2, l3] (.inr (10, i) :: st) Q ↔ VV 68 h 30 [l0, l1, l2, l3] (.inr (23, i) :: st) Q := VV_step rfl rfl rfl rfl
theorem xr_68_30 (h : AHp) (Q : Option Int32 → AHp → Prop) (l0 l1 l2 : Option AV) (x : Int32) (st : List AV) : VV 68 h 30 [l0, l1, l2, some (.inl x)] st Q ↔ VV 68 h 31 [l0, l1, l2, some (.inl x)] (.inl x :: st) Q := VV_step rfl rfl rfl rfl
theorem xr_68_31 (h : AHp) (Q : Option Int32 → AHp → Prop) (l0 l1 l2 l3 : Option AV) (v w : AV) (st : List AV) : VV 68 h 31 [l0, l1, l2, l3] (v :: w :: st) Q ↔ VV 68 h 32 [l0, l1, l2, l3] (v :: w :: v :: w :: st) Q := VV_step rfl rfl rfl rfl
theorem xr_68_32 (h : AHp) (Q : Option Int32 → AHp → Prop) (l0 l1 l2 l3 : Option AV) (x : Int32) (k i : Nat) (st : List AV) : VV 68 h 32 [l0, l1, l2, l3] (.inl x :: .inr (k, i) :: st) Q ↔ ix_i k x ∧ VV 68 h 33 [l0, l1, l2, l3] (.inl (h k i x.toNatClampNeg) :: st) Q := VV_iald rfl
theorem xr_68_33 (h : AHp) (Q : Option Int32 → AHp → Prop) (l1 l2 l3 : Option AV) (x : Nat × Nat) (st : List AV) : VV 68 h 33 [some (.inr x), l1, l2, l3] st Q ↔ VV 68 h 34 [some (.inr x), l1, l2, l3] (.inr x :: st) Q := VV_step rfl rfl rfl rfl
theorem xr_68_34 (h : AHp) (Q : Option Int32 → AHp → Prop) (l0 l1 l2 l3 : Option AV) (i : Nat) (st : List AV) : VV 68 h 34 [l0, l1, l2, l3] (.inr (10, i) :: st) Q ↔ VV 68 h 37 [l0, l1, l2, l3] (.inr (21, i) :: st) Q := VV_step rfl rfl rfl rfl
theorem xr_68_37 (h : AHp) (Q : Option Int32 → AHp → Prop) (l0 l1 l2 : Option AV) (x : Int32) (st : List AV) : VV 68 h 37 [l0, l1, l2, some (.inl x)] st Q ↔ VV 68 h 38 [l0, l1, l2, some (.inl x)] (.inl x :: st) Q := VV_step rfl rfl rfl rfl
theorem xr_68_38 (h : AHp) (Q : Option Int32 → AHp → Prop) (l0 l1 l2 l3 : Option AV) (x : Int32) (k i : Nat) (st : List AV) : VV 68 h 38 [l0, l1, l2, l3] (.inl x :: .inr (k, i) :: st) Q ↔ ix_i k x ∧ VV 68 h 39 [l0, l1, l2, l3] (.inl (h k i x.toNatClampNeg) :: st) Q := VV_iald rfl
theorem xr_68_39 (h : AHp) (Q : Option Int32 → AHp → Prop) (l0 l1 l2 l3 : Option AV) (x y : Int32) (st : List AV) : VV 68 h 39 [l0, l1, l2, l3] (.inl y :: .inl x :: st) Q ↔ VV 68 h 40 [l0, l1, l2, l3] (.inl (x ^^^ y) :: st) Q := VV_step rfl rfl rfl rfl
theorem xr_68_40 (h : AHp) (Q : Option Int32 → AHp → Prop) (l0 l1 l2 l3 : Option AV) (x v : Int32) (k i : Nat) (st : List AV) : VV 68 h 40 [l0, l1, l2, l3] (.inl v :: .inl x :: .inr (k, i) :: st) Q ↔ ix_i k x ∧ VV 68 (ah_up h k i x.toNatClampNeg v) 41 [l0, l1, l2, l3] st Q := VV_iast rfl
theorem xr_68_41 (h : AHp) (Q : Option Int32 → AHp → Prop) (l1 l2 l3 : Option AV) (x : Nat × Nat) (st : List AV) : VV 68 h 41 [some (.inr x), l1, l2, l3] st Q ↔ VV 68 h 42 [some (.inr x), l1, l2, l3] (.inr x :: st) Q := VV_step rfl rfl rfl rfl
theorem xr_68_42 (h : AHp) (Q : Option Int32 → AHp → Prop) (l0 l1 l2 l3 : Option AV) (i : Nat) (st : List AV) : VV 68 h 42 [l0, l1, l2, l3] (.inr (10, i) :: st) Q ↔ VV 68 h 45 [l0, l1, l2, l3] (.inr (26, i) :: st) Q := VV_step rfl rfl rfl rfl
theorem xr_68_45 (h : AHp) (Q : Option Int32 → AHp → Prop) (l0 l1 l2 : Option AV) (x : Int32) (st : List AV) : VV 68 h 45 [l0, l1, l2, some (.inl x)] st Q ↔ VV 68 h 46 [l0, l1, l2, some (.inl x)] (.inl x :: st) Q := VV_step rfl rfl rfl rfl
theorem xr_68_46 (h : AHp) (Q : Option Int32 → AHp → Prop) (l1 l2 l3 : Option AV) (x : Nat × Nat) (st : List AV) : VV 68 h 46 [some (.inr x), l1, l2, l3] st Q ↔ VV 68 h 47 [some (.inr x), l1, l2, l3] (.inr x :: st) Q := VV_step rfl rfl rfl rfl
theorem xr_68_47 (h : AHp) (Q : Option Int32 → AHp → Prop) (l0 l1 l2 l3 : Option AV) (i : Nat) (st : List AV) : VV 68 h 47 [l0, l1, l2, l3] (.inr (10, i) :: st) Q ↔ VV 68 h 50 [l0, l1, l2, l3] (.inl (h 10 i 17) :: st) Q := VV_step rfl rfl rfl rfl
theorem xr_68_50 (h : AHp) (Q : Option Int32 → AHp → Prop) (l0 l1 l2 l3 : Option AV) (x v : Int32) (k i : Nat) (st : List AV) : VV 68 h 50 [l0, l1, l2, l3] (.inl v :: .inl x :: .inr (k, i) :: st) Q ↔ ix_i k x ∧ VV 68 (ah_up h k i x.toNatClampNeg v) 51 [l0, l1, l2, l3] st Q := VV_iast rfl
theorem xr_68_51 (h : AHp) (Q : Option Int32 → AHp → Prop) (l1 l2 l3 : Option AV) (x : Nat × Nat) (st : List AV) : VV 68 h 51 [some (.inr x), l1, l2, l3] st Q ↔ VV 68 h 52 [some (.inr x), l1, l2, l3] (.inr x :: st) Q := VV_step rfl rfl rfl rfl
theorem xr_68_52 (h : AHp) (Q : Option Int32 → AHp → Prop) (l0 l1 l2 l3 : Option AV) (i : Nat) (st : List AV) : VV 68 h 52 [l0, l1, l2, l3] (.inr (10, i) :: st) Q ↔ VV 68 h 55 [l0, l1, l2, l3] (.inr (15, i) :: st) Q := VV_step rfl rfl rfl rfl
theorem xr_68_55 (h : AHp) (Q : Option Int32 → AHp → Prop) (l0 l1 l3 : Option AV) (x : Int32) (st : List AV) : VV 68 h 55 [l0, l1, some (.inl x), l3] st Q ↔ VV 68 h 56 [l0, l1, some (.inl x), l3] (.inl x :: st) Q := VV_step rfl rfl rfl rfl
theorem xr_68_56 (h : AHp) (Q : Option Int32 → AHp → Prop) (l0 l1 l2 l3 : Option AV) (st : List AV) : VV 68 h 56 [l0, l1, l2, l3] st Q ↔ VV 68 h 57 [l0, l1, l2, l3] (.inl (-1 : Int32) :: st) Q := VV_step rfl rfl rfl rfl
theorem xr_68_57 (h : AHp) (Q : Option Int32 → AHp → Prop) (l0 l1 l2 l3 : Option AV) (x v : Int32) (k i : Nat) (st : List AV) : VV 68 h 57 [l0, l1, l2, l3] (.inl v :: .inl x :: .inr (k, i) :: st) Q ↔ ix_i k x ∧ VV 68 (ah_up h k i x.toNatClampNeg v) 58 [l0, l1, l2, l3] st Q := VV_iast rfl
theorem xr_68_58 (h : AHp) (Q : Option Int32 → AHp → Prop) (l1 l2 l3 : Option AV) (x : Nat × Nat) (st : List AV) : VV 68 h 58 [some (.inr x), l1, l2, l3] st Q ↔ VV 68 h 59 [some (.inr x), l1, l2, l3] (.inr x :: st) Q := VV_step rfl rfl rfl rfl
theorem xr_68_59 (h : AHp) (Q : Option Int32 → AHp → Prop) (l0 l1 l2 l3 : Option AV) (i : Nat) (st : List AV) : VV 68 h 59 [l0, l1, l2, l3] (.inr (10, i) :: st) Q ↔ VV 68 h 62 [l0, l1, l2, l3] (.inr (19, i) :: st) Q := VV_step rfl rfl rfl rfl
theorem xr_68_62 (h : AHp) (Q : Option Int32 → AHp → Prop) (l0 l2 l3 : Option AV) (x : Int32) (st : List AV) : VV 68 h 62 [l0, some (.inl x), l2, l3] st Q ↔ VV 68 h 63 [l0, some (.inl x), l2, l3] (.inl x :: st) Q := VV_step rfl rfl rfl rfl
theorem xr_68_63 (h : AHp) (Q : Option Int32 → AHp → Prop) (l0 l1 l2 l3 : Option AV) (st : List AV) : VV 68 h 63 [l0, l1, l2, l3] st Q ↔ VV 68 h 64 [l0, l1, l2, l3] (.inl (-1 : Int32) :: st) Q := VV_step rfl rfl rfl rfl
theorem xr_68_64 (h : AHp) (Q : Option Int32 → AHp → Prop) (l0 l1 l2 l3 : Option AV) (x v : Int32) (k i : Nat) (st : List AV) : VV 68 h 64 [l0, l1, l2, l3] (.inl v :: .inl x :: .inr (k, i) :: st) Q ↔ ix_i k x ∧ VV 68 (ah_up h k i x.toNatClampNeg v) 65 [l0, l1, l2, l3] st Q := VV_iast rfl
theorem xr_68_65 (h : AHp) (Q : Option Int32 → AHp → Prop) (l1 l2 l3 : Option AV) (x : Nat × Nat) (st : List AV) : VV 68 h 65 [some (.inr x), l1, l2, l3] st Q ↔ VV 68 h 66 [some (.inr x), l1, l2, l3] (.inr x :: st) Q := VV_step rfl rfl rfl rfl
theorem xr_68_66 (h : AHp) (Q : Option Int32 → AHp → Prop) (l0 l1 l2 l3 : Option AV) (i : Nat) (st : List AV) : VV 68 h 66 [l0, l1, l2, l3] (.inr (10, i) :: st) Q ↔ VV 68 h 69 [l0, l1, l2, l3] (.inr (18, i) :: st) Q := VV_step rfl rfl rfl rfl
theorem xr_68_69 (h : AHp) (Q : Option Int32 → AHp → Prop) (l0 l2 l3 : Option AV) (x : Int32) (st : List AV) : VV 68 h 69 [l0, some (.inl x), l2, l3] st Q ↔ VV 68 h 70 [l0, some (.inl x), l2, l3] (.inl x :: st) Q := VV_step rfl rfl rfl rfl
theorem xr_68_70 (h : AHp) (Q : Option Int32 → AHp → Prop) (l1 l2 l3 : Option AV) (x : Nat × Nat) (st : List AV) : VV 68 h 70 [some (.inr x), l1, l2, l3] st Q ↔ VV 68 h 71 [some (.inr x), l1, l2, l3] (.inr x :: st) Q := VV_step rfl rfl rfl rfl
theorem xr_68_71 (h : AHp) (Q : Option Int32 → AHp → Prop) (l0 l1 l2 l3 : Option AV) (i : Nat) (st : List AV) : VV 68 h 71 [l0, l1, l2, l3] (.inr (10, i) :: st) Q ↔ VV 68 h 74 [l0, l1, l2, l3] (.inl (h 10 i 17) :: st) Q := VV_step rfl rfl rfl rfl
theorem xr_68_74 (h : AHp) (Q : Option Int32 → AHp → Prop) (l0 l1 l2 l3 : Option AV) (x v : Int32) (k i : Nat) (st : List AV) : VV 68 h 74 [l0, l1, l2, l3] (.inl v :: .inl x :: .inr (k, i) :: st) Q ↔ ix_i k x ∧ VV 68 (ah_up h k i x.toNatClampNeg v) 75 [l0, l1, l2, l3] st Q := VV_iast rfl
theorem xr_68_75 (h : AHp) (Q : Option Int32 → AHp → Prop) (l1 l2 l3 : Option AV) (x : Nat × Nat) (st : List AV) : VV 68 h 75 [some (.inr x), l1, l2, l3] st Q ↔ VV 68 h 76 [some (.inr x), l1, l2, l3] (.inr x :: st) Q := VV_step rfl rfl rfl rfl
theorem xr_68_76 (h : AHp) (Q : Option Int32 → AHp → Prop) (l0 l2 l3 : Option AV) (x : Int32) (st : List AV) : VV 68 h 76 [l0, some (.inl x), l2, l3] st Q ↔ VV 68 h 77 [l0, some (.inl x), l2, l3] (.inl x :: st) Q := VV_step rfl rfl rfl rfl
theorem xr_68_77 (h : AHp) (Q : Option Int32 → AHp → Prop) (l0 l1 l2 l3 : Option AV) (a0 : AV) (i : Nat) : VV 68 h 77 [l0, l1, l2, l3] [a0, .inr (10, i)] Q ↔ Vi 67 h [some (.inr (10, i)), some a0, none, none] (fun z h2 => VV 68 h2 80 [l0, l1, l2, l3] [.inl z] Q) := VV_calli (y := 67) (as := [.inr (10, i), a0]) (rest := []) rfl rfl rfl (ah_noV (y := 67) (by decide))
theorem xr_68_80 (h : AHp) (Q : Option Int32 → AHp → Prop) (l1 l2 l3 : Option AV) (x : Nat × Nat) (st : List AV) : VV 68 h 80 [some (.inr x), l1, l2, l3] st Q ↔ VV 68 h 81 [some (.inr x), l1, l2, l3] (.inr x :: st) Q := VV_step rfl rfl rfl rfl
theorem xr_68_81 (h : AHp) (Q : Option Int32 → AHp → Prop) (l0 l1 l2 l3 : Option AV) (i : Nat) (st : List AV) : VV 68 h 81 [l0, l1, l2, l3] (.inr (10, i) :: st) Q ↔ VV 68 h 84 [l0, l1, l2, l3] (.inl (h 10 i 0) :: st) Q := VV_step rfl rfl rfl rfl
theorem xr_68_84 (h : AHp) (Q : Option Int32 → AHp → Prop) (l0 l1 l2 l3 : Option AV) (x y : Int32) (st : List AV) : VV 68 h 84 [l0, l1, l2, l3] (.inl y :: .inl x :: st) Q ↔ (¬ x = y → VV 68 h 97 [l0, l1, l2, l3] st Q) ∧ (¬ (¬ x = y) → VV 68 h 87 [l0, l1, l2, l3] st Q) := VV_br2 rfl rfl rfl decide_eq_true_iff
theorem xr_68_87 (h : AHp) (Q : Option Int32 → AHp → Prop) (l1 l2 l3 : Option AV) (x : Nat × Nat) (st : List AV) : VV 68 h 87 [some (.inr x), l1, l2, l3] st Q ↔ VV 68 h 88 [some (.inr x), l1, l2, l3] (.inr x :: st) Q := VV_step rfl rfl rfl rfl
theorem xr_68_88 (h : AHp) (Q : Option Int32 → AHp → Prop) (l0 l1 l2 l3 : Option AV) (i : Nat) (st : List AV) : VV 68 h 88 [l0, l1, l2, l3] (.inr (10, i) :: st) Q ↔ VV 68 h 91 [l0, l1, l2, l3] (.inr (20, i) :: st) Q := VV_step rfl rfl rfl rfl
theorem xr_68_91 (h : AHp) (Q : Option Int32 → AHp → Prop) (l0 l2 l3 : Option AV) (x : Int32) (st : List AV) : VV 68 h 91 [l0, some (.inl x), l2, l3] st Q ↔ VV 68 h 92 [l0, some (.inl x), l2, l3] (.inl x :: st) Q := VV_step rfl rfl rfl rfl
theorem xr_68_92 (h : AHp) (Q : Option Int32 → AHp → Prop) (l1 l2 l3 : Option AV) (x : Nat × Nat) (st : List AV) : VV 68 h 92 [some (.inr x), l1, l2, l3] st Q ↔ VV 68 h 93 [some (.inr x), l1, l2, l3] (.inr x :: st) Q := VV_step rfl rfl rfl rfl
theorem xr_68_93 (h : AHp) (Q : Option Int32 → AHp → Prop) (l0 l1 l2 l3 : Option AV) (i : Nat) (st : List AV) : VV 68 h 93 [l0, l1, l2, l3] (.inr (10, i) :: st) Q ↔ VV 68 h 96 [l0, l1, l2, l3] (.inl (h 10 i 17) :: st) Q := VV_step rfl rfl rfl rfl
theorem xr_68_96 (h : AHp) (Q : Option Int32 → AHp → Prop) (l0 l1 l2 l3 : Option AV) (x v : Int32) (k i : Nat) (st : List AV) : VV 68 h 96 [l0, l1, l2, l3] (.inl v :: .inl x :: .inr (k, i) :: st) Q ↔ ix_i k x ∧ VV 68 (ah_up h k i x.toNatClampNeg v) 97 [l0, l1, l2, l3] st Q := VV_iast rfl
theorem xr_68_97 (h : AHp) (Q : Option Int32 → AHp → Prop) (l0 l1 l2 l3 : Option AV) : VV 68 h 97 [l0, l1, l2, l3] [] Q ↔ Q none h := VV_end rfl rfl
theorem xr_69_0 (h : AHp) (Q : Option Int32 → AHp → Prop) (l1 : Option AV) (x : Nat × Nat) (st : List AV) : VV 69 h 0 [some (.inr x), l1] st Q ↔ VV 69 h 1 [some (.inr x), l1] (.inr x :: st) Q := VV_step rfl rfl rfl rfl
theorem xr_69_1 (h : AHp) (Q : Option Int32 → AHp → Prop) (l0 l1 : Option AV) (i : Nat) (st : List AV) : VV 69 h 1 [l0, l1] (.inr (10, i) :: st) Q ↔ VV 69 h 4 [l0, l1] (.inr (15, i) :: st) Q := VV_step rfl rfl rfl rfl
theorem xr_69_4 (h : AHp) (Q : Option Int32 → AHp → Prop) (l0 : Option AV) (x : Int32) (st : List AV) : VV 69 h 4 [l0, some (.inl x)] st Q ↔ VV 69 h 5 [l0, some (.inl x)] (.inl x :: st) Q := VV_step rfl rfl rfl rfl
theorem xr_69_5 (h : AHp) (Q : Option Int32 → AHp → Prop) (l0 l1 : Option AV) (x : Int32) (k i : Nat) (st : List AV) : VV 69 h 5 [l0, l1] (.inl x :: .inr (k, i) :: st) Q ↔ ix_i k x ∧ VV 69 h 6 [l0, l1] (.inl (h k i x.toNatClampNeg) :: st) Q := VV_iald rfl
theorem xr_69_6 (h : AHp) (Q : Option Int32 → AHp → Prop) (l0 l1 : Option AV) (st : List AV) : VV 69 h 6 [l0, l1] st Q ↔ VV 69 h 7 [l0, l1] (.inl (-1 : Int32) :: st) Q := VV_step rfl rfl rfl rfl
theorem xr_69_7 (h : AHp) (Q : Option Int32 → AHp → Prop) (l0 l1 : Option AV) (x y : Int32) (st : List AV) : VV 69 h 7 [l0, l1] (.inl y :: .inl x :: st) Q ↔ (¬ x = y → VV 69 h 27 [l0, l1] st Q) ∧ (¬ (¬ x = y) → VV 69 h 10 [l0, l1] st Q) := VV_br2 rfl rfl rfl decide_eq_true_iff
theorem xr_69_10 (h : AHp) (Q : Option Int32 → AHp → Prop) (l1 : Option AV) (x : Nat × Nat) (st : List AV) : VV 69 h 10 [some (.inr x), l1] st Q ↔ VV 69 h 11 [some (.inr x), l1] (.inr x :: st) Q := VV_step rfl rfl rfl rfl
theorem xr_69_11 (h : AHp) (Q : Option Int32 → AHp → Prop) (l0 l1 : Option AV) (i : Nat) (st : List AV) : VV 69 h 11 [l0, l1] (.inr (10, i) :: st) Q ↔ VV 69 h 14 [l0, l1] (.inr (14, i) :: st) Q := VV_step rfl rfl rfl rfl
theorem xr_69_14 (h : AHp) (Q : Option Int32 → AHp → Prop) (l0 : Option AV) (x : Int32) (st : List AV) : VV 69 h 14 [l0, some (.inl x)] st Q ↔ VV 69 h 15 [l0, some (.inl x)] (.inl x :: st) Q := VV_step rfl rfl rfl rfl
theorem xr_69_15 (h : AHp) (Q : Option Int32 → AHp → Prop) (l0 l1 : Option AV) (x : Int32) (k i : Nat) (st : List AV) : VV 69 h 15 [l0, l1] (.inl x :: .inr (k, i) :: st) Q ↔ ix_i k x ∧ VV 69 h 16 [l0, l1] (.inl (h k i x.toNatClampNeg) :: st) Q := VV_iald rfl
theorem xr_69_16 (h : AHp) (Q : Option Int32 → AHp → Prop) (l1 : Option AV) (x : Nat × Nat) (st : List AV) : VV 69 h 16 [some (.inr x), l1] st Q ↔ VV 69 h 17 [some (.inr x), l1] (.inr x :: st) Q := VV_step rfl rfl rfl rfl
theorem xr_69_17 (h : AHp) (Q : Option Int32 → AHp → Prop) (l0 l1 : Option AV) (i : Nat) (st : List AV) : VV 69 h 17 [l0, l1] (.inr (10, i) :: st) Q ↔ VV 69 h 20 [l0, l1] (.inl (h 10 i 19) :: st) Q := VV_step rfl rfl rfl rfl
theorem xr_69_20 (h : AHp) (Q : Option Int32 → AHp → Prop) (l0 l1 : Option AV) (x y : Int32) (st : List AV) : VV 69 h 20 [l0, l1] (.inl y :: .inl x :: st) Q ↔ (y ≤ x → VV 69 h 27 [l0, l1] st Q) ∧ (¬ (y ≤ x) → VV 69 h 23 [l0, l1] st Q) := VV_br2 rfl rfl rfl decide_eq_true_iff
theorem xr_69_23 (h : AHp) (Q : Option Int32 → AHp → Prop) (l0 l1 : Option AV) (st : List AV) : VV 69 h 23 [l0, l1] st Q ↔ VV 69 h 24 [l0, l1] (.inl (1 : Int32) :: st) Q := VV_step rfl rfl rfl rfl
theorem xr_69_24 (h : AHp) (Q : Option Int32 → AHp → Prop) (l0 l1 : Option AV) (st : List AV) : VV 69 h 24 [l0, l1] st Q ↔ VV 69 h 28 [l0, l1] st Q := VV_step rfl rfl rfl rfl
theorem xr_69_27 (h : AHp) (Q : Option Int32 → AHp → Prop) (l0 l1 : Option AV) (st : List AV) : VV 69 h 27 [l0, l1] st Q ↔ VV 69 h 28 [l0, l1] (.inl (0 : Int32) :: st) Q := VV_step rfl rfl rfl rfl
theorem xr_69_28 (h : AHp) (Q : Option Int32 → AHp → Prop) (l0 l1 : Option AV) (x : Int32) : VV 69 h 28 [l0, l1] [.inl x] Q ↔ (x = 0 ∨ x = 1) ∧ Q (some x) h := VV_zret rfl rfl
theorem xr_70_0 (h : AHp) (Q : Option Int32 → AHp → Prop) (l0 l1 l2 : Option AV) (st : List AV) : VV 70 h 0 [l0, l1, l2] st Q ↔ VV 70 h 1 [l0, l1, l2] (.inl (0 : Int32) :: st) Q := VV_step rfl rfl rfl rfl
theorem xr_70_1 (h : AHp) (Q : Option Int32 → AHp → Prop) (l0 l1 l2 : Option AV) (x : Int32) (st : List AV) : VV 70 h 1 [l0, l1, l2] (.inl x :: st) Q ↔ VV 70 h 2 [l0, l1, some (.inl x)] st Q := VV_step rfl rfl rfl rfl
theorem xr_70_2 (h : AHp) (Q : Option Int32 → AHp → Prop) (l0 l1 : Option AV) (x : Int32) (st : List AV) : VV 70 h 2 [l0, l1, some (.inl x)] st Q ↔ VV 70 h 3 [l0, l1, some (.inl x)] (.inl x :: st) Q := VV_step rfl rfl rfl rfl
theorem xr_70_3 (h : AHp) (Q : Option Int32 → AHp → Prop) (l1 l2 : Option AV) (x : Nat × Nat) (st : List AV) : VV 70 h 3 [some (.inr x), l1, l2] st Q ↔ VV 70 h 4 [some (.inr x), l1, l2] (.inr x :: st) Q := VV_step rfl rfl rfl rfl
theorem xr_70_4 (h : AHp) (Q : Option Int32 → AHp → Prop) (l0 l1 l2 : Option AV) (i : Nat) (st : List AV) : VV 70 h 4 [l0, l1, l2] (.inr (10, i) :: st) Q ↔ VV 70 h 7 [l0, l1, l2] (.inl (h 10 i 1) :: st) Q := VV_step rfl rfl rfl rfl
theorem xr_70_7 (h : AHp) (Q : Option Int32 → AHp → Prop) (l0 l1 l2 : Option AV) (x y : Int32) (st : List AV) : VV 70 h 7 [l0, l1, l2] (.inl y :: .inl x :: st) Q ↔ (y ≤ x → VV 70 h 36 [l0, l1, l2] st Q) ∧ (¬ (y ≤ x) → VV 70 h 10 [l0, l1, l2] st Q) := VV_br2 rfl rfl rfl decide_eq_true_iff
theorem xr_70_10 (h : AHp) (Q : Option Int32 → AHp → Prop) (l1 l2 : Option AV) (x : Nat × Nat) (st : List AV) : VV 70 h 10 [some (.inr x), l1, l2] st Q ↔ VV 70 h 11 [some (.inr x), l1, l2] (.inr x :: st) Q := VV_step rfl rfl rfl rfl
theorem xr_70_11 (h : AHp) (Q : Option Int32 → AHp → Prop) (l0 l1 l2 : Option AV) (i : Nat) (st : List AV) : VV 70 h 11 [l0, l1, l2] (.inr (10, i) :: st) Q ↔ VV 70 h 14 [l0, l1, l2] (.inr (12, i) :: st) Q := VV_step rfl rfl rfl rfl
theorem xr_70_14 (h : AHp) (Q : Option Int32 → AHp → Prop) (l0 l1 : Option AV) (x : Int32) (st : List AV) : VV 70 h 14 [l0, l1, some (.inl x)] st Q ↔ VV 70 h 15 [l0, l1, some (.inl x)] (.inl x :: st) Q := VV_step rfl rfl rfl rfl
theorem xr_70_15 (h : AHp) (Q : Option Int32 → AHp → Prop) (l0 l1 l2 : Option AV) (x : Int32) (k i : Nat) (st : List AV) : VV 70 h 15 [l0, l1, l2] (.inl x :: .inr (k, i) :: st) Q ↔ ix_i k x ∧ VV 70 h 16 [l0, l1, l2] (.inl (h k i x.toNatClampNeg) :: st) Q := VV_iald rfl
theorem xr_70_16 (h : AHp) (Q : Option Int32 → AHp → Prop) (l0 l2 : Option AV) (x : Int32) (st : List AV) : VV 70 h 16 [l0, some (.inl x), l2] st Q ↔ VV 70 h 17 [l0, some (.inl x), l2] (.inl x :: st) Q := VV_step rfl rfl rfl rfl
theorem xr_70_17 (h : AHp) (Q : Option Int32 → AHp → Prop) (l0 l1 l2 : Option AV) (x y : Int32) (st : List AV) : VV 70 h 17 [l0, l1, l2] (.inl y :: .inl x :: st) Q ↔ (¬ x = y → VV 70 h 30 [l0, l1, l2] st Q) ∧ (¬ (¬ x = y) → VV 70 h 20 [l0, l1, l2] st Q) := VV_br2 rfl rfl rfl decide_eq_true_iff
theorem xr_70_20 (h : AHp) (Q : Option Int32 → AHp → Prop) (l1 l2 : Option AV) (x : Nat × Nat) (st : List AV) : VV 70 h 20 [some (.inr x), l1, l2] st Q ↔ VV 70 h 21 [some (.inr x), l1, l2] (.inr x :: st) Q := VV_step rfl rfl rfl rfl
theorem xr_70_21 (h : AHp) (Q : Option Int32 → AHp → Prop) (l0 l1 : Option AV) (x : Int32) (st : List AV) : VV 70 h 21 [l0, l1, some (.inl x)] st Q ↔ VV 70 h 22 [l0, l1, some (.inl x)] (.inl x :: st) Q := VV_step rfl rfl rfl rfl
theorem xr_70_22 (h : AHp) (Q : Option Int32 → AHp → Prop) (l0 l1 l2 : Option AV) (a0 : AV) (i : Nat) : VV 70 h 22 [l0, l1, l2] [a0, .inr (10, i)] Q ↔ Vi 69 h [some (.inr (10, i)), some a0] (fun z h2 => VV 70 h2 25 [l0, l1, l2] [.inl z] Q) := VV_calli (y := 69) (as := [.inr (10, i), a0]) (rest := []) rfl rfl rfl (ah_noV (y := 69) (by decide))
theorem xr_70_25 (h : AHp) (Q : Option Int32 → AHp → Prop) (l0 l1 l2 : Option AV) (x : Int32) (st : List AV) : VV 70 h 25 [l0, l1, l2] (.inl x :: st) Q ↔ (x = 0 → VV 70 h 30 [l0, l1, l2] st Q) ∧ (¬ (x = 0) → VV 70 h 28 [l0, l1, l2] st Q) := VV_br rfl rfl rfl decide_eq_true_iff
theorem xr_70_28 (h : AHp) (Q : Option Int32 → AHp → Prop) (l0 l1 l2 : Option AV) (st : List AV) : VV 70 h 28 [l0, l1, l2] st Q ↔ VV 70 h 29 [l0, l1, l2] (.inl (1 : Int32) :: st) Q := VV_step rfl rfl rfl rfl
theorem xr_70_29 (h : AHp) (Q : Option Int32 → AHp → Prop) (l0 l1 l2 : Option AV) (x : Int32) : VV 70 h 29 [l0, l1, l2] [.inl x] Q ↔ (x = 0 ∨ x = 1) ∧ Q (some x) h := VV_zret rfl rfl
theorem xr_70_30 (h : AHp) (Q : Option Int32 → AHp → Prop) (l0 l1 : Option AV) (x : Int32) (st : List AV) : VV 70 h 30 [l0, l1, some (.inl x)] st Q ↔ VV 70 h 33 [l0, l1, some (.inl (x + (1 : Int32)))] st Q := VV_step rfl rfl rfl rfl
theorem xr_70_33 (h : AHp) (Q : Option Int32 → AHp → Prop) (l0 l1 l2 : Option AV) (st : List AV) : VV 70 h 33 [l0, l1, l2] st Q ↔ VV 70 h 2 [l0, l1, l2] st Q := VV_step rfl rfl rfl rfl
theorem xr_70_36 (h : AHp) (Q : Option Int32 → AHp → Prop) (l0 l1 l2 : Option AV) (st : List AV) : VV 70 h 36 [l0, l1, l2] st Q ↔ VV 70 h 37 [l0, l1, l2] (.inl (0 : Int32) :: st) Q := VV_step rfl rfl rfl rfl
theorem xr_70_37 (h : AHp) (Q : Option Int32 → AHp → Prop) (l0 l1 l2 : Option AV) (x : Int32) : VV 70 h 37 [l0, l1, l2] [.inl x] Q ↔ (x = 0 ∨ x = 1) ∧ Q (some x) h := VV_zret rfl rfl
theorem xr_71_0 (h : AHp) (Q : Option Int32 → AHp → Prop) (l0 l1 l2 l3 : Option AV) (st : List AV) : VV 71 h 0 [l0, l1, l2, l3] st Q ↔ VV 71 h 1 [l0, l1, l2, l3] (.inl (0 : Int32) :: st) Q := VV_step rfl rfl rfl rfl
theorem xr_71_1 (h : AHp) (Q : Option Int32 → AHp → Prop) (l0 l1 l2 l3 : Option AV) (x : Int32) (st : List AV) : VV 71 h 1 [l0, l1, l2, l3] (.inl x :: st) Q ↔ VV 71 h 2 [l0, l1, some (.inl x), l3] st Q := VV_step rfl rfl rfl rfl
theorem xr_71_2 (h : AHp) (Q : Option Int32 → AHp → Prop) (l0 l1 l2 l3 : Option AV) (st : List AV) : VV 71 h 2 [l0, l1, l2, l3] st Q ↔ VV 71 h 3 [l0, l1, l2, l3] (.inl (0 : Int32) :: st) Q := VV_step rfl rfl rfl rfl
theorem xr_71_3 (h : AHp) (Q : Option Int32 → AHp → Prop) (l0 l1 l2 l3 : Option AV) (x : Int32) (st : List AV) : VV 71 h 3 [l0, l1, l2, l3] (.inl x :: st) Q ↔ VV 71 h 4 [l0, l1, l2, some (.inl x)] st Q := VV_step rfl rfl rfl rfl
theorem xr_71_4 (h : AHp) (Q : Option Int32 → AHp → Prop) (l0 l1 l2 : Option AV) (x : Int32) (st : List AV) : VV 71 h 4 [l0, l1, l2, some (.inl x)] st Q ↔ VV 71 h 5 [l0, l1, l2, some (.inl x)] (.inl x :: st) Q := VV_step rfl rfl rfl rfl
theorem xr_71_5 (h : AHp) (Q : Option Int32 → AHp → Prop) (l1 l2 l3 : Option AV) (x : Nat × Nat) (st : List AV) : VV 71 h 5 [some (.inr x), l1, l2, l3] st Q ↔ VV 71 h 6 [some (.inr x), l1, l2, l3] (.inr x :: st) Q := VV_step rfl rfl rfl rfl
theorem xr_71_6 (h : AHp) (Q : Option Int32 → AHp → Prop) (l0 l1 l2 l3 : Option AV) (i : Nat) (st : List AV) : VV 71 h 6 [l0, l1, l2, l3] (.inr (10, i) :: st) Q ↔ VV 71 h 9 [l0, l1, l2, l3] (.inl (h 10 i 1) :: st) Q := VV_step rfl rfl rfl rfl
theorem xr_71_9 (h : AHp) (Q : Option Int32 → AHp → Prop) (l0 l1 l2 l3 : Option AV) (x y : Int32) (st : List AV) : VV 71 h 9 [l0, l1, l2, l3] (.inl y :: .inl x :: st) Q ↔ (y ≤ x → VV 71 h 49 [l0, l1, l2, l3] st Q) ∧ (¬ (y ≤ x) → VV 71 h 12 [l0, l1, l2, l3] st Q) := VV_br2 rfl rfl rfl decide_eq_true_iff
theorem xr_71_12 (h : AHp) (Q : Option Int32 → AHp → Prop) (l0 l1 l3 : Option AV) (x : Int32) (st : List AV) : VV 71 h 12 [l0, l1, some (.inl x), l3] st Q ↔ VV 71 h 13 [l0, l1, some (.inl x), l3] (.inl x :: st) Q := VV_step rfl rfl rfl rfl
theorem xr_71_13 (h : AHp) (Q : Option Int32 → AHp → Prop) (l1 l2 l3 : Option AV) (x : Nat × Nat) (st : List AV) : VV 71 h 13 [some (.inr x), l1, l2, l3] st Q ↔ VV 71 h 14 [some (.inr x), l1, l2, l3] (.inr x :: st) Q := VV_step rfl rfl rfl rfl
theorem xr_71_14 (h : AHp) (Q : Option Int32 → AHp → Prop) (l0 l1 l2 l3 : Option AV) (i : Nat) (st : List AV) : VV 71 h 14 [l0, l1, l2, l3] (.inr (10, i) :: st) Q ↔ VV 71 h 17 [l0, l1, l2, l3] (.inr (12, i) :: st) Q := VV_step rfl rfl rfl rfl
theorem xr_71_17 (h : AHp) (Q : Option Int32 → AHp → Prop) (l0 l1 l2 : Option AV) (x : Int32) (st : List AV) : VV 71 h 17 [l0, l1, l2, some (.inl x)] st Q ↔ VV 71 h 18 [l0, l1, l2, some (.inl x)] (.inl x :: st) Q := VV_step rfl rfl rfl rfl
theorem xr_71_18 (h : AHp) (Q : Option Int32 → AHp → Prop) (l0 l1 l2 l3 : Option AV) (x : Int32) (k i : Nat) (st : List AV) : VV 71 h 18 [l0, l1, l2, l3] (.inl x :: .inr (k, i) :: st) Q ↔ ix_i k x ∧ VV 71 h 19 [l0, l1, l2, l3] (.inl (h k i x.toNatClampNeg) :: st) Q := VV_iald rfl
theorem xr_71_19 (h : AHp) (Q : Option Int32 → AHp → Prop) (l0 l2 l3 : Option AV) (x : Int32) (st : List AV) : VV 71 h 19 [l0, some (.inl x), l2, l3] st Q ↔ VV 71 h 20 [l0, some (.inl x), l2, l3] (.inl x :: st) Q := VV_step rfl rfl rfl rfl
theorem xr_71_20 (h : AHp) (Q : Option Int32 → AHp → Prop) (l0 l1 l2 l3 : Option AV) (x y : Int32) (st : List AV) : VV 71 h 20 [l0, l1, l2, l3] (.inl y :: .inl x :: st) Q ↔ (¬ x = y → VV 71 h 40 [l0, l1, l2, l3] st Q) ∧ (¬ (¬ x = y) → VV 71 h 23 [l0, l1, l2, l3] st Q) := VV_br2 rfl rfl rfl decide_eq_true_iff
theorem xr_71_23 (h : AHp) (Q : Option Int32 → AHp → Prop) (l1 l2 l3 : Option AV) (x : Nat × Nat) (st : List AV) : VV 71 h 23 [some (.inr x), l1, l2, l3] st Q ↔ VV 71 h 24 [some (.inr x), l1, l2, l3] (.inr x :: st) Q := VV_step rfl rfl rfl rfl
theorem xr_71_24 (h : AHp) (Q : Option Int32 → AHp → Prop) (l0 l1 l2 l3 : Option AV) (i : Nat) (st : List AV) : VV 71 h 24 [l0, l1, l2, l3] (.inr (10, i) :: st) Q ↔ VV 71 h 27 [l0, l1, l2, l3] (.inr (14, i) :: st) Q := VV_step rfl rfl rfl rfl
theorem xr_71_27 (h : AHp) (Q : Option Int32 → AHp → Prop) (l0 l1 l2 : Option AV) (x : Int32) (st : List AV) : VV 71 h 27 [l0, l1, l2, some (.inl x)] st Q ↔ VV 71 h 28 [l0, l1, l2, some (.inl x)] (.inl x :: st) Q := VV_step rfl rfl rfl rfl
theorem xr_71_28 (h : AHp) (Q : Option Int32 → AHp → Prop) (l0 l1 l2 l3 : Option AV) (x : Int32) (k i : Nat) (st : List AV) : VV 71 h 28 [l0, l1, l2, l3] (.inl x :: .inr (k, i) :: st) Q ↔ ix_i k x ∧ VV 71 h 29 [l0, l1, l2, l3] (.inl (h k i x.toNatClampNeg) :: st) Q := VV_iald rfl
theorem xr_71_29 (h : AHp) (Q : Option Int32 → AHp → Prop) (l1 l2 l3 : Option AV) (x : Nat × Nat) (st : List AV) : VV 71 h 29 [some (.inr x), l1, l2, l3] st Q ↔ VV 71 h 30 [some (.inr x), l1, l2, l3] (.inr x :: st) Q := VV_step rfl rfl rfl rfl
theorem xr_71_30 (h : AHp) (Q : Option Int32 → AHp → Prop) (l0 l1 l2 l3 : Option AV) (i : Nat) (st : List AV) : VV 71 h 30 [l0, l1, l2, l3] (.inr (10, i) :: st) Q ↔ VV 71 h 33 [l0, l1, l2, l3] (.inl (h 10 i 19) :: st) Q := VV_step rfl rfl rfl rfl
theorem xr_71_33 (h : AHp) (Q : Option Int32 → AHp → Prop) (l0 l1 l2 l3 : Option AV) (x y : Int32) (st : List AV) : VV 71 h 33 [l0, l1, l2, l3] (.inl y :: .inl x :: st) Q ↔ (y ≤ x → VV 71 h 40 [l0, l1, l2, l3] st Q) ∧ (¬ (y ≤ x) → VV 71 h 36 [l0, l1, l2, l3] st Q) := VV_br2 rfl rfl rfl decide_eq_true_iff
theorem xr_71_36 (h : AHp) (Q : Option Int32 → AHp → Prop) (l0 l1 l2 l3 : Option AV) (st : List AV) : VV 71 h 36 [l0, l1, l2, l3] st Q ↔ VV 71 h 37 [l0, l1, l2, l3] (.inl (1 : Int32) :: st) Q := VV_step rfl rfl rfl rfl
theorem xr_71_37 (h : AHp) (Q : Option Int32 → AHp → Prop) (l0 l1 l2 l3 : Option AV) (st : List AV) : VV 71 h 37 [l0, l1, l2, l3] st Q ↔ VV 71 h 41 [l0, l1, l2, l3] st Q := VV_step rfl rfl rfl rfl
theorem xr_71_40 (h : AHp) (Q : Option Int32 → AHp → Prop) (l0 l1 l2 l3 : Option AV) (st : List AV) : VV 71 h 40 [l0, l1, l2, l3] st Q ↔ VV 71 h 41 [l0, l1, l2, l3] (.inl (0 : Int32) :: st) Q := VV_step rfl rfl rfl rfl
theorem xr_71_41 (h : AHp) (Q : Option Int32 → AHp → Prop) (l0 l1 l2 l3 : Option AV) (x y : Int32) (st : List AV) : VV 71 h 41 [l0, l1, l2, l3] (.inl y :: .inl x :: st) Q ↔ VV 71 h 42 [l0, l1, l2, l3] (.inl (x + y) :: st) Q := VV_step rfl rfl rfl rfl
theorem xr_71_42 (h : AHp) (Q : Option Int32 → AHp → Prop) (l0 l1 l2 l3 : Option AV) (x : Int32) (st : List AV) : VV 71 h 42 [l0, l1, l2, l3] (.inl x :: st) Q ↔ VV 71 h 43 [l0, l1, some (.inl x), l3] st Q := VV_step rfl rfl rfl rfl
theorem xr_71_43 (h : AHp) (Q : Option Int32 → AHp → Prop) (l0 l1 l2 : Option AV) (x : Int32) (st : List AV) : VV 71 h 43 [l0, l1, l2, some (.inl x)] st Q ↔ VV 71 h 46 [l0, l1, l2, some (.inl (x + (1 : Int32)))] st Q := VV_step rfl rfl rfl rfl
theorem xr_71_46 (h : AHp) (Q : Option Int32 → AHp → Prop) (l0 l1 l2 l3 : Option AV) (st : List AV) : VV 71 h 46 [l0, l1, l2, l3] st Q ↔ VV 71 h 4 [l0, l1, l2, l3] st Q := VV_step rfl rfl rfl rfl
theorem xr_71_49 (h : AHp) (Q : Option Int32 → AHp → Prop) (l0 l1 l3 : Option AV) (x : Int32) (st : List AV) : VV 71 h 49 [l0, l1, some (.inl x), l3] st Q ↔ VV 71 h 50 [l0, l1, some (.inl x), l3] (.inl x :: st) Q := VV_step rfl rfl rfl rfl
theorem xr_71_50 (h : AHp) (Q : Option Int32 → AHp → Prop) (l0 l1 l2 l3 : Option AV) (x : Int32) : VV 71 h 50 [l0, l1, l2, l3] [.inl x] Q ↔ Q (some x) h := VV_end rfl rfl
theorem xr_72_0 (h : AHp) (Q : Option Int32 → AHp → Prop) (l0 l1 l2 l3 l4 : Option AV) (st : List AV) : VV 72 h 0 [l0, l1, l2, l3, l4] st Q ↔ VV 72 h 1 [l0, l1, l2, l3, l4] (.inl (-1 : Int32) :: st) Q := VV_step rfl rfl rfl rfl
theorem xr_72_1 (h : AHp) (Q : Option Int32 → AHp → Prop) (l0 l1 l2 l3 l4 : Option AV) (x : Int32) (st : List AV) : VV 72 h 1 [l0, l1, l2, l3, l4] (.inl x :: st) Q ↔ VV 72 h 2 [l0, l1, some (.inl x), l3, l4] st Q := VV_step rfl rfl rfl rfl
theorem xr_72_2 (h : AHp) (Q : Option Int32 → AHp → Prop) (l0 l1 l2 l3 l4 : Option AV) (st : List AV) : VV 72 h 2 [l0, l1, l2, l3, l4] st Q ↔ VV 72 h 3 [l0, l1, l2, l3, l4] (.inl (0 : Int32) :: st) Q := VV_step rfl rfl rfl rfl
theorem xr_72_3 (h : AHp) (Q : Option Int32 → AHp → Prop) (l0 l1 l2 l3 l4 : Option AV) (x : Int32) (st : List AV) : VV 72 h 3 [l0, l1, l2, l3, l4] (.inl x :: st) Q ↔ VV 72 h 4 [l0, l1, l2, some (.inl x), l4] st Q := VV_step rfl rfl rfl rfl
theorem xr_72_4 (h : AHp) (Q : Option Int32 → AHp → Prop) (l0 l1 l2 l4 : Option AV) (x : Int32) (st : List AV) : VV 72 h 4 [l0, l1, l2, some (.inl x), l4] st Q ↔ VV 72 h 5 [l0, l1, l2, some (.inl x), l4] (.inl x :: st) Q := VV_step rfl rfl rfl rfl
theorem xr_72_5 (h : AHp) (Q : Option Int32 → AHp → Prop) (l1 l2 l3 l4 : Option AV) (x : Nat × Nat) (st : List AV) : VV 72 h 5 [some (.inr x), l1, l2, l3, l4] st Q ↔ VV 72 h 6 [some (.inr x), l1, l2, l3, l4] (.inr x :: st) Q := VV_step rfl rfl rfl rfl
theorem xr_72_6 (h : AHp) (Q : Option Int32 → AHp → Prop) (l0 l1 l2 l3 l4 : Option AV) (i : Nat) (st : List AV) : VV 72 h 6 [l0, l1, l2, l3, l4] (.inr (10, i) :: st) Q ↔ VV 72 h 9 [l0, l1, l2, l3, l4] (.inl (h 10 i 0) :: st) Q := VV_step rfl rfl rfl rfl
theorem xr_72_9 (h : AHp) (Q : Option Int32 → AHp → Prop) (l0 l1 l2 l3 l4 : Option AV) (x y : Int32) (st : List AV) : VV 72 h 9 [l0, l1, l2, l3, l4] (.inl y :: .inl x :: st) Q ↔ (y ≤ x → VV 72 h 70 [l0, l1, l2, l3, l4] st Q) ∧ (¬ (y ≤ x) → VV 72 h 12 [l0, l1, l2, l3, l4] st Q) := VV_br2 rfl rfl rfl decide_eq_true_iff
theorem xr_72_12 (h : AHp) (Q : Option Int32 → AHp → Prop) (l1 l2 l3 l4 : Option AV) (x : Nat × Nat) (st : List AV) : VV 72 h 12 [some (.inr x), l1, l2, l3, l4] st Q ↔ VV 72 h 13 [some (.inr x), l1, l2, l3, l4] (.inr x :: st) Q := VV_step rfl rfl rfl rfl
theorem xr_72_13 (h : AHp) (Q : Option Int32 → AHp → Prop) (l0 l1 l2 l3 l4 : Option AV) (i : Nat) (st : List AV) : VV 72 h 13 [l0, l1, l2, l3, l4] (.inr (10, i) :: st) Q ↔ VV 72 h 16 [l0, l1, l2, l3, l4] (.inr (22, i) :: st) Q := VV_step rfl rfl rfl rfl
theorem xr_72_16 (h : AHp) (Q : Option Int32 → AHp → Prop) (l0 l1 l2 l3 l4 : Option AV) (st : List AV) : VV 72 h 16 [l0, l1, l2, l3, l4] st Q ↔ VV 72 h 18 [l0, l1, l2, l3, l4] (.inl (8 : Int32) :: st) Q := VV_step rfl rfl rfl rfl
theorem xr_72_18 (h : AHp) (Q : Option Int32 → AHp → Prop) (l0 l2 l3 l4 : Option AV) (x : Int32) (st : List AV) : VV 72 h 18 [l0, some (.inl x), l2, l3, l4] st Q ↔ VV 72 h 19 [l0, some (.inl x), l2, l3, l4] (.inl x :: st) Q := VV_step rfl rfl rfl rfl
theorem xr_72_19 (h : AHp) (Q : Option Int32 → AHp → Prop) (l0 l1 l2 l3 l4 : Option AV) (x y : Int32) (st : List AV) : VV 72 h 19 [l0, l1, l2, l3, l4] (.inl y :: .inl x :: st) Q ↔ VV 72 h 20 [l0, l1, l2, l3, l4] (.inl (x * y) :: st) Q := VV_step rfl rfl rfl rfl
theorem xr_72_20 (h : AHp) (Q : Option Int32 → AHp → Prop) (l0 l1 l2 l4 : Option AV) (x : Int32) (st : List AV) : VV 72 h 20 [l0, l1, l2, some (.inl x), l4] st Q ↔ VV 72 h 21 [l0, l1, l2, some (.inl x), l4] (.inl x :: st) Q := VV_step rfl rfl rfl rfl
theorem xr_72_21 (h : AHp) (Q : Option Int32 → AHp → Prop) (l0 l1 l2 l3 l4 : Option AV) (x y : Int32) (st : List AV) : VV 72 h 21 [l0, l1, l2, l3, l4] (.inl y :: .inl x :: st) Q ↔ VV 72 h 22 [l0, l1, l2, l3, l4] (.inl (x + y) :: st) Q := VV_step rfl rfl rfl rfl
theorem xr_72_22 (h : AHp) (Q : Option Int32 → AHp → Prop) (l0 l1 l2 l3 l4 : Option AV) (x : Int32) (k i : Nat) (st : List AV) : VV 72 h 22 [l0, l1, l2, l3, l4] (.inl x :: .inr (k, i) :: st) Q ↔ ix_z k x ∧ VV 72 h 23 [l0, l1, l2, l3, l4] (.inl (h k i x.toNatClampNeg) :: st) Q := VV_bald rfl
theorem xr_72_23 (h : AHp) (Q : Option Int32 → AHp → Prop) (l0 l1 l2 l3 l4 : Option AV) (x : Int32) (st : List AV) : VV 72 h 23 [l0, l1, l2, l3, l4] (.inl x :: st) Q ↔ (¬ x = 0 → VV 72 h 64 [l0, l1, l2, l3, l4] st Q) ∧ (¬ (¬ x = 0) → VV 72 h 26 [l0, l1, l2, l3, l4] st Q) := VV_br rfl rfl rfl decide_eq_true_iff
theorem xr_72_26 (h : AHp) (Q : Option Int32 → AHp → Prop) (l1 l2 l3 l4 : Option AV) (x : Nat × Nat) (st : List AV) : VV 72 h 26 [some (.inr x), l1, l2, l3, l4] st Q ↔ VV 72 h 27 [some (.inr x), l1, l2, l3, l4] (.inr x :: st) Q := VV_step rfl rfl rfl rfl
theorem xr_72_27 (h : AHp) (Q : Option Int32 → AHp → Prop) (l0 l1 l2 l4 : Option AV) (x : Int32) (st : List AV) : VV 72 h 27 [l0, l1, l2, some (.inl x), l4] st Q ↔ VV 72 h 28 [l0, l1, l2, some (.inl x), l4] (.inl x :: st) Q := VV_step rfl rfl rfl rfl
theorem xr_72_28 (h : AHp) (Q : Option Int32 → AHp → Prop) (l0 l1 l2 l3 l4 : Option AV) (a0 : AV) (i : Nat) : VV 72 h 28 [l0, l1, l2, l3, l4] [a0, .inr (10, i)] Q ↔ Vi 70 h [some (.inr (10, i)), some a0, none] (fun z h2 => VV 72 h2 31 [l0, l1, l2, l3, l4] [.inl z] Q) := VV_calli (y := 70) (as := [.inr (10, i), a0]) (rest := []) rfl rfl rfl (ah_noV (y := 70) (by decide))
theorem xr_72_31 (h : AHp) (Q : Option Int32 → AHp → Prop) (l0 l1 l2 l3 l4 : Option AV) (x : Int32) (st : List AV) : VV 72 h 31 [l0, l1, l2, l3, l4] (.inl x :: st) Q ↔ (¬ x = 0 → VV 72 h 37 [l0, l1, l2, l3, l4] st Q) ∧ (¬ (¬ x = 0) → VV 72 h 34 [l0, l1, l2, l3, l4] st Q) := VV_br rfl rfl rfl decide_eq_true_iff
theorem xr_72_34 (h : AHp) (Q : Option Int32 → AHp → Prop) (l0 l1 l2 l3 l4 : Option AV) (st : List AV) : VV 72 h 34 [l0, l1, l2, l3, l4] st Q ↔ VV 72 h 64 [l0, l1, l2, l3, l4] st Q := VV_step rfl rfl rfl rfl
theorem xr_72_37 (h : AHp) (Q : Option Int32 → AHp → Prop) (l0 l1 l3 l4 : Option AV) (x : Int32) (st : List AV) : VV 72 h 37 [l0, l1, some (.inl x), l3, l4] st Q ↔ VV 72 h 38 [l0, l1, some (.inl x), l3, l4] (.inl x :: st) Q := VV_step rfl rfl rfl rfl
theorem xr_72_38 (h : AHp) (Q : Option Int32 → AHp → Prop) (l0 l1 l2 l3 l4 : Option AV) (x : Int32) (st : List AV) : VV 72 h 38 [l0, l1, l2, l3, l4] (.inl x :: st) Q ↔ (x < 0 → VV 72 h 62 [l0, l1, l2, l3, l4] st Q) ∧ (¬ (x < 0) → VV 72 h 41 [l0, l1, l2, l3, l4] st Q) := VV_br rfl rfl rfl decide_eq_true_iff
theorem xr_72_41 (h : AHp) (Q : Option Int32 → AHp → Prop) (l1 l2 l3 l4 : Option AV) (x : Nat × Nat) (st : List AV) : VV 72 h 41 [some (.inr x), l1, l2, l3, l4] st Q ↔ VV 72 h 42 [some (.inr x), l1, l2, l3, l4] (.inr x :: st) Q := VV_step rfl rfl rfl rfl
theorem xr_72_42 (h : AHp) (Q : Option Int32 → AHp → Prop) (l0 l1 l2 l3 l4 : Option AV) (i : Nat) (st : List AV) : VV 72 h 42 [l0, l1, l2, l3, l4] (.inr (10, i) :: st) Q ↔ VV 72 h 45 [l0, l1, l2, l3, l4] (.inl (h 10 i 18) :: st) Q := VV_step rfl rfl rfl rfl
theorem xr_72_45 (h : AHp) (Q : Option Int32 → AHp → Prop) (l0 l1 l2 l3 l4 : Option AV) (st : List AV) : VV 72 h 45 [l0, l1, l2, l3, l4] st Q ↔ VV 72 h 46 [l0, l1, l2, l3, l4] (.inl (1 : Int32) :: st) Q := VV_step rfl rfl rfl rfl
theorem xr_72_46 (h : AHp) (Q : Option Int32 → AHp → Prop) (l0 l1 l2 l3 l4 : Option AV) (x y : Int32) (st : List AV) : VV 72 h 46 [l0, l1, l2, l3, l4] (.inl y :: .inl x :: st) Q ↔ (¬ x = y → VV 72 h 64 [l0, l1, l2, l3, l4] st Q) ∧ (¬ (¬ x = y) → VV 72 h 49 [l0, l1, l2, l3, l4] st Q) := VV_br2 rfl rfl rfl decide_eq_true_iff
theorem xr_72_49 (h : AHp) (Q : Option Int32 → AHp → Prop) (l1 l2 l3 l4 : Option AV) (x : Nat × Nat) (st : List AV) : VV 72 h 49 [some (.inr x), l1, l2, l3, l4] st Q ↔ VV 72 h 50 [some (.inr x), l1, l2, l3, l4] (.inr x :: st) Q := VV_step rfl rfl rfl rfl
theorem xr_72_50 (h : AHp) (Q : Option Int32 → AHp → Prop) (l0 l1 l2 l4 : Option AV) (x : Int32) (st : List AV) : VV 72 h 50 [l0, l1, l2, some (.inl x), l4] st Q ↔ VV 72 h 51 [l0, l1, l2, some (.inl x), l4] (.inl x :: st) Q := VV_step rfl rfl rfl rfl
theorem xr_72_51 (h : AHp) (Q : Option Int32 → AHp → Prop) (l0 l1 l2 l3 l4 : Option AV) (a0 : AV) (i : Nat) : VV 72 h 51 [l0, l1, l2, l3, l4] [a0, .inr (10, i)] Q ↔ Vi 71 h [some (.inr (10, i)), some a0, none, none] (fun z h2 => VV 72 h2 54 [l0, l1, l2, l3, l4] [.inl z] Q) := VV_calli (y := 71) (as := [.inr (10, i), a0]) (rest := []) rfl rfl rfl (ah_noV (y := 71) (by decide))
theorem xr_72_54 (h : AHp) (Q : Option Int32 → AHp → Prop) (l1 l2 l3 l4 : Option AV) (x : Nat × Nat) (st : List AV) : VV 72 h 54 [some (.inr x), l1, l2, l3, l4] st Q ↔ VV 72 h 55 [some (.inr x), l1, l2, l3, l4] (.inr x :: st) Q := VV_step rfl rfl rfl rfl
theorem xr_72_55 (h : AHp) (Q : Option Int32 → AHp → Prop) (l0 l1 l3 l4 : Option AV) (x : Int32) (st : List AV) : VV 72 h 55 [l0, l1, some (.inl x), l3, l4] st Q ↔ VV 72 h 56 [l0, l1, some (.inl x), l3, l4] (.inl x :: st) Q := VV_step rfl rfl rfl rfl
theorem xr_72_56 (h : AHp) (Q : Option Int32 → AHp → Prop) (l0 l1 l2 l3 l4 : Option AV) (a0 r0 : AV) (i : Nat) : VV 72 h 56 [l0, l1, l2, l3, l4] [a0, .inr (10, i), r0] Q ↔ Vi 71 h [some (.inr (10, i)), some a0, none, none] (fun z h2 => VV 72 h2 59 [l0, l1, l2, l3, l4] [.inl z, r0] Q) := VV_calli (y := 71) (as := [.inr (10, i), a0]) (rest := [r0]) rfl rfl rfl (ah_noV (y := 71) (by decide))
theorem xr_72_59 (h : AHp) (Q : Option Int32 → AHp → Prop) (l0 l1 l2 l3 l4 : Option AV) (x y : Int32) (st : List AV) : VV 72 h 59 [l0, l1, l2, l3, l4] (.inl y :: .inl x :: st) Q ↔ (y ≤ x → VV 72 h 64 [l0, l1, l2, l3, l4] st Q) ∧ (¬ (y ≤ x) → VV 72 h 62 [l0, l1, l2, l3, l4] st Q) := VV_br2 rfl rfl rfl decide_eq_true_iff
theorem xr_72_62 (h : AHp) (Q : Option Int32 → AHp → Prop) (l0 l1 l2 l4 : Option AV) (x : Int32) (st : List AV) : VV 72 h 62 [l0, l1, l2, some (.inl x), l4] st Q ↔ VV 72 h 63 [l0, l1, l2, some (.inl x), l4] (.inl x :: st) Q := VV_step rfl rfl rfl rfl
theorem xr_72_63 (h : AHp) (Q : Option Int32 → AHp → Prop) (l0 l1 l2 l3 l4 : Option AV) (x : Int32) (st : List AV) : VV 72 h 63 [l0, l1, l2, l3, l4] (.inl x :: st) Q ↔ VV 72 h 64 [l0, l1, some (.inl x), l3, l4] st Q := VV_step rfl rfl rfl rfl
theorem xr_72_64 (h : AHp) (Q : Option Int32 → AHp → Prop) (l0 l1 l2 l4 : Option AV) (x : Int32) (st : List AV) : VV 72 h 64 [l0, l1, l2, some (.inl x), l4] st Q ↔ VV 72 h 67 [l0, l1, l2, some (.inl (x + (1 : Int32))), l4] st Q := VV_step rfl rfl rfl rfl
theorem xr_72_67 (h : AHp) (Q : Option Int32 → AHp → Prop) (l0 l1 l2 l3 l4 : Option AV) (st : List AV) : VV 72 h 67 [l0, l1, l2, l3, l4] st Q ↔ VV 72 h 4 [l0, l1, l2, l3, l4] st Q := VV_step rfl rfl rfl rfl
theorem xr_72_70 (h : AHp) (Q : Option Int32 → AHp → Prop) (l0 l1 l3 l4 : Option AV) (x : Int32) (st : List AV) : VV 72 h 70 [l0, l1, some (.inl x), l3, l4] st Q ↔ VV 72 h 71 [l0, l1, some (.inl x), l3, l4] (.inl x :: st) Q := VV_step rfl rfl rfl rfl
theorem xr_72_71 (h : AHp) (Q : Option Int32 → AHp → Prop) (l0 l1 l2 l3 l4 : Option AV) (x : Int32) (st : List AV) : VV 72 h 71 [l0, l1, l2, l3, l4] (.inl x :: st) Q ↔ (0 ≤ x → VV 72 h 75 [l0, l1, l2, l3, l4] st Q) ∧ (¬ (0 ≤ x) → VV 72 h 74 [l0, l1, l2, l3, l4] st Q) := VV_br rfl rfl rfl decide_eq_true_iff
theorem xr_72_74 (h : AHp) (Q : Option Int32 → AHp → Prop) (l0 l1 l2 l3 l4 : Option AV) : VV 72 h 74 [l0, l1, l2, l3, l4] [] Q ↔ Q none h := VV_end rfl rfl
theorem xr_72_75 (h : AHp) (Q : Option Int32 → AHp → Prop) (l0 l1 l2 l3 l4 : Option AV) (st : List AV) : VV 72 h 75 [l0, l1, l2, l3, l4] st Q ↔ VV 72 h 76 [l0, l1, l2, l3, l4] (.inl (-1 : Int32) :: st) Q := VV_step rfl rfl rfl rfl
theorem xr_72_76 (h : AHp) (Q : Option Int32 → AHp → Prop) (l0 l1 l2 l3 l4 : Option AV) (x : Int32) (st : List AV) : VV 72 h 76 [l0, l1, l2, l3, l4] (.inl x :: st) Q ↔ VV 72 h 77 [l0, l1, l2, some (.inl x), l4] st Q := VV_step rfl rfl rfl rfl
theorem xr_72_77 (h : AHp) (Q : Option Int32 → AHp → Prop) (l0 l1 l2 l3 l4 : Option AV) (st : List AV) : VV 72 h 77 [l0, l1, l2, l3, l4] st Q ↔ VV 72 h 78 [l0, l1, l2, l3, l4] (.inl (0 : Int32) :: st) Q := VV_step rfl rfl rfl rfl
theorem xr_72_78 (h : AHp) (Q : Option Int32 → AHp → Prop) (l0 l1 l2 l3 l4 : Option AV) (x : Int32) (st : List AV) : VV 72 h 78 [l0, l1, l2, l3, l4] (.inl x :: st) Q ↔ VV 72 h 80 [l0, l1, l2, l3, some (.inl x)] st Q := VV_step rfl rfl rfl rfl
theorem xr_72_80 (h : AHp) (Q : Option Int32 → AHp → Prop) (l0 l1 l2 l3 : Option AV) (x : Int32) (st : List AV) : VV 72 h 80 [l0, l1, l2, l3, some (.inl x)] st Q ↔ VV 72 h 82 [l0, l1, l2, l3, some (.inl x)] (.inl x :: st) Q := VV_step rfl rfl rfl rfl
theorem xr_72_82 (h : AHp) (Q : Option Int32 → AHp → Prop) (l1 l2 l3 l4 : Option AV) (x : Nat × Nat) (st : List AV) : VV 72 h 82 [some (.inr x), l1, l2, l3, l4] st Q ↔ VV 72 h 83 [some (.inr x), l1, l2, l3, l4] (.inr x :: st) Q := VV_step rfl rfl rfl rfl
theorem xr_72_83 (h : AHp) (Q : Option Int32 → AHp → Prop) (l0 l1 l2 l3 l4 : Option AV) (i : Nat) (st : List AV) : VV 72 h 83 [l0, l1, l2, l3, l4] (.inr (10, i) :: st) Q ↔ VV 72 h 86 [l0, l1, l2, l3, l4] (.inl (h 10 i 1) :: st) Q := VV_step rfl rfl rfl rfl
theorem xr_72_86 (h : AHp) (Q : Option Int32 → AHp → Prop) (l0 l1 l2 l3 l4 : Option AV) (x y : Int32) (st : List AV) : VV 72 h 86 [l0, l1, l2, l3, l4] (.inl y :: .inl x :: st) Q ↔ (y ≤ x → VV 72 h 138 [l0, l1, l2, l3, l4] st Q) ∧ (¬ (y ≤ x) → VV 72 h 89 [l0, l1, l2, l3, l4] st Q) := VV_br2 rfl rfl rfl decide_eq_true_iff
theorem xr_72_89 (h : AHp) (Q : Option Int32 → AHp → Prop) (l1 l2 l3 l4 : Option AV) (x : Nat × Nat) (st : List AV) : VV 72 h 89 [some (.inr x), l1, l2, l3, l4] st Q ↔ VV 72 h 90 [some (.inr x), l1, l2, l3, l4] (.inr x :: st) Q := VV_step rfl rfl rfl rfl
theorem xr_72_90 (h : AHp) (Q : Option Int32 → AHp → Prop) (l0 l1 l2 l3 l4 : Option AV) (i : Nat) (st : List AV) : VV 72 h 90 [l0, l1, l2, l3, l4] (.inr (10, i) :: st) Q ↔ VV 72 h 93 [l0, l1, l2, l3, l4] (.inr (12, i) :: st) Q := VV_step rfl rfl rfl rfl
theorem xr_72_93 (h : AHp) (Q : Option Int32 → AHp → Prop) (l0 l1 l2 l3 : Option AV) (x : Int32) (st : List AV) : VV 72 h 93 [l0, l1, l2, l3, some (.inl x)] st Q ↔ VV 72 h 95 [l0, l1, l2, l3, some (.inl x)] (.inl x :: st) Q := VV_step rfl rfl rfl rfl
theorem xr_72_95 (h : AHp) (Q : Option Int32 → AHp → Prop) (l0 l1 l2 l3 l4 : Option AV) (x : Int32) (k i : Nat) (st : List AV) : VV 72 h 95 [l0, l1, l2, l3, l4] (.inl x :: .inr (k, i) :: st) Q ↔ ix_i k x ∧ VV 72 h 96 [l0, l1, l2, l3, l4] (.inl (h k i x.toNatClampNeg) :: st) Q := VV_iald rfl
theorem xr_72_96 (h : AHp) (Q : Option Int32 → AHp → Prop) (l0 l1 l3 l4 : Option AV) (x : Int32) (st : List AV) : VV 72 h 96 [l0, l1, some (.inl x), l3, l4] st Q ↔ VV 72 h 97 [l0, l1, some (.inl x), l3, l4] (.inl x :: st) Q := VV_step rfl rfl rfl rfl
theorem xr_72_97 (h : AHp) (Q : Option Int32 → AHp → Prop) (l0 l1 l2 l3 l4 : Option AV) (x y : Int32) (st : List AV) : VV 72 h 97 [l0, l1, l2, l3, l4] (.inl y :: .inl x :: st) Q ↔ (¬ x = y → VV 72 h 132 [l0, l1, l2, l3, l4] st Q) ∧ (¬ (¬ x = y) → VV 72 h 100 [l0, l1, l2, l3, l4] st Q) := VV_br2 rfl rfl rfl decide_eq_true_iff
theorem xr_72_100 (h : AHp) (Q : Option Int32 → AHp → Prop) (l1 l2 l3 l4 : Option AV) (x : Nat × Nat) (st : List AV) : VV 72 h 100 [some (.inr x), l1, l2, l3, l4] st Q ↔ VV 72 h 101 [some (.inr x), l1, l2, l3, l4] (.inr x :: st) Q := VV_step rfl rfl rfl rfl
theorem xr_72_101 (h : AHp) (Q : Option Int32 → AHp → Prop) (l0 l1 l2 l3 : Option AV) (x : Int32) (st : List AV) : VV 72 h 101 [l0, l1, l2, l3, some (.inl x)] st Q ↔ VV 72 h 103 [l0, l1, l2, l3, some (.inl x)] (.inl x :: st) Q := VV_step rfl rfl rfl rfl
theorem xr_72_103 (h : AHp) (Q : Option Int32 → AHp → Prop) (l0 l1 l2 l3 l4 : Option AV) (a0 : AV) (i : Nat) : VV 72 h 103 [l0, l1, l2, l3, l4] [a0, .inr (10, i)] Q ↔ Vi 69 h [some (.inr (10, i)), some a0] (fun z h2 => VV 72 h2 106 [l0, l1, l2, l3, l4] [.inl z] Q) := VV_calli (y := 69) (as := [.inr (10, i), a0]) (rest := []) rfl rfl rfl (ah_noV (y := 69) (by decide))
theorem xr_72_106 (h : AHp) (Q : Option Int32 → AHp → Prop) (l0 l1 l2 l3 l4 : Option AV) (x : Int32) (st : List AV) : VV 72 h 106 [l0, l1, l2, l3, l4] (.inl x :: st) Q ↔ (x = 0 → VV 72 h 132 [l0, l1, l2, l3, l4] st Q) ∧ (¬ (x = 0) → VV 72 h 109 [l0, l1, l2, l3, l4] st Q) := VV_br rfl rfl rfl decide_eq_true_iff
theorem xr_72_109 (h : AHp) (Q : Option Int32 → AHp → Prop) (l0 l1 l2 l4 : Option AV) (x : Int32) (st : List AV) : VV 72 h 109 [l0, l1, l2, some (.inl x), l4] st Q ↔ VV 72 h 110 [l0, l1, l2, some (.inl x), l4] (.inl x :: st) Q := VV_step rfl rfl rfl rfl
theorem xr_72_110 (h : AHp) (Q : Option Int32 → AHp → Prop) (l0 l1 l2 l3 l4 : Option AV) (x : Int32) (st : List AV) : VV 72 h 110 [l0, l1, l2, l3, l4] (.inl x :: st) Q ↔ (x < 0 → VV 72 h 129 [l0, l1, l2, l3, l4] st Q) ∧ (¬ (x < 0) → VV 72 h 113 [l0, l1, l2, l3, l4] st Q) := VV_br rfl rfl rfl decide_eq_true_iff
theorem xr_72_113 (h : AHp) (Q : Option Int32 → AHp → Prop) (l1 l2 l3 l4 : Option AV) (x : Nat × Nat) (st : List AV) : VV 72 h 113 [some (.inr x), l1, l2, l3, l4] st Q ↔ VV 72 h 114 [some (.inr x), l1, l2, l3, l4] (.inr x :: st) Q := VV_step rfl rfl rfl rfl
theorem xr_72_114 (h : AHp) (Q : Option Int32 → AHp → Prop) (l0 l1 l2 l3 l4 : Option AV) (i : Nat) (st : List AV) : VV 72 h 114 [l0, l1, l2, l3, l4] (.inr (10, i) :: st) Q ↔ VV 72 h 117 [l0, l1, l2, l3, l4] (.inr (14, i) :: st) Q := VV_step rfl rfl rfl rfl
theorem xr_72_117 (h : AHp) (Q : Option Int32 → AHp → Prop) (l0 l1 l2 l3 : Option AV) (x : Int32) (st : List AV) : VV 72 h 117 [l0, l1, l2, l3, some (.inl x)] st Q ↔ VV 72 h 119 [l0, l1, l2, l3, some (.inl x)] (.inl x :: st) Q := VV_step rfl rfl rfl rfl
theorem xr_72_119 (h : AHp) (Q : Option Int32 → AHp → Prop) (l0 l1 l2 l3 l4 : Option AV) (x : Int32) (k i : Nat) (st : List AV) : VV 72 h 119 [l0, l1, l2, l3, l4] (.inl x :: .inr (k, i) :: st) Q ↔ ix_i k x ∧ VV 72 h 120 [l0, l1, l2, l3, l4] (.inl (h k i x.toNatClampNeg) :: st) Q := VV_iald rfl
theorem xr_72_120 (h : AHp) (Q : Option Int32 → AHp → Prop) (l1 l2 l3 l4 : Option AV) (x : Nat × Nat) (st : List AV) : VV 72 h 120 [some (.inr x), l1, l2, l3, l4] st Q ↔ VV 72 h 121 [some (.inr x), l1, l2, l3, l4] (.inr x :: st) Q := VV_step rfl rfl rfl rfl
theorem xr_72_121 (h : AHp) (Q : Option Int32 → AHp → Prop) (l0 l1 l2 l3 l4 : Option AV) (i : Nat) (st : List AV) : VV 72 h 121 [l0, l1, l2, l3, l4] (.inr (10, i) :: st) Q ↔ VV 72 h 124 [l0, l1, l2, l3, l4] (.inr (14, i) :: st) Q := VV_step rfl rfl rfl rfl
theorem xr_72_124 (h : AHp) (Q : Option Int32 → AHp → Prop) (l0 l1 l2 l4 : Option AV) (x : Int32) (st : List AV) : VV 72 h 124 [l0, l1, l2, some (.inl x), l4] st Q ↔ VV 72 h 125 [l0, l1, l2, some (.inl x), l4] (.inl x :: st) Q := VV_step rfl rfl rfl rfl
theorem xr_72_125 (h : AHp) (Q : Option Int32 → AHp → Prop) (l0 l1 l2 l3 l4 : Option AV) (x : Int32) (k i : Nat) (st : List AV) : VV 72 h 125 [l0, l1, l2, l3, l4] (.inl x :: .inr (k, i) :: st) Q ↔ ix_i k x ∧ VV 72 h 126 [l0, l1, l2, l3, l4] (.inl (h k i x.toNatClampNeg) :: st) Q := VV_iald rfl
theorem xr_72_126 (h : AHp) (Q : Option Int32 → AHp → Prop) (l0 l1 l2 l3 l4 : Option AV) (x y : Int32) (st : List AV) : VV 72 h 126 [l0, l1, l2, l3, l4] (.inl y :: .inl x :: st) Q ↔ (y ≤ x → VV 72 h 132 [l0, l1, l2, l3, l4] st Q) ∧ (¬ (y ≤ x) → VV 72 h 129 [l0, l1, l2, l3, l4] st Q) := VV_br2 rfl rfl rfl decide_eq_true_iff
theorem xr_72_129 (h : AHp) (Q : Option Int32 → AHp → Prop) (l0 l1 l2 l3 : Option AV) (x : Int32) (st : List AV) : VV 72 h 129 [l0, l1, l2, l3, some (.inl x)] st Q ↔ VV 72 h 131 [l0, l1, l2, l3, some (.inl x)] (.inl x :: st) Q := VV_step rfl rfl rfl rfl
theorem xr_72_131 (h : AHp) (Q : Option Int32 → AHp → Prop) (l0 l1 l2 l3 l4 : Option AV) (x : Int32) (st : List AV) : VV 72 h 131 [l0, l1, l2, l3, l4] (.inl x :: st) Q ↔ VV 72 h 132 [l0, l1, l2, some (.inl x), l4] st Q := VV_step rfl rfl rfl rfl
theorem xr_72_132 (h : AHp) (Q : Option Int32 → AHp → Prop) (l0 l1 l2 l3 : Option AV) (x : Int32) (st : List AV) : VV 72 h 132 [l0, l1, l2, l3, some (.inl x)] st Q ↔ VV 72 h 135 [l0, l1, l2, l3, some (.inl (x + (1 : Int32)))] st Q := VV_step rfl rfl rfl rfl
theorem xr_72_135 (h : AHp) (Q : Option Int32 → AHp → Prop) (l0 l1 l2 l3 l4 : Option AV) (st : List AV) : VV 72 h 135 [l0, l1, l2, l3, l4] st Q ↔ VV 72 h 80 [l0, l1, l2, l3, l4] st Q := VV_step rfl rfl rfl rfl
theorem xr_72_138 (h : AHp) (Q : Option Int32 → AHp → Prop) (l1 l2 l3 l4 : Option AV) (x : Nat × Nat) (st : List AV) : VV 72 h 138 [some (.inr x), l1, l2, l3, l4] st Q ↔ VV 72 h 139 [some (.inr x), l1, l2, l3, l4] (.inr x :: st) Q := VV_step rfl rfl rfl rfl
theorem xr_72_139 (h : AHp) (Q : Option Int32 → AHp → Prop) (l0 l1 l2 l3 l4 : Option AV) (i : Nat) (st : List AV) : VV 72 h 139 [l0, l1, l2, l3, l4] (.inr (10, i) :: st) Q ↔ VV 72 h 142 [l0, l1, l2, l3, l4] (.inr (14, i) :: st) Q := VV_step rfl rfl rfl rfl
theorem xr_72_142 (h : AHp) (Q : Option Int32 → AHp → Prop) (l0 l1 l2 l4 : Option AV) (x : Int32) (st : List AV) : VV 72 h 142 [l0, l1, l2, some (.inl x), l4] st Q ↔ VV 72 h 143 [l0, l1, l2, some (.inl x), l4] (.inl x :: st) Q := VV_step rfl rfl rfl rfl
theorem xr_72_143 (h : AHp) (Q : Option Int32 → AHp → Prop) (l0 l1 l2 l3 l4 : Option AV) (v w : AV) (st : List AV) : VV 72 h 143 [l0, l1, l2, l3, l4] (v :: w :: st) Q ↔ VV 72 h 144 [l0, l1, l2, l3, l4] (v :: w :: v :: w :: st) Q := VV_step rfl rfl rfl rfl
theorem xr_72_144 (h : AHp) (Q : Option Int32 → AHp → Prop) (l0 l1 l2 l3 l4 : Option AV) (x : Int32) (k i : Nat) (st : List AV) : VV 72 h 144 [l0, l1, l2, l3, l4] (.inl x :: .inr (k, i) :: st) Q ↔ ix_i k x ∧ VV 72 h 145 [l0, l1, l2, l3, l4] (.inl (h k i x.toNatClampNeg) :: st) Q := VV_iald rfl
theorem xr_72_145 (h : AHp) (Q : Option Int32 → AHp → Prop) (l0 l1 l2 l3 l4 : Option AV) (st : List AV) : VV 72 h 145 [l0, l1, l2, l3, l4] st Q ↔ VV 72 h 146 [l0, l1, l2, l3, l4] (.inl (1 : Int32) :: st) Q := VV_step rfl rfl rfl rfl
theorem xr_72_146 (h : AHp) (Q : Option Int32 → AHp → Prop) (l0 l1 l2 l3 l4 : Option AV) (x y : Int32) (st : List AV) : VV 72 h 146 [l0, l1, l2, l3, l4] (.inl y :: .inl x :: st) Q ↔ VV 72 h 147 [l0, l1, l2, l3, l4] (.inl (x + y) :: st) Q := VV_step rfl rfl rfl rfl
theorem xr_72_147 (h : AHp) (Q : Option Int32 → AHp → Prop) (l0 l1 l2 l3 l4 : Option AV) (x v : Int32) (k i : Nat) (st : List AV) : VV 72 h 147 [l0, l1, l2, l3, l4] (.inl v :: .inl x :: .inr (k, i) :: st) Q ↔ ix_i k x ∧ VV 72 (ah_up h k i x.toNatClampNeg v) 148 [l0, l1, l2, l3, l4] st Q := VV_iast rfl
theorem xr_72_148 (h : AHp) (Q : Option Int32 → AHp → Prop) (l1 l2 l3 l4 : Option AV) (x : Nat × Nat) (st : List AV) : VV 72 h 148 [some (.inr x), l1, l2, l3, l4] st Q ↔ VV 72 h 149 [some (.inr x), l1, l2, l3, l4] (.inr x :: st) Q := VV_step rfl rfl rfl rfl
theorem xr_72_149 (h : AHp) (Q : Option Int32 → AHp → Prop) (l0 l1 l2 l3 l4 : Option AV) (i : Nat) (st : List AV) : VV 72 h 149 [l0, l1, l2, l3, l4] (.inr (10, i) :: st) Q ↔ VV 72 h 152 [l0, l1, l2, l3, l4] (.inr (15, i) :: st) Q := VV_step rfl rfl rfl rfl
theorem xr_72_152 (h : AHp) (Q : Option Int32 → AHp → Prop) (l0 l1 l2 l4 : Option AV) (x : Int32) (st : List AV) : VV 72 h 152 [l0, l1, l2, some (.inl x), l4] st Q ↔ VV 72 h 153 [l0, l1, l2, some (.inl x), l4] (.inl x :: st) Q := VV_step rfl rfl rfl rfl
theorem xr_72_153 (h : AHp) (Q : Option Int32 → AHp → Prop) (l0 l2 l3 l4 : Option AV) (x : Int32) (st : List AV) : VV 72 h 153 [l0, some (.inl x), l2, l3, l4] st Q ↔ VV 72 h 154 [l0, some (.inl x), l2, l3, l4] (.inl x :: st) Q := VV_step rfl rfl rfl rfl
theorem xr_72_154 (h : AHp) (Q : Option Int32 → AHp → Prop) (l0 l1 l2 l3 l4 : Option AV) (x v : Int32) (k i : Nat) (st : List AV) : VV 72 h 154 [l0, l1, l2, l3, l4] (.inl v :: .inl x :: .inr (k, i) :: st) Q ↔ ix_i k x ∧ VV 72 (ah_up h k i x.toNatClampNeg v) 155 [l0, l1, l2, l3, l4] st Q := VV_iast rfl
theorem xr_72_155 (h : AHp) (Q : Option Int32 → AHp → Prop) (l1 l2 l3 l4 : Option AV) (x : Nat × Nat) (st : List AV) : VV 72 h 155 [some (.inr x), l1, l2, l3, l4] st Q ↔ VV 72 h 156 [some (.inr x), l1, l2, l3, l4] (.inr x :: st) Q := VV_step rfl rfl rfl rfl
theorem xr_72_156 (h : AHp) (Q : Option Int32 → AHp → Prop) (l0 l1 l2 l3 l4 : Option AV) (i : Nat) (st : List AV) : VV 72 h 156 [l0, l1, l2, l3, l4] (.inr (10, i) :: st) Q ↔ VV 72 h 159 [l0, l1, l2, l3, l4] (.inr (19, i) :: st) Q := VV_step rfl rfl rfl rfl
theorem xr_72_159 (h : AHp) (Q : Option Int32 → AHp → Prop) (l0 l2 l3 l4 : Option AV) (x : Int32) (st : List AV) : VV 72 h 159 [l0, some (.inl x), l2, l3, l4] st Q ↔ VV 72 h 160 [l0, some (.inl x), l2, l3, l4] (.inl x :: st) Q := VV_step rfl rfl rfl rfl
theorem xr_72_160 (h : AHp) (Q : Option Int32 → AHp → Prop) (l0 l1 l2 l4 : Option AV) (x : Int32) (st : List AV) : VV 72 h 160 [l0, l1, l2, some (.inl x), l4] st Q ↔ VV 72 h 161 [l0, l1, l2, some (.inl x), l4] (.inl x :: st) Q := VV_step rfl rfl rfl rfl
theorem xr_72_161 (h : AHp) (Q : Option Int32 → AHp → Prop) (l0 l1 l2 l3 l4 : Option AV) (x v : Int32) (k i : Nat) (st : List AV) : VV 72 h 161 [l0, l1, l2, l3, l4] (.inl v :: .inl x :: .inr (k, i) :: st) Q ↔ ix_i k x ∧ VV 72 (ah_up h k i x.toNatClampNeg v) 162 [l0, l1, l2, l3, l4] st Q := VV_iast rfl
theorem xr_72_162 (h : AHp) (Q : Option Int32 → AHp → Prop) (l1 l2 l3 l4 : Option AV) (x : Nat × Nat) (st : List AV) : VV 72 h 162 [some (.inr x), l1, l2, l3, l4] st Q ↔ VV 72 h 163 [some (.inr x), l1, l2, l3, l4] (.inr x :: st) Q := VV_step rfl rfl rfl rfl
theorem xr_72_163 (h : AHp) (Q : Option Int32 → AHp → Prop) (l0 l1 l2 l3 l4 : Option AV) (i : Nat) (st : List AV) : VV 72 h 163 [l0, l1, l2, l3, l4] (.inr (10, i) :: st) Q ↔ VV 72 h 166 [l0, l1, l2, l3, l4] (.inr (23, i) :: st) Q := VV_step rfl rfl rfl rfl
theorem xr_72_166 (h : AHp) (Q : Option Int32 → AHp → Prop) (l0 l1 l2 l3 l4 : Option AV) (st : List AV) : VV 72 h 166 [l0, l1, l2, l3, l4] st Q ↔ VV 72 h 168 [l0, l1, l2, l3, l4] (.inl (8 : Int32) :: st) Q := VV_step rfl rfl rfl rfl
theorem xr_72_168 (h : AHp) (Q : Option Int32 → AHp → Prop) (l0 l2 l3 l4 : Option AV) (x : Int32) (st : List AV) : VV 72 h 168 [l0, some (.inl x), l2, l3, l4] st Q ↔ VV 72 h 169 [l0, some (.inl x), l2, l3, l4] (.inl x :: st) Q := VV_step rfl rfl rfl rfl
theorem xr_72_169 (h : AHp) (Q : Option Int32 → AHp → Prop) (l0 l1 l2 l3 l4 : Option AV) (x y : Int32) (st : List AV) : VV 72 h 169 [l0, l1, l2, l3, l4] (.inl y :: .inl x :: st) Q ↔ VV 72 h 170 [l0, l1, l2, l3, l4] (.inl (x * y) :: st) Q := VV_step rfl rfl rfl rfl
theorem xr_72_170 (h : AHp) (Q : Option Int32 → AHp → Prop) (l0 l1 l3 l4 : Option AV) (x : Int32) (st : List AV) : VV 72 h 170 [l0, l1, some (.inl x), l3, l4] st Q ↔ VV 72 h 171 [l0, l1, some (.inl x), l3, l4] (.inl x :: st) Q := VV_step rfl rfl rfl rfl
theorem xr_72_171 (h : AHp) (Q : Option Int32 → AHp → Prop) (l0 l1 l2 l3 l4 : Option AV) (x y : Int32) (st : List AV) : VV 72 h 171 [l0, l1, l2, l3, l4] (.inl y :: .inl x :: st) Q ↔ VV 72 h 172 [l0, l1, l2, l3, l4] (.inl (x + y) :: st) Q := VV_step rfl rfl rfl rfl
theorem xr_72_172 (h : AHp) (Q : Option Int32 → AHp → Prop) (l1 l2 l3 l4 : Option AV) (x : Nat × Nat) (st : List AV) : VV 72 h 172 [some (.inr x), l1, l2, l3, l4] st Q ↔ VV 72 h 173 [some (.inr x), l1, l2, l3, l4] (.inr x :: st) Q := VV_step rfl rfl rfl rfl
theorem xr_72_173 (h : AHp) (Q : Option Int32 → AHp → Prop) (l0 l1 l2 l3 l4 : Option AV) (i : Nat) (st : List AV) : VV 72 h 173 [l0, l1, l2, l3, l4] (.inr (10, i) :: st) Q ↔ VV 72 h 176 [l0, l1, l2, l3, l4] (.inr (13, i) :: st) Q := VV_step rfl rfl rfl rfl
theorem xr_72_176 (h : AHp) (Q : Option Int32 → AHp → Prop) (l0 l1 l2 l4 : Option AV) (x : Int32) (st : List AV) : VV 72 h 176 [l0, l1, l2, some (.inl x), l4] st Q ↔ VV 72 h 177 [l0, l1, l2, some (.inl x), l4] (.inl x :: st) Q := VV_step rfl rfl rfl rfl
theorem xr_72_177 (h : AHp) (Q : Option Int32 → AHp → Prop) (l0 l1 l2 l3 l4 : Option AV) (x : Int32) (k i : Nat) (st : List AV) : VV 72 h 177 [l0, l1, l2, l3, l4] (.inl x :: .inr (k, i) :: st) Q ↔ ix_i k x ∧ VV 72 h 178 [l0, l1, l2, l3, l4] (.inl (h k i x.toNatClampNeg) :: st) Q := VV_iald rfl
theorem xr_72_178 (h : AHp) (Q : Option Int32 → AHp → Prop) (l0 l1 l2 l3 l4 : Option AV) (x v : Int32) (k i : Nat) (st : List AV) : VV 72 h 178 [l0, l1, l2, l3, l4] (.inl v :: .inl x :: .inr (k, i) :: st) Q ↔ ix_i k x ∧ VV 72 (ah_up h k i x.toNatClampNeg v) 179 [l0, l1, l2, l3, l4] st Q := VV_iast rfl
theorem xr_72_179 (h : AHp) (Q : Option Int32 → AHp → Prop) (l1 l2 l3 l4 : Option AV) (x : Nat × Nat) (st : List AV) : VV 72 h 179 [some (.inr x), l1, l2, l3, l4] st Q ↔ VV 72 h 180 [some (.inr x), l1, l2, l3, l4] (.inr x :: st) Q := VV_step rfl rfl rfl rfl
theorem xr_72_180 (h : AHp) (Q : Option Int32 → AHp → Prop) (l0 l1 l2 l3 l4 : Option AV) (i : Nat) (st : List AV) : VV 72 h 180 [l0, l1, l2, l3, l4] (.inr (10, i) :: st) Q ↔ VV 72 h 183 [l0, l1, l2, l3, l4] (.inr (24, i) :: st) Q := VV_step rfl rfl rfl rfl
theorem xr_72_183 (h : AHp) (Q : Option Int32 → AHp → Prop) (l0 l1 l2 l3 l4 : Option AV) (st : List AV) : VV 72 h 183 [l0, l1, l2, l3, l4] st Q ↔ VV 72 h 185 [l0, l1, l2, l3, l4] (.inl (8 : Int32) :: st) Q := VV_step rfl rfl rfl rfl
theorem xr_72_185 (h : AHp) (Q : Option Int32 → AHp → Prop) (l0 l2 l3 l4 : Option AV) (x : Int32) (st : List AV) : VV 72 h 185 [l0, some (.inl x), l2, l3, l4] st Q ↔ VV 72 h 186 [l0, some (.inl x), l2, l3, l4] (.inl x :: st) Q := VV_step rfl rfl rfl rfl
theorem xr_72_186 (h : AHp) (Q : Option Int32 → AHp → Prop) (l0 l1 l2 l3 l4 : Option AV) (x y : Int32) (st : List AV) : VV 72 h 186 [l0, l1, l2, l3, l4] (.inl y :: .inl x :: st) Q ↔ VV 72 h 187 [l0, l1, l2, l3, l4] (.inl (x * y) :: st) Q := VV_step rfl rfl rfl rfl
theorem xr_72_187 (h : AHp) (Q : Option Int32 → AHp → Prop) (l0 l1 l3 l4 : Option AV) (x : Int32) (st : List AV) : VV 72 h 187 [l0, l1, some (.inl x), l3, l4] st Q ↔ VV 72 h 188 [l0, l1, some (.inl x), l3, l4] (.inl x :: st) Q := VV_step rfl rfl rfl rfl
theorem xr_72_188 (h : AHp) (Q : Option Int32 → AHp → Prop) (l0 l1 l2 l3 l4 : Option AV) (x y : Int32) (st : List AV) : VV 72 h 188 [l0, l1, l2, l3, l4] (.inl y :: .inl x :: st) Q ↔ VV 72 h 189 [l0, l1, l2, l3, l4] (.inl (x + y) :: st) Q := VV_step rfl rfl rfl rfl
theorem xr_72_189 (h : AHp) (Q : Option Int32 → AHp → Prop) (l0 l1 l2 l4 : Option AV) (x : Int32) (st : List AV) : VV 72 h 189 [l0, l1, l2, some (.inl x), l4] st Q ↔ VV 72 h 190 [l0, l1, l2, some (.inl x), l4] (.inl x :: st) Q := VV_step rfl rfl rfl rfl
theorem xr_72_190 (h : AHp) (Q : Option Int32 → AHp → Prop) (l0 l1 l2 l3 l4 : Option AV) (x v : Int32) (k i : Nat) (st : List AV) : VV 72 h 190 [l0, l1, l2, l3, l4] (.inl v :: .inl x :: .inr (k, i) :: st) Q ↔ ix_i k x ∧ VV 72 (ah_up h k i x.toNatClampNeg v) 191 [l0, l1, l2, l3, l4] st Q := VV_iast rfl
theorem xr_72_191 (h : AHp) (Q : Option Int32 → AHp → Prop) (l1 l2 l3 l4 : Option AV) (x : Nat × Nat) (st : List AV) : VV 72 h 191 [some (.inr x), l1, l2, l3, l4] st Q ↔ VV 72 h 192 [some (.inr x), l1, l2, l3, l4] (.inr x :: st) Q := VV_step rfl rfl rfl rfl
theorem xr_72_192 (h : AHp) (Q : Option Int32 → AHp → Prop) (l0 l1 l2 l3 l4 : Option AV) (i : Nat) (st : List AV) : VV 72 h 192 [l0, l1, l2, l3, l4] (.inr (10, i) :: st) Q ↔ VV 72 h 195 [l0, l1, l2, l3, l4] (.inr (25, i) :: st) Q := VV_step rfl rfl rfl rfl
theorem xr_72_195 (h : AHp) (Q : Option Int32 → AHp → Prop) (l0 l1 l2 l3 l4 : Option AV) (st : List AV) : VV 72 h 195 [l0, l1, l2, l3, l4] st Q ↔ VV 72 h 197 [l0, l1, l2, l3, l4] (.inl (8 : Int32) :: st) Q := VV_step rfl rfl rfl rfl
theorem xr_72_197 (h : AHp) (Q : Option Int32 → AHp → Prop) (l0 l2 l3 l4 : Option AV) (x : Int32) (st : List AV) : VV 72 h 197 [l0, some (.inl x), l2, l3, l4] st Q ↔ VV 72 h 198 [l0, some (.inl x), l2, l3, l4] (.inl x :: st) Q := VV_step rfl rfl rfl rfl
theorem xr_72_198 (h : AHp) (Q : Option Int32 → AHp → Prop) (l0 l1 l2 l3 l4 : Option AV) (x y : Int32) (st : List AV) : VV 72 h 198 [l0, l1, l2, l3, l4] (.inl y :: .inl x :: st) Q ↔ VV 72 h 199 [l0, l1, l2, l3, l4] (.inl (x * y) :: st) Q := VV_step rfl rfl rfl rfl
theorem xr_72_199 (h : AHp) (Q : Option Int32 → AHp → Prop) (l0 l1 l3 l4 : Option AV) (x : Int32) (st : List AV) : VV 72 h 199 [l0, l1, some (.inl x), l3, l4] st Q ↔ VV 72 h 200 [l0, l1, some (.inl x), l3, l4] (.inl x :: st) Q := VV_step rfl rfl rfl rfl
theorem xr_72_200 (h : AHp) (Q : Option Int32 → AHp → Prop) (l0 l1 l2 l3 l4 : Option AV) (x y : Int32) (st : List AV) : VV 72 h 200 [l0, l1, l2, l3, l4] (.inl y :: .inl x :: st) Q ↔ VV 72 h 201 [l0, l1, l2, l3, l4] (.inl (x + y) :: st) Q := VV_step rfl rfl rfl rfl
theorem xr_72_201 (h : AHp) (Q : Option Int32 → AHp → Prop) (l1 l2 l3 l4 : Option AV) (x : Nat × Nat) (st : List AV) : VV 72 h 201 [some (.inr x), l1, l2, l3, l4] st Q ↔ VV 72 h 202 [some (.inr x), l1, l2, l3, l4] (.inr x :: st) Q := VV_step rfl rfl rfl rfl
theorem xr_72_202 (h : AHp) (Q : Option Int32 → AHp → Prop) (l0 l1 l2 l3 l4 : Option AV) (i : Nat) (st : List AV) : VV 72 h 202 [l0, l1, l2, l3, l4] (.inr (10, i) :: st) Q ↔ VV 72 h 205 [l0, l1, l2, l3, l4] (.inl (h 10 i 17) :: st) Q := VV_step rfl rfl rfl rfl
theorem xr_72_205 (h : AHp) (Q : Option Int32 → AHp → Prop) (l0 l1 l2 l3 l4 : Option AV) (x v : Int32) (k i : Nat) (st : List AV) : VV 72 h 205 [l0, l1, l2, l3, l4] (.inl v :: .inl x :: .inr (k, i) :: st) Q ↔ ix_i k x ∧ VV 72 (ah_up h k i x.toNatClampNeg v) 206 [l0, l1, l2, l3, l4] st Q := VV_iast rfl
theorem xr_72_206 (h : AHp) (Q : Option Int32 → AHp → Prop) (l0 l1 l2 l3 l4 : Option AV) : VV 72 h 206 [l0, l1, l2, l3, l4] [] Q ↔ Q none h := VV_end rfl rfl
theorem xr_73_0 (h : AHp) (Q : Option Int32 → AHp → Prop) (l1 : Option AV) (x : Nat × Nat) (st : List AV) : VV 73 h 0 [some (.inr x), l1] st Q ↔ VV 73 h 1 [some (.inr x), l1] (.inr x :: st) Q := VV_step rfl rfl rfl rfl
theorem xr_73_1 (h : AHp) (Q : Option Int32 → AHp → Prop) (l0 l1 : Option AV) (i : Nat) (st : List AV) : VV 73 h 1 [l0, l1] (.inr (10, i) :: st) Q ↔ VV 73 h 4 [l0, l1] (.inr (25, i) :: st) Q := VV_step rfl rfl rfl rfl
theorem xr_73_4 (h : AHp) (Q : Option Int32 → AHp → Prop) (l0 l1 : Option AV) (st : List AV) : VV 73 h 4 [l0, l1] st Q ↔ VV 73 h 6 [l0, l1] (.inl (8 : Int32) :: st) Q := VV_step rfl rfl rfl rfl
theorem xr_73_6 (h : AHp) (Q : Option Int32 → AHp → Prop) (l0 : Option AV) (x : Int32) (st : List AV) : VV 73 h 6 [l0, some (.inl x)] st Q ↔ VV 73 h 7 [l0, some (.inl x)] (.inl x :: st) Q := VV_step rfl rfl rfl rfl
theorem xr_73_7 (h : AHp) (Q : Option Int32 → AHp → Prop) (l0 l1 : Option AV) (x y : Int32) (st : List AV) : VV 73 h 7 [l0, l1] (.inl y :: .inl x :: st) Q ↔ VV 73 h 8 [l0, l1] (.inl (x * y) :: st) Q := VV_step rfl rfl rfl rfl
theorem xr_73_8 (h : AHp) (Q : Option Int32 → AHp → Prop) (l1 : Option AV) (x : Nat × Nat) (st : List AV) : VV 73 h 8 [some (.inr x), l1] st Q ↔ VV 73 h 9 [some (.inr x), l1] (.inr x :: st) Q := VV_step rfl rfl rfl rfl
theorem xr_73_9 (h : AHp) (Q : Option Int32 → AHp → Prop) (l0 l1 : Option AV) (i : Nat) (st : List AV) : VV 73 h 9 [l0, l1] (.inr (10, i) :: st) Q ↔ VV 73 h 12 [l0, l1] (.inr (12, i) :: st) Q := VV_step rfl rfl rfl rfl
theorem xr_73_12 (h : AHp) (Q : Option Int32 → AHp → Prop) (l1 : Option AV) (x : Nat × Nat) (st : List AV) : VV 73 h 12 [some (.inr x), l1] st Q ↔ VV 73 h 13 [some (.inr x), l1] (.inr x :: st) Q := VV_step rfl rfl rfl rfl
theorem xr_73_13 (h : AHp) (Q : Option Int32 → AHp → Prop) (l0 l1 : Option AV) (i : Nat) (st : List AV) : VV 73 h 13 [l0, l1] (.inr (10, i) :: st) Q ↔ VV 73 h 16 [l0, l1] (.inr (19, i) :: st) Q := VV_step rfl rfl rfl rfl
theorem xr_73_16 (h : AHp) (Q : Option Int32 → AHp → Prop) (l0 : Option AV) (x : Int32) (st : List AV) : VV 73 h 16 [l0, some (.inl x)] st Q ↔ VV 73 h 17 [l0, some (.inl x)] (.inl x :: st) Q := VV_step rfl rfl rfl rfl
theorem xr_73_17 (h : AHp) (Q : Option Int32 → AHp → Prop) (l0 l1 : Option AV) (x : Int32) (k i : Nat) (st : List AV) : VV 73 h 17 [l0, l1] (.inl x :: .inr (k, i) :: st) Q ↔ ix_i k x ∧ VV 73 h 18 [l0, l1] (.inl (h k i x.toNatClampNeg) :: st) Q := VV_iald rfl
theorem xr_73_18 (h : AHp) (Q : Option Int32 → AHp → Prop) (l0 l1 : Option AV) (x : Int32) (k i : Nat) (st : List AV) : VV 73 h 18 [l0, l1] (.inl x :: .inr (k, i) :: st) Q ↔ ix_i k x ∧ VV 73 h 19 [l0, l1] (.inl (h k i x.toNatClampNeg) :: st) Q := VV_iald rfl
theorem xr_73_19 (h : AHp) (Q : Option Int32 → AHp → Prop) (l0 l1 : Option AV) (x y : Int32) (st : List AV) : VV 73 h 19 [l0, l1] (.inl y :: .inl x :: st) Q ↔ VV 73 h 20 [l0, l1] (.inl (x + y) :: st) Q := VV_step rfl rfl rfl rfl
theorem xr_73_20 (h : AHp) (Q : Option Int32 → AHp → Prop) (l0 l1 : Option AV) (x : Int32) (k i : Nat) (st : List AV) : VV 73 h 20 [l0, l1] (.inl x :: .inr (k, i) :: st) Q ↔ ix_i k x ∧ VV 73 h 21 [l0, l1] (.inl (h k i x.toNatClampNeg) :: st) Q := VV_iald rfl
theorem xr_73_21 (h : AHp) (Q : Option Int32 → AHp → Prop) (l1 : Option AV) (x : Nat × Nat) (st : List AV) : VV 73 h 21 [some (.inr x), l1] st Q ↔ VV 73 h 22 [some (.inr x), l1] (.inr x :: st) Q := VV_step rfl rfl rfl rfl
theorem xr_73_22 (h : AHp) (Q : Option Int32 → AHp → Prop) (l0 l1 : Option AV) (i : Nat) (st : List AV) : VV 73 h 22 [l0, l1] (.inr (10, i) :: st) Q ↔ VV 73 h 25 [l0, l1] (.inr (17, i) :: st) Q := VV_step rfl rfl rfl rfl
theorem xr_73_25 (h : AHp) (Q : Option Int32 → AHp → Prop) (l0 : Option AV) (x : Int32) (st : List AV) : VV 73 h 25 [l0, some (.inl x)] st Q ↔ VV 73 h 26 [l0, some (.inl x)] (.inl x :: st) Q := VV_step rfl rfl rfl rfl
theorem xr_73_26 (h : AHp) (Q : Option Int32 → AHp → Prop) (l0 l1 : Option AV) (x : Int32) (k i : Nat) (st : List AV) : VV 73 h 26 [l0, l1] (.inl x :: .inr (k, i) :: st) Q ↔ ix_i k x ∧ VV 73 h 27 [l0, l1] (.inl (h k i x.toNatClampNeg) :: st) Q := VV_iald rfl
theorem xr_73_27 (h : AHp) (Q : Option Int32 → AHp → Prop) (l0 l1 : Option AV) (x y : Int32) (st : List AV) : VV 73 h 27 [l0, l1] (.inl y :: .inl x :: st) Q ↔ VV 73 h 28 [l0, l1] (.inl (x + y) :: st) Q := VV_step rfl rfl rfl rfl
theorem xr_73_28 (h : AHp) (Q : Option Int32 → AHp → Prop) (l0 l1 : Option AV) (x : Int32) : VV 73 h 28 [l0, l1] [.inl x] Q ↔ Q (some x) h := VV_end rfl rfl
theorem xr_74_0 (h : AHp) (Q : Option Int32 → AHp → Prop) (l0 l1 l2 : Option AV) (st : List AV) : VV 74 h 0 [l0, l1, l2] st Q ↔ VV 74 h 1 [l0, l1, l2] (.inl (0 : Int32) :: st) Q := VV_step rfl rfl rfl rfl
theorem xr_74_1 (h : AHp) (Q : Option Int32 → AHp → Prop) (l0 l1 l2 : Option AV) (x : Int32) (st : List AV) : VV 74 h 1 [l0, l1, l2] (.inl x :: st) Q ↔ VV 74 h 2 [l0, some (.inl x), l2] st Q := VV_step rfl rfl rfl rfl
theorem xr_74_2 (h : AHp) (Q : Option Int32 → AHp → Prop) (l0 l2 : Option AV) (x : Int32) (st : List AV) : VV 74 h 2 [l0, some (.inl x), l2] st Q ↔ VV 74 h 3 [l0, some (.inl x), l2] (.inl x :: st) Q := VV_step rfl rfl rfl rfl
theorem xr_74_3 (h : AHp) (Q : Option Int32 → AHp → Prop) (l1 l2 : Option AV) (x : Nat × Nat) (st : List AV) : VV 74 h 3 [some (.inr x), l1, l2] st Q ↔ VV 74 h 4 [some (.inr x), l1, l2] (.inr x :: st) Q := VV_step rfl rfl rfl rfl
theorem xr_74_4 (h : AHp) (Q : Option Int32 → AHp → Prop) (l0 l1 l2 : Option AV) (i : Nat) (st : List AV) : VV 74 h 4 [l0, l1, l2] (.inr (10, i) :: st) Q ↔ VV 74 h 7 [l0, l1, l2] (.inl (h 10 i 6) :: st) Q := VV_step rfl rfl rfl rfl
theorem xr_74_7 (h : AHp) (Q : Option Int32 → AHp → Prop) (l0 l1 l2 : Option AV) (x y : Int32) (st : List AV) : VV 74 h 7 [l0, l1, l2] (.inl y :: .inl x :: st) Q ↔ (y ≤ x → VV 74 h 43 [l0, l1, l2] st Q) ∧ (¬ (y ≤ x) → VV 74 h 10 [l0, l1, l2] st Q) := VV_br2 rfl rfl rfl decide_eq_true_iff
theorem xr_74_10 (h : AHp) (Q : Option Int32 → AHp → Prop) (l1 l2 : Option AV) (x : Nat × Nat) (st : List AV) : VV 74 h 10 [some (.inr x), l1, l2] st Q ↔ VV 74 h 11 [some (.inr x), l1, l2] (.inr x :: st) Q := VV_step rfl rfl rfl rfl
theorem xr_74_11 (h : AHp) (Q : Option Int32 → AHp → Prop) (l0 l1 l2 : Option AV) (i : Nat) (st : List AV) : VV 74 h 11 [l0, l1, l2] (.inr (10, i) :: st) Q ↔ VV 74 h 14 [l0, l1, l2] (.inr (19, i) :: st) Q := VV_step rfl rfl rfl rfl
theorem xr_74_14 (h : AHp) (Q : Option Int32 → AHp → Prop) (l0 l2 : Option AV) (x : Int32) (st : List AV) : VV 74 h 14 [l0, some (.inl x), l2] st Q ↔ VV 74 h 15 [l0, some (.inl x), l2] (.inl x :: st) Q := VV_step rfl rfl rfl rfl
theorem xr_74_15 (h : AHp) (Q : Option Int32 → AHp → Prop) (l0 l1 l2 : Option AV) (x : Int32) (k i : Nat) (st : List AV) : VV 74 h 15 [l0, l1, l2] (.inl x :: .inr (k, i) :: st) Q ↔ ix_i k x ∧ VV 74 h 16 [l0, l1, l2] (.inl (h k i x.toNatClampNeg) :: st) Q := VV_iald rfl
theorem xr_74_16 (h : AHp) (Q : Option Int32 → AHp → Prop) (l0 l1 l2 : Option AV) (st : List AV) : VV 74 h 16 [l0, l1, l2] st Q ↔ VV 74 h 17 [l0, l1, l2] (.inl (-1 : Int32) :: st) Q := VV_step rfl rfl rfl rfl
theorem xr_74_17 (h : AHp) (Q : Option Int32 → AHp → Prop) (l0 l1 l2 : Option AV) (x y : Int32) (st : List AV) : VV 74 h 17 [l0, l1, l2] (.inl y :: .inl x :: st) Q ↔ (x = y → VV 74 h 37 [l0, l1, l2] st Q) ∧ (¬ (x = y) → VV 74 h 20 [l0, l1, l2] st Q) := VV_br2 rfl rfl rfl decide_eq_true_iff
theorem xr_74_20 (h : AHp) (Q : Option Int32 → AHp → Prop) (l1 l2 : Option AV) (x : Nat × Nat) (st : List AV) : VV 74 h 20 [some (.inr x), l1, l2] st Q ↔ VV 74 h 21 [some (.inr x), l1, l2] (.inr x :: st) Q := VV_step rfl rfl rfl rfl
theorem xr_74_21 (h : AHp) (Q : Option Int32 → AHp → Prop) (l0 l2 : Option AV) (x : Int32) (st : List AV) : VV 74 h 21 [l0, some (.inl x), l2] st Q ↔ VV 74 h 22 [l0, some (.inl x), l2] (.inl x :: st) Q := VV_step rfl rfl rfl rfl
theorem xr_74_22 (h : AHp) (Q : Option Int32 → AHp → Prop) (l0 l1 l2 : Option AV) (a0 : AV) (i : Nat) : VV 74 h 22 [l0, l1, l2] [a0, .inr (10, i)] Q ↔ Vi 73 h [some (.inr (10, i)), some a0] (fun z h2 => VV 74 h2 25 [l0, l1, l2] [.inl z] Q) := VV_calli (y := 73) (as := [.inr (10, i), a0]) (rest := []) rfl rfl rfl (ah_noV (y := 73) (by decide))
theorem xr_74_25 (h : AHp) (Q : Option Int32 → AHp → Prop) (l1 l2 : Option AV) (x : Nat × Nat) (st : List AV) : VV 74 h 25 [some (.inr x), l1, l2] st Q ↔ VV 74 h 26 [some (.inr x), l1, l2] (.inr x :: st) Q := VV_step rfl rfl rfl rfl
theorem xr_74_26 (h : AHp) (Q : Option Int32 → AHp → Prop) (l0 l1 l2 : Option AV) (i : Nat) (st : List AV) : VV 74 h 26 [l0, l1, l2] (.inr (10, i) :: st) Q ↔ VV 74 h 29 [l0, l1, l2] (.inl (h 10 i 17) :: st) Q := VV_step rfl rfl rfl rfl
theorem xr_74_29 (h : AHp) (Q : Option Int32 → AHp → Prop) (l0 l1 l2 : Option AV) (x y : Int32) (st : List AV) : VV 74 h 29 [l0, l1, l2] (.inl y :: .inl x :: st) Q ↔ (¬ x = y → VV 74 h 37 [l0, l1, l2] st Q) ∧ (¬ (¬ x = y) → VV 74 h 32 [l0, l1, l2] st Q) := VV_br2 rfl rfl rfl decide_eq_true_iff
theorem xr_74_32 (h : AHp) (Q : Option Int32 → AHp → Prop) (l1 l2 : Option AV) (x : Nat × Nat) (st : List AV) : VV 74 h 32 [some (.inr x), l1, l2] st Q ↔ VV 74 h 33 [some (.inr x), l1, l2] (.inr x :: st) Q := VV_step rfl rfl rfl rfl
theorem xr_74_33 (h : AHp) (Q : Option Int32 → AHp → Prop) (l0 l2 : Option AV) (x : Int32) (st : List AV) : VV 74 h 33 [l0, some (.inl x), l2] st Q ↔ VV 74 h 34 [l0, some (.inl x), l2] (.inl x :: st) Q := VV_step rfl rfl rfl rfl
theorem xr_74_34 (h : AHp) (Q : Option Int32 → AHp → Prop) (l0 l1 l2 : Option AV) (a0 : AV) (i : Nat) : VV 74 h 34 [l0, l1, l2] [a0, .inr (10, i)] Q ↔ Vv 68 h [some (.inr (10, i)), some a0, none, none] (fun h2 => VV 74 h2 37 [l0, l1, l2] [] Q) := VV_callv (y := 68) (as := [.inr (10, i), a0]) (rest := []) rfl rfl rfl (ah_noI (y := 68) rfl)
theorem xr_74_37 (h : AHp) (Q : Option Int32 → AHp → Prop) (l0 l2 : Option AV) (x : Int32) (st : List AV) : VV 74 h 37 [l0, some (.inl x), l2] st Q ↔ VV 74 h 40 [l0, some (.inl (x + (1 : Int32))), l2] st Q := VV_step rfl rfl rfl rfl
theorem xr_74_40 (h : AHp) (Q : Option Int32 → AHp → Prop) (l0 l1 l2 : Option AV) (st : List AV) : VV 74 h 40 [l0, l1, l2] st Q ↔ VV 74 h 2 [l0, l1, l2] st Q := VV_step rfl rfl rfl rfl
theorem xr_74_43 (h : AHp) (Q : Option Int32 → AHp → Prop) (l0 l1 l2 : Option AV) (st : List AV) : VV 74 h 43 [l0, l1, l2] st Q ↔ VV 74 h 44 [l0, l1, l2] (.inl (0 : Int32) :: st) Q := VV_step rfl rfl rfl rfl
theorem xr_74_44 (h : AHp) (Q : Option Int32 → AHp → Prop) (l0 l1 l2 : Option AV) (x : Int32) (st : List AV) : VV 74 h 44 [l0, l1, l2] (.inl x :: st) Q ↔ VV 74 h 45 [l0, some (.inl x), l2] st Q := VV_step rfl rfl rfl rfl
theorem xr_74_45 (h : AHp) (Q : Option Int32 → AHp → Prop) (l0 l2 : Option AV) (x : Int32) (st : List AV) : VV 74 h 45 [l0, some (.inl x), l2] st Q ↔ VV 74 h 46 [l0, some (.inl x), l2] (.inl x :: st) Q := VV_step rfl rfl rfl rfl
theorem xr_74_46 (h : AHp) (Q : Option Int32 → AHp → Prop) (l1 l2 : Option AV) (x : Nat × Nat) (st : List AV) : VV 74 h 46 [some (.inr x), l1, l2] st Q ↔ VV 74 h 47 [some (.inr x), l1, l2] (.inr x :: st) Q := VV_step rfl rfl rfl rfl
theorem xr_74_47 (h : AHp) (Q : Option Int32 → AHp → Prop) (l0 l1 l2 : Option AV) (i : Nat) (st : List AV) : VV 74 h 47 [l0, l1, l2] (.inr (10, i) :: st) Q ↔ VV 74 h 50 [l0, l1, l2] (.inl (h 10 i 17) :: st) Q := VV_step rfl rfl rfl rfl
theorem xr_74_50 (h : AHp) (Q : Option Int32 → AHp → Prop) (l0 l1 l2 : Option AV) (x y : Int32) (st : List AV) : VV 74 h 50 [l0, l1, l2] (.inl y :: .inl x :: st) Q ↔ (y < x → VV 74 h 112 [l0, l1, l2] st Q) ∧ (¬ (y < x) → VV 74 h 53 [l0, l1, l2] st Q) := VV_br2 rfl rfl rfl decide_eq_true_iff
theorem xr_74_53 (h : AHp) (Q : Option Int32 → AHp → Prop) (l0 l1 l2 : Option AV) (st : List AV) : VV 74 h 53 [l0, l1, l2] st Q ↔ VV 74 h 54 [l0, l1, l2] (.inl (0 : Int32) :: st) Q := VV_step rfl rfl rfl rfl
theorem xr_74_54 (h : AHp) (Q : Option Int32 → AHp → Prop) (l0 l1 l2 : Option AV) (x : Int32) (st : List AV) : VV 74 h 54 [l0, l1, l2] (.inl x :: st) Q ↔ VV 74 h 55 [l0, l1, some (.inl x)] st Q := VV_step rfl rfl rfl rfl
theorem xr_74_55 (h : AHp) (Q : Option Int32 → AHp → Prop) (l0 l1 : Option AV) (x : Int32) (st : List AV) : VV 74 h 55 [l0, l1, some (.inl x)] st Q ↔ VV 74 h 56 [l0, l1, some (.inl x)] (.inl x :: st) Q := VV_step rfl rfl rfl rfl
theorem xr_74_56 (h : AHp) (Q : Option Int32 → AHp → Prop) (l1 l2 : Option AV) (x : Nat × Nat) (st : List AV) : VV 74 h 56 [some (.inr x), l1, l2] st Q ↔ VV 74 h 57 [some (.inr x), l1, l2] (.inr x :: st) Q := VV_step rfl rfl rfl rfl
theorem xr_74_57 (h : AHp) (Q : Option Int32 → AHp → Prop) (l0 l1 l2 : Option AV) (i : Nat) (st : List AV) : VV 74 h 57 [l0, l1, l2] (.inr (10, i) :: st) Q ↔ VV 74 h 60 [l0, l1, l2] (.inl (h 10 i 6) :: st) Q := VV_step rfl rfl rfl rfl
theorem xr_74_60 (h : AHp) (Q : Option Int32 → AHp → Prop) (l0 l1 l2 : Option AV) (x y : Int32) (st : List AV) : VV 74 h 60 [l0, l1, l2] (.inl y :: .inl x :: st) Q ↔ (y ≤ x → VV 74 h 106 [l0, l1, l2] st Q) ∧ (¬ (y ≤ x) → VV 74 h 63 [l0, l1, l2] st Q) := VV_br2 rfl rfl rfl decide_eq_true_iff
theorem xr_74_63 (h : AHp) (Q : Option Int32 → AHp → Prop) (l1 l2 : Option AV) (x : Nat × Nat) (st : List AV) : VV 74 h 63 [some (.inr x), l1, l2] st Q ↔ VV 74 h 64 [some (.inr x), l1, l2] (.inr x :: st) Q := VV_step rfl rfl rfl rfl
theorem xr_74_64 (h : AHp) (Q : Option Int32 → AHp → Prop) (l0 l1 l2 : Option AV) (i : Nat) (st : List AV) : VV 74 h 64 [l0, l1, l2] (.inr (10, i) :: st) Q ↔ VV 74 h 67 [l0, l1, l2] (.inr (19, i) :: st) Q := VV_step rfl rfl rfl rfl
theorem xr_74_67 (h : AHp) (Q : Option Int32 → AHp → Prop) (l0 l1 : Option AV) (x : Int32) (st : List AV) : VV 74 h 67 [l0, l1, some (.inl x)] st Q ↔ VV 74 h 68 [l0, l1, some (.inl x)] (.inl x :: st) Q := VV_step rfl rfl rfl rfl
theorem xr_74_68 (h : AHp) (Q : Option Int32 → AHp → Prop) (l0 l1 l2 : Option AV) (x : Int32) (k i : Nat) (st : List AV) : VV 74 h 68 [l0, l1, l2] (.inl x :: .inr (k, i) :: st) Q ↔ ix_i k x ∧ VV 74 h 69 [l0, l1, l2] (.inl (h k i x.toNatClampNeg) :: st) Q := VV_iald rfl
theorem xr_74_69 (h : AHp) (Q : Option Int32 → AHp → Prop) (l0 l1 l2 : Option AV) (st : List AV) : VV 74 h 69 [l0, l1, l2] st Q ↔ VV 74 h 70 [l0, l1, l2] (.inl (-1 : Int32) :: st) Q := VV_step rfl rfl rfl rfl
theorem xr_74_70 (h : AHp) (Q : Option Int32 → AHp → Prop) (l0 l1 l2 : Option AV) (x y : Int32) (st : List AV) : VV 74 h 70 [l0, l1, l2] (.inl y :: .inl x :: st) Q ↔ (¬ x = y → VV 74 h 100 [l0, l1, l2] st Q) ∧ (¬ (¬ x = y) → VV 74 h 73 [l0, l1, l2] st Q) := VV_br2 rfl rfl rfl decide_eq_true_iff
theorem xr_74_73 (h : AHp) (Q : Option Int32 → AHp → Prop) (l1 l2 : Option AV) (x : Nat × Nat) (st : List AV) : VV 74 h 73 [some (.inr x), l1, l2] st Q ↔ VV 74 h 74 [some (.inr x), l1, l2] (.inr x :: st) Q := VV_step rfl rfl rfl rfl
theorem xr_74_74 (h : AHp) (Q : Option Int32 → AHp → Prop) (l0 l1 l2 : Option AV) (i : Nat) (st : List AV) : VV 74 h 74 [l0, l1, l2] (.inr (10, i) :: st) Q ↔ VV 74 h 77 [l0, l1, l2] (.inr (18, i) :: st) Q := VV_step rfl rfl rfl rfl
theorem xr_74_77 (h : AHp) (Q : Option Int32 → AHp → Prop) (l0 l1 : Option AV) (x : Int32) (st : List AV) : VV 74 h 77 [l0, l1, some (.inl x)] st Q ↔ VV 74 h 78 [l0, l1, some (.inl x)] (.inl x :: st) Q := VV_step rfl rfl rfl rfl
theorem xr_74_78 (h : AHp) (Q : Option Int32 → AHp → Prop) (l0 l1 l2 : Option AV) (x : Int32) (k i : Nat) (st : List AV) : VV 74 h 78 [l0, l1, l2] (.inl x :: .inr (k, i) :: st) Q ↔ ix_i k x ∧ VV 74 h 79 [l0, l1, l2] (.inl (h k i x.toNatClampNeg) :: st) Q := VV_iald rfl
theorem xr_74_79 (h : AHp) (Q : Option Int32 → AHp → Prop) (l0 l2 : Option AV) (x : Int32) (st : List AV) : VV 74 h 79 [l0, some (.inl x), l2] st Q ↔ VV 74 h 80 [l0, some (.inl x), l2] (.inl x :: st) Q := VV_step rfl rfl rfl rfl
theorem xr_74_80 (h : AHp) (Q : Option Int32 → AHp → Prop) (l0 l1 l2 : Option AV) (x y : Int32) (st : List AV) : VV 74 h 80 [l0, l1, l2] (.inl y :: .inl x :: st) Q ↔ (¬ x = y → VV 74 h 100 [l0, l1, l2] st Q) ∧ (¬ (¬ x = y) → VV 74 h 83 [l0, l1, l2] st Q) := VV_br2 rfl rfl rfl decide_eq_true_iff
theorem xr_74_83 (h : AHp) (Q : Option Int32 → AHp → Prop) (l1 l2 : Option AV) (x : Nat × Nat) (st : List AV) : VV 74 h 83 [some (.inr x), l1, l2] st Q ↔ VV 74 h 84 [some (.inr x), l1, l2] (.inr x :: st) Q := VV_step rfl rfl rfl rfl
theorem xr_74_84 (h : AHp) (Q : Option Int32 → AHp → Prop) (l0 l1 : Option AV) (x : Int32) (st : List AV) : VV 74 h 84 [l0, l1, some (.inl x)] st Q ↔ VV 74 h 85 [l0, l1, some (.inl x)] (.inl x :: st) Q := VV_step rfl rfl rfl rfl
theorem xr_74_85 (h : AHp) (Q : Option Int32 → AHp → Prop) (l0 l1 l2 : Option AV) (a0 : AV) (i : Nat) : VV 74 h 85 [l0, l1, l2] [a0, .inr (10, i)] Q ↔ Vi 67 h [some (.inr (10, i)), some a0, none, none] (fun z h2 => VV 74 h2 88 [l0, l1, l2] [.inl z] Q) := VV_calli (y := 67) (as := [.inr (10, i), a0]) (rest := []) rfl rfl rfl (ah_noV (y := 67) (by decide))
theorem xr_74_88 (h : AHp) (Q : Option Int32 → AHp → Prop) (l1 l2 : Option AV) (x : Nat × Nat) (st : List AV) : VV 74 h 88 [some (.inr x), l1, l2] st Q ↔ VV 74 h 89 [some (.inr x), l1, l2] (.inr x :: st) Q := VV_step rfl rfl rfl rfl
theorem xr_74_89 (h : AHp) (Q : Option Int32 → AHp → Prop) (l0 l1 l2 : Option AV) (i : Nat) (st : List AV) : VV 74 h 89 [l0, l1, l2] (.inr (10, i) :: st) Q ↔ VV 74 h 92 [l0, l1, l2] (.inl (h 10 i 0) :: st) Q := VV_step rfl rfl rfl rfl
theorem xr_74_92 (h : AHp) (Q : Option Int32 → AHp → Prop) (l0 l1 l2 : Option AV) (x y : Int32) (st : List AV) : VV 74 h 92 [l0, l1, l2] (.inl y :: .inl x :: st) Q ↔ (y ≤ x → VV 74 h 100 [l0, l1, l2] st Q) ∧ (¬ (y ≤ x) → VV 74 h 95 [l0, l1, l2] st Q) := VV_br2 rfl rfl rfl decide_eq_true_iff
theorem xr_74_95 (h : AHp) (Q : Option Int32 → AHp → Prop) (l1 l2 : Option AV) (x : Nat × Nat) (st : List AV) : VV 74 h 95 [some (.inr x), l1, l2] st Q ↔ VV 74 h 96 [some (.inr x), l1, l2] (.inr x :: st) Q := VV_step rfl rfl rfl rfl
theorem xr_74_96 (h : AHp) (Q : Option Int32 → AHp → Prop) (l0 l1 : Option AV) (x : Int32) (st : List AV) : VV 74 h 96 [l0, l1, some (.inl x)] st Q ↔ VV 74 h 97 [l0, l1, some (.inl x)] (.inl x :: st) Q := VV_step rfl rfl rfl rfl
theorem xr_74_97 (h : AHp) (Q : Option Int32 → AHp → Prop) (l0 l1 l2 : Option AV) (a0 : AV) (i : Nat) : VV 74 h 97 [l0, l1, l2] [a0, .inr (10, i)] Q ↔ Vv 72 h [some (.inr (10, i)), some a0, none, none, none] (fun h2 => VV 74 h2 100 [l0, l1, l2] [] Q) := VV_callv (y := 72) (as := [.inr (10, i), a0]) (rest := []) rfl rfl rfl (ah_noI (y := 72) rfl)
theorem xr_74_100 (h : AHp) (Q : Option Int32 → AHp → Prop) (l0 l1 : Option AV) (x : Int32) (st : List AV) : VV 74 h 100 [l0, l1, some (.inl x)] st Q ↔ VV 74 h 103 [l0, l1, some (.inl (x + (1 : Int32)))] st Q := VV_step rfl rfl rfl rfl
theorem xr_74_103 (h : AHp) (Q : Option Int32 → AHp → Prop) (l0 l1 l2 : Option AV) (st : List AV) : VV 74 h 103 [l0, l1, l2] st Q ↔ VV 74 h 55 [l0, l1, l2] st Q := VV_step rfl rfl rfl rfl
theorem xr_74_106 (h : AHp) (Q : Option Int32 → AHp → Prop) (l0 l2 : Option AV) (x : Int32) (st : List AV) : VV 74 h 106 [l0, some (.inl x), l2] st Q ↔ VV 74 h 109 [l0, some (.inl (x + (1 : Int32))), l2] st Q := VV_step rfl rfl rfl rfl
theorem xr_74_109 (h : AHp) (Q : Option Int32 → AHp → Prop) (l0 l1 l2 : Option AV) (st : List AV) : VV 74 h 109 [l0, l1, l2] st Q ↔ VV 74 h 45 [l0, l1, l2] st Q := VV_step rfl rfl rfl rfl
theorem xr_74_112 (h : AHp) (Q : Option Int32 → AHp → Prop) (l1 l2 : Option AV) (x : Nat × Nat) (st : List AV) : VV 74 h 112 [some (.inr x), l1, l2] st Q ↔ VV 74 h 113 [some (.inr x), l1, l2] (.inr x :: st) Q := VV_step rfl rfl rfl rfl
theorem xr_74_113 (h : AHp) (Q : Option Int32 → AHp → Prop) (l0 l1 l2 : Option AV) (v : AV) (st : List AV) : VV 74 h 113 [l0, l1, l2] (v :: st) Q ↔ VV 74 h 114 [l0, l1, l2] (v :: v :: st) Q := VV_step rfl rfl rfl rfl
theorem xr_74_114 (h : AHp) (Q : Option Int32 → AHp → Prop) (l0 l1 l2 : Option AV) (i : Nat) (st : List AV) : VV 74 h 114 [l0, l1, l2] (.inr (10, i) :: st) Q ↔ VV 74 h 117 [l0, l1, l2] (.inl (h 10 i 17) :: st) Q := VV_step rfl rfl rfl rfl
theorem xr_74_117 (h : AHp) (Q : Option Int32 → AHp → Prop) (l0 l1 l2 : Option AV) (st : List AV) : VV 74 h 117 [l0, l1, l2] st Q ↔ VV 74 h 118 [l0, l1, l2] (.inl (1 : Int32) :: st) Q := VV_step rfl rfl rfl rfl
theorem xr_74_118 (h : AHp) (Q : Option Int32 → AHp → Prop) (l0 l1 l2 : Option AV) (x y : Int32) (st : List AV) : VV 74 h 118 [l0, l1, l2] (.inl y :: .inl x :: st) Q ↔ VV 74 h 119 [l0, l1, l2] (.inl (x + y) :: st) Q := VV_step rfl rfl rfl rfl
theorem xr_74_119 (h : AHp) (Q : Option Int32 → AHp → Prop) (l0 l1 l2 : Option AV) (v : Int32) (i : Nat) (st : List AV) : VV 74 h 119 [l0, l1, l2] (.inl v :: .inr (10, i) :: st) Q ↔ VV 74 (ah_up h 10 i 17 v) 122 [l0, l1, l2] st Q := VV_step rfl rfl rfl rfl
theorem xr_74_122 (h : AHp) (Q : Option Int32 → AHp → Prop) (l0 l1 l2 : Option AV) : VV 74 h 122 [l0, l1, l2] [] Q ↔ Q none h := VV_end rfl rfl
theorem xr_75_0 (h : AHp) (Q : Option Int32 → AHp → Prop) (l1 l2 : Option AV) (x : Nat × Nat) (st : List AV) : VV 75 h 0 [some (.inr x), l1, l2] st Q ↔ VV 75 h 1 [some (.inr x), l1, l2] (.inr x :: st) Q := VV_step rfl rfl rfl rfl
theorem xr_75_1 (h : AHp) (Q : Option Int32 → AHp → Prop) (l0 l1 l2 : Option AV) (st : List AV) : VV 75 h 1 [l0, l1, l2] st Q ↔ VV 75 h 2 [l0, l1, l2] (.inl (0 : Int32) :: st) Q := VV_step rfl rfl rfl rfl
theorem xr_75_2 (h : AHp) (Q : Option Int32 → AHp → Prop) (l0 l1 l2 : Option AV) (v : Int32) (i : Nat) (st : List AV) : VV 75 h 2 [l0, l1, l2] (.inl v :: .inr (10, i) :: st) Q ↔ VV 75 (ah_up h 10 i 20 v) 5 [l0, l1, l2] st Q := VV_step rfl rfl rfl rfl
theorem xr_75_5 (h : AHp) (Q : Option Int32 → AHp → Prop) (l0 l2 : Option AV) (x : Int32) (st : List AV) : VV 75 h 5 [l0, some (.inl x), l2] st Q ↔ VV 75 h 6 [l0, some (.inl x), l2] (.inl x :: st) Q := VV_step rfl rfl rfl rfl
theorem xr_75_6 (h : AHp) (Q : Option Int32 → AHp → Prop) (l0 l1 l2 : Option AV) (st : List AV) : VV 75 h 6 [l0, l1, l2] st Q ↔ VV 75 h 7 [l0, l1, l2] (.inl (1 : Int32) :: st) Q := VV_step rfl rfl rfl rfl
theorem xr_75_7 (h : AHp) (Q : Option Int32 → AHp → Prop) (l0 l1 l2 : Option AV) (x y : Int32) (st : List AV) : VV 75 h 7 [l0, l1, l2] (.inl y :: .inl x :: st) Q ↔ (x < y → VV 75 h 28 [l0, l1, l2] st Q) ∧ (¬ (x < y) → VV 75 h 10 [l0, l1, l2] st Q) := VV_br2 rfl rfl rfl decide_eq_true_iff
theorem xr_75_10 (h : AHp) (Q : Option Int32 → AHp → Prop) (l0 l2 : Option AV) (x : Int32) (st : List AV) : VV 75 h 10 [l0, some (.inl x), l2] st Q ↔ VV 75 h 11 [l0, some (.inl x), l2] (.inl x :: st) Q := VV_step rfl rfl rfl rfl
theorem xr_75_11 (h : AHp) (Q : Option Int32 → AHp → Prop) (l0 l1 l2 : Option AV) (st : List AV) : VV 75 h 11 [l0, l1, l2] st Q ↔ VV 75 h 13 [l0, l1, l2] (.inl (99 : Int32) :: st) Q := VV_step rfl rfl rfl rfl
theorem xr_75_13 (h : AHp) (Q : Option Int32 → AHp → Prop) (l0 l1 l2 : Option AV) (x y : Int32) (st : List AV) : VV 75 h 13 [l0, l1, l2] (.inl y :: .inl x :: st) Q ↔ (y < x → VV 75 h 28 [l0, l1, l2] st Q) ∧ (¬ (y < x) → VV 75 h 16 [l0, l1, l2] st Q) := VV_br2 rfl rfl rfl decide_eq_true_iff
theorem xr_75_16 (h : AHp) (Q : Option Int32 → AHp → Prop) (l1 l2 : Option AV) (x : Nat × Nat) (st : List AV) : VV 75 h 16 [some (.inr x), l1, l2] st Q ↔ VV 75 h 17 [some (.inr x), l1, l2] (.inr x :: st) Q := VV_step rfl rfl rfl rfl
theorem xr_75_17 (h : AHp) (Q : Option Int32 → AHp → Prop) (l0 l1 l2 : Option AV) (i : Nat) (st : List AV) : VV 75 h 17 [l0, l1, l2] (.inr (10, i) :: st) Q ↔ VV 75 h 20 [l0, l1, l2] (.inl (h 10 i 17) :: st) Q := VV_step rfl rfl rfl rfl
theorem xr_75_20 (h : AHp) (Q : Option Int32 → AHp → Prop) (l0 l2 : Option AV) (x : Int32) (st : List AV) : VV 75 h 20 [l0, some (.inl x), l2] st Q ↔ VV 75 h 21 [l0, some (.inl x), l2] (.inl x :: st) Q := VV_step rfl rfl rfl rfl
theorem xr_75_21 (h : AHp) (Q : Option Int32 → AHp → Prop) (l0 l1 l2 : Option AV) (x y : Int32) (st : List AV) : VV 75 h 21 [l0, l1, l2] (.inl y :: .inl x :: st) Q ↔ VV 75 h 22 [l0, l1, l2] (.inl (x + y) :: st) Q := VV_step rfl rfl rfl rfl
theorem xr_75_22 (h : AHp) (Q : Option Int32 → AHp → Prop) (l0 l1 l2 : Option AV) (st : List AV) : VV 75 h 22 [l0, l1, l2] st Q ↔ VV 75 h 25 [l0, l1, l2] (.inl (9999 : Int32) :: st) Q := VV_step rfl rfl rfl rfl
theorem xr_75_25 (h : AHp) (Q : Option Int32 → AHp → Prop) (l0 l1 l2 : Option AV) (x y : Int32) (st : List AV) : VV 75 h 25 [l0, l1, l2] (.inl y :: .inl x :: st) Q ↔ (x ≤ y → VV 75 h 30 [l0, l1, l2] st Q) ∧ (¬ (x ≤ y) → VV 75 h 28 [l0, l1, l2] st Q) := VV_br2 rfl rfl rfl decide_eq_true_iff
theorem xr_75_28 (h : AHp) (Q : Option Int32 → AHp → Prop) (l0 l1 l2 : Option AV) (st : List AV) : VV 75 h 28 [l0, l1, l2] st Q ↔ VV 75 h 29 [l0, l1, l2] (.inl (-1 : Int32) :: st) Q := VV_step rfl rfl rfl rfl
theorem xr_75_29 (h : AHp) (Q : Option Int32 → AHp → Prop) (l0 l1 l2 : Option AV) (x : Int32) : VV 75 h 29 [l0, l1, l2] [.inl x] Q ↔ Q (some x) h := VV_end rfl rfl
theorem xr_75_30 (h : AHp) (Q : Option Int32 → AHp → Prop) (l0 l1 l2 : Option AV) (st : List AV) : VV 75 h 30 [l0, l1, l2] st Q ↔ VV 75 h 31 [l0, l1, l2] (.inl (0 : Int32) :: st) Q := VV_step rfl rfl rfl rfl
theorem xr_75_31 (h : AHp) (Q : Option Int32 → AHp → Prop) (l0 l1 l2 : Option AV) (x : Int32) (st : List AV) : VV 75 h 31 [l0, l1, l2] (.inl x :: st) Q ↔ VV 75 h 32 [l0, l1, some (.inl x)] st Q := VV_step rfl rfl rfl rfl
theorem xr_75_32 (h : AHp) (Q : Option Int32 → AHp → Prop) (l0 l1 : Option AV) (x : Int32) (st : List AV) : VV 75 h 32 [l0, l1, some (.inl x)] st Q ↔ VV 75 h 33 [l0, l1, some (.inl x)] (.inl x :: st) Q := VV_step rfl rfl rfl rfl
theorem xr_75_33 (h : AHp) (Q : Option Int32 → AHp → Prop) (l0 l2 : Option AV) (x : Int32) (st : List AV) : VV 75 h 33 [l0, some (.inl x), l2] st Q ↔ VV 75 h 34 [l0, some (.inl x), l2] (.inl x :: st) Q := VV_step rfl rfl rfl rfl
theorem xr_75_34 (h : AHp) (Q : Option Int32 → AHp → Prop) (l0 l1 l2 : Option AV) (x y : Int32) (st : List AV) : VV 75 h 34 [l0, l1, l2] (.inl y :: .inl x :: st) Q ↔ (y ≤ x → VV 75 h 47 [l0, l1, l2] st Q) ∧ (¬ (y ≤ x) → VV 75 h 37 [l0, l1, l2] st Q) := VV_br2 rfl rfl rfl decide_eq_true_iff
theorem xr_75_37 (h : AHp) (Q : Option Int32 → AHp → Prop) (l1 l2 : Option AV) (x : Nat × Nat) (st : List AV) : VV 75 h 37 [some (.inr x), l1, l2] st Q ↔ VV 75 h 38 [some (.inr x), l1, l2] (.inr x :: st) Q := VV_step rfl rfl rfl rfl
theorem xr_75_38 (h : AHp) (Q : Option Int32 → AHp → Prop) (l0 l1 l2 : Option AV) (i : Nat) : VV 75 h 38 [l0, l1, l2] [.inr (10, i)] Q ↔ Vv 74 h [some (.inr (10, i)), none, none] (fun h2 => VV 75 h2 41 [l0, l1, l2] [] Q) := VV_callv (y := 74) (as := [.inr (10, i)]) (rest := []) rfl rfl rfl (ah_noI (y := 74) rfl)
theorem xr_75_41 (h : AHp) (Q : Option Int32 → AHp → Prop) (l0 l1 : Option AV) (x : Int32) (st : List AV) : VV 75 h 41 [l0, l1, some (.inl x)] st Q ↔ VV 75 h 44 [l0, l1, some (.inl (x + (1 : Int32)))] st Q := VV_step rfl rfl rfl rfl
theorem xr_75_44 (h : AHp) (Q : Option Int32 → AHp → Prop) (l0 l1 l2 : Option AV) (st : List AV) : VV 75 h 44 [l0, l1, l2] st Q ↔ VV 75 h 32 [l0, l1, l2] st Q := VV_step rfl rfl rfl rfl
theorem xr_75_47 (h : AHp) (Q : Option Int32 → AHp → Prop) (l1 l2 : Option AV) (x : Nat × Nat) (st : List AV) : VV 75 h 47 [some (.inr x), l1, l2] st Q ↔ VV 75 h 48 [some (.inr x), l1, l2] (.inr x :: st) Q := VV_step rfl rfl rfl rfl
theorem xr_75_48 (h : AHp) (Q : Option Int32 → AHp → Prop) (l0 l1 l2 : Option AV) (i : Nat) (st : List AV) : VV 75 h 48 [l0, l1, l2] (.inr (10, i) :: st) Q ↔ VV 75 h 51 [l0, l1, l2] (.inl (h 10 i 17) :: st) Q := VV_step rfl rfl rfl rfl
theorem xr_75_51 (h : AHp) (Q : Option Int32 → AHp → Prop) (l0 l1 l2 : Option AV) (x : Int32) : VV 75 h 51 [l0, l1, l2] [.inl x] Q ↔ Q (some x) h := VV_end rfl rfl
theorem xr_76_0 (h : AHp) (Q : Option Int32 → AHp → Prop) (l0 l1 : Option AV) (st : List AV) : VV 76 h 0 [l0, l1] st Q ↔ VV 76 h 1 [l0, l1] (.inl (0 : Int32) :: st) Q := VV_step rfl rfl rfl rfl
theorem xr_76_1 (h : AHp) (Q : Option Int32 → AHp → Prop) (l0 l1 : Option AV) (x : Int32) (st : List AV) : VV 76 h 1 [l0, l1] (.inl x :: st) Q ↔ VV 76 h 2 [l0, some (.inl x)] st Q := VV_step rfl rfl rfl rfl
theorem xr_76_2 (h : AHp) (Q : Option Int32 → AHp → Prop) (l0 : Option AV) (x : Int32) (st : List AV) : VV 76 h 2 [l0, some (.inl x)] st Q ↔ VV 76 h 3 [l0, some (.inl x)] (.inl x :: st) Q := VV_step rfl rfl rfl rfl
theorem xr_76_3 (h : AHp) (Q : Option Int32 → AHp → Prop) (l1 : Option AV) (x : Nat × Nat) (st : List AV) : VV 76 h 3 [some (.inr x), l1] st Q ↔ VV 76 h 4 [some (.inr x), l1] (.inr x :: st) Q := VV_step rfl rfl rfl rfl
theorem xr_76_4 (h : AHp) (Q : Option Int32 → AHp → Prop) (l0 l1 : Option AV) (i : Nat) (st : List AV) : VV 76 h 4 [l0, l1] (.inr (10, i) :: st) Q ↔ VV 76 h 7 [l0, l1] (.inl (h 10 i 6) :: st) Q := VV_step rfl rfl rfl rfl
theorem xr_76_7 (h : AHp) (Q : Option Int32 → AHp → Prop) (l0 l1 : Option AV) (x y : Int32) (st : List AV) : VV 76 h 7 [l0, l1] (.inl y :: .inl x :: st) Q ↔ (y ≤ x → VV 76 h 30 [l0, l1] st Q) ∧ (¬ (y ≤ x) → VV 76 h 10 [l0, l1] st Q) := VV_br2 rfl rfl rfl decide_eq_true_iff
theorem xr_76_10 (h : AHp) (Q : Option Int32 → AHp → Prop) (l1 : Option AV) (x : Nat × Nat) (st : List AV) : VV 76 h 10 [some (.inr x), l1] st Q ↔ VV 76 h 11 [some (.inr x), l1] (.inr x :: st) Q := VV_step rfl rfl rfl rfl
theorem xr_76_11 (h : AHp) (Q : Option Int32 → AHp → Prop) (l0 : Option AV) (x : Int32) (st : List AV) : VV 76 h 11 [l0, some (.inl x)] st Q ↔ VV 76 h 12 [l0, some (.inl x)] (.inl x :: st) Q := VV_step rfl rfl rfl rfl
theorem xr_76_12 (h : AHp) (Q : Option Int32 → AHp → Prop) (l0 l1 : Option AV) (a0 : AV) (i : Nat) : VV 76 h 12 [l0, l1] [a0, .inr (10, i)] Q ↔ Vi 67 h [some (.inr (10, i)), some a0, none, none] (fun z h2 => VV 76 h2 15 [l0, l1] [.inl z] Q) := VV_calli (y := 67) (as := [.inr (10, i), a0]) (rest := []) rfl rfl rfl (ah_noV (y := 67) (by decide))
theorem xr_76_15 (h : AHp) (Q : Option Int32 → AHp → Prop) (l1 : Option AV) (x : Nat × Nat) (st : List AV) : VV 76 h 15 [some (.inr x), l1] st Q ↔ VV 76 h 16 [some (.inr x), l1] (.inr x :: st) Q := VV_step rfl rfl rfl rfl
theorem xr_76_16 (h : AHp) (Q : Option Int32 → AHp → Prop) (l0 l1 : Option AV) (i : Nat) (st : List AV) : VV 76 h 16 [l0, l1] (.inr (10, i) :: st) Q ↔ VV 76 h 19 [l0, l1] (.inl (h 10 i 0) :: st) Q := VV_step rfl rfl rfl rfl
theorem xr_76_19 (h : AHp) (Q : Option Int32 → AHp → Prop) (l0 l1 : Option AV) (x y : Int32) (st : List AV) : VV 76 h 19 [l0, l1] (.inl y :: .inl x :: st) Q ↔ (y ≤ x → VV 76 h 24 [l0, l1] st Q) ∧ (¬ (y ≤ x) → VV 76 h 22 [l0, l1] st Q) := VV_br2 rfl rfl rfl decide_eq_true_iff
theorem xr_76_22 (h : AHp) (Q : Option Int32 → AHp → Prop) (l0 l1 : Option AV) (st : List AV) : VV 76 h 22 [l0, l1] st Q ↔ VV 76 h 23 [l0, l1] (.inl (0 : Int32) :: st) Q := VV_step rfl rfl rfl rfl
theorem xr_76_23 (h : AHp) (Q : Option Int32 → AHp → Prop) (l0 l1 : Option AV) (x : Int32) : VV 76 h 23 [l0, l1] [.inl x] Q ↔ (x = 0 ∨ x = 1) ∧ Q (some x) h := VV_zret rfl rfl
theorem xr_76_24 (h : AHp) (Q : Option Int32 → AHp → Prop) (l0 : Option AV) (x : Int32) (st : List AV) : VV 76 h 24 [l0, some (.inl x)] st Q ↔ VV 76 h 27 [l0, some (.inl (x + (1 : Int32)))] st Q := VV_step rfl rfl rfl rfl
theorem xr_76_27 (h : AHp) (Q : Option Int32 → AHp → Prop) (l0 l1 : Option AV) (st : List AV) : VV 76 h 27 [l0, l1] st Q ↔ VV 76 h 2 [l0, l1] st Q := VV_step rfl rfl rfl rfl
theorem xr_76_30 (h : AHp) (Q : Option Int32 → AHp → Prop) (l0 l1 : Option AV) (st : List AV) : VV 76 h 30 [l0, l1] st Q ↔ VV 76 h 31 [l0, l1] (.inl (1 : Int32) :: st) Q := VV_step rfl rfl rfl rfl
theorem xr_76_31 (h : AHp) (Q : Option Int32 → AHp → Prop) (l0 l1 : Option AV) (x : Int32) : VV 76 h 31 [l0, l1] [.inl x] Q ↔ (x = 0 ∨ x = 1) ∧ Q (some x) h := VV_zret rfl rfl
theorem xr_77_0 (h : AHp) (Q : Option Int32 → AHp → Prop) (l1 l2 : Option AV) (x : Nat × Nat) (st : List AV) : VV 77 h 0 [some (.inr x), l1, l2] st Q ↔ VV 77 h 1 [some (.inr x), l1, l2] (.inr x :: st) Q := VV_step rfl rfl rfl rfl
theorem xr_77_1 (h : AHp) (Q : Option Int32 → AHp → Prop) (l0 l1 l2 : Option AV) (st : List AV) : VV 77 h 1 [l0, l1, l2] st Q ↔ VV 77 h 2 [l0, l1, l2] (.inl (0 : Int32) :: st) Q := VV_step rfl rfl rfl rfl
theorem xr_77_2 (h : AHp) (Q : Option Int32 → AHp → Prop) (l0 l1 l2 : Option AV) (v : Int32) (i : Nat) (st : List AV) : VV 77 h 2 [l0, l1, l2] (.inl v :: .inr (10, i) :: st) Q ↔ VV 77 (ah_up h 10 i 20 v) 5 [l0, l1, l2] st Q := VV_step rfl rfl rfl rfl
theorem xr_77_5 (h : AHp) (Q : Option Int32 → AHp → Prop) (l0 l2 : Option AV) (x : Int32) (st : List AV) : VV 77 h 5 [l0, some (.inl x), l2] st Q ↔ VV 77 h 6 [l0, some (.inl x), l2] (.inl x :: st) Q := VV_step rfl rfl rfl rfl
theorem xr_77_6 (h : AHp) (Q : Option Int32 → AHp → Prop) (l0 l1 l2 : Option AV) (st : List AV) : VV 77 h 6 [l0, l1, l2] st Q ↔ VV 77 h 7 [l0, l1, l2] (.inl (1 : Int32) :: st) Q := VV_step rfl rfl rfl rfl
theorem xr_77_7 (h : AHp) (Q : Option Int32 → AHp → Prop) (l0 l1 l2 : Option AV) (x y : Int32) (st : List AV) : VV 77 h 7 [l0, l1, l2] (.inl y :: .inl x :: st) Q ↔ (x < y → VV 77 h 29 [l0, l1, l2] st Q) ∧ (¬ (x < y) → VV 77 h 10 [l0, l1, l2] st Q) := VV_br2 rfl rfl rfl decide_eq_true_iff
theorem xr_77_10 (h : AHp) (Q : Option Int32 → AHp → Prop) (l0 l2 : Option AV) (x : Int32) (st : List AV) : VV 77 h 10 [l0, some (.inl x), l2] st Q ↔ VV 77 h 11 [l0, some (.inl x), l2] (.inl x :: st) Q := VV_step rfl rfl rfl rfl
theorem xr_77_11 (h : AHp) (Q : Option Int32 → AHp → Prop) (l0 l1 l2 : Option AV) (st : List AV) : VV 77 h 11 [l0, l1, l2] st Q ↔ VV 77 h 14 [l0, l1, l2] (.inl (999 : Int32) :: st) Q := VV_step rfl rfl rfl rfl
theorem xr_77_14 (h : AHp) (Q : Option Int32 → AHp → Prop) (l0 l1 l2 : Option AV) (x y : Int32) (st : List AV) : VV 77 h 14 [l0, l1, l2] (.inl y :: .inl x :: st) Q ↔ (y < x → VV 77 h 29 [l0, l1, l2] st Q) ∧ (¬ (y < x) → VV 77 h 17 [l0, l1, l2] st Q) := VV_br2 rfl rfl rfl decide_eq_true_iff
theorem xr_77_17 (h : AHp) (Q : Option Int32 → AHp → Prop) (l1 l2 : Option AV) (x : Nat × Nat) (st : List AV) : VV 77 h 17 [some (.inr x), l1, l2] st Q ↔ VV 77 h 18 [some (.inr x), l1, l2] (.inr x :: st) Q := VV_step rfl rfl rfl rfl
theorem xr_77_18 (h : AHp) (Q : Option Int32 → AHp → Prop) (l0 l1 l2 : Option AV) (i : Nat) (st : List AV) : VV 77 h 18 [l0, l1, l2] (.inr (10, i) :: st) Q ↔ VV 77 h 21 [l0, l1, l2] (.inl (h 10 i 17) :: st) Q := VV_step rfl rfl rfl rfl
theorem xr_77_21 (h : AHp) (Q : Option Int32 → AHp → Prop) (l0 l2 : Option AV) (x : Int32) (st : List AV) : VV 77 h 21 [l0, some (.inl x), l2] st Q ↔ VV 77 h 22 [l0, some (.inl x), l2] (.inl x :: st) Q := VV_step rfl rfl rfl rfl
theorem xr_77_22 (h : AHp) (Q : Option Int32 → AHp → Prop) (l0 l1 l2 : Option AV) (x y : Int32) (st : List AV) : VV 77 h 22 [l0, l1, l2] (.inl y :: .inl x :: st) Q ↔ VV 77 h 23 [l0, l1, l2] (.inl (x + y) :: st) Q := VV_step rfl rfl rfl rfl
theorem xr_77_23 (h : AHp) (Q : Option Int32 → AHp → Prop) (l0 l1 l2 : Option AV) (st : List AV) : VV 77 h 23 [l0, l1, l2] st Q ↔ VV 77 h 26 [l0, l1, l2] (.inl (9999 : Int32) :: st) Q := VV_step rfl rfl rfl rfl
theorem xr_77_26 (h : AHp) (Q : Option Int32 → AHp → Prop) (l0 l1 l2 : Option AV) (x y : Int32) (st : List AV) : VV 77 h 26 [l0, l1, l2] (.inl y :: .inl x :: st) Q ↔ (x ≤ y → VV 77 h 31 [l0, l1, l2] st Q) ∧ (¬ (x ≤ y) → VV 77 h 29 [l0, l1, l2] st Q) := VV_br2 rfl rfl rfl decide_eq_true_iff
theorem xr_77_29 (h : AHp) (Q : Option Int32 → AHp → Prop) (l0 l1 l2 : Option AV) (st : List AV) : VV 77 h 29 [l0, l1, l2] st Q ↔ VV 77 h 30 [l0, l1, l2] (.inl (-1 : Int32) :: st) Q := VV_step rfl rfl rfl rfl
theorem xr_77_30 (h : AHp) (Q : Option Int32 → AHp → Prop) (l0 l1 l2 : Option AV) (x : Int32) : VV 77 h 30 [l0, l1, l2] [.inl x] Q ↔ Q (some x) h := VV_end rfl rfl
theorem xr_77_31 (h : AHp) (Q : Option Int32 → AHp → Prop) (l0 l1 l2 : Option AV) (st : List AV) : VV 77 h 31 [l0, l1, l2] st Q ↔ VV 77 h 32 [l0, l1, l2] (.inl (0 : Int32) :: st) Q := VV_step rfl rfl rfl rfl
theorem xr_77_32 (h : AHp) (Q : Option Int32 → AHp → Prop) (l0 l1 l2 : Option AV) (x : Int32) (st : List AV) : VV 77 h 32 [l0, l1, l2] (.inl x :: st) Q ↔ VV 77 h 33 [l0, l1, some (.inl x)] st Q := VV_step rfl rfl rfl rfl
theorem xr_77_33 (h : AHp) (Q : Option Int32 → AHp → Prop) (l0 l1 : Option AV) (x : Int32) (st : List AV) : VV 77 h 33 [l0, l1, some (.inl x)] st Q ↔ VV 77 h 34 [l0, l1, some (.inl x)] (.inl x :: st) Q := VV_step rfl rfl rfl rfl
theorem xr_77_34 (h : AHp) (Q : Option Int32 → AHp → Prop) (l0 l2 : Option AV) (x : Int32) (st : List AV) : VV 77 h 34 [l0, some (.inl x), l2] st Q ↔ VV 77 h 35 [l0, some (.inl x), l2] (.inl x :: st) Q := VV_step rfl rfl rfl rfl
theorem xr_77_35 (h : AHp) (Q : Option Int32 → AHp → Prop) (l0 l1 l2 : Option AV) (x y : Int32) (st : List AV) : VV 77 h 35 [l0, l1, l2] (.inl y :: .inl x :: st) Q ↔ (y ≤ x → VV 77 h 55 [l0, l1, l2] st Q) ∧ (¬ (y ≤ x) → VV 77 h 38 [l0, l1, l2] st Q) := VV_br2 rfl rfl rfl decide_eq_true_iff
theorem xr_77_38 (h : AHp) (Q : Option Int32 → AHp → Prop) (l1 l2 : Option AV) (x : Nat × Nat) (st : List AV) : VV 77 h 38 [some (.inr x), l1, l2] st Q ↔ VV 77 h 39 [some (.inr x), l1, l2] (.inr x :: st) Q := VV_step rfl rfl rfl rfl
theorem xr_77_39 (h : AHp) (Q : Option Int32 → AHp → Prop) (l0 l1 l2 : Option AV) (i : Nat) : VV 77 h 39 [l0, l1, l2] [.inr (10, i)] Q ↔ Vi 76 h [some (.inr (10, i)), none] (fun z h2 => VV 77 h2 42 [l0, l1, l2] [.inl z] Q) := VV_calli (y := 76) (as := [.inr (10, i)]) (rest := []) rfl rfl rfl (ah_noV (y := 76) (by decide))
theorem xr_77_42 (h : AHp) (Q : Option Int32 → AHp → Prop) (l0 l1 l2 : Option AV) (x : Int32) (st : List AV) : VV 77 h 42 [l0, l1, l2] (.inl x :: st) Q ↔ (¬ x = 0 → VV 77 h 55 [l0, l1, l2] st Q) ∧ (¬ (¬ x = 0) → VV 77 h 45 [l0, l1, l2] st Q) := VV_br rfl rfl rfl decide_eq_true_iff
theorem xr_77_45 (h : AHp) (Q : Option Int32 → AHp → Prop) (l1 l2 : Option AV) (x : Nat × Nat) (st : List AV) : VV 77 h 45 [some (.inr x), l1, l2] st Q ↔ VV 77 h 46 [some (.inr x), l1, l2] (.inr x :: st) Q := VV_step rfl rfl rfl rfl
theorem xr_77_46 (h : AHp) (Q : Option Int32 → AHp → Prop) (l0 l1 l2 : Option AV) (i : Nat) : VV 77 h 46 [l0, l1, l2] [.inr (10, i)] Q ↔ Vv 74 h [some (.inr (10, i)), none, none] (fun h2 => VV 77 h2 49 [l0, l1, l2] [] Q) := VV_callv (y := 74) (as := [.inr (10, i)]) (rest := []) rfl rfl rfl (ah_noI (y := 74) rfl)
theorem xr_77_49 (h : AHp) (Q : Option Int32 → AHp → Prop) (l0 l1 : Option AV) (x : Int32) (st : List AV) : VV 77 h 49 [l0, l1, some (.inl x)] st Q ↔ VV 77 h 52 [l0, l1, some (.inl (x + (1 : Int32)))] st Q := VV_step rfl rfl rfl rfl
theorem xr_77_52 (h : AHp) (Q : Option Int32 → AHp → Prop) (l0 l1 l2 : Option AV) (st : List AV) : VV 77 h 52 [l0, l1, l2] st Q ↔ VV 77 h 33 [l0, l1, l2] st Q := VV_step rfl rfl rfl rfl
theorem xr_77_55 (h : AHp) (Q : Option Int32 → AHp → Prop) (l1 l2 : Option AV) (x : Nat × Nat) (st : List AV) : VV 77 h 55 [some (.inr x), l1, l2] st Q ↔ VV 77 h 56 [some (.inr x), l1, l2] (.inr x :: st) Q := VV_step rfl rfl rfl rfl
theorem xr_77_56 (h : AHp) (Q : Option Int32 → AHp → Prop) (l0 l1 l2 : Option AV) (i : Nat) (st : List AV) : VV 77 h 56 [l0, l1, l2] (.inr (10, i) :: st) Q ↔ VV 77 h 59 [l0, l1, l2] (.inl (h 10 i 17) :: st) Q := VV_step rfl rfl rfl rfl
theorem xr_77_59 (h : AHp) (Q : Option Int32 → AHp → Prop) (l0 l1 l2 : Option AV) (x : Int32) : VV 77 h 59 [l0, l1, l2] [.inl x] Q ↔ Q (some x) h := VV_end rfl rfl
theorem xr_78_0 (h : AHp) (Q : Option Int32 → AHp → Prop) (l1 l2 l3 l4 l5 l6 : Option AV) (x : Nat × Nat) (st : List AV) : VV 78 h 0 [some (.inr x), l1, l2, l3, l4, l5, l6] st Q ↔ VV 78 h 1 [some (.inr x), l1, l2, l3, l4, l5, l6] (.inr x :: st) Q := VV_step rfl rfl rfl rfl
theorem xr_78_1 (h : AHp) (Q : Option Int32 → AHp → Prop) (l0 l1 l2 l3 l4 l5 l6 : Option AV) (st : List AV) : VV 78 h 1 [l0, l1, l2, l3, l4, l5, l6] st Q ↔ VV 78 h 2 [l0, l1, l2, l3, l4, l5, l6] (.inl (0 : Int32) :: st) Q := VV_step rfl rfl rfl rfl
theorem xr_78_2 (h : AHp) (Q : Option Int32 → AHp → Prop) (l0 l1 l2 l3 l4 l5 l6 : Option AV) (v : Int32) (i : Nat) (st : List AV) : VV 78 h 2 [l0, l1, l2, l3, l4, l5, l6] (.inl v :: .inr (10, i) :: st) Q ↔ VV 78 (ah_up h 10 i 20 v) 5 [l0, l1, l2, l3, l4, l5, l6] st Q := VV_step rfl rfl rfl rfl
theorem xr_78_5 (h : AHp) (Q : Option Int32 → AHp → Prop) (l1 l2 l3 l4 l5 l6 : Option AV) (x : Nat × Nat) (st : List AV) : VV 78 h 5 [some (.inr x), l1, l2, l3, l4, l5, l6] st Q ↔ VV 78 h 6 [some (.inr x), l1, l2, l3, l4, l5, l6] (.inr x :: st) Q := VV_step rfl rfl rfl rfl
theorem xr_78_6 (h : AHp) (Q : Option Int32 → AHp → Prop) (l0 l1 l2 l3 l4 l5 l6 : Option AV) (i : Nat) (st : List AV) : VV 78 h 6 [l0, l1, l2, l3, l4, l5, l6] (.inr (10, i) :: st) Q ↔ VV 78 h 9 [l0, l1, l2, l3, l4, l5, l6] (.inl (h 10 i 6) :: st) Q := VV_step rfl rfl rfl rfl
theorem xr_78_9 (h : AHp) (Q : Option Int32 → AHp → Prop) (l0 l1 l2 l3 l4 l5 l6 : Option AV) (x : Int32) (st : List AV) : VV 78 h 9 [l0, l1, l2, l3, l4, l5, l6] (.inl x :: st) Q ↔ (x = 0 → VV 78 h 19 [l0, l1, l2, l3, l4, l5, l6] st Q) ∧ (¬ (x = 0) → VV 78 h 12 [l0, l1, l2, l3, l4, l5, l6] st Q) := VV_br rfl rfl rfl decide_eq_true_iff
theorem xr_78_12 (h : AHp) (Q : Option Int32 → AHp → Prop) (l1 l2 l3 l4 l5 l6 : Option AV) (x : Nat × Nat) (st : List AV) : VV 78 h 12 [some (.inr x), l1, l2, l3, l4, l5, l6] st Q ↔ VV 78 h 13 [some (.inr x), l1, l2, l3, l4, l5, l6] (.inr x :: st) Q := VV_step rfl rfl rfl rfl
theorem xr_78_13 (h : AHp) (Q : Option Int32 → AHp → Prop) (l0 l1 l2 l3 l4 l5 l6 : Option AV) (i : Nat) : VV 78 h 13 [l0, l1, l2, l3, l4, l5, l6] [.inr (10, i)] Q ↔ Vi 76 h [some (.inr (10, i)), none] (fun z h2 => VV 78 h2 16 [l0, l1, l2, l3, l4, l5, l6] [.inl z] Q) := VV_calli (y := 76) (as := [.inr (10, i)]) (rest := []) rfl rfl rfl (ah_noV (y := 76) (by decide))
theorem xr_78_16 (h : AHp) (Q : Option Int32 → AHp → Prop) (l0 l1 l2 l3 l4 l5 l6 : Option AV) (x : Int32) (st : List AV) : VV 78 h 16 [l0, l1, l2, l3, l4, l5, l6] (.inl x :: st) Q ↔ (x = 0 → VV 78 h 21 [l0, l1, l2, l3, l4, l5, l6] st Q) ∧ (¬ (x = 0) → VV 78 h 19 [l0, l1, l2, l3, l4, l5, l6] st Q) := VV_br rfl rfl rfl decide_eq_true_iff
theorem xr_78_19 (h : AHp) (Q : Option Int32 → AHp → Prop) (l0 l1 l2 l3 l4 l5 l6 : Option AV) (st : List AV) : VV 78 h 19 [l0, l1, l2, l3, l4, l5, l6] st Q ↔ VV 78 h 20 [l0, l1, l2, l3, l4, l5, l6] (.inl (-1 : Int32) :: st) Q := VV_step rfl rfl rfl rfl
theorem xr_78_20 (h : AHp) (Q : Option Int32 → AHp → Prop) (l0 l1 l2 l3 l4 l5 l6 : Option AV) (x : Int32) : VV 78 h 20 [l0, l1, l2, l3, l4, l5, l6] [.inl x] Q ↔ Q (some x) h := VV_end rfl rfl
theorem xr_78_21 (h : AHp) (Q : Option Int32 → AHp → Prop) (l1 l2 l3 l4 l5 l6 : Option AV) (x : Nat × Nat) (st : List AV) : VV 78 h 21 [some (.inr x), l1, l2, l3, l4, l5, l6] st Q ↔ VV 78 h 22 [some (.inr x), l1, l2, l3, l4, l5, l6] (.inr x :: st) Q := VV_step rfl rfl rfl rfl
theorem xr_78_22 (h : AHp) (Q : Option Int32 → AHp → Prop) (l0 l1 l2 l3 l4 l5 l6 : Option AV) (i : Nat) (st : List AV) : VV 78 h 22 [l0, l1, l2, l3, l4, l5, l6] (.inr (10, i) :: st) Q ↔ VV 78 h 25 [l0, l1, l2, l3, l4, l5, l6] (.inl (h 10 i 17) :: st) Q := VV_step rfl rfl rfl rfl
theorem xr_78_25 (h : AHp) (Q : Option Int32 → AHp → Prop) (l0 l1 l2 l3 l4 l5 l6 : Option AV) (x : Int32) (st : List AV) : VV 78 h 25 [l0, l1, l2, l3, l4, l5, l6] (.inl x :: st) Q ↔ VV 78 h 26 [l0, some (.inl x), l2, l3, l4, l5, l6] st Q := VV_step rfl rfl rfl rfl
theorem xr_78_26 (h : AHp) (Q : Option Int32 → AHp → Prop) (l0 l1 l2 l3 l4 l5 l6 : Option AV) (st : List AV) : VV 78 h 26 [l0, l1, l2, l3, l4, l5, l6] st Q ↔ VV 78 h 27 [l0, l1, l2, l3, l4, l5, l6] (.inl (0 : Int32) :: st) Q := VV_step rfl rfl rfl rfl
theorem xr_78_27 (h : AHp) (Q : Option Int32 → AHp → Prop) (l0 l1 l2 l3 l4 l5 l6 : Option AV) (x : Int32) (st : List AV) : VV 78 h 27 [l0, l1, l2, l3, l4, l5, l6] (.inl x :: st) Q ↔ VV 78 h 28 [l0, l1, some (.inl x), l3, l4, l5, l6] st Q := VV_step rfl rfl rfl rfl
theorem xr_78_28 (h : AHp) (Q : Option Int32 → AHp → Prop) (l0 l1 l3 l4 l5 l6 : Option AV) (x : Int32) (st : List AV) : VV 78 h 28 [l0, l1, some (.inl x), l3, l4, l5, l6] st Q ↔ VV 78 h 29 [l0, l1, some (.inl x), l3, l4, l5, l6] (.inl x :: st) Q := VV_step rfl rfl rfl rfl
theorem xr_78_29 (h : AHp) (Q : Option Int32 → AHp → Prop) (l1 l2 l3 l4 l5 l6 : Option AV) (x : Nat × Nat) (st : List AV) : VV 78 h 29 [some (.inr x), l1, l2, l3, l4, l5, l6] st Q ↔ VV 78 h 30 [some (.inr x), l1, l2, l3, l4, l5, l6] (.inr x :: st) Q := VV_step rfl rfl rfl rfl
theorem xr_78_30 (h : AHp) (Q : Option Int32 → AHp → Prop) (l0 l1 l2 l3 l4 l5 l6 : Option AV) (i : Nat) (st : List AV) : VV 78 h 30 [l0, l1, l2, l3, l4, l5, l6] (.inr (10, i) :: st) Q ↔ VV 78 h 33 [l0, l1, l2, l3, l4, l5, l6] (.inl (h 10 i 6) :: st) Q := VV_step rfl rfl rfl rfl
theorem xr_78_33 (h : AHp) (Q : Option Int32 → AHp → Prop) (l0 l1 l2 l3 l4 l5 l6 : Option AV) (x y : Int32) (st : List AV) : VV 78 h 33 [l0, l1, l2, l3, l4, l5, l6] (.inl y :: .inl x :: st) Q ↔ (y ≤ x → VV 78 h 126 [l0, l1, l2, l3, l4, l5, l6] st Q) ∧ (¬ (y ≤ x) → VV 78 h 36 [l0, l1, l2, l3, l4, l5, l6] st Q) := VV_br2 rfl rfl rfl decide_eq_true_iff
theorem xr_78_36 (h : AHp) (Q : Option Int32 → AHp → Prop) (l1 l2 l3 l4 l5 l6 : Option AV) (x : Nat × Nat) (st : List AV) : VV 78 h 36 [some (.inr x), l1, l2, l3, l4, l5, l6] st Q ↔ VV 78 h 37 [some (.inr x), l1, l2, l3, l4, l5, l6] (.inr x :: st) Q := VV_step rfl rfl rfl rfl
theorem xr_78_37 (h : AHp) (Q : Option Int32 → AHp → Prop) (l0 l1 l2 l3 l4 l5 l6 : Option AV) (i : Nat) (st : List AV) : VV 78 h 37 [l0, l1, l2, l3, l4, l5, l6] (.inr (10, i) :: st) Q ↔ VV 78 h 40 [l0, l1, l2, l3, l4, l5, l6] (.inl (h 10 i 0) :: st) Q := VV_step rfl rfl rfl rfl
theorem xr_78_40 (h : AHp) (Q : Option Int32 → AHp → Prop) (l1 l2 l3 l4 l5 l6 : Option AV) (x : Nat × Nat) (st : List AV) : VV 78 h 40 [some (.inr x), l1, l2, l3, l4, l5, l6] st Q ↔ VV 78 h 41 [some (.inr x), l1, l2, l3, l4, l5, l6] (.inr x :: st) Q := VV_step rfl rfl rfl rfl
theorem xr_78_41 (h : AHp) (Q : Option Int32 → AHp → Prop) (l0 l1 l3 l4 l5 l6 : Option AV) (x : Int32) (st : List AV) : VV 78 h 41 [l0, l1, some (.inl x), l3, l4, l5, l6] st Q ↔ VV 78 h 42 [l0, l1, some (.inl x), l3, l4, l5, l6] (.inl x :: st) Q := VV_step rfl rfl rfl rfl
theorem xr_78_42 (h : AHp) (Q : Option Int32 → AHp → Prop) (l0 l1 l2 l3 l4 l5 l6 : Option AV) (a0 r0 : AV) (i : Nat) : VV 78 h 42 [l0, l1, l2, l3, l4, l5, l6] [a0, .inr (10, i), r0] Q ↔ Vi 67 h [some (.inr (10, i)), some a0, none, none] (fun z h2 => VV 78 h2 45 [l0, l1, l2, l3, l4, l5, l6] [.inl z, r0] Q) := VV_calli (y := 67) (as := [.inr (10, i), a0]) (rest := [r0]) rfl rfl rfl (ah_noV (y := 67) (by decide))
theorem xr_78_45 (h : AHp) (Q : Option Int32 → AHp → Prop) (l0 l1 l2 l3 l4 l5 l6 : Option AV) (x y : Int32) (st : List AV) : VV 78 h 45 [l0, l1, l2, l3, l4, l5, l6] (.inl y :: .inl x :: st) Q ↔ VV 78 h 46 [l0, l1, l2, l3, l4, l5, l6] (.inl (x - y) :: st) Q := VV_step rfl rfl rfl rfl
theorem xr_78_46 (h : AHp) (Q : Option Int32 → AHp → Prop) (l0 l1 l2 l3 l4 l5 l6 : Option AV) (x : Int32) (st : List AV) : VV 78 h 46 [l0, l1, l2, l3, l4, l5, l6] (.inl x :: st) Q ↔ VV 78 h 47 [l0, l1, l2, some (.inl x), l4, l5, l6] st Q := VV_step rfl rfl rfl rfl
theorem xr_78_47 (h : AHp) (Q : Option Int32 → AHp → Prop) (l0 l1 l2 l4 l5 l6 : Option AV) (x : Int32) (st : List AV) : VV 78 h 47 [l0, l1, l2, some (.inl x), l4, l5, l6] st Q ↔ VV 78 h 48 [l0, l1, l2, some (.inl x), l4, l5, l6] (.inl x :: st) Q := VV_step rfl rfl rfl rfl
theorem xr_78_48 (h : AHp) (Q : Option Int32 → AHp → Prop) (l0 l1 l2 l3 l4 l5 l6 : Option AV) (x : Int32) (st : List AV) : VV 78 h 48 [l0, l1, l2, l3, l4, l5, l6] (.inl x :: st) Q ↔ (¬ x = 0 → VV 78 h 54 [l0, l1, l2, l3, l4, l5, l6] st Q) ∧ (¬ (¬ x = 0) → VV 78 h 51 [l0, l1, l2, l3, l4, l5, l6] st Q) := VV_br rfl rfl rfl decide_eq_true_iff
theorem xr_78_51 (h : AHp) (Q : Option Int32 → AHp → Prop) (l0 l1 l2 l3 l4 l5 l6 : Option AV) (st : List AV) : VV 78 h 51 [l0, l1, l2, l3, l4, l5, l6] st Q ↔ VV 78 h 120 [l0, l1, l2, l3, l4, l5, l6] st Q := VV_step rfl rfl rfl rfl
theorem xr_78_54 (h : AHp) (Q : Option Int32 → AHp → Prop) (l1 l2 l3 l4 l5 l6 : Option AV) (x : Nat × Nat) (st : List AV) : VV 78 h 54 [some (.inr x), l1, l2, l3, l4, l5, l6] st Q ↔ VV 78 h 55 [some (.inr x), l1, l2, l3, l4, l5, l6] (.inr x :: st) Q := VV_step rfl rfl rfl rfl
theorem xr_78_55 (h : AHp) (Q : Option Int32 → AHp → Prop) (l0 l1 l2 l3 l4 l5 l6 : Option AV) (i : Nat) (st : List AV) : VV 78 h 55 [l0, l1, l2, l3, l4, l5, l6] (.inr (10, i) :: st) Q ↔ VV 78 h 58 [l0, l1, l2, l3, l4, l5, l6] (.inr (19, i) :: st) Q := VV_step rfl rfl rfl rfl
theorem xr_78_58 (h : AHp) (Q : Option Int32 → AHp → Prop) (l0 l1 l3 l4 l5 l6 : Option AV) (x : Int32) (st : List AV) : VV 78 h 58 [l0, l1, some (.inl x), l3, l4, l5, l6] st Q ↔ VV 78 h 59 [l0, l1, some (.inl x), l3, l4, l5, l6] (.inl x :: st) Q := VV_step rfl rfl rfl rfl
theorem xr_78_59 (h : AHp) (Q : Option Int32 → AHp → Prop) (l0 l1 l2 l3 l4 l5 l6 : Option AV) (x : Int32) (k i : Nat) (st : List AV) : VV 78 h 59 [l0, l1, l2, l3, l4, l5, l6] (.inl x :: .inr (k, i) :: st) Q ↔ ix_i k x ∧ VV 78 h 60 [l0, l1, l2, l3, l4, l5, l6] (.inl (h k i x.toNatClampNeg) :: st) Q := VV_iald rfl
theorem xr_78_60 (h : AHp) (Q : Option Int32 → AHp → Prop) (l0 l1 l2 l3 l4 l5 l6 : Option AV) (st : List AV) : VV 78 h 60 [l0, l1, l2, l3, l4, l5, l6] st Q ↔ VV 78 h 61 [l0, l1, l2, l3, l4, l5, l6] (.inl (-1 : Int32) :: st) Q := VV_step rfl rfl rfl rfl
theorem xr_78_61 (h : AHp) (Q : Option Int32 → AHp → Prop) (l0 l1 l2 l3 l4 l5 l6 : Option AV) (x y : Int32) (st : List AV) : VV 78 h 61 [l0, l1, l2, l3, l4, l5, l6] (.inl y :: .inl x :: st) Q ↔ (¬ x = y → VV 78 h 71 [l0, l1, l2, l3, l4, l5, l6] st Q) ∧ (¬ (¬ x = y) → VV 78 h 64 [l0, l1, l2, l3, l4, l5, l6] st Q) := VV_br2 rfl rfl rfl decide_eq_true_iff
theorem xr_78_64 (h : AHp) (Q : Option Int32 → AHp → Prop) (l1 l2 l3 l4 l5 l6 : Option AV) (x : Nat × Nat) (st : List AV) : VV 78 h 64 [some (.inr x), l1, l2, l3, l4, l5, l6] st Q ↔ VV 78 h 65 [some (.inr x), l1, l2, l3, l4, l5, l6] (.inr x :: st) Q := VV_step rfl rfl rfl rfl
theorem xr_78_65 (h : AHp) (Q : Option Int32 → AHp → Prop) (l0 l1 l2 l3 l4 l5 l6 : Option AV) (i : Nat) (st : List AV) : VV 78 h 65 [l0, l1, l2, l3, l4, l5, l6] (.inr (10, i) :: st) Q ↔ VV 78 h 68 [l0, l1, l2, l3, l4, l5, l6] (.inl (h 10 i 17) :: st) Q := VV_step rfl rfl rfl rfl
theorem xr_78_68 (h : AHp) (Q : Option Int32 → AHp → Prop) (l0 l1 l2 l3 l4 l5 l6 : Option AV) (st : List AV) : VV 78 h 68 [l0, l1, l2, l3, l4, l5, l6] st Q ↔ VV 78 h 76 [l0, l1, l2, l3, l4, l5, l6] st Q := VV_step rfl rfl rfl rfl
theorem xr_78_71 (h : AHp) (Q : Option Int32 → AHp → Prop) (l1 l2 l3 l4 l5 l6 : Option AV) (x : Nat × Nat) (st : List AV) : VV 78 h 71 [some (.inr x), l1, l2, l3, l4, l5, l6] st Q ↔ VV 78 h 72 [some (.inr x), l1, l2, l3, l4, l5, l6] (.inr x :: st) Q := VV_step rfl rfl rfl rfl
theorem xr_78_72 (h : AHp) (Q : Option Int32 → AHp → Prop) (l0 l1 l3 l4 l5 l6 : Option AV) (x : Int32) (st : List AV) : VV 78 h 72 [l0, l1, some (.inl x), l3, l4, l5, l6] st Q ↔ VV 78 h 73 [l0, l1, some (.inl x), l3, l4, l5, l6] (.inl x :: st) Q := VV_step rfl rfl rfl rfl
theorem xr_78_73 (h : AHp) (Q : Option Int32 → AHp → Prop) (l0 l1 l2 l3 l4 l5 l6 : Option AV) (a0 : AV) (i : Nat) : VV 78 h 73 [l0, l1, l2, l3, l4, l5, l6] [a0, .inr (10, i)] Q ↔ Vi 73 h [some (.inr (10, i)), some a0] (fun z h2 => VV 78 h2 76 [l0, l1, l2, l3, l4, l5, l6] [.inl z] Q) := VV_calli (y := 73) (as := [.inr (10, i), a0]) (rest := []) rfl rfl rfl (ah_noV (y := 73) (by decide))
theorem xr_78_76 (h : AHp) (Q : Option Int32 → AHp → Prop) (l0 l1 l2 l3 l4 l5 l6 : Option AV) (x : Int32) (st : List AV) : VV 78 h 76 [l0, l1, l2, l3, l4, l5, l6] (.inl x :: st) Q ↔ VV 78 h 78 [l0, l1, l2, l3, some (.inl x), l5, l6] st Q := VV_step rfl rfl rfl rfl
theorem xr_78_78 (h : AHp) (Q : Option Int32 → AHp → Prop) (l0 l1 l2 l3 l5 l6 : Option AV) (x : Int32) (st : List AV) : VV 78 h 78 [l0, l1, l2, l3, some (.inl x), l5, l6] st Q ↔ VV 78 h 80 [l0, l1, l2, l3, some (.inl x), l5, l6] (.inl x :: st) Q := VV_step rfl rfl rfl rfl
theorem xr_78_80 (h : AHp) (Q : Option Int32 → AHp → Prop) (l1 l2 l3 l4 l5 l6 : Option AV) (x : Nat × Nat) (st : List AV) : VV 78 h 80 [some (.inr x), l1, l2, l3, l4, l5, l6] st Q ↔ VV 78 h 81 [some (.inr x), l1, l2, l3, l4, l5, l6] (.inr x :: st) Q := VV_step rfl rfl rfl rfl
theorem xr_78_81 (h : AHp) (Q : Option Int32 → AHp → Prop) (l0 l1 l2 l3 l4 l5 l6 : Option AV) (i : Nat) (st : List AV) : VV 78 h 81 [l0, l1, l2, l3, l4, l5, l6] (.inr (10, i) :: st) Q ↔ VV 78 h 84 [l0, l1, l2, l3, l4, l5, l6] (.inr (17, i) :: st) Q := VV_step rfl rfl rfl rfl
theorem xr_78_84 (h : AHp) (Q : Option Int32 → AHp → Prop) (l0 l1 l3 l4 l5 l6 : Option AV) (x : Int32) (st : List AV) : VV 78 h 84 [l0, l1, some (.inl x), l3, l4, l5, l6] st Q ↔ VV 78 h 85 [l0, l1, some (.inl x), l3, l4, l5, l6] (.inl x :: st) Q := VV_step rfl rfl rfl rfl
theorem xr_78_85 (h : AHp) (Q : Option Int32 → AHp → Prop) (l0 l1 l2 l3 l4 l5 l6 : Option AV) (x : Int32) (k i : Nat) (st : List AV) : VV 78 h 85 [l0, l1, l2, l3, l4, l5, l6] (.inl x :: .inr (k, i) :: st) Q ↔ ix_i k x ∧ VV 78 h 86 [l0, l1, l2, l3, l4, l5, l6] (.inl (h k i x.toNatClampNeg) :: st) Q := VV_iald rfl
theorem xr_78_86 (h : AHp) (Q : Option Int32 → AHp → Prop) (l0 l1 l2 l4 l5 l6 : Option AV) (x : Int32) (st : List AV) : VV 78 h 86 [l0, l1, l2, some (.inl x), l4, l5, l6] st Q ↔ VV 78 h 87 [l0, l1, l2, some (.inl x), l4, l5, l6] (.inl x :: st) Q := VV_step rfl rfl rfl rfl
theorem xr_78_87 (h : AHp) (Q : Option Int32 → AHp → Prop) (l1 l2 l3 l4 l5 l6 : Option AV) (x : Nat × Nat) (st : List AV) : VV 78 h 87 [some (.inr x), l1, l2, l3, l4, l5, l6] st Q ↔ VV 78 h 88 [some (.inr x), l1, l2, l3, l4, l5, l6] (.inr x :: st) Q := VV_step rfl rfl rfl rfl
theorem xr_78_88 (h : AHp) (Q : Option Int32 → AHp → Prop) (l0 l1 l2 l3 l4 l5 l6 : Option AV) (i : Nat) (st : List AV) : VV 78 h 88 [l0, l1, l2, l3, l4, l5, l6] (.inr (10, i) :: st) Q ↔ VV 78 h 91 [l0, l1, l2, l3, l4, l5, l6] (.inr (19, i) :: st) Q := VV_step rfl rfl rfl rfl
theorem xr_78_91 (h : AHp) (Q : Option Int32 → AHp → Prop) (l0 l1 l3 l4 l5 l6 : Option AV) (x : Int32) (st : List AV) : VV 78 h 91 [l0, l1, some (.inl x), l3, l4, l5, l6] st Q ↔ VV 78 h 92 [l0, l1, some (.inl x), l3, l4, l5, l6] (.inl x :: st) Q := VV_step rfl rfl rfl rfl
theorem xr_78_92 (h : AHp) (Q : Option Int32 → AHp → Prop) (l0 l1 l2 l3 l4 l5 l6 : Option AV) (x : Int32) (k i : Nat) (st : List AV) : VV 78 h 92 [l0, l1, l2, l3, l4, l5, l6] (.inl x :: .inr (k, i) :: st) Q ↔ ix_i k x ∧ VV 78 h 93 [l0, l1, l2, l3, l4, l5, l6] (.inl (h k i x.toNatClampNeg) :: st) Q := VV_iald rfl
theorem xr_78_93 (h : AHp) (Q : Option Int32 → AHp → Prop) (l0 l1 l2 l3 l4 l5 l6 : Option AV) (st : List AV) : VV 78 h 93 [l0, l1, l2, l3, l4, l5, l6] st Q ↔ VV 78 h 94 [l0, l1, l2, l3, l4, l5, l6] (.inl (-1 : Int32) :: st) Q := VV_step rfl rfl rfl rfl
theorem xr_78_94 (h : AHp) (Q : Option Int32 → AHp → Prop) (l0 l1 l2 l3 l4 l5 l6 : Option AV) (x y : Int32) (st : List AV) : VV 78 h 94 [l0, l1, l2, l3, l4, l5, l6] (.inl y :: .inl x :: st) Q ↔ (¬ x = y → VV 78 h 101 [l0, l1, l2, l3, l4, l5, l6] st Q) ∧ (¬ (¬ x = y) → VV 78 h 97 [l0, l1, l2, l3, l4, l5, l6] st Q) := VV_br2 rfl rfl rfl decide_eq_true_iff
theorem xr_78_97 (h : AHp) (Q : Option Int32 → AHp → Prop) (l0 l1 l2 l3 l4 l5 l6 : Option AV) (st : List AV) : VV 78 h 97 [l0, l1, l2, l3, l4, l5, l6] st Q ↔ VV 78 h 98 [l0, l1, l2, l3, l4, l5, l6] (.inl (0 : Int32) :: st) Q := VV_step rfl rfl rfl rfl
theorem xr_78_98 (h : AHp) (Q : Option Int32 → AHp → Prop) (l0 l1 l2 l3 l4 l5 l6 : Option AV) (st : List AV) : VV 78 h 98 [l0, l1, l2, l3, l4, l5, l6] st Q ↔ VV 78 h 102 [l0, l1, l2, l3, l4, l5, l6] st Q := VV_step rfl rfl rfl rfl
theorem xr_78_101 (h : AHp) (Q : Option Int32 → AHp → Prop) (l0 l1 l2 l3 l4 l5 l6 : Option AV) (st : List AV) : VV 78 h 101 [l0, l1, l2, l3, l4, l5, l6] st Q ↔ VV 78 h 102 [l0, l1, l2, l3, l4, l5, l6] (.inl (1 : Int32) :: st) Q := VV_step rfl rfl rfl rfl
theorem xr_78_102 (h : AHp) (Q : Option Int32 → AHp → Prop) (l0 l1 l2 l3 l4 l5 l6 : Option AV) (x y : Int32) (st : List AV) : VV 78 h 102 [l0, l1, l2, l3, l4, l5, l6] (.inl y :: .inl x :: st) Q ↔ VV 78 h 103 [l0, l1, l2, l3, l4, l5, l6] (.inl (x - y) :: st) Q := VV_step rfl rfl rfl rfl
theorem xr_78_103 (h : AHp) (Q : Option Int32 → AHp → Prop) (l0 l1 l2 l3 l4 l5 l6 : Option AV) (x y : Int32) (st : List AV) : VV 78 h 103 [l0, l1, l2, l3, l4, l5, l6] (.inl y :: .inl x :: st) Q ↔ VV 78 h 104 [l0, l1, l2, l3, l4, l5, l6] (.inl (x * y) :: st) Q := VV_step rfl rfl rfl rfl
theorem xr_78_104 (h : AHp) (Q : Option Int32 → AHp → Prop) (l0 l1 l2 l3 l4 l5 l6 : Option AV) (x y : Int32) (st : List AV) : VV 78 h 104 [l0, l1, l2, l3, l4, l5, l6] (.inl y :: .inl x :: st) Q ↔ VV 78 h 105 [l0, l1, l2, l3, l4, l5, l6] (.inl (x + y) :: st) Q := VV_step rfl rfl rfl rfl
theorem xr_78_105 (h : AHp) (Q : Option Int32 → AHp → Prop) (l0 l1 l2 l3 l4 l5 l6 : Option AV) (x : Int32) (st : List AV) : VV 78 h 105 [l0, l1, l2, l3, l4, l5, l6] (.inl x :: st) Q ↔ VV 78 h 107 [l0, l1, l2, l3, l4, some (.inl x), l6] st Q := VV_step rfl rfl rfl rfl
theorem xr_78_107 (h : AHp) (Q : Option Int32 → AHp → Prop) (l0 l1 l2 l3 l4 l6 : Option AV) (x : Int32) (st : List AV) : VV 78 h 107 [l0, l1, l2, l3, l4, some (.inl x), l6] st Q ↔ VV 78 h 109 [l0, l1, l2, l3, l4, some (.inl x), l6] (.inl x :: st) Q := VV_step rfl rfl rfl rfl
theorem xr_78_109 (h : AHp) (Q : Option Int32 → AHp → Prop) (l0 l2 l3 l4 l5 l6 : Option AV) (x : Int32) (st : List AV) : VV 78 h 109 [l0, some (.inl x), l2, l3, l4, l5, l6] st Q ↔ VV 78 h 110 [l0, some (.inl x), l2, l3, l4, l5, l6] (.inl x :: st) Q := VV_step rfl rfl rfl rfl
theorem xr_78_110 (h : AHp) (Q : Option Int32 → AHp → Prop) (l0 l1 l2 l3 l4 l5 l6 : Option AV) (x y : Int32) (st : List AV) : VV 78 h 110 [l0, l1, l2, l3, l4, l5, l6] (.inl y :: .inl x :: st) Q ↔ (x ≤ y → VV 78 h 118 [l0, l1, l2, l3, l4, l5, l6] st Q) ∧ (¬ (x ≤ y) → VV 78 h 113 [l0, l1, l2, l3, l4, l5, l6] st Q) := VV_br2 rfl rfl rfl decide_eq_true_iff
theorem xr_78_113 (h : AHp) (Q : Option Int32 → AHp → Prop) (l0 l1 l2 l3 l4 l6 : Option AV) (x : Int32) (st : List AV) : VV 78 h 113 [l0, l1, l2, l3, l4, some (.inl x), l6] st Q ↔ VV 78 h 115 [l0, l1, l2, l3, l4, some (.inl x), l6] (.inl x :: st) Q := VV_step rfl rfl rfl rfl
theorem xr_78_115 (h : AHp) (Q : Option Int32 → AHp → Prop) (l0 l1 l2 l3 l4 l5 l6 : Option AV) (st : List AV) : VV 78 h 115 [l0, l1, l2, l3, l4, l5, l6] st Q ↔ VV 78 h 119 [l0, l1, l2, l3, l4, l5, l6] st Q := VV_step rfl rfl rfl rfl
theorem xr_78_118 (h : AHp) (Q : Option Int32 → AHp → Prop) (l0 l2 l3 l4 l5 l6 : Option AV) (x : Int32) (st : List AV) : VV 78 h 118 [l0, some (.inl x), l2, l3, l4, l5, l6] st Q ↔ VV 78 h 119 [l0, some (.inl x), l2, l3, l4, l5, l6] (.inl x :: st) Q := VV_step rfl rfl rfl rfl
theorem xr_78_119 (h : AHp) (Q : Option Int32 → AHp → Prop) (l0 l1 l2 l3 l4 l5 l6 : Option AV) (x : Int32) (st : List AV) : VV 78 h 119 [l0, l1, l2, l3, l4, l5, l6] (.inl x :: st) Q ↔ VV 78 h 120 [l0, some (.inl x), l2, l3, l4, l5, l6] st Q := VV_step rfl rfl rfl rfl
theorem xr_78_120 (h : AHp) (Q : Option Int32 → AHp → Prop) (l0 l1 l3 l4 l5 l6 : Option AV) (x : Int32) (st : List AV) : VV 78 h 120 [l0, l1, some (.inl x), l3, l4, l5, l6] st Q ↔ VV 78 h 123 [l0, l1, some (.inl (x + (1 : Int32))), l3, l4, l5, l6] st Q := VV_step rfl rfl rfl rfl
theorem xr_78_123 (h : AHp) (Q : Option Int32 → AHp → Prop) (l0 l1 l2 l3 l4 l5 l6 : Option AV) (st : List AV) : VV 78 h 123 [l0, l1, l2, l3, l4, l5, l6] st Q ↔ VV 78 h 28 [l0, l1, l2, l3, l4, l5, l6] st Q := VV_step rfl rfl rfl rfl
theorem xr_78_126 (h : AHp) (Q : Option Int32 → AHp → Prop) (l0 l1 l2 l3 l4 l5 l6 : Option AV) (st : List AV) : VV 78 h 126 [l0, l1, l2, l3, l4, l5, l6] st Q ↔ VV 78 h 127 [l0, l1, l2, l3, l4, l5, l6] (.inl (0 : Int32) :: st) Q := VV_step rfl rfl rfl rfl
theorem xr_78_127 (h : AHp) (Q : Option Int32 → AHp → Prop) (l0 l1 l2 l3 l4 l5 l6 : Option AV) (x : Int32) (st : List AV) : VV 78 h 127 [l0, l1, l2, l3, l4, l5, l6] (.inl x :: st) Q ↔ VV 78 h 128 [l0, l1, some (.inl x), l3, l4, l5, l6] st Q := VV_step rfl rfl rfl rfl
theorem xr_78_128 (h : AHp) (Q : Option Int32 → AHp → Prop) (l0 l1 l3 l4 l5 l6 : Option AV) (x : Int32) (st : List AV) : VV 78 h 128 [l0, l1, some (.inl x), l3, l4, l5, l6] st Q ↔ VV 78 h 129 [l0, l1, some (.inl x), l3, l4, l5, l6] (.inl x :: st) Q := VV_step rfl rfl rfl rfl
theorem xr_78_129 (h : AHp) (Q : Option Int32 → AHp → Prop) (l1 l2 l3 l4 l5 l6 : Option AV) (x : Nat × Nat) (st : List AV) : VV 78 h 129 [some (.inr x), l1, l2, l3, l4, l5, l6] st Q ↔ VV 78 h 130 [some (.inr x), l1, l2, l3, l4, l5, l6] (.inr x :: st) Q := VV_step rfl rfl rfl rfl
theorem xr_78_130 (h : AHp) (Q : Option Int32 → AHp → Prop) (l0 l1 l2 l3 l4 l5 l6 : Option AV) (i : Nat) (st : List AV) : VV 78 h 130 [l0, l1, l2, l3, l4, l5, l6] (.inr (10, i) :: st) Q ↔ VV 78 h 133 [l0, l1, l2, l3, l4, l5, l6] (.inl (h 10 i 0) :: st) Q := VV_step rfl rfl rfl rfl
theorem xr_78_133 (h : AHp) (Q : Option Int32 → AHp → Prop) (l0 l1 l2 l3 l4 l5 l6 : Option AV) (x y : Int32) (st : List AV) : VV 78 h 133 [l0, l1, l2, l3, l4, l5, l6] (.inl y :: .inl x :: st) Q ↔ (y ≤ x → VV 78 h 353 [l0, l1, l2, l3, l4, l5, l6] st Q) ∧ (¬ (y ≤ x) → VV 78 h 136 [l0, l1, l2, l3, l4, l5, l6] st Q) := VV_br2 rfl rfl rfl decide_eq_true_iff
theorem xr_78_136 (h : AHp) (Q : Option Int32 → AHp → Prop) (l0 l1 l2 l3 l4 l5 l6 : Option AV) (st : List AV) : VV 78 h 136 [l0, l1, l2, l3, l4, l5, l6] st Q ↔ VV 78 h 137 [l0, l1, l2, l3, l4, l5, l6] (.inl (0 : Int32) :: st) Q := VV_step rfl rfl rfl rfl
theorem xr_78_137 (h : AHp) (Q : Option Int32 → AHp → Prop) (l0 l1 l2 l3 l4 l5 l6 : Option AV) (x : Int32) (st : List AV) : VV 78 h 137 [l0, l1, l2, l3, l4, l5, l6] (.inl x :: st) Q ↔ VV 78 h 138 [l0, l1, l2, some (.inl x), l4, l5, l6] st Q := VV_step rfl rfl rfl rfl
theorem xr_78_138 (h : AHp) (Q : Option Int32 → AHp → Prop) (l0 l1 l2 l3 l4 l5 l6 : Option AV) (st : List AV) : VV 78 h 138 [l0, l1, l2, l3, l4, l5, l6] st Q ↔ VV 78 h 139 [l0, l1, l2, l3, l4, l5, l6] (.inl (0 : Int32) :: st) Q := VV_step rfl rfl rfl rfl
theorem xr_78_139 (h : AHp) (Q : Option Int32 → AHp → Prop) (l0 l1 l2 l3 l4 l5 l6 : Option AV) (x : Int32) (st : List AV) : VV 78 h 139 [l0, l1, l2, l3, l4, l5, l6] (.inl x :: st) Q ↔ VV 78 h 141 [l0, l1, l2, l3, some (.inl x), l5, l6] st Q := VV_step rfl rfl rfl rfl
theorem xr_78_141 (h : AHp) (Q : Option Int32 → AHp → Prop) (l0 l1 l2 l3 l4 l5 l6 : Option AV) (st : List AV) : VV 78 h 141 [l0, l1, l2, l3, l4, l5, l6] st Q ↔ VV 78 h 142 [l0, l1, l2, l3, l4, l5, l6] (.inl (0 : Int32) :: st) Q := VV_step rfl rfl rfl rfl
theorem xr_78_142 (h : AHp) (Q : Option Int32 → AHp → Prop) (l0 l1 l2 l3 l4 l5 l6 : Option AV) (x : Int32) (st : List AV) : VV 78 h 142 [l0, l1, l2, l3, l4, l5, l6] (.inl x :: st) Q ↔ VV 78 h 144 [l0, l1, l2, l3, l4, some (.inl x), l6] st Q := VV_step rfl rfl rfl rfl
theorem xr_78_144 (h : AHp) (Q : Option Int32 → AHp → Prop) (l0 l1 l2 l3 l4 l6 : Option AV) (x : Int32) (st : List AV) : VV 78 h 144 [l0, l1, l2, l3, l4, some (.inl x), l6] st Q ↔ VV 78 h 146 [l0, l1, l2, l3, l4, some (.inl x), l6] (.inl x :: st) Q := VV_step rfl rfl rfl rfl
theorem xr_78_146 (h : AHp) (Q : Option Int32 → AHp → Prop) (l1 l2 l3 l4 l5 l6 : Option AV) (x : Nat × Nat) (st : List AV) : VV 78 h 146 [some (.inr x), l1, l2, l3, l4, l5, l6] st Q ↔ VV 78 h 147 [some (.inr x), l1, l2, l3, l4, l5, l6] (.inr x :: st) Q := VV_step rfl rfl rfl rfl
theorem xr_78_147 (h : AHp) (Q : Option Int32 → AHp → Prop) (l0 l1 l2 l3 l4 l5 l6 : Option AV) (i : Nat) (st : List AV) : VV 78 h 147 [l0, l1, l2, l3, l4, l5, l6] (.inr (10, i) :: st) Q ↔ VV 78 h 150 [l0, l1, l2, l3, l4, l5, l6] (.inl (h 10 i 6) :: st) Q := VV_step rfl rfl rfl rfl
theorem xr_78_150 (h : AHp) (Q : Option Int32 → AHp → Prop) (l0 l1 l2 l3 l4 l5 l6 : Option AV) (x y : Int32) (st : List AV) : VV 78 h 150 [l0, l1, l2, l3, l4, l5, l6] (.inl y :: .inl x :: st) Q ↔ (y ≤ x → VV 78 h 257 [l0, l1, l2, l3, l4, l5, l6] st Q) ∧ (¬ (y ≤ x) → VV 78 h 153 [l0, l1, l2, l3, l4, l5, l6] st Q) := VV_br2 rfl rfl rfl decide_eq_true_iff
theorem xr_78_153 (h : AHp) (Q : Option Int32 → AHp → Prop) (l1 l2 l3 l4 l5 l6 : Option AV) (x : Nat × Nat) (st : List AV) : VV 78 h 153 [some (.inr x), l1, l2, l3, l4, l5, l6] st Q ↔ VV 78 h 154 [some (.inr x), l1, l2, l3, l4, l5, l6] (.inr x :: st) Q := VV_step rfl rfl rfl rfl
theorem xr_78_154 (h : AHp) (Q : Option Int32 → AHp → Prop) (l0 l1 l2 l3 l4 l5 l6 : Option AV) (i : Nat) (st : List AV) : VV 78 h 154 [l0, l1, l2, l3, l4, l5, l6] (.inr (10, i) :: st) Q ↔ VV 78 h 157 [l0, l1, l2, l3, l4, l5, l6] (.inr (22, i) :: st) Q := VV_step rfl rfl rfl rfl
theorem xr_78_157 (h : AHp) (Q : Option Int32 → AHp → Prop) (l0 l1 l2 l3 l4 l5 l6 : Option AV) (st : List AV) : VV 78 h 157 [l0, l1, l2, l3, l4, l5, l6] st Q ↔ VV 78 h 159 [l0, l1, l2, l3, l4, l5, l6] (.inl (8 : Int32) :: st) Q := VV_step rfl rfl rfl rfl
theorem xr_78_159 (h : AHp) (Q : Option Int32 → AHp → Prop) (l0 l1 l2 l3 l4 l6 : Option AV) (x : Int32) (st : List AV) : VV 78 h 159 [l0, l1, l2, l3, l4, some (.inl x), l6] st Q ↔ VV 78 h 161 [l0, l1, l2, l3, l4, some (.inl x), l6] (.inl x :: st) Q := VV_step rfl rfl rfl rfl
theorem xr_78_161 (h : AHp) (Q : Option Int32 → AHp → Prop) (l0 l1 l2 l3 l4 l5 l6 : Option AV) (x y : Int32) (st : List AV) : VV 78 h 161 [l0, l1, l2, l3, l4, l5, l6] (.inl y :: .inl x :: st) Q ↔ VV 78 h 162 [l0, l1, l2, l3, l4, l5, l6] (.inl (x * y) :: st) Q := VV_step rfl rfl rfl rfl
theorem xr_78_162 (h : AHp) (Q : Option Int32 → AHp → Prop) (l0 l1 l3 l4 l5 l6 : Option AV) (x : Int32) (st : List AV) : VV 78 h 162 [l0, l1, some (.inl x), l3, l4, l5, l6] st Q ↔ VV 78 h 163 [l0, l1, some (.inl x), l3, l4, l5, l6] (.inl x :: st) Q := VV_step rfl rfl rfl rfl
theorem xr_78_163 (h : AHp) (Q : Option Int32 → AHp → Prop) (l0 l1 l2 l3 l4 l5 l6 : Option AV) (x y : Int32) (st : List AV) : VV 78 h 163 [l0, l1, l2, l3, l4, l5, l6] (.inl y :: .inl x :: st) Q ↔ VV 78 h 164 [l0, l1, l2, l3, l4, l5, l6] (.inl (x + y) :: st) Q := VV_step rfl rfl rfl rfl
theorem xr_78_164 (h : AHp) (Q : Option Int32 → AHp → Prop) (l0 l1 l2 l3 l4 l5 l6 : Option AV) (x : Int32) (k i : Nat) (st : List AV) : VV 78 h 164 [l0, l1, l2, l3, l4, l5, l6] (.inl x :: .inr (k, i) :: st) Q ↔ ix_z k x ∧ VV 78 h 165 [l0, l1, l2, l3, l4, l5, l6] (.inl (h k i x.toNatClampNeg) :: st) Q := VV_bald rfl
theorem xr_78_165 (h : AHp) (Q : Option Int32 → AHp → Prop) (l0 l1 l2 l3 l4 l5 l6 : Option AV) (x : Int32) (st : List AV) : VV 78 h 165 [l0, l1, l2, l3, l4, l5, l6] (.inl x :: st) Q ↔ (x = 0 → VV 78 h 171 [l0, l1, l2, l3, l4, l5, l6] st Q) ∧ (¬ (x = 0) → VV 78 h 168 [l0, l1, l2, l3, l4, l5, l6] st Q) := VV_br rfl rfl rfl decide_eq_true_iff
theorem xr_78_168 (h : AHp) (Q : Option Int32 → AHp → Prop) (l0 l1 l2 l3 l4 l5 l6 : Option AV) (st : List AV) : VV 78 h 168 [l0, l1, l2, l3, l4, l5, l6] st Q ↔ VV 78 h 251 [l0, l1, l2, l3, l4, l5, l6] st Q := VV_step rfl rfl rfl rfl
theorem xr_78_171 (h : AHp) (Q : Option Int32 → AHp → Prop) (l1 l2 l3 l4 l5 l6 : Option AV) (x : Nat × Nat) (st : List AV) : VV 78 h 171 [some (.inr x), l1, l2, l3, l4, l5, l6] st Q ↔ VV 78 h 172 [some (.inr x), l1, l2, l3, l4, l5, l6] (.inr x :: st) Q := VV_step rfl rfl rfl rfl
theorem xr_78_172 (h : AHp) (Q : Option Int32 → AHp → Prop) (l0 l1 l2 l3 l4 l5 l6 : Option AV) (i : Nat) (st : List AV) : VV 78 h 172 [l0, l1, l2, l3, l4, l5, l6] (.inr (10, i) :: st) Q ↔ VV 78 h 175 [l0, l1, l2, l3, l4, l5, l6] (.inr (19, i) :: st) Q := VV_step rfl rfl rfl rfl
theorem xr_78_175 (h : AHp) (Q : Option Int32 → AHp → Prop) (l0 l1 l2 l3 l4 l6 : Option AV) (x : Int32) (st : List AV) : VV 78 h 175 [l0, l1, l2, l3, l4, some (.inl x), l6] st Q ↔ VV 78 h 177 [l0, l1, l2, l3, l4, some (.inl x), l6] (.inl x :: st) Q := VV_step rfl rfl rfl rfl
theorem xr_78_177 (h : AHp) (Q : Option Int32 → AHp → Prop) (l0 l1 l2 l3 l4 l5 l6 : Option AV) (x : Int32) (k i : Nat) (st : List AV) : VV 78 h 177 [l0, l1, l2, l3, l4, l5, l6] (.inl x :: .inr (k, i) :: st) Q ↔ ix_i k x ∧ VV 78 h 178 [l0, l1, l2, l3, l4, l5, l6] (.inl (h k i x.toNatClampNeg) :: st) Q := VV_iald rfl
theorem xr_78_178 (h : AHp) (Q : Option Int32 → AHp → Prop) (l0 l1 l2 l3 l4 l5 l6 : Option AV) (st : List AV) : VV 78 h 178 [l0, l1, l2, l3, l4, l5, l6] st Q ↔ VV 78 h 179 [l0, l1, l2, l3, l4, l5, l6] (.inl (-1 : Int32) :: st) Q := VV_step rfl rfl rfl rfl
theorem xr_78_179 (h : AHp) (Q : Option Int32 → AHp → Prop) (l0 l1 l2 l3 l4 l5 l6 : Option AV) (x y : Int32) (st : List AV) : VV 78 h 179 [l0, l1, l2, l3, l4, l5, l6] (.inl y :: .inl x :: st) Q ↔ (x = y → VV 78 h 202 [l0, l1, l2, l3, l4, l5, l6] st Q) ∧ (¬ (x = y) → VV 78 h 182 [l0, l1, l2, l3, l4, l5, l6] st Q) := VV_br2 rfl rfl rfl decide_eq_true_iff
theorem xr_78_182 (h : AHp) (Q : Option Int32 → AHp → Prop) (l1 l2 l3 l4 l5 l6 : Option AV) (x : Nat × Nat) (st : List AV) : VV 78 h 182 [some (.inr x), l1, l2, l3, l4, l5, l6] st Q ↔ VV 78 h 183 [some (.inr x), l1, l2, l3, l4, l5, l6] (.inr x :: st) Q := VV_step rfl rfl rfl rfl
theorem xr_78_183 (h : AHp) (Q : Option Int32 → AHp → Prop) (l0 l1 l2 l3 l4 l5 l6 : Option AV) (i : Nat) (st : List AV) : VV 78 h 183 [l0, l1, l2, l3, l4, l5, l6] (.inr (10, i) :: st) Q ↔ VV 78 h 186 [l0, l1, l2, l3, l4, l5, l6] (.inr (12, i) :: st) Q := VV_step rfl rfl rfl rfl
theorem xr_78_186 (h : AHp) (Q : Option Int32 → AHp → Prop) (l1 l2 l3 l4 l5 l6 : Option AV) (x : Nat × Nat) (st : List AV) : VV 78 h 186 [some (.inr x), l1, l2, l3, l4, l5, l6] st Q ↔ VV 78 h 187 [some (.inr x), l1, l2, l3, l4, l5, l6] (.inr x :: st) Q := VV_step rfl rfl rfl rfl
theorem xr_78_187 (h : AHp) (Q : Option Int32 → AHp → Prop) (l0 l1 l2 l3 l4 l5 l6 : Option AV) (i : Nat) (st : List AV) : VV 78 h 187 [l0, l1, l2, l3, l4, l5, l6] (.inr (10, i) :: st) Q ↔ VV 78 h 190 [l0, l1, l2, l3, l4, l5, l6] (.inr (19, i) :: st) Q := VV_step rfl rfl rfl rfl
theorem xr_78_190 (h : AHp) (Q : Option Int32 → AHp → Prop) (l0 l1 l2 l3 l4 l6 : Option AV) (x : Int32) (st : List AV) : VV 78 h 190 [l0, l1, l2, l3, l4, some (.inl x), l6] st Q ↔ VV 78 h 192 [l0, l1, l2, l3, l4, some (.inl x), l6] (.inl x :: st) Q := VV_step rfl rfl rfl rfl
theorem xr_78_192 (h : AHp) (Q : Option Int32 → AHp → Prop) (l0 l1 l2 l3 l4 l5 l6 : Option AV) (x : Int32) (k i : Nat) (st : List AV) : VV 78 h 192 [l0, l1, l2, l3, l4, l5, l6] (.inl x :: .inr (k, i) :: st) Q ↔ ix_i k x ∧ VV 78 h 193 [l0, l1, l2, l3, l4, l5, l6] (.inl (h k i x.toNatClampNeg) :: st) Q := VV_iald rfl
theorem xr_78_193 (h : AHp) (Q : Option Int32 → AHp → Prop) (l0 l1 l2 l3 l4 l5 l6 : Option AV) (x : Int32) (k i : Nat) (st : List AV) : VV 78 h 193 [l0, l1, l2, l3, l4, l5, l6] (.inl x :: .inr (k, i) :: st) Q ↔ ix_i k x ∧ VV 78 h 194 [l0, l1, l2, l3, l4, l5, l6] (.inl (h k i x.toNatClampNeg) :: st) Q := VV_iald rfl
theorem xr_78_194 (h : AHp) (Q : Option Int32 → AHp → Prop) (l0 l1 l3 l4 l5 l6 : Option AV) (x : Int32) (st : List AV) : VV 78 h 194 [l0, l1, some (.inl x), l3, l4, l5, l6] st Q ↔ VV 78 h 195 [l0, l1, some (.inl x), l3, l4, l5, l6] (.inl x :: st) Q := VV_step rfl rfl rfl rfl
theorem xr_78_195 (h : AHp) (Q : Option Int32 → AHp → Prop) (l0 l1 l2 l3 l4 l5 l6 : Option AV) (x y : Int32) (st : List AV) : VV 78 h 195 [l0, l1, l2, l3, l4, l5, l6] (.inl y :: .inl x :: st) Q ↔ (¬ x = y → VV 78 h 202 [l0, l1, l2, l3, l4, l5, l6] st Q) ∧ (¬ (¬ x = y) → VV 78 h 198 [l0, l1, l2, l3, l4, l5, l6] st Q) := VV_br2 rfl rfl rfl decide_eq_true_iff
theorem xr_78_198 (h : AHp) (Q : Option Int32 → AHp → Prop) (l0 l1 l2 l3 l4 l5 l6 : Option AV) (st : List AV) : VV 78 h 198 [l0, l1, l2, l3, l4, l5, l6] st Q ↔ VV 78 h 199 [l0, l1, l2, l3, l4, l5, l6] (.inl (1 : Int32) :: st) Q := VV_step rfl rfl rfl rfl
theorem xr_78_199 (h : AHp) (Q : Option Int32 → AHp → Prop) (l0 l1 l2 l3 l4 l5 l6 : Option AV) (st : List AV) : VV 78 h 199 [l0, l1, l2, l3, l4, l5, l6] st Q ↔ VV 78 h 203 [l0, l1, l2, l3, l4, l5, l6] st Q := VV_step rfl rfl rfl rfl
theorem xr_78_202 (h : AHp) (Q : Option Int32 → AHp → Prop) (l0 l1 l2 l3 l4 l5 l6 : Option AV) (st : List AV) : VV 78 h 202 [l0, l1, l2, l3, l4, l5, l6] st Q ↔ VV 78 h 203 [l0, l1, l2, l3, l4, l5, l6] (.inl (0 : Int32) :: st) Q := VV_step rfl rfl rfl rfl
theorem xr_78_203 (h : AHp) (Q : Option Int32 → AHp → Prop) (l0 l1 l2 l3 l4 l5 l6 : Option AV) (x : Int32) (st : List AV) : VV 78 h 203 [l0, l1, l2, l3, l4, l5, l6] (.inl x :: st) Q ↔ VV 78 h 205 [l0, l1, l2, l3, l4, l5, some (.inl x)] st Q := VV_step rfl rfl rfl rfl
theorem xr_78_205 (h : AHp) (Q : Option Int32 → AHp → Prop) (l0 l1 l2 l4 l5 l6 : Option AV) (x : Int32) (st : List AV) : VV 78 h 205 [l0, l1, l2, some (.inl x), l4, l5, l6] st Q ↔ VV 78 h 206 [l0, l1, l2, some (.inl x), l4, l5, l6] (.inl x :: st) Q := VV_step rfl rfl rfl rfl
theorem xr_78_206 (h : AHp) (Q : Option Int32 → AHp → Prop) (l0 l1 l2 l3 l4 l5 : Option AV) (x : Int32) (st : List AV) : VV 78 h 206 [l0, l1, l2, l3, l4, l5, some (.inl x)] st Q ↔ VV 78 h 208 [l0, l1, l2, l3, l4, l5, some (.inl x)] (.inl x :: st) Q := VV_step rfl rfl rfl rfl
theorem xr_78_208 (h : AHp) (Q : Option Int32 → AHp → Prop) (l0 l1 l2 l3 l4 l5 l6 : Option AV) (x : Int32) (st : List AV) : VV 78 h 208 [l0, l1, l2, l3, l4, l5, l6] (.inl x :: st) Q ↔ (x = 0 → VV 78 h 225 [l0, l1, l2, l3, l4, l5, l6] st Q) ∧ (¬ (x = 0) → VV 78 h 211 [l0, l1, l2, l3, l4, l5, l6] st Q) := VV_br rfl rfl rfl decide_eq_true_iff
theorem xr_78_211 (h : AHp) (Q : Option Int32 → AHp → Prop) (l1 l2 l3 l4 l5 l6 : Option AV) (x : Nat × Nat) (st : List AV) : VV 78 h 211 [some (.inr x), l1, l2, l3, l4, l5, l6] st Q ↔ VV 78 h 212 [some (.inr x), l1, l2, l3, l4, l5, l6] (.inr x :: st) Q := VV_step rfl rfl rfl rfl
theorem xr_78_212 (h : AHp) (Q : Option Int32 → AHp → Prop) (l0 l1 l2 l3 l4 l6 : Option AV) (x : Int32) (st : List AV) : VV 78 h 212 [l0, l1, l2, l3, l4, some (.inl x), l6] st Q ↔ VV 78 h 214 [l0, l1, l2, l3, l4, some (.inl x), l6] (.inl x :: st) Q := VV_step rfl rfl rfl rfl
theorem xr_78_214 (h : AHp) (Q : Option Int32 → AHp → Prop) (l0 l1 l2 l3 l4 l5 l6 : Option AV) (a0 r0 : AV) (i : Nat) : VV 78 h 214 [l0, l1, l2, l3, l4, l5, l6] [a0, .inr (10, i), r0] Q ↔ Vi 73 h [some (.inr (10, i)), some a0] (fun z h2 => VV 78 h2 217 [l0, l1, l2, l3, l4, l5, l6] [.inl z, r0] Q) := VV_calli (y := 73) (as := [.inr (10, i), a0]) (rest := [r0]) rfl rfl rfl (ah_noV (y := 73) (by decide))
theorem xr_78_217 (h : AHp) (Q : Option Int32 → AHp → Prop) (l1 l2 l3 l4 l5 l6 : Option AV) (x : Nat × Nat) (st : List AV) : VV 78 h 217 [some (.inr x), l1, l2, l3, l4, l5, l6] st Q ↔ VV 78 h 218 [some (.inr x), l1, l2, l3, l4, l5, l6] (.inr x :: st) Q := VV_step rfl rfl rfl rfl
theorem xr_78_218 (h : AHp) (Q : Option Int32 → AHp → Prop) (l0 l1 l2 l3 l4 l5 l6 : Option AV) (i : Nat) (st : List AV) : VV 78 h 218 [l0, l1, l2, l3, l4, l5, l6] (.inr (10, i) :: st) Q ↔ VV 78 h 221 [l0, l1, l2, l3, l4, l5, l6] (.inl (h 10 i 17) :: st) Q := VV_step rfl rfl rfl rfl
theorem xr_78_221 (h : AHp) (Q : Option Int32 → AHp → Prop) (l0 l1 l2 l3 l4 l5 l6 : Option AV) (x y : Int32) (st : List AV) : VV 78 h 221 [l0, l1, l2, l3, l4, l5, l6] (.inl y :: .inl x :: st) Q ↔ VV 78 h 222 [l0, l1, l2, l3, l4, l5, l6] (.inl (x - y) :: st) Q := VV_step rfl rfl rfl rfl
theorem xr_78_222 (h : AHp) (Q : Option Int32 → AHp → Prop) (l0 l1 l2 l3 l4 l5 l6 : Option AV) (st : List AV) : VV 78 h 222 [l0, l1, l2, l3, l4, l5, l6] st Q ↔ VV 78 h 232 [l0, l1, l2, l3, l4, l5, l6] st Q := VV_step rfl rfl rfl rfl
theorem xr_78_225 (h : AHp) (Q : Option Int32 → AHp → Prop) (l1 l2 l3 l4 l5 l6 : Option AV) (x : Nat × Nat) (st : List AV) : VV 78 h 225 [some (.inr x), l1, l2, l3, l4, l5, l6] st Q ↔ VV 78 h 226 [some (.inr x), l1, l2, l3, l4, l5, l6] (.inr x :: st) Q := VV_step rfl rfl rfl rfl
theorem xr_78_226 (h : AHp) (Q : Option Int32 → AHp → Prop) (l0 l1 l2 l3 l4 l5 l6 : Option AV) (i : Nat) (st : List AV) : VV 78 h 226 [l0, l1, l2, l3, l4, l5, l6] (.inr (10, i) :: st) Q ↔ VV 78 h 229 [l0, l1, l2, l3, l4, l5, l6] (.inr (17, i) :: st) Q := VV_step rfl rfl rfl rfl
theorem xr_78_229 (h : AHp) (Q : Option Int32 → AHp → Prop) (l0 l1 l2 l3 l4 l6 : Option AV) (x : Int32) (st : List AV) : VV 78 h 229 [l0, l1, l2, l3, l4, some (.inl x), l6] st Q ↔ VV 78 h 231 [l0, l1, l2, l3, l4, some (.inl x), l6] (.inl x :: st) Q := VV_step rfl rfl rfl rfl
theorem xr_78_231 (h : AHp) (Q : Option Int32 → AHp → Prop) (l0 l1 l2 l3 l4 l5 l6 : Option AV) (x : Int32) (k i : Nat) (st : List AV) : VV 78 h 231 [l0, l1, l2, l3, l4, l5, l6] (.inl x :: .inr (k, i) :: st) Q ↔ ix_i k x ∧ VV 78 h 232 [l0, l1, l2, l3, l4, l5, l6] (.inl (h k i x.toNatClampNeg) :: st) Q := VV_iald rfl
theorem xr_78_232 (h : AHp) (Q : Option Int32 → AHp → Prop) (l0 l1 l2 l3 l4 l5 l6 : Option AV) (x y : Int32) (st : List AV) : VV 78 h 232 [l0, l1, l2, l3, l4, l5, l6] (.inl y :: .inl x :: st) Q ↔ VV 78 h 233 [l0, l1, l2, l3, l4, l5, l6] (.inl (x + y) :: st) Q := VV_step rfl rfl rfl rfl
theorem xr_78_233 (h : AHp) (Q : Option Int32 → AHp → Prop) (l0 l1 l2 l3 l4 l5 l6 : Option AV) (x : Int32) (st : List AV) : VV 78 h 233 [l0, l1, l2, l3, l4, l5, l6] (.inl x :: st) Q ↔ VV 78 h 234 [l0, l1, l2, some (.inl x), l4, l5, l6] st Q := VV_step rfl rfl rfl rfl
theorem xr_78_234 (h : AHp) (Q : Option Int32 → AHp → Prop) (l0 l1 l2 l3 l5 l6 : Option AV) (x : Int32) (st : List AV) : VV 78 h 234 [l0, l1, l2, l3, some (.inl x), l5, l6] st Q ↔ VV 78 h 236 [l0, l1, l2, l3, some (.inl x), l5, l6] (.inl x :: st) Q := VV_step rfl rfl rfl rfl
theorem xr_78_236 (h : AHp) (Q : Option Int32 → AHp → Prop) (l0 l1 l2 l3 l4 l5 l6 : Option AV) (x : Int32) (st : List AV) : VV 78 h 236 [l0, l1, l2, l3, l4, l5, l6] (.inl x :: st) Q ↔ (¬ x = 0 → VV 78 h 244 [l0, l1, l2, l3, l4, l5, l6] st Q) ∧ (¬ (¬ x = 0) → VV 78 h 239 [l0, l1, l2, l3, l4, l5, l6] st Q) := VV_br rfl rfl rfl decide_eq_true_iff
theorem xr_78_239 (h : AHp) (Q : Option Int32 → AHp → Prop) (l0 l1 l2 l3 l4 l5 : Option AV) (x : Int32) (st : List AV) : VV 78 h 239 [l0, l1, l2, l3, l4, l5, some (.inl x)] st Q ↔ VV 78 h 241 [l0, l1, l2, l3, l4, l5, some (.inl x)] (.inl x :: st) Q := VV_step rfl rfl rfl rfl
theorem xr_78_241 (h : AHp) (Q : Option Int32 → AHp → Prop) (l0 l1 l2 l3 l4 l5 l6 : Option AV) (x : Int32) (st : List AV) : VV 78 h 241 [l0, l1, l2, l3, l4, l5, l6] (.inl x :: st) Q ↔ (¬ x = 0 → VV 78 h 248 [l0, l1, l2, l3, l4, l5, l6] st Q) ∧ (¬ (¬ x = 0) → VV 78 h 244 [l0, l1, l2, l3, l4, l5, l6] st Q) := VV_br rfl rfl rfl decide_eq_true_iff
theorem xr_78_244 (h : AHp) (Q : Option Int32 → AHp → Prop) (l0 l1 l2 l3 l4 l5 l6 : Option AV) (st : List AV) : VV 78 h 244 [l0, l1, l2, l3, l4, l5, l6] st Q ↔ VV 78 h 245 [l0, l1, l2, l3, l4, l5, l6] (.inl (1 : Int32) :: st) Q := VV_step rfl rfl rfl rfl
theorem xr_78_245 (h : AHp) (Q : Option Int32 → AHp → Prop) (l0 l1 l2 l3 l4 l5 l6 : Option AV) (st : List AV) : VV 78 h 245 [l0, l1, l2, l3, l4, l5, l6] st Q ↔ VV 78 h 249 [l0, l1, l2, l3, l4, l5, l6] st Q := VV_step rfl rfl rfl rfl
theorem xr_78_248 (h : AHp) (Q : Option Int32 → AHp → Prop) (l0 l1 l2 l3 l4 l5 l6 : Option AV) (st : List AV) : VV 78 h 248 [l0, l1, l2, l3, l4, l5, l6] st Q ↔ VV 78 h 249 [l0, l1, l2, l3, l4, l5, l6] (.inl (0 : Int32) :: st) Q := VV_step rfl rfl rfl rfl
theorem xr_78_249 (h : AHp) (Q : Option Int32 → AHp → Prop) (l0 l1 l2 l3 l4 l5 l6 : Option AV) (x : Int32) (st : List AV) : VV 78 h 249 [l0, l1, l2, l3, l4, l5, l6] (.inl x :: st) Q ↔ VV 78 h 251 [l0, l1, l2, l3, some (.inl x), l5, l6] st Q := VV_step rfl rfl rfl rfl
theorem xr_78_251 (h : AHp) (Q : Option Int32 → AHp → Prop) (l0 l1 l2 l3 l4 l6 : Option AV) (x : Int32) (st : List AV) : VV 78 h 251 [l0, l1, l2, l3, l4, some (.inl x), l6] st Q ↔ VV 78 h 254 [l0, l1, l2, l3, l4, some (.inl (x + (1 : Int32))), l6] st Q := VV_step rfl rfl rfl rfl
theorem xr_78_254 (h : AHp) (Q : Option Int32 → AHp → Prop) (l0 l1 l2 l3 l4 l5 l6 : Option AV) (st : List AV) : VV 78 h 254 [l0, l1, l2, l3, l4, l5, l6] st Q ↔ VV 78 h 144 [l0, l1, l2, l3, l4, l5, l6] st Q := VV_step rfl rfl rfl rfl
theorem xr_78_257 (h : AHp) (Q : Option Int32 → AHp → Prop) (l0 l1 l2 l3 l4 l5 l6 : Option AV) (st : List AV) : VV 78 h 257 [l0, l1, l2, l3, l4, l5, l6] st Q ↔ VV 78 h 258 [l0, l1, l2, l3, l4, l5, l6] (.inl (0 : Int32) :: st) Q := VV_step rfl rfl rfl rfl
theorem xr_78_258 (h : AHp) (Q : Option Int32 → AHp → Prop) (l0 l1 l2 l3 l4 l5 l6 : Option AV) (x : Int32) (st : List AV) : VV 78 h 258 [l0, l1, l2, l3, l4, l5, l6] (.inl x :: st) Q ↔ VV 78 h 260 [l0, l1, l2, l3, l4, some (.inl x), l6] st Q := VV_step rfl rfl rfl rfl
theorem xr_78_260 (h : AHp) (Q : Option Int32 → AHp → Prop) (l0 l1 l2 l3 l4 l5 l6 : Option AV) (st : List AV) : VV 78 h 260 [l0, l1, l2, l3, l4, l5, l6] st Q ↔ VV 78 h 261 [l0, l1, l2, l3, l4, l5, l6] (.inl (0 : Int32) :: st) Q := VV_step rfl rfl rfl rfl
theorem xr_78_261 (h : AHp) (Q : Option Int32 → AHp → Prop) (l0 l1 l2 l3 l4 l5 l6 : Option AV) (x : Int32) (st : List AV) : VV 78 h 261 [l0, l1, l2, l3, l4, l5, l6] (.inl x :: st) Q ↔ VV 78 h 263 [l0, l1, l2, l3, l4, l5, some (.inl x)] st Q := VV_step rfl rfl rfl rfl
theorem xr_78_263 (h : AHp) (Q : Option Int32 → AHp → Prop) (l0 l1 l2 l3 l4 l5 : Option AV) (x : Int32) (st : List AV) : VV 78 h 263 [l0, l1, l2, l3, l4, l5, some (.inl x)] st Q ↔ VV 78 h 265 [l0, l1, l2, l3, l4, l5, some (.inl x)] (.inl x :: st) Q := VV_step rfl rfl rfl rfl
theorem xr_78_265 (h : AHp) (Q : Option Int32 → AHp → Prop) (l1 l2 l3 l4 l5 l6 : Option AV) (x : Nat × Nat) (st : List AV) : VV 78 h 265 [some (.inr x), l1, l2, l3, l4, l5, l6] st Q ↔ VV 78 h 266 [some (.inr x), l1, l2, l3, l4, l5, l6] (.inr x :: st) Q := VV_step rfl rfl rfl rfl
theorem xr_78_266 (h : AHp) (Q : Option Int32 → AHp → Prop) (l0 l1 l2 l3 l4 l5 l6 : Option AV) (i : Nat) (st : List AV) : VV 78 h 266 [l0, l1, l2, l3, l4, l5, l6] (.inr (10, i) :: st) Q ↔ VV 78 h 269 [l0, l1, l2, l3, l4, l5, l6] (.inl (h 10 i 1) :: st) Q := VV_step rfl rfl rfl rfl
theorem xr_78_269 (h : AHp) (Q : Option Int32 → AHp → Prop) (l0 l1 l2 l3 l4 l5 l6 : Option AV) (x y : Int32) (st : List AV) : VV 78 h 269 [l0, l1, l2, l3, l4, l5, l6] (.inl y :: .inl x :: st) Q ↔ (y ≤ x → VV 78 h 299 [l0, l1, l2, l3, l4, l5, l6] st Q) ∧ (¬ (y ≤ x) → VV 78 h 272 [l0, l1, l2, l3, l4, l5, l6] st Q) := VV_br2 rfl rfl rfl decide_eq_true_iff
theorem xr_78_272 (h : AHp) (Q : Option Int32 → AHp → Prop) (l0 l1 l2 l3 l4 l6 : Option AV) (x : Int32) (st : List AV) : VV 78 h 272 [l0, l1, l2, l3, l4, some (.inl x), l6] st Q ↔ VV 78 h 274 [l0, l1, l2, l3, l4, some (.inl x), l6] (.inl x :: st) Q := VV_step rfl rfl rfl rfl
theorem xr_78_274 (h : AHp) (Q : Option Int32 → AHp → Prop) (l1 l2 l3 l4 l5 l6 : Option AV) (x : Nat × Nat) (st : List AV) : VV 78 h 274 [some (.inr x), l1, l2, l3, l4, l5, l6] st Q ↔ VV 78 h 275 [some (.inr x), l1, l2, l3, l4, l5, l6] (.inr x :: st) Q := VV_step rfl rfl rfl rfl
theorem xr_78_275 (h : AHp) (Q : Option Int32 → AHp → Prop) (l0 l1 l2 l3 l4 l5 l6 : Option AV) (i : Nat) (st : List AV) : VV 78 h 275 [l0, l1, l2, l3, l4, l5, l6] (.inr (10, i) :: st) Q ↔ VV 78 h 278 [l0, l1, l2, l3, l4, l5, l6] (.inr (12, i) :: st) Q := VV_step rfl rfl rfl rfl
theorem xr_78_278 (h : AHp) (Q : Option Int32 → AHp → Prop) (l0 l1 l2 l3 l4 l5 : Option AV) (x : Int32) (st : List AV) : VV 78 h 278 [l0, l1, l2, l3, l4, l5, some (.inl x)] st Q ↔ VV 78 h 280 [l0, l1, l2, l3, l4, l5, some (.inl x)] (.inl x :: st) Q := VV_step rfl rfl rfl rfl
theorem xr_78_280 (h : AHp) (Q : Option Int32 → AHp → Prop) (l0 l1 l2 l3 l4 l5 l6 : Option AV) (x : Int32) (k i : Nat) (st : List AV) : VV 78 h 280 [l0, l1, l2, l3, l4, l5, l6] (.inl x :: .inr (k, i) :: st) Q ↔ ix_i k x ∧ VV 78 h 281 [l0, l1, l2, l3, l4, l5, l6] (.inl (h k i x.toNatClampNeg) :: st) Q := VV_iald rfl
theorem xr_78_281 (h : AHp) (Q : Option Int32 → AHp → Prop) (l0 l1 l3 l4 l5 l6 : Option AV) (x : Int32) (st : List AV) : VV 78 h 281 [l0, l1, some (.inl x), l3, l4, l5, l6] st Q ↔ VV 78 h 282 [l0, l1, some (.inl x), l3, l4, l5, l6] (.inl x :: st) Q := VV_step rfl rfl rfl rfl
theorem xr_78_282 (h : AHp) (Q : Option Int32 → AHp → Prop) (l0 l1 l2 l3 l4 l5 l6 : Option AV) (x y : Int32) (st : List AV) : VV 78 h 282 [l0, l1, l2, l3, l4, l5, l6] (.inl y :: .inl x :: st) Q ↔ (¬ x = y → VV 78 h 289 [l0, l1, l2, l3, l4, l5, l6] st Q) ∧ (¬ (¬ x = y) → VV 78 h 285 [l0, l1, l2, l3, l4, l5, l6] st Q) := VV_br2 rfl rfl rfl decide_eq_true_iff
theorem xr_78_285 (h : AHp) (Q : Option Int32 → AHp → Prop) (l0 l1 l2 l3 l4 l5 l6 : Option AV) (st : List AV) : VV 78 h 285 [l0, l1, l2, l3, l4, l5, l6] st Q ↔ VV 78 h 286 [l0, l1, l2, l3, l4, l5, l6] (.inl (1 : Int32) :: st) Q := VV_step rfl rfl rfl rfl
theorem xr_78_286 (h : AHp) (Q : Option Int32 → AHp → Prop) (l0 l1 l2 l3 l4 l5 l6 : Option AV) (st : List AV) : VV 78 h 286 [l0, l1, l2, l3, l4, l5, l6] st Q ↔ VV 78 h 290 [l0, l1, l2, l3, l4, l5, l6] st Q := VV_step rfl rfl rfl rfl
theorem xr_78_289 (h : AHp) (Q : Option Int32 → AHp → Prop) (l0 l1 l2 l3 l4 l5 l6 : Option AV) (st : List AV) : VV 78 h 289 [l0, l1, l2, l3, l4, l5, l6] st Q ↔ VV 78 h 290 [l0, l1, l2, l3, l4, l5, l6] (.inl (0 : Int32) :: st) Q := VV_step rfl rfl rfl rfl
theorem xr_78_290 (h : AHp) (Q : Option Int32 → AHp → Prop) (l0 l1 l2 l3 l4 l5 l6 : Option AV) (x y : Int32) (st : List AV) : VV 78 h 290 [l0, l1, l2, l3, l4, l5, l6] (.inl y :: .inl x :: st) Q ↔ VV 78 h 291 [l0, l1, l2, l3, l4, l5, l6] (.inl (x + y) :: st) Q := VV_step rfl rfl rfl rfl
theorem xr_78_291 (h : AHp) (Q : Option Int32 → AHp → Prop) (l0 l1 l2 l3 l4 l5 l6 : Option AV) (x : Int32) (st : List AV) : VV 78 h 291 [l0, l1, l2, l3, l4, l5, l6] (.inl x :: st) Q ↔ VV 78 h 293 [l0, l1, l2, l3, l4, some (.inl x), l6] st Q := VV_step rfl rfl rfl rfl
theorem xr_78_293 (h : AHp) (Q : Option Int32 → AHp → Prop) (l0 l1 l2 l3 l4 l5 : Option AV) (x : Int32) (st : List AV) : VV 78 h 293 [l0, l1, l2, l3, l4, l5, some (.inl x)] st Q ↔ VV 78 h 296 [l0, l1, l2, l3, l4, l5, some (.inl (x + (1 : Int32)))] st Q := VV_step rfl rfl rfl rfl
theorem xr_78_296 (h : AHp) (Q : Option Int32 → AHp → Prop) (l0 l1 l2 l3 l4 l5 l6 : Option AV) (st : List AV) : VV 78 h 296 [l0, l1, l2, l3, l4, l5, l6] st Q ↔ VV 78 h 263 [l0, l1, l2, l3, l4, l5, l6] st Q := VV_step rfl rfl rfl rfl
theorem xr_78_299 (h : AHp) (Q : Option Int32 → AHp → Prop) (l0 l1 l2 l3 l4 l6 : Option AV) (x : Int32) (st : List AV) : VV 78 h 299 [l0, l1, l2, l3, l4, some (.inl x), l6] st Q ↔ VV 78 h 301 [l0, l1, l2, l3, l4, some (.inl x), l6] (.inl x :: st) Q := VV_step rfl rfl rfl rfl
theorem xr_78_301 (h : AHp) (Q : Option Int32 → AHp → Prop) (l0 l1 l2 l3 l4 l5 l6 : Option AV) (x : Int32) (st : List AV) : VV 78 h 301 [l0, l1, l2, l3, l4, l5, l6] (.inl x :: st) Q ↔ (¬ x = 0 → VV 78 h 311 [l0, l1, l2, l3, l4, l5, l6] st Q) ∧ (¬ (¬ x = 0) → VV 78 h 304 [l0, l1, l2, l3, l4, l5, l6] st Q) := VV_br rfl rfl rfl decide_eq_true_iff
theorem xr_78_304 (h : AHp) (Q : Option Int32 → AHp → Prop) (l0 l1 l2 l3 l5 l6 : Option AV) (x : Int32) (st : List AV) : VV 78 h 304 [l0, l1, l2, l3, some (.inl x), l5, l6] st Q ↔ VV 78 h 306 [l0, l1, l2, l3, some (.inl x), l5, l6] (.inl x :: st) Q := VV_step rfl rfl rfl rfl
theorem xr_78_306 (h : AHp) (Q : Option Int32 → AHp → Prop) (l0 l1 l2 l3 l4 l5 l6 : Option AV) (x : Int32) (st : List AV) : VV 78 h 306 [l0, l1, l2, l3, l4, l5, l6] (.inl x :: st) Q ↔ (x = 0 → VV 78 h 311 [l0, l1, l2, l3, l4, l5, l6] st Q) ∧ (¬ (x = 0) → VV 78 h 309 [l0, l1, l2, l3, l4, l5, l6] st Q) := VV_br rfl rfl rfl decide_eq_true_iff
theorem xr_78_309 (h : AHp) (Q : Option Int32 → AHp → Prop) (l0 l1 l2 l3 l4 l5 l6 : Option AV) (st : List AV) : VV 78 h 309 [l0, l1, l2, l3, l4, l5, l6] st Q ↔ VV 78 h 310 [l0, l1, l2, l3, l4, l5, l6] (.inl (-1 : Int32) :: st) Q := VV_step rfl rfl rfl rfl
theorem xr_78_310 (h : AHp) (Q : Option Int32 → AHp → Prop) (l0 l1 l2 l3 l4 l5 l6 : Option AV) (x : Int32) : VV 78 h 310 [l0, l1, l2, l3, l4, l5, l6] [.inl x] Q ↔ Q (some x) h := VV_end rfl rfl
theorem xr_78_311 (h : AHp) (Q : Option Int32 → AHp → Prop) (l0 l1 l2 l4 l5 l6 : Option AV) (x : Int32) (st : List AV) : VV 78 h 311 [l0, l1, l2, some (.inl x), l4, l5, l6] st Q ↔ VV 78 h 312 [l0, l1, l2, some (.inl x), l4, l5, l6] (.inl x :: st) Q := VV_step rfl rfl rfl rfl
theorem xr_78_312 (h : AHp) (Q : Option Int32 → AHp → Prop) (l0 l1 l2 l3 l4 l5 l6 : Option AV) (x : Int32) (st : List AV) : VV 78 h 312 [l0, l1, l2, l3, l4, l5, l6] (.inl x :: st) Q ↔ (¬ x = 0 → VV 78 h 318 [l0, l1, l2, l3, l4, l5, l6] st Q) ∧ (¬ (¬ x = 0) → VV 78 h 315 [l0, l1, l2, l3, l4, l5, l6] st Q) := VV_br rfl rfl rfl decide_eq_true_iff
theorem xr_78_315 (h : AHp) (Q : Option Int32 → AHp → Prop) (l0 l1 l2 l3 l4 l5 l6 : Option AV) (st : List AV) : VV 78 h 315 [l0, l1, l2, l3, l4, l5, l6] st Q ↔ VV 78 h 347 [l0, l1, l2, l3, l4, l5, l6] st Q := VV_step rfl rfl rfl rfl
theorem xr_78_318 (h : AHp) (Q : Option Int32 → AHp → Prop) (l1 l2 l3 l4 l5 l6 : Option AV) (x : Nat × Nat) (st : List AV) : VV 78 h 318 [some (.inr x), l1, l2, l3, l4, l5, l6] st Q ↔ VV 78 h 319 [some (.inr x), l1, l2, l3, l4, l5, l6] (.inr x :: st) Q := VV_step rfl rfl rfl rfl
theorem xr_78_319 (h : AHp) (Q : Option Int32 → AHp → Prop) (l0 l1 l2 l3 l4 l5 l6 : Option AV) (i : Nat) (st : List AV) : VV 78 h 319 [l0, l1, l2, l3, l4, l5, l6] (.inr (10, i) :: st) Q ↔ VV 78 h 322 [l0, l1, l2, l3, l4, l5, l6] (.inl (h 10 i 17) :: st) Q := VV_step rfl rfl rfl rfl
theorem xr_78_322 (h : AHp) (Q : Option Int32 → AHp → Prop) (l0 l1 l2 l4 l5 l6 : Option AV) (x : Int32) (st : List AV) : VV 78 h 322 [l0, l1, l2, some (.inl x), l4, l5, l6] st Q ↔ VV 78 h 323 [l0, l1, l2, some (.inl x), l4, l5, l6] (.inl x :: st) Q := VV_step rfl rfl rfl rfl
theorem xr_78_323 (h : AHp) (Q : Option Int32 → AHp → Prop) (l0 l1 l2 l3 l4 l6 : Option AV) (x : Int32) (st : List AV) : VV 78 h 323 [l0, l1, l2, l3, l4, some (.inl x), l6] st Q ↔ VV 78 h 325 [l0, l1, l2, l3, l4, some (.inl x), l6] (.inl x :: st) Q := VV_step rfl rfl rfl rfl
theorem xr_78_325 (h : AHp) (Q : Option Int32 → AHp → Prop) (l0 l1 l2 l3 l4 l5 l6 : Option AV) (x y : Int32) (st : List AV) : VV 78 h 325 [l0, l1, l2, l3, l4, l5, l6] (.inl y :: .inl x :: st) Q ↔ VV 78 h 326 [l0, l1, l2, l3, l4, l5, l6] (.inl (x + y) :: st) Q := VV_step rfl rfl rfl rfl
theorem xr_78_326 (h : AHp) (Q : Option Int32 → AHp → Prop) (l0 l1 l2 l3 l4 l5 l6 : Option AV) (st : List AV) : VV 78 h 326 [l0, l1, l2, l3, l4, l5, l6] st Q ↔ VV 78 h 327 [l0, l1, l2, l3, l4, l5, l6] (.inl (1 : Int32) :: st) Q := VV_step rfl rfl rfl rfl
theorem xr_78_327 (h : AHp) (Q : Option Int32 → AHp → Prop) (l0 l1 l2 l3 l4 l5 l6 : Option AV) (x y : Int32) (st : List AV) : VV 78 h 327 [l0, l1, l2, l3, l4, l5, l6] (.inl y :: .inl x :: st) Q ↔ VV 78 h 328 [l0, l1, l2, l3, l4, l5, l6] (.inl (x - y) :: st) Q := VV_step rfl rfl rfl rfl
theorem xr_78_328 (h : AHp) (Q : Option Int32 → AHp → Prop) (l0 l1 l2 l3 l4 l6 : Option AV) (x : Int32) (st : List AV) : VV 78 h 328 [l0, l1, l2, l3, l4, some (.inl x), l6] st Q ↔ VV 78 h 330 [l0, l1, l2, l3, l4, some (.inl x), l6] (.inl x :: st) Q := VV_step rfl rfl rfl rfl
theorem xr_78_330 (h : AHp) (Q : Option Int32 → AHp → Prop) (l0 l1 l2 l3 l4 l5 l6 : Option AV) (x y : Int32) (st : List AV) : VV 78 h 330 [l0, l1, l2, l3, l4, l5, l6] (.inl y :: .inl x :: st) Q ↔ ¬ y = 0 ∧ VV 78 h 331 [l0, l1, l2, l3, l4, l5, l6] (.inl (x / y) :: st) Q := VV_idiv rfl
theorem xr_78_331 (h : AHp) (Q : Option Int32 → AHp → Prop) (l0 l1 l2 l3 l4 l5 l6 : Option AV) (x y : Int32) (st : List AV) : VV 78 h 331 [l0, l1, l2, l3, l4, l5, l6] (.inl y :: .inl x :: st) Q ↔ VV 78 h 332 [l0, l1, l2, l3, l4, l5, l6] (.inl (x + y) :: st) Q := VV_step rfl rfl rfl rfl
theorem xr_78_332 (h : AHp) (Q : Option Int32 → AHp → Prop) (l0 l1 l2 l3 l4 l5 l6 : Option AV) (x : Int32) (st : List AV) : VV 78 h 332 [l0, l1, l2, l3, l4, l5, l6] (.inl x :: st) Q ↔ VV 78 h 334 [l0, l1, l2, l3, l4, l5, some (.inl x)] st Q := VV_step rfl rfl rfl rfl
theorem xr_78_334 (h : AHp) (Q : Option Int32 → AHp → Prop) (l0 l1 l2 l3 l4 l5 : Option AV) (x : Int32) (st : List AV) : VV 78 h 334 [l0, l1, l2, l3, l4, l5, some (.inl x)] st Q ↔ VV 78 h 336 [l0, l1, l2, l3, l4, l5, some (.inl x)] (.inl x :: st) Q := VV_step rfl rfl rfl rfl
theorem xr_78_336 (h : AHp) (Q : Option Int32 → AHp → Prop) (l0 l2 l3 l4 l5 l6 : Option AV) (x : Int32) (st : List AV) : VV 78 h 336 [l0, some (.inl x), l2, l3, l4, l5, l6] st Q ↔ VV 78 h 337 [l0, some (.inl x), l2, l3, l4, l5, l6] (.inl x :: st) Q := VV_step rfl rfl rfl rfl
theorem xr_78_337 (h : AHp) (Q : Option Int32 → AHp → Prop) (l0 l1 l2 l3 l4 l5 l6 : Option AV) (x y : Int32) (st : List AV) : VV 78 h 337 [l0, l1, l2, l3, l4, l5, l6] (.inl y :: .inl x :: st) Q ↔ (x ≤ y → VV 78 h 345 [l0, l1, l2, l3, l4, l5, l6] st Q) ∧ (¬ (x ≤ y) → VV 78 h 340 [l0, l1, l2, l3, l4, l5, l6] st Q) := VV_br2 rfl rfl rfl decide_eq_true_iff
theorem xr_78_340 (h : AHp) (Q : Option Int32 → AHp → Prop) (l0 l1 l2 l3 l4 l5 : Option AV) (x : Int32) (st : List AV) : VV 78 h 340 [l0, l1, l2, l3, l4, l5, some (.inl x)] st Q ↔ VV 78 h 342 [l0, l1, l2, l3, l4, l5, some (.inl x)] (.inl x :: st) Q := VV_step rfl rfl rfl rfl
theorem xr_78_342 (h : AHp) (Q : Option Int32 → AHp → Prop) (l0 l1 l2 l3 l4 l5 l6 : Option AV) (st : List AV) : VV 78 h 342 [l0, l1, l2, l3, l4, l5, l6] st Q ↔ VV 78 h 346 [l0, l1, l2, l3, l4, l5, l6] st Q := VV_step rfl rfl rfl rfl
theorem xr_78_345 (h : AHp) (Q : Option Int32 → AHp → Prop) (l0 l2 l3 l4 l5 l6 : Option AV) (x : Int32) (st : List AV) : VV 78 h 345 [l0, some (.inl x), l2, l3, l4, l5, l6] st Q ↔ VV 78 h 346 [l0, some (.inl x), l2, l3, l4, l5, l6] (.inl x :: st) Q := VV_step rfl rfl rfl rfl
theorem xr_78_346 (h : AHp) (Q : Option Int32 → AHp → Prop) (l0 l1 l2 l3 l4 l5 l6 : Option AV) (x : Int32) (st : List AV) : VV 78 h 346 [l0, l1, l2, l3, l4, l5, l6] (.inl x :: st) Q ↔ VV 78 h 347 [l0, some (.inl x), l2, l3, l4, l5, l6] st Q := VV_step rfl rfl rfl rfl
theorem xr_78_347 (h : AHp) (Q : Option Int32 → AHp → Prop) (l0 l1 l3 l4 l5 l6 : Option AV) (x : Int32) (st : List AV) : VV 78 h 347 [l0, l1, some (.inl x), l3, l4, l5, l6] st Q ↔ VV 78 h 350 [l0, l1, some (.inl (x + (1 : Int32))), l3, l4, l5, l6] st Q := VV_step rfl rfl rfl rfl
theorem xr_78_350 (h : AHp) (Q : Option Int32 → AHp → Prop) (l0 l1 l2 l3 l4 l5 l6 : Option AV) (st : List AV) : VV 78 h 350 [l0, l1, l2, l3, l4, l5, l6] st Q ↔ VV 78 h 128 [l0, l1, l2, l3, l4, l5, l6] st Q := VV_step rfl rfl rfl rfl
theorem xr_78_353 (h : AHp) (Q : Option Int32 → AHp → Prop) (l0 l2 l3 l4 l5 l6 : Option AV) (x : Int32) (st : List AV) : VV 78 h 353 [l0, some (.inl x), l2, l3, l4, l5, l6] st Q ↔ VV 78 h 354 [l0, some (.inl x), l2, l3, l4, l5, l6] (.inl x :: st) Q := VV_step rfl rfl rfl rfl
theorem xr_78_354 (h : AHp) (Q : Option Int32 → AHp → Prop) (l0 l1 l2 l3 l4 l5 l6 : Option AV) (x : Int32) : VV 78 h 354 [l0, l1, l2, l3, l4, l5, l6] [.inl x] Q ↔ Q (some x) h := VV_end rfl rfl
theorem xr_79_0 (h : AHp) (Q : Option Int32 → AHp → Prop) (l1 l2 : Option AV) (x : Nat × Nat) (st : List AV) : VV 79 h 0 [some (.inr x), l1, l2] st Q ↔ VV 79 h 1 [some (.inr x), l1, l2] (.inr x :: st) Q := VV_step rfl rfl rfl rfl
theorem xr_79_1 (h : AHp) (Q : Option Int32 → AHp → Prop) (l0 l2 : Option AV) (x : Int32) (st : List AV) : VV 79 h 1 [l0, some (.inl x), l2] st Q ↔ VV 79 h 2 [l0, some (.inl x), l2] (.inl x :: st) Q := VV_step rfl rfl rfl rfl
theorem xr_79_2 (h : AHp) (Q : Option Int32 → AHp → Prop) (l0 l1 l2 : Option AV) (a0 : AV) (i : Nat) : VV 79 h 2 [l0, l1, l2] [a0, .inr (10, i)] Q ↔ Vi 61 h [some (.inr (10, i)), some a0] (fun z h2 => VV 79 h2 5 [l0, l1, l2] [.inl z] Q) := VV_calli (y := 61) (as := [.inr (10, i), a0]) (rest := []) rfl rfl rfl (ah_noV (y := 61) (by decide))
theorem xr_79_5 (h : AHp) (Q : Option Int32 → AHp → Prop) (l0 l1 l2 : Option AV) (x : Int32) (st : List AV) : VV 79 h 5 [l0, l1, l2] (.inl x :: st) Q ↔ (x = 0 → VV 79 h 34 [l0, l1, l2] st Q) ∧ (¬ (x = 0) → VV 79 h 8 [l0, l1, l2] st Q) := VV_br rfl rfl rfl decide_eq_true_iff
theorem xr_79_8 (h : AHp) (Q : Option Int32 → AHp → Prop) (l1 l2 : Option AV) (x : Nat × Nat) (st : List AV) : VV 79 h 8 [some (.inr x), l1, l2] st Q ↔ VV 79 h 9 [some (.inr x), l1, l2] (.inr x :: st) Q := VV_step rfl rfl rfl rfl
theorem xr_79_9 (h : AHp) (Q : Option Int32 → AHp → Prop) (l0 l1 : Option AV) (x : Int32) (st : List AV) : VV 79 h 9 [l0, l1, some (.inl x)] st Q ↔ VV 79 h 10 [l0, l1, some (.inl x)] (.inl x :: st) Q := VV_step rfl rfl rfl rfl
theorem xr_79_10 (h : AHp) (Q : Option Int32 → AHp → Prop) (l0 l1 l2 : Option AV) (a0 : AV) (i : Nat) : VV 79 h 10 [l0, l1, l2] [a0, .inr (10, i)] Q ↔ Vi 62 h [some (.inr (10, i)), some a0] (fun z h2 => VV 79 h2 13 [l0, l1, l2] [.inl z] Q) := VV_calli (y := 62) (as := [.inr (10, i), a0]) (rest := []) rfl rfl rfl (ah_noV (y := 62) (by decide))
theorem xr_79_13 (h : AHp) (Q : Option Int32 → AHp → Prop) (l0 l1 l2 : Option AV) (x : Int32) (st : List AV) : VV 79 h 13 [l0, l1, l2] (.inl x :: st) Q ↔ (x = 0 → VV 79 h 34 [l0, l1, l2] st Q) ∧ (¬ (x = 0) → VV 79 h 16 [l0, l1, l2] st Q) := VV_br rfl rfl rfl decide_eq_true_iff
theorem xr_79_16 (h : AHp) (Q : Option Int32 → AHp → Prop) (l1 l2 : Option AV) (x : Nat × Nat) (st : List AV) : VV 79 h 16 [some (.inr x), l1, l2] st Q ↔ VV 79 h 17 [some (.inr x), l1, l2] (.inr x :: st) Q := VV_step rfl rfl rfl rfl
theorem xr_79_17 (h : AHp) (Q : Option Int32 → AHp → Prop) (l0 l1 l2 : Option AV) (i : Nat) (st : List AV) : VV 79 h 17 [l0, l1, l2] (.inr (10, i) :: st) Q ↔ VV 79 h 20 [l0, l1, l2] (.inr (22, i) :: st) Q := VV_step rfl rfl rfl rfl
theorem xr_79_20 (h : AHp) (Q : Option Int32 → AHp → Prop) (l0 l1 l2 : Option AV) (st : List AV) : VV 79 h 20 [l0, l1, l2] st Q ↔ VV 79 h 22 [l0, l1, l2] (.inl (8 : Int32) :: st) Q := VV_step rfl rfl rfl rfl
theorem xr_79_22 (h : AHp) (Q : Option Int32 → AHp → Prop) (l0 l2 : Option AV) (x : Int32) (st : List AV) : VV 79 h 22 [l0, some (.inl x), l2] st Q ↔ VV 79 h 23 [l0, some (.inl x), l2] (.inl x :: st) Q := VV_step rfl rfl rfl rfl
theorem xr_79_23 (h : AHp) (Q : Option Int32 → AHp → Prop) (l0 l1 l2 : Option AV) (x y : Int32) (st : List AV) : VV 79 h 23 [l0, l1, l2] (.inl y :: .inl x :: st) Q ↔ VV 79 h 24 [l0, l1, l2] (.inl (x * y) :: st) Q := VV_step rfl rfl rfl rfl
theorem xr_79_24 (h : AHp) (Q : Option Int32 → AHp → Prop) (l0 l1 : Option AV) (x : Int32) (st : List AV) : VV 79 h 24 [l0, l1, some (.inl x)] st Q ↔ VV 79 h 25 [l0, l1, some (.inl x)] (.inl x :: st) Q := VV_step rfl rfl rfl rfl
theorem xr_79_25 (h : AHp) (Q : Option Int32 → AHp → Prop) (l0 l1 l2 : Option AV) (x y : Int32) (st : List AV) : VV 79 h 25 [l0, l1, l2] (.inl y :: .inl x :: st) Q ↔ VV 79 h 26 [l0, l1, l2] (.inl (x + y) :: st) Q := VV_step rfl rfl rfl rfl
theorem xr_79_26 (h : AHp) (Q : Option Int32 → AHp → Prop) (l0 l1 l2 : Option AV) (x : Int32) (k i : Nat) (st : List AV) : VV 79 h 26 [l0, l1, l2] (.inl x :: .inr (k, i) :: st) Q ↔ ix_z k x ∧ VV 79 h 27 [l0, l1, l2] (.inl (h k i x.toNatClampNeg) :: st) Q := VV_bald rfl
theorem xr_79_27 (h : AHp) (Q : Option Int32 → AHp → Prop) (l0 l1 l2 : Option AV) (x : Int32) (st : List AV) : VV 79 h 27 [l0, l1, l2] (.inl x :: st) Q ↔ (x = 0 → VV 79 h 34 [l0, l1, l2] st Q) ∧ (¬ (x = 0) → VV 79 h 30 [l0, l1, l2] st Q) := VV_br rfl rfl rfl decide_eq_true_iff
theorem xr_79_30 (h : AHp) (Q : Option Int32 → AHp → Prop) (l0 l1 l2 : Option AV) (st : List AV) : VV 79 h 30 [l0, l1, l2] st Q ↔ VV 79 h 31 [l0, l1, l2] (.inl (1 : Int32) :: st) Q := VV_step rfl rfl rfl rfl
theorem xr_79_31 (h : AHp) (Q : Option Int32 → AHp → Prop) (l0 l1 l2 : Option AV) (st : List AV) : VV 79 h 31 [l0, l1, l2] st Q ↔ VV 79 h 35 [l0, l1, l2] st Q := VV_step rfl rfl rfl rfl
theorem xr_79_34 (h : AHp) (Q : Option Int32 → AHp → Prop) (l0 l1 l2 : Option AV) (st : List AV) : VV 79 h 34 [l0, l1, l2] st Q ↔ VV 79 h 35 [l0, l1, l2] (.inl (0 : Int32) :: st) Q := VV_step rfl rfl rfl rfl
theorem xr_79_35 (h : AHp) (Q : Option Int32 → AHp → Prop) (l0 l1 l2 : Option AV) (x : Int32) : VV 79 h 35 [l0, l1, l2] [.inl x] Q ↔ (x = 0 ∨ x = 1) ∧ Q (some x) h := VV_zret rfl rfl
theorem xr_80_0 (h : AHp) (Q : Option Int32 → AHp → Prop) (l1 l2 l3 l4 : Option AV) (x : Nat × Nat) (st : List AV) : VV 80 h 0 [some (.inr x), l1, l2, l3, l4] st Q ↔ VV 80 h 1 [some (.inr x), l1, l2, l3, l4] (.inr x :: st) Q := VV_step rfl rfl rfl rfl
theorem xr_80_1 (h : AHp) (Q : Option Int32 → AHp → Prop) (l0 l1 l2 l3 l4 : Option AV) (st : List AV) : VV 80 h 1 [l0, l1, l2, l3, l4] st Q ↔ VV 80 h 2 [l0, l1, l2, l3, l4] (.inl (0 : Int32) :: st) Q := VV_step rfl rfl rfl rfl
theorem xr_80_2 (h : AHp) (Q : Option Int32 → AHp → Prop) (l0 l1 l2 l3 l4 : Option AV) (v : Int32) (i : Nat) (st : List AV) : VV 80 h 2 [l0, l1, l2, l3, l4] (.inl v :: .inr (10, i) :: st) Q ↔ VV 80 (ah_up h 10 i 20 v) 5 [l0, l1, l2, l3, l4] st Q := VV_step rfl rfl rfl rfl
theorem xr_80_5 (h : AHp) (Q : Option Int32 → AHp → Prop) (l1 l2 l3 l4 : Option AV) (x : Nat × Nat) (st : List AV) : VV 80 h 5 [some (.inr x), l1, l2, l3, l4] st Q ↔ VV 80 h 6 [some (.inr x), l1, l2, l3, l4] (.inr x :: st) Q := VV_step rfl rfl rfl rfl
theorem xr_80_6 (h : AHp) (Q : Option Int32 → AHp → Prop) (l0 l2 l3 l4 : Option AV) (x : Int32) (st : List AV) : VV 80 h 6 [l0, some (.inl x), l2, l3, l4] st Q ↔ VV 80 h 7 [l0, some (.inl x), l2, l3, l4] (.inl x :: st) Q := VV_step rfl rfl rfl rfl
theorem xr_80_7 (h : AHp) (Q : Option Int32 → AHp → Prop) (l0 l1 l3 l4 : Option AV) (x : Int32) (st : List AV) : VV 80 h 7 [l0, l1, some (.inl x), l3, l4] st Q ↔ VV 80 h 8 [l0, l1, some (.inl x), l3, l4] (.inl x :: st) Q := VV_step rfl rfl rfl rfl
theorem xr_80_8 (h : AHp) (Q : Option Int32 → AHp → Prop) (l0 l1 l2 l3 l4 : Option AV) (a0 a1 : AV) (i : Nat) : VV 80 h 8 [l0, l1, l2, l3, l4] [a1, a0, .inr (10, i)] Q ↔ Vi 79 h [some (.inr (10, i)), some a0, some a1] (fun z h2 => VV 80 h2 11 [l0, l1, l2, l3, l4] [.inl z] Q) := VV_calli (y := 79) (as := [.inr (10, i), a0, a1]) (rest := []) rfl rfl rfl (ah_noV (y := 79) (by decide))
theorem xr_80_11 (h : AHp) (Q : Option Int32 → AHp → Prop) (l0 l1 l2 l3 l4 : Option AV) (x : Int32) (st : List AV) : VV 80 h 11 [l0, l1, l2, l3, l4] (.inl x :: st) Q ↔ (¬ x = 0 → VV 80 h 16 [l0, l1, l2, l3, l4] st Q) ∧ (¬ (¬ x = 0) → VV 80 h 14 [l0, l1, l2, l3, l4] st Q) := VV_br rfl rfl rfl decide_eq_true_iff
theorem xr_80_14 (h : AHp) (Q : Option Int32 → AHp → Prop) (l0 l1 l2 l3 l4 : Option AV) (st : List AV) : VV 80 h 14 [l0, l1, l2, l3, l4] st Q ↔ VV 80 h 15 [l0, l1, l2, l3, l4] (.inl (-1 : Int32) :: st) Q := VV_step rfl rfl rfl rfl
theorem xr_80_15 (h : AHp) (Q : Option Int32 → AHp → Prop) (l0 l1 l2 l3 l4 : Option AV) (x : Int32) : VV 80 h 15 [l0, l1, l2, l3, l4] [.inl x] Q ↔ Q (some x) h := VV_end rfl rfl
theorem xr_80_16 (h : AHp) (Q : Option Int32 → AHp → Prop) (l0 l1 l2 l3 l4 : Option AV) (st : List AV) : VV 80 h 16 [l0, l1, l2, l3, l4] st Q ↔ VV 80 h 18 [l0, l1, l2, l3, l4] (.inl (8 : Int32) :: st) Q := VV_step rfl rfl rfl rfl
theorem xr_80_18 (h : AHp) (Q : Option Int32 → AHp → Prop) (l0 l2 l3 l4 : Option AV) (x : Int32) (st : List AV) : VV 80 h 18 [l0, some (.inl x), l2, l3, l4] st Q ↔ VV 80 h 19 [l0, some (.inl x), l2, l3, l4] (.inl x :: st) Q := VV_step rfl rfl rfl rfl
theorem xr_80_19 (h : AHp) (Q : Option Int32 → AHp → Prop) (l0 l1 l2 l3 l4 : Option AV) (x y : Int32) (st : List AV) : VV 80 h 19 [l0, l1, l2, l3, l4] (.inl y :: .inl x :: st) Q ↔ VV 80 h 20 [l0, l1, l2, l3, l4] (.inl (x * y) :: st) Q := VV_step rfl rfl rfl rfl
theorem xr_80_20 (h : AHp) (Q : Option Int32 → AHp → Prop) (l0 l1 l3 l4 : Option AV) (x : Int32) (st : List AV) : VV 80 h 20 [l0, l1, some (.inl x), l3, l4] st Q ↔ VV 80 h 21 [l0, l1, some (.inl x), l3, l4] (.inl x :: st) Q := VV_step rfl rfl rfl rfl
theorem xr_80_21 (h : AHp) (Q : Option Int32 → AHp → Prop) (l0 l1 l2 l3 l4 : Option AV) (x y : Int32) (st : List AV) : VV 80 h 21 [l0, l1, l2, l3, l4] (.inl y :: .inl x :: st) Q ↔ VV 80 h 22 [l0, l1, l2, l3, l4] (.inl (x + y) :: st) Q := VV_step rfl rfl rfl rfl
theorem xr_80_22 (h : AHp) (Q : Option Int32 → AHp → Prop) (l0 l1 l2 l3 l4 : Option AV) (x : Int32) (st : List AV) : VV 80 h 22 [l0, l1, l2, l3, l4] (.inl x :: st) Q ↔ VV 80 h 24 [l0, l1, l2, l3, some (.inl x)] st Q := VV_step rfl rfl rfl rfl
theorem xr_80_24 (h : AHp) (Q : Option Int32 → AHp → Prop) (l0 l1 l2 l4 : Option AV) (x : Int32) (st : List AV) : VV 80 h 24 [l0, l1, l2, some (.inl x), l4] st Q ↔ VV 80 h 25 [l0, l1, l2, some (.inl x), l4] (.inl x :: st) Q := VV_step rfl rfl rfl rfl
theorem xr_80_25 (h : AHp) (Q : Option Int32 → AHp → Prop) (l0 l1 l2 l3 l4 : Option AV) (x : Int32) (st : List AV) : VV 80 h 25 [l0, l1, l2, l3, l4] (.inl x :: st) Q ↔ (¬ x = 0 → VV 80 h 38 [l0, l1, l2, l3, l4] st Q) ∧ (¬ (¬ x = 0) → VV 80 h 28 [l0, l1, l2, l3, l4] st Q) := VV_br rfl rfl rfl decide_eq_true_iff
theorem xr_80_28 (h : AHp) (Q : Option Int32 → AHp → Prop) (l1 l2 l3 l4 : Option AV) (x : Nat × Nat) (st : List AV) : VV 80 h 28 [some (.inr x), l1, l2, l3, l4] st Q ↔ VV 80 h 29 [some (.inr x), l1, l2, l3, l4] (.inr x :: st) Q := VV_step rfl rfl rfl rfl
theorem xr_80_29 (h : AHp) (Q : Option Int32 → AHp → Prop) (l0 l1 l2 l3 l4 : Option AV) (i : Nat) (st : List AV) : VV 80 h 29 [l0, l1, l2, l3, l4] (.inr (10, i) :: st) Q ↔ VV 80 h 32 [l0, l1, l2, l3, l4] (.inr (23, i) :: st) Q := VV_step rfl rfl rfl rfl
theorem xr_80_32 (h : AHp) (Q : Option Int32 → AHp → Prop) (l0 l1 l2 l3 : Option AV) (x : Int32) (st : List AV) : VV 80 h 32 [l0, l1, l2, l3, some (.inl x)] st Q ↔ VV 80 h 34 [l0, l1, l2, l3, some (.inl x)] (.inl x :: st) Q := VV_step rfl rfl rfl rfl
theorem xr_80_34 (h : AHp) (Q : Option Int32 → AHp → Prop) (l0 l1 l2 l3 l4 : Option AV) (x : Int32) (k i : Nat) (st : List AV) : VV 80 h 34 [l0, l1, l2, l3, l4] (.inl x :: .inr (k, i) :: st) Q ↔ ix_i k x ∧ VV 80 h 35 [l0, l1, l2, l3, l4] (.inl (h k i x.toNatClampNeg) :: st) Q := VV_iald rfl
theorem xr_80_35 (h : AHp) (Q : Option Int32 → AHp → Prop) (l0 l1 l2 l3 l4 : Option AV) (st : List AV) : VV 80 h 35 [l0, l1, l2, l3, l4] st Q ↔ VV 80 h 84 [l0, l1, l2, l3, l4] st Q := VV_step rfl rfl rfl rfl
theorem xr_80_38 (h : AHp) (Q : Option Int32 → AHp → Prop) (l0 l1 l2 l4 : Option AV) (x : Int32) (st : List AV) : VV 80 h 38 [l0, l1, l2, some (.inl x), l4] st Q ↔ VV 80 h 39 [l0, l1, l2, some (.inl x), l4] (.inl x :: st) Q := VV_step rfl rfl rfl rfl
theorem xr_80_39 (h : AHp) (Q : Option Int32 → AHp → Prop) (l0 l1 l2 l3 l4 : Option AV) (st : List AV) : VV 80 h 39 [l0, l1, l2, l3, l4] st Q ↔ VV 80 h 40 [l0, l1, l2, l3, l4] (.inl (1 : Int32) :: st) Q := VV_step rfl rfl rfl rfl
theorem xr_80_40 (h : AHp) (Q : Option Int32 → AHp → Prop) (l0 l1 l2 l3 l4 : Option AV) (x y : Int32) (st : List AV) : VV 80 h 40 [l0, l1, l2, l3, l4] (.inl y :: .inl x :: st) Q ↔ (¬ x = y → VV 80 h 53 [l0, l1, l2, l3, l4] st Q) ∧ (¬ (¬ x = y) → VV 80 h 43 [l0, l1, l2, l3, l4] st Q) := VV_br2 rfl rfl rfl decide_eq_true_iff
theorem xr_80_43 (h : AHp) (Q : Option Int32 → AHp → Prop) (l1 l2 l3 l4 : Option AV) (x : Nat × Nat) (st : List AV) : VV 80 h 43 [some (.inr x), l1, l2, l3, l4] st Q ↔ VV 80 h 44 [some (.inr x), l1, l2, l3, l4] (.inr x :: st) Q := VV_step rfl rfl rfl rfl
theorem xr_80_44 (h : AHp) (Q : Option Int32 → AHp → Prop) (l0 l1 l2 l3 l4 : Option AV) (i : Nat) (st : List AV) : VV 80 h 44 [l0, l1, l2, l3, l4] (.inr (10, i) :: st) Q ↔ VV 80 h 47 [l0, l1, l2, l3, l4] (.inr (24, i) :: st) Q := VV_step rfl rfl rfl rfl
theorem xr_80_47 (h : AHp) (Q : Option Int32 → AHp → Prop) (l0 l1 l2 l3 : Option AV) (x : Int32) (st : List AV) : VV 80 h 47 [l0, l1, l2, l3, some (.inl x)] st Q ↔ VV 80 h 49 [l0, l1, l2, l3, some (.inl x)] (.inl x :: st) Q := VV_step rfl rfl rfl rfl
theorem xr_80_49 (h : AHp) (Q : Option Int32 → AHp → Prop) (l0 l1 l2 l3 l4 : Option AV) (x : Int32) (k i : Nat) (st : List AV) : VV 80 h 49 [l0, l1, l2, l3, l4] (.inl x :: .inr (k, i) :: st) Q ↔ ix_i k x ∧ VV 80 h 50 [l0, l1, l2, l3, l4] (.inl (h k i x.toNatClampNeg) :: st) Q := VV_iald rfl
theorem xr_80_50 (h : AHp) (Q : Option Int32 → AHp → Prop) (l0 l1 l2 l3 l4 : Option AV) (st : List AV) : VV 80 h 50 [l0, l1, l2, l3, l4] st Q ↔ VV 80 h 84 [l0, l1, l2, l3, l4] st Q := VV_step rfl rfl rfl rfl
theorem xr_80_53 (h : AHp) (Q : Option Int32 → AHp → Prop) (l0 l1 l2 l4 : Option AV) (x : Int32) (st : List AV) : VV 80 h 53 [l0, l1, l2, some (.inl x), l4] st Q ↔ VV 80 h 54 [l0, l1, l2, some (.inl x), l4] (.inl x :: st) Q := VV_step rfl rfl rfl rfl
theorem xr_80_54 (h : AHp) (Q : Option Int32 → AHp → Prop) (l0 l1 l2 l3 l4 : Option AV) (st : List AV) : VV 80 h 54 [l0, l1, l2, l3, l4] st Q ↔ VV 80 h 55 [l0, l1, l2, l3, l4] (.inl (2 : Int32) :: st) Q := VV_step rfl rfl rfl rfl
theorem xr_80_55 (h : AHp) (Q : Option Int32 → AHp → Prop) (l0 l1 l2 l3 l4 : Option AV) (x y : Int32) (st : List AV) : VV 80 h 55 [l0, l1, l2, l3, l4] (.inl y :: .inl x :: st) Q ↔ (¬ x = y → VV 80 h 68 [l0, l1, l2, l3, l4] st Q) ∧ (¬ (¬ x = y) → VV 80 h 58 [l0, l1, l2, l3, l4] st Q) := VV_br2 rfl rfl rfl decide_eq_true_iff
theorem xr_80_58 (h : AHp) (Q : Option Int32 → AHp → Prop) (l1 l2 l3 l4 : Option AV) (x : Nat × Nat) (st : List AV) : VV 80 h 58 [some (.inr x), l1, l2, l3, l4] st Q ↔ VV 80 h 59 [some (.inr x), l1, l2, l3, l4] (.inr x :: st) Q := VV_step rfl rfl rfl rfl
theorem xr_80_59 (h : AHp) (Q : Option Int32 → AHp → Prop) (l0 l1 l2 l3 l4 : Option AV) (i : Nat) (st : List AV) : VV 80 h 59 [l0, l1, l2, l3, l4] (.inr (10, i) :: st) Q ↔ VV 80 h 62 [l0, l1, l2, l3, l4] (.inr (25, i) :: st) Q := VV_step rfl rfl rfl rfl
theorem xr_80_62 (h : AHp) (Q : Option Int32 → AHp → Prop) (l0 l1 l2 l3 : Option AV) (x : Int32) (st : List AV) : VV 80 h 62 [l0, l1, l2, l3, some (.inl x)] st Q ↔ VV 80 h 64 [l0, l1, l2, l3, some (.inl x)] (.inl x :: st) Q := VV_step rfl rfl rfl rfl
theorem xr_80_64 (h : AHp) (Q : Option Int32 → AHp → Prop) (l0 l1 l2 l3 l4 : Option AV) (x : Int32) (k i : Nat) (st : List AV) : VV 80 h 64 [l0, l1, l2, l3, l4] (.inl x :: .inr (k, i) :: st) Q ↔ ix_i k x ∧ VV 80 h 65 [l0, l1, l2, l3, l4] (.inl (h k i x.toNatClampNeg) :: st) Q := VV_iald rfl
theorem xr_80_65 (h : AHp) (Q : Option Int32 → AHp → Prop) (l0 l1 l2 l3 l4 : Option AV) (st : List AV) : VV 80 h 65 [l0, l1, l2, l3, l4] st Q ↔ VV 80 h 84 [l0, l1, l2, l3, l4] st Q := VV_step rfl rfl rfl rfl
theorem xr_80_68 (h : AHp) (Q : Option Int32 → AHp → Prop) (l0 l1 l2 l4 : Option AV) (x : Int32) (st : List AV) : VV 80 h 68 [l0, l1, l2, some (.inl x), l4] st Q ↔ VV 80 h 69 [l0, l1, l2, some (.inl x), l4] (.inl x :: st) Q := VV_step rfl rfl rfl rfl
theorem xr_80_69 (h : AHp) (Q : Option Int32 → AHp → Prop) (l0 l1 l2 l3 l4 : Option AV) (st : List AV) : VV 80 h 69 [l0, l1, l2, l3, l4] st Q ↔ VV 80 h 70 [l0, l1, l2, l3, l4] (.inl (3 : Int32) :: st) Q := VV_step rfl rfl rfl rfl
theorem xr_80_70 (h : AHp) (Q : Option Int32 → AHp → Prop) (l0 l1 l2 l3 l4 : Option AV) (x y : Int32) (st : List AV) : VV 80 h 70 [l0, l1, l2, l3, l4] (.inl y :: .inl x :: st) Q ↔ (¬ x = y → VV 80 h 83 [l0, l1, l2, l3, l4] st Q) ∧ (¬ (¬ x = y) → VV 80 h 73 [l0, l1, l2, l3, l4] st Q) := VV_br2 rfl rfl rfl decide_eq_true_iff
theorem xr_80_73 (h : AHp) (Q : Option Int32 → AHp → Prop) (l1 l2 l3 l4 : Option AV) (x : Nat × Nat) (st : List AV) : VV 80 h 73 [some (.inr x), l1, l2, l3, l4] st Q ↔ VV 80 h 74 [some (.inr x), l1, l2, l3, l4] (.inr x :: st) Q := VV_step rfl rfl rfl rfl
theorem xr_80_74 (h : AHp) (Q : Option Int32 → AHp → Prop) (l0 l1 l2 l3 l4 : Option AV) (i : Nat) (st : List AV) : VV 80 h 74 [l0, l1, l2, l3, l4] (.inr (10, i) :: st) Q ↔ VV 80 h 77 [l0, l1, l2, l3, l4] (.inr (26, i) :: st) Q := VV_step rfl rfl rfl rfl
theorem xr_80_77 (h : AHp) (Q : Option Int32 → AHp → Prop) (l0 l1 l2 l3 : Option AV) (x : Int32) (st : List AV) : VV 80 h 77 [l0, l1, l2, l3, some (.inl x)] st Q ↔ VV 80 h 79 [l0, l1, l2, l3, some (.inl x)] (.inl x :: st) Q := VV_step rfl rfl rfl rfl
theorem xr_80_79 (h : AHp) (Q : Option Int32 → AHp → Prop) (l0 l1 l2 l3 l4 : Option AV) (x : Int32) (k i : Nat) (st : List AV) : VV 80 h 79 [l0, l1, l2, l3, l4] (.inl x :: .inr (k, i) :: st) Q ↔ ix_i k x ∧ VV 80 h 80 [l0, l1, l2, l3, l4] (.inl (h k i x.toNatClampNeg) :: st) Q := VV_iald rfl
theorem xr_80_80 (h : AHp) (Q : Option Int32 → AHp → Prop) (l0 l1 l2 l3 l4 : Option AV) (st : List AV) : VV 80 h 80 [l0, l1, l2, l3, l4] st Q ↔ VV 80 h 84 [l0, l1, l2, l3, l4] st Q := VV_step rfl rfl rfl rfl
theorem xr_80_83 (h : AHp) (Q : Option Int32 → AHp → Prop) (l0 l1 l2 l3 l4 : Option AV) (st : List AV) : VV 80 h 83 [l0, l1, l2, l3, l4] st Q ↔ VV 80 h 84 [l0, l1, l2, l3, l4] (.inl (-1 : Int32) :: st) Q := VV_step rfl rfl rfl rfl
theorem xr_80_84 (h : AHp) (Q : Option Int32 → AHp → Prop) (l0 l1 l2 l3 l4 : Option AV) (x : Int32) : VV 80 h 84 [l0, l1, l2, l3, l4] [.inl x] Q ↔ Q (some x) h := VV_end rfl rfl
theorem xr_81_0 (h : AHp) (Q : Option Int32 → AHp → Prop) (l0 l1 l2 l3 : Option AV) (st : List AV) : VV 81 h 0 [l0, l1, l2, l3] st Q ↔ VV 81 h 1 [l0, l1, l2, l3] (.inl (0 : Int32) :: st) Q := VV_step rfl rfl rfl rfl
theorem xr_81_1 (h : AHp) (Q : Option Int32 → AHp → Prop) (l0 l1 l2 l3 : Option AV) (x : Int32) (st : List AV) : VV 81 h 1 [l0, l1, l2, l3] (.inl x :: st) Q ↔ VV 81 h 2 [l0, l1, some (.inl x), l3] st Q := VV_step rfl rfl rfl rfl
theorem xr_81_2 (h : AHp) (Q : Option Int32 → AHp → Prop) (l0 l1 l2 l3 : Option AV) (st : List AV) : VV 81 h 2 [l0, l1, l2, l3] st Q ↔ VV 81 h 3 [l0, l1, l2, l3] (.inl (0 : Int32) :: st) Q := VV_step rfl rfl rfl rfl
theorem xr_81_3 (h : AHp) (Q : Option Int32 → AHp → Prop) (l0 l1 l2 l3 : Option AV) (x : Int32) (st : List AV) : VV 81 h 3 [l0, l1, l2, l3] (.inl x :: st) Q ↔ VV 81 h 4 [l0, l1, l2, some (.inl x)] st Q := VV_step rfl rfl rfl rfl
theorem xr_81_4 (h : AHp) (Q : Option Int32 → AHp → Prop) (l0 l1 l2 : Option AV) (x : Int32) (st : List AV) : VV 81 h 4 [l0, l1, l2, some (.inl x)] st Q ↔ VV 81 h 5 [l0, l1, l2, some (.inl x)] (.inl x :: st) Q := VV_step rfl rfl rfl rfl
theorem xr_81_5 (h : AHp) (Q : Option Int32 → AHp → Prop) (l0 l1 l2 l3 : Option AV) (st : List AV) : VV 81 h 5 [l0, l1, l2, l3] st Q ↔ VV 81 h 7 [l0, l1, l2, l3] (.inl (16 : Int32) :: st) Q := VV_step rfl rfl rfl rfl
theorem xr_81_7 (h : AHp) (Q : Option Int32 → AHp → Prop) (l0 l1 l2 l3 : Option AV) (x y : Int32) (st : List AV) : VV 81 h 7 [l0, l1, l2, l3] (.inl y :: .inl x :: st) Q ↔ (y ≤ x → VV 81 h 26 [l0, l1, l2, l3] st Q) ∧ (¬ (y ≤ x) → VV 81 h 10 [l0, l1, l2, l3] st Q) := VV_br2 rfl rfl rfl decide_eq_true_iff
theorem xr_81_10 (h : AHp) (Q : Option Int32 → AHp → Prop) (l0 l1 l3 : Option AV) (x : Int32) (st : List AV) : VV 81 h 10 [l0, l1, some (.inl x), l3] st Q ↔ VV 81 h 11 [l0, l1, some (.inl x), l3] (.inl x :: st) Q := VV_step rfl rfl rfl rfl
theorem xr_81_11 (h : AHp) (Q : Option Int32 → AHp → Prop) (l1 l2 l3 : Option AV) (x : Int32) (st : List AV) : VV 81 h 11 [some (.inl x), l1, l2, l3] st Q ↔ VV 81 h 12 [some (.inl x), l1, l2, l3] (.inl x :: st) Q := VV_step rfl rfl rfl rfl
theorem xr_81_12 (h : AHp) (Q : Option Int32 → AHp → Prop) (l0 l2 l3 : Option AV) (x : Int32) (st : List AV) : VV 81 h 12 [l0, some (.inl x), l2, l3] st Q ↔ VV 81 h 13 [l0, some (.inl x), l2, l3] (.inl x :: st) Q := VV_step rfl rfl rfl rfl
theorem xr_81_13 (h : AHp) (Q : Option Int32 → AHp → Prop) (l0 l1 l2 l3 : Option AV) (x y : Int32) (st : List AV) : VV 81 h 13 [l0, l1, l2, l3] (.inl y :: .inl x :: st) Q ↔ VV 81 h 14 [l0, l1, l2, l3] (.inl (x ^^^ y) :: st) Q := VV_step rfl rfl rfl rfl
theorem xr_81_14 (h : AHp) (Q : Option Int32 → AHp → Prop) (l0 l1 l2 : Option AV) (x : Int32) (st : List AV) : VV 81 h 14 [l0, l1, l2, some (.inl x)] st Q ↔ VV 81 h 15 [l0, l1, l2, some (.inl x)] (.inl x :: st) Q := VV_step rfl rfl rfl rfl
theorem xr_81_15 (h : AHp) (Q : Option Int32 → AHp → Prop) (l0 l1 l2 l3 : Option AV) (x y : Int32) (st : List AV) : VV 81 h 15 [l0, l1, l2, l3] (.inl y :: .inl x :: st) Q ↔ VV 81 h 16 [l0, l1, l2, l3] (.inl (x >>> (y &&& 31)) :: st) Q := VV_step rfl rfl rfl rfl
theorem xr_81_16 (h : AHp) (Q : Option Int32 → AHp → Prop) (l0 l1 l2 l3 : Option AV) (st : List AV) : VV 81 h 16 [l0, l1, l2, l3] st Q ↔ VV 81 h 17 [l0, l1, l2, l3] (.inl (1 : Int32) :: st) Q := VV_step rfl rfl rfl rfl
theorem xr_81_17 (h : AHp) (Q : Option Int32 → AHp → Prop) (l0 l1 l2 l3 : Option AV) (x y : Int32) (st : List AV) : VV 81 h 17 [l0, l1, l2, l3] (.inl y :: .inl x :: st) Q ↔ VV 81 h 18 [l0, l1, l2, l3] (.inl (x &&& y) :: st) Q := VV_step rfl rfl rfl rfl
theorem xr_81_18 (h : AHp) (Q : Option Int32 → AHp → Prop) (l0 l1 l2 l3 : Option AV) (x y : Int32) (st : List AV) : VV 81 h 18 [l0, l1, l2, l3] (.inl y :: .inl x :: st) Q ↔ VV 81 h 19 [l0, l1, l2, l3] (.inl (x + y) :: st) Q := VV_step rfl rfl rfl rfl
theorem xr_81_19 (h : AHp) (Q : Option Int32 → AHp → Prop) (l0 l1 l2 l3 : Option AV) (x : Int32) (st : List AV) : VV 81 h 19 [l0, l1, l2, l3] (.inl x :: st) Q ↔ VV 81 h 20 [l0, l1, some (.inl x), l3] st Q := VV_step rfl rfl rfl rfl
theorem xr_81_20 (h : AHp) (Q : Option Int32 → AHp → Prop) (l0 l1 l2 : Option AV) (x : Int32) (st : List AV) : VV 81 h 20 [l0, l1, l2, some (.inl x)] st Q ↔ VV 81 h 23 [l0, l1, l2, some (.inl (x + (1 : Int32)))] st Q := VV_step rfl rfl rfl rfl
theorem xr_81_23 (h : AHp) (Q : Option Int32 → AHp → Prop) (l0 l1 l2 l3 : Option AV) (st : List AV) : VV 81 h 23 [l0, l1, l2, l3] st Q ↔ VV 81 h 4 [l0, l1, l2, l3] st Q := VV_step rfl rfl rfl rfl
theorem xr_81_26 (h : AHp) (Q : Option Int32 → AHp → Prop) (l0 l1 l3 : Option AV) (x : Int32) (st : List AV) : VV 81 h 26 [l0, l1, some (.inl x), l3] st Q ↔ VV 81 h 27 [l0, l1, some (.inl x), l3] (.inl x :: st) Q := VV_step rfl rfl rfl rfl
theorem xr_81_27 (h : AHp) (Q : Option Int32 → AHp → Prop) (l0 l1 l2 l3 : Option AV) (x : Int32) : VV 81 h 27 [l0, l1, l2, l3] [.inl x] Q ↔ Q (some x) h := VV_end rfl rfl
theorem xr_82_0 (h : AHp) (Q : Option Int32 → AHp → Prop) (l0 l1 l2 l3 l4 l5 : Option AV) (st : List AV) : VV 82 h 0 [l0, l1, l2, l3, l4, l5] st Q ↔ VV 82 h 1 [l0, l1, l2, l3, l4, l5] (.inl (-1 : Int32) :: st) Q := VV_step rfl rfl rfl rfl
theorem xr_82_1 (h : AHp) (Q : Option Int32 → AHp → Prop) (l0 l1 l2 l3 l4 l5 : Option AV) (x : Int32) (st : List AV) : VV 82 h 1 [l0, l1, l2, l3, l4, l5] (.inl x :: st) Q ↔ VV 82 h 2 [l0, l1, l2, some (.inl x), l4, l5] st Q := VV_step rfl rfl rfl rfl
theorem xr_82_2 (h : AHp) (Q : Option Int32 → AHp → Prop) (l1 l2 l3 l4 l5 : Option AV) (x : Nat × Nat) (st : List AV) : VV 82 h 2 [some (.inr x), l1, l2, l3, l4, l5] st Q ↔ VV 82 h 3 [some (.inr x), l1, l2, l3, l4, l5] (.inr x :: st) Q := VV_step rfl rfl rfl rfl
theorem xr_82_3 (h : AHp) (Q : Option Int32 → AHp → Prop) (l0 l1 l2 l3 l4 l5 : Option AV) (st : List AV) : VV 82 h 3 [l0, l1, l2, l3, l4, l5] st Q ↔ VV 82 h 5 [l0, l1, l2, l3, l4, l5] (.inl (99 : Int32) :: st) Q := VV_step rfl rfl rfl rfl
theorem xr_82_5 (h : AHp) (Q : Option Int32 → AHp → Prop) (l0 l1 l2 l3 l4 l5 : Option AV) (v : Int32) (i : Nat) (st : List AV) : VV 82 h 5 [l0, l1, l2, l3, l4, l5] (.inl v :: .inr (10, i) :: st) Q ↔ VV 82 (ah_up h 10 i 21 v) 8 [l0, l1, l2, l3, l4, l5] st Q := VV_step rfl rfl rfl rfl
theorem xr_82_8 (h : AHp) (Q : Option Int32 → AHp → Prop) (l0 l1 l2 l3 l4 l5 : Option AV) (st : List AV) : VV 82 h 8 [l0, l1, l2, l3, l4, l5] st Q ↔ VV 82 h 9 [l0, l1, l2, l3, l4, l5] (.inl (0 : Int32) :: st) Q := VV_step rfl rfl rfl rfl
theorem xr_82_9 (h : AHp) (Q : Option Int32 → AHp → Prop) (l0 l1 l2 l3 l4 l5 : Option AV) (x : Int32) (st : List AV) : VV 82 h 9 [l0, l1, l2, l3, l4, l5] (.inl x :: st) Q ↔ VV 82 h 11 [l0, l1, l2, l3, some (.inl x), l5] st Q := VV_step rfl rfl rfl rfl
theorem xr_82_11 (h : AHp) (Q : Option Int32 → AHp → Prop) (l0 l1 l2 l3 l5 : Option AV) (x : Int32) (st : List AV) : VV 82 h 11 [l0, l1, l2, l3, some (.inl x), l5] st Q ↔ VV 82 h 13 [l0, l1, l2, l3, some (.inl x), l5] (.inl x :: st) Q := VV_step rfl rfl rfl rfl
theorem xr_82_13 (h : AHp) (Q : Option Int32 → AHp → Prop) (l1 l2 l3 l4 l5 : Option AV) (x : Nat × Nat) (st : List AV) : VV 82 h 13 [some (.inr x), l1, l2, l3, l4, l5] st Q ↔ VV 82 h 14 [some (.inr x), l1, l2, l3, l4, l5] (.inr x :: st) Q := VV_step rfl rfl rfl rfl
theorem xr_82_14 (h : AHp) (Q : Option Int32 → AHp → Prop) (l0 l1 l2 l3 l4 l5 : Option AV) (i : Nat) (st : List AV) : VV 82 h 14 [l0, l1, l2, l3, l4, l5] (.inr (10, i) :: st) Q ↔ VV 82 h 17 [l0, l1, l2, l3, l4, l5] (.inl (h 10 i 1) :: st) Q := VV_step rfl rfl rfl rfl
theorem xr_82_17 (h : AHp) (Q : Option Int32 → AHp → Prop) (l0 l1 l2 l3 l4 l5 : Option AV) (x y : Int32) (st : List AV) : VV 82 h 17 [l0, l1, l2, l3, l4, l5] (.inl y :: .inl x :: st) Q ↔ (y ≤ x → VV 82 h 96 [l0, l1, l2, l3, l4, l5] st Q) ∧ (¬ (y ≤ x) → VV 82 h 20 [l0, l1, l2, l3, l4, l5] st Q) := VV_br2 rfl rfl rfl decide_eq_true_iff
theorem xr_82_20 (h : AHp) (Q : Option Int32 → AHp → Prop) (l1 l2 l3 l4 l5 : Option AV) (x : Nat × Nat) (st : List AV) : VV 82 h 20 [some (.inr x), l1, l2, l3, l4, l5] st Q ↔ VV 82 h 21 [some (.inr x), l1, l2, l3, l4, l5] (.inr x :: st) Q := VV_step rfl rfl rfl rfl
theorem xr_82_21 (h : AHp) (Q : Option Int32 → AHp → Prop) (l0 l1 l2 l3 l4 l5 : Option AV) (i : Nat) (st : List AV) : VV 82 h 21 [l0, l1, l2, l3, l4, l5] (.inr (10, i) :: st) Q ↔ VV 82 h 24 [l0, l1, l2, l3, l4, l5] (.inr (12, i) :: st) Q := VV_step rfl rfl rfl rfl
theorem xr_82_24 (h : AHp) (Q : Option Int32 → AHp → Prop) (l0 l1 l2 l3 l5 : Option AV) (x : Int32) (st : List AV) : VV 82 h 24 [l0, l1, l2, l3, some (.inl x), l5] st Q ↔ VV 82 h 26 [l0, l1, l2, l3, some (.inl x), l5] (.inl x :: st) Q := VV_step rfl rfl rfl rfl
theorem xr_82_26 (h : AHp) (Q : Option Int32 → AHp → Prop) (l0 l1 l2 l3 l4 l5 : Option AV) (x : Int32) (k i : Nat) (st : List AV) : VV 82 h 26 [l0, l1, l2, l3, l4, l5] (.inl x :: .inr (k, i) :: st) Q ↔ ix_i k x ∧ VV 82 h 27 [l0, l1, l2, l3, l4, l5] (.inl (h k i x.toNatClampNeg) :: st) Q := VV_iald rfl
theorem xr_82_27 (h : AHp) (Q : Option Int32 → AHp → Prop) (l0 l1 l3 l4 l5 : Option AV) (x : Int32) (st : List AV) : VV 82 h 27 [l0, l1, some (.inl x), l3, l4, l5] st Q ↔ VV 82 h 28 [l0, l1, some (.inl x), l3, l4, l5] (.inl x :: st) Q := VV_step rfl rfl rfl rfl
theorem xr_82_28 (h : AHp) (Q : Option Int32 → AHp → Prop) (l0 l1 l2 l3 l4 l5 : Option AV) (x y : Int32) (st : List AV) : VV 82 h 28 [l0, l1, l2, l3, l4, l5] (.inl y :: .inl x :: st) Q ↔ (¬ x = y → VV 82 h 90 [l0, l1, l2, l3, l4, l5] st Q) ∧ (¬ (¬ x = y) → VV 82 h 31 [l0, l1, l2, l3, l4, l5] st Q) := VV_br2 rfl rfl rfl decide_eq_true_iff
theorem xr_82_31 (h : AHp) (Q : Option Int32 → AHp → Prop) (l1 l2 l3 l4 l5 : Option AV) (x : Nat × Nat) (st : List AV) : VV 82 h 31 [some (.inr x), l1, l2, l3, l4, l5] st Q ↔ VV 82 h 32 [some (.inr x), l1, l2, l3, l4, l5] (.inr x :: st) Q := VV_step rfl rfl rfl rfl
theorem xr_82_32 (h : AHp) (Q : Option Int32 → AHp → Prop) (l0 l1 l2 l3 l4 l5 : Option AV) (i : Nat) (st : List AV) : VV 82 h 32 [l0, l1, l2, l3, l4, l5] (.inr (10, i) :: st) Q ↔ VV 82 h 35 [l0, l1, l2, l3, l4, l5] (.inr (13, i) :: st) Q := VV_step rfl rfl rfl rfl
theorem xr_82_35 (h : AHp) (Q : Option Int32 → AHp → Prop) (l0 l1 l2 l3 l5 : Option AV) (x : Int32) (st : List AV) : VV 82 h 35 [l0, l1, l2, l3, some (.inl x), l5] st Q ↔ VV 82 h 37 [l0, l1, l2, l3, some (.inl x), l5] (.inl x :: st) Q := VV_step rfl rfl rfl rfl
theorem xr_82_37 (h : AHp) (Q : Option Int32 → AHp → Prop) (l0 l1 l2 l3 l4 l5 : Option AV) (x : Int32) (k i : Nat) (st : List AV) : VV 82 h 37 [l0, l1, l2, l3, l4, l5] (.inl x :: .inr (k, i) :: st) Q ↔ ix_i k x ∧ VV 82 h 38 [l0, l1, l2, l3, l4, l5] (.inl (h k i x.toNatClampNeg) :: st) Q := VV_iald rfl
theorem xr_82_38 (h : AHp) (Q : Option Int32 → AHp → Prop) (l1 l2 l3 l4 l5 : Option AV) (x : Nat × Nat) (st : List AV) : VV 82 h 38 [some (.inr x), l1, l2, l3, l4, l5] st Q ↔ VV 82 h 39 [some (.inr x), l1, l2, l3, l4, l5] (.inr x :: st) Q := VV_step rfl rfl rfl rfl
theorem xr_82_39 (h : AHp) (Q : Option Int32 → AHp → Prop) (l0 l1 l2 l3 l4 l5 : Option AV) (i : Nat) (st : List AV) : VV 82 h 39 [l0, l1, l2, l3, l4, l5] (.inr (10, i) :: st) Q ↔ VV 82 h 42 [l0, l1, l2, l3, l4, l5] (.inr (23, i) :: st) Q := VV_step rfl rfl rfl rfl
theorem xr_82_42 (h : AHp) (Q : Option Int32 → AHp → Prop) (l0 l1 l2 l3 l4 l5 : Option AV) (st : List AV) : VV 82 h 42 [l0, l1, l2, l3, l4, l5] st Q ↔ VV 82 h 44 [l0, l1, l2, l3, l4, l5] (.inl (8 : Int32) :: st) Q := VV_step rfl rfl rfl rfl
theorem xr_82_44 (h : AHp) (Q : Option Int32 → AHp → Prop) (l0 l2 l3 l4 l5 : Option AV) (x : Int32) (st : List AV) : VV 82 h 44 [l0, some (.inl x), l2, l3, l4, l5] st Q ↔ VV 82 h 45 [l0, some (.inl x), l2, l3, l4, l5] (.inl x :: st) Q := VV_step rfl rfl rfl rfl
theorem xr_82_45 (h : AHp) (Q : Option Int32 → AHp → Prop) (l0 l1 l2 l3 l4 l5 : Option AV) (x y : Int32) (st : List AV) : VV 82 h 45 [l0, l1, l2, l3, l4, l5] (.inl y :: .inl x :: st) Q ↔ VV 82 h 46 [l0, l1, l2, l3, l4, l5] (.inl (x * y) :: st) Q := VV_step rfl rfl rfl rfl
theorem xr_82_46 (h : AHp) (Q : Option Int32 → AHp → Prop) (l0 l1 l3 l4 l5 : Option AV) (x : Int32) (st : List AV) : VV 82 h 46 [l0, l1, some (.inl x), l3, l4, l5] st Q ↔ VV 82 h 47 [l0, l1, some (.inl x), l3, l4, l5] (.inl x :: st) Q := VV_step rfl rfl rfl rfl
theorem xr_82_47 (h : AHp) (Q : Option Int32 → AHp → Prop) (l0 l1 l2 l3 l4 l5 : Option AV) (x y : Int32) (st : List AV) : VV 82 h 47 [l0, l1, l2, l3, l4, l5] (.inl y :: .inl x :: st) Q ↔ VV 82 h 48 [l0, l1, l2, l3, l4, l5] (.inl (x + y) :: st) Q := VV_step rfl rfl rfl rfl
theorem xr_82_48 (h : AHp) (Q : Option Int32 → AHp → Prop) (l0 l1 l2 l3 l4 l5 : Option AV) (x : Int32) (k i : Nat) (st : List AV) : VV 82 h 48 [l0, l1, l2, l3, l4, l5] (.inl x :: .inr (k, i) :: st) Q ↔ ix_i k x ∧ VV 82 h 49 [l0, l1, l2, l3, l4, l5] (.inl (h k i x.toNatClampNeg) :: st) Q := VV_iald rfl
theorem xr_82_49 (h : AHp) (Q : Option Int32 → AHp → Prop) (l0 l1 l2 l3 l4 l5 : Option AV) (a0 a1 : AV) : VV 82 h 49 [l0, l1, l2, l3, l4, l5] [a1, a0] Q ↔ Vi 81 h [some a0, some a1, none, none] (fun z h2 => VV 82 h2 52 [l0, l1, l2, l3, l4, l5] [.inl z] Q) := VV_calli (y := 81) (as := [a0, a1]) (rest := []) rfl rfl rfl (ah_noV (y := 81) (by decide))
theorem xr_82_52 (h : AHp) (Q : Option Int32 → AHp → Prop) (l1 l2 l3 l4 l5 : Option AV) (x : Nat × Nat) (st : List AV) : VV 82 h 52 [some (.inr x), l1, l2, l3, l4, l5] st Q ↔ VV 82 h 53 [some (.inr x), l1, l2, l3, l4, l5] (.inr x :: st) Q := VV_step rfl rfl rfl rfl
theorem xr_82_53 (h : AHp) (Q : Option Int32 → AHp → Prop) (l0 l1 l2 l3 l4 l5 : Option AV) (i : Nat) (st : List AV) : VV 82 h 53 [l0, l1, l2, l3, l4, l5] (.inr (10, i) :: st) Q ↔ VV 82 h 56 [l0, l1, l2, l3, l4, l5] (.inl (h 10 i 21) :: st) Q := VV_step rfl rfl rfl rfl
theorem xr_82_56 (h : AHp) (Q : Option Int32 → AHp → Prop) (l0 l1 l2 l3 l4 l5 : Option AV) (x y : Int32) (st : List AV) : VV 82 h 56 [l0, l1, l2, l3, l4, l5] (.inl y :: .inl x :: st) Q ↔ (x < y → VV 82 h 62 [l0, l1, l2, l3, l4, l5] st Q) ∧ (¬ (x < y) → VV 82 h 59 [l0, l1, l2, l3, l4, l5] st Q) := VV_br2 rfl rfl rfl decide_eq_true_iff
theorem xr_82_59 (h : AHp) (Q : Option Int32 → AHp → Prop) (l0 l1 l2 l3 l4 l5 : Option AV) (st : List AV) : VV 82 h 59 [l0, l1, l2, l3, l4, l5] st Q ↔ VV 82 h 90 [l0, l1, l2, l3, l4, l5] st Q := VV_step rfl rfl rfl rfl
theorem xr_82_62 (h : AHp) (Q : Option Int32 → AHp → Prop) (l1 l2 l3 l4 l5 : Option AV) (x : Nat × Nat) (st : List AV) : VV 82 h 62 [some (.inr x), l1, l2, l3, l4, l5] st Q ↔ VV 82 h 63 [some (.inr x), l1, l2, l3, l4, l5] (.inr x :: st) Q := VV_step rfl rfl rfl rfl
theorem xr_82_63 (h : AHp) (Q : Option Int32 → AHp → Prop) (l1 l2 l3 l4 l5 : Option AV) (x : Nat × Nat) (st : List AV) : VV 82 h 63 [some (.inr x), l1, l2, l3, l4, l5] st Q ↔ VV 82 h 64 [some (.inr x), l1, l2, l3, l4, l5] (.inr x :: st) Q := VV_step rfl rfl rfl rfl
theorem xr_82_64 (h : AHp) (Q : Option Int32 → AHp → Prop) (l0 l1 l2 l3 l4 l5 : Option AV) (i : Nat) (st : List AV) : VV 82 h 64 [l0, l1, l2, l3, l4, l5] (.inr (10, i) :: st) Q ↔ VV 82 h 67 [l0, l1, l2, l3, l4, l5] (.inr (13, i) :: st) Q := VV_step rfl rfl rfl rfl
theorem xr_82_67 (h : AHp) (Q : Option Int32 → AHp → Prop) (l0 l1 l2 l3 l5 : Option AV) (x : Int32) (st : List AV) : VV 82 h 67 [l0, l1, l2, l3, some (.inl x), l5] st Q ↔ VV 82 h 69 [l0, l1, l2, l3, some (.inl x), l5] (.inl x :: st) Q := VV_step rfl rfl rfl rfl
theorem xr_82_69 (h : AHp) (Q : Option Int32 → AHp → Prop) (l0 l1 l2 l3 l4 l5 : Option AV) (x : Int32) (k i : Nat) (st : List AV) : VV 82 h 69 [l0, l1, l2, l3, l4, l5] (.inl x :: .inr (k, i) :: st) Q ↔ ix_i k x ∧ VV 82 h 70 [l0, l1, l2, l3, l4, l5] (.inl (h k i x.toNatClampNeg) :: st) Q := VV_iald rfl
theorem xr_82_70 (h : AHp) (Q : Option Int32 → AHp → Prop) (l1 l2 l3 l4 l5 : Option AV) (x : Nat × Nat) (st : List AV) : VV 82 h 70 [some (.inr x), l1, l2, l3, l4, l5] st Q ↔ VV 82 h 71 [some (.inr x), l1, l2, l3, l4, l5] (.inr x :: st) Q := VV_step rfl rfl rfl rfl
theorem xr_82_71 (h : AHp) (Q : Option Int32 → AHp → Prop) (l0 l1 l2 l3 l4 l5 : Option AV) (i : Nat) (st : List AV) : VV 82 h 71 [l0, l1, l2, l3, l4, l5] (.inr (10, i) :: st) Q ↔ VV 82 h 74 [l0, l1, l2, l3, l4, l5] (.inr (23, i) :: st) Q := VV_step rfl rfl rfl rfl
theorem xr_82_74 (h : AHp) (Q : Option Int32 → AHp → Prop) (l0 l1 l2 l3 l4 l5 : Option AV) (st : List AV) : VV 82 h 74 [l0, l1, l2, l3, l4, l5] st Q ↔ VV 82 h 76 [l0, l1, l2, l3, l4, l5] (.inl (8 : Int32) :: st) Q := VV_step rfl rfl rfl rfl
theorem xr_82_76 (h : AHp) (Q : Option Int32 → AHp → Prop) (l0 l2 l3 l4 l5 : Option AV) (x : Int32) (st : List AV) : VV 82 h 76 [l0, some (.inl x), l2, l3, l4, l5] st Q ↔ VV 82 h 77 [l0, some (.inl x), l2, l3, l4, l5] (.inl x :: st) Q := VV_step rfl rfl rfl rfl
theorem xr_82_77 (h : AHp) (Q : Option Int32 → AHp → Prop) (l0 l1 l2 l3 l4 l5 : Option AV) (x y : Int32) (st : List AV) : VV 82 h 77 [l0, l1, l2, l3, l4, l5] (.inl y :: .inl x :: st) Q ↔ VV 82 h 78 [l0, l1, l2, l3, l4, l5] (.inl (x * y) :: st) Q := VV_step rfl rfl rfl rfl
theorem xr_82_78 (h : AHp) (Q : Option Int32 → AHp → Prop) (l0 l1 l3 l4 l5 : Option AV) (x : Int32) (st : List AV) : VV 82 h 78 [l0, l1, some (.inl x), l3, l4, l5] st Q ↔ VV 82 h 79 [l0, l1, some (.inl x), l3, l4, l5] (.inl x :: st) Q := VV_step rfl rfl rfl rfl
theorem xr_82_79 (h : AHp) (Q : Option Int32 → AHp → Prop) (l0 l1 l2 l3 l4 l5 : Option AV) (x y : Int32) (st : List AV) : VV 82 h 79 [l0, l1, l2, l3, l4, l5] (.inl y :: .inl x :: st) Q ↔ VV 82 h 80 [l0, l1, l2, l3, l4, l5] (.inl (x + y) :: st) Q := VV_step rfl rfl rfl rfl
theorem xr_82_80 (h : AHp) (Q : Option Int32 → AHp → Prop) (l0 l1 l2 l3 l4 l5 : Option AV) (x : Int32) (k i : Nat) (st : List AV) : VV 82 h 80 [l0, l1, l2, l3, l4, l5] (.inl x :: .inr (k, i) :: st) Q ↔ ix_i k x ∧ VV 82 h 81 [l0, l1, l2, l3, l4, l5] (.inl (h k i x.toNatClampNeg) :: st) Q := VV_iald rfl
theorem xr_82_81 (h : AHp) (Q : Option Int32 → AHp → Prop) (l0 l1 l2 l3 l4 l5 : Option AV) (a0 a1 r0 : AV) : VV 82 h 81 [l0, l1, l2, l3, l4, l5] [a1, a0, r0] Q ↔ Vi 81 h [some a0, some a1, none, none] (fun z h2 => VV 82 h2 84 [l0, l1, l2, l3, l4, l5] [.inl z, r0] Q) := VV_calli (y := 81) (as := [a0, a1]) (rest := [r0]) rfl rfl rfl (ah_noV (y := 81) (by decide))
theorem xr_82_84 (h : AHp) (Q : Option Int32 → AHp → Prop) (l0 l1 l2 l3 l4 l5 : Option AV) (v : Int32) (i : Nat) (st : List AV) : VV 82 h 84 [l0, l1, l2, l3, l4, l5] (.inl v :: .inr (10, i) :: st) Q ↔ VV 82 (ah_up h 10 i 21 v) 87 [l0, l1, l2, l3, l4, l5] st Q := VV_step rfl rfl rfl rfl
theorem xr_82_87 (h : AHp) (Q : Option Int32 → AHp → Prop) (l0 l1 l2 l3 l5 : Option AV) (x : Int32) (st : List AV) : VV 82 h 87 [l0, l1, l2, l3, some (.inl x), l5] st Q ↔ VV 82 h 89 [l0, l1, l2, l3, some (.inl x), l5] (.inl x :: st) Q := VV_step rfl rfl rfl rfl
theorem xr_82_89 (h : AHp) (Q : Option Int32 → AHp → Prop) (l0 l1 l2 l3 l4 l5 : Option AV) (x : Int32) (st : List AV) : VV 82 h 89 [l0, l1, l2, l3, l4, l5] (.inl x :: st) Q ↔ VV 82 h 90 [l0, l1, l2, some (.inl x), l4, l5] st Q := VV_step rfl rfl rfl rfl
theorem xr_82_90 (h : AHp) (Q : Option Int32 → AHp → Prop) (l0 l1 l2 l3 l5 : Option AV) (x : Int32) (st : List AV) : VV 82 h 90 [l0, l1, l2, l3, some (.inl x), l5] st Q ↔ VV 82 h 93 [l0, l1, l2, l3, some (.inl (x + (1 : Int32))), l5] st Q := VV_step rfl rfl rfl rfl
theorem xr_82_93 (h : AHp) (Q : Option Int32 → AHp → Prop) (l0 l1 l2 l3 l4 l5 : Option AV) (st : List AV) : VV 82 h 93 [l0, l1, l2, l3, l4, l5] st Q ↔ VV 82 h 11 [l0, l1, l2, l3, l4, l5] st Q := VV_step rfl rfl rfl rfl
theorem xr_82_96 (h : AHp) (Q : Option Int32 → AHp → Prop) (l0 l1 l2 l3 l4 l5 : Option AV) (st : List AV) : VV 82 h 96 [l0, l1, l2, l3, l4, l5] st Q ↔ VV 82 h 97 [l0, l1, l2, l3, l4, l5] (.inl (0 : Int32) :: st) Q := VV_step rfl rfl rfl rfl
theorem xr_82_97 (h : AHp) (Q : Option Int32 → AHp → Prop) (l0 l1 l2 l3 l4 l5 : Option AV) (x : Int32) (st : List AV) : VV 82 h 97 [l0, l1, l2, l3, l4, l5] (.inl x :: st) Q ↔ VV 82 h 99 [l0, l1, l2, l3, some (.inl x), l5] st Q := VV_step rfl rfl rfl rfl
theorem xr_82_99 (h : AHp) (Q : Option Int32 → AHp → Prop) (l0 l1 l2 l3 l5 : Option AV) (x : Int32) (st : List AV) : VV 82 h 99 [l0, l1, l2, l3, some (.inl x), l5] st Q ↔ VV 82 h 101 [l0, l1, l2, l3, some (.inl x), l5] (.inl x :: st) Q := VV_step rfl rfl rfl rfl
theorem xr_82_101 (h : AHp) (Q : Option Int32 → AHp → Prop) (l1 l2 l3 l4 l5 : Option AV) (x : Nat × Nat) (st : List AV) : VV 82 h 101 [some (.inr x), l1, l2, l3, l4, l5] st Q ↔ VV 82 h 102 [some (.inr x), l1, l2, l3, l4, l5] (.inr x :: st) Q := VV_step rfl rfl rfl rfl
theorem xr_82_102 (h : AHp) (Q : Option Int32 → AHp → Prop) (l0 l1 l2 l3 l4 l5 : Option AV) (i : Nat) (st : List AV) : VV 82 h 102 [l0, l1, l2, l3, l4, l5] (.inr (10, i) :: st) Q ↔ VV 82 h 105 [l0, l1, l2, l3, l4, l5] (.inl (h 10 i 6) :: st) Q := VV_step rfl rfl rfl rfl
theorem xr_82_105 (h : AHp) (Q : Option Int32 → AHp → Prop) (l0 l1 l2 l3 l4 l5 : Option AV) (x y : Int32) (st : List AV) : VV 82 h 105 [l0, l1, l2, l3, l4, l5] (.inl y :: .inl x :: st) Q ↔ (y ≤ x → VV 82 h 222 [l0, l1, l2, l3, l4, l5] st Q) ∧ (¬ (y ≤ x) → VV 82 h 108 [l0, l1, l2, l3, l4, l5] st Q) := VV_br2 rfl rfl rfl decide_eq_true_iff
theorem xr_82_108 (h : AHp) (Q : Option Int32 → AHp → Prop) (l0 l1 l2 l3 l4 l5 : Option AV) (st : List AV) : VV 82 h 108 [l0, l1, l2, l3, l4, l5] st Q ↔ VV 82 h 110 [l0, l1, l2, l3, l4, l5] (.inl (8 : Int32) :: st) Q := VV_step rfl rfl rfl rfl
theorem xr_82_110 (h : AHp) (Q : Option Int32 → AHp → Prop) (l0 l1 l2 l3 l5 : Option AV) (x : Int32) (st : List AV) : VV 82 h 110 [l0, l1, l2, l3, some (.inl x), l5] st Q ↔ VV 82 h 112 [l0, l1, l2, l3, some (.inl x), l5] (.inl x :: st) Q := VV_step rfl rfl rfl rfl
theorem xr_82_112 (h : AHp) (Q : Option Int32 → AHp → Prop) (l0 l1 l2 l3 l4 l5 : Option AV) (x y : Int32) (st : List AV) : VV 82 h 112 [l0, l1, l2, l3, l4, l5] (.inl y :: .inl x :: st) Q ↔ VV 82 h 113 [l0, l1, l2, l3, l4, l5] (.inl (x * y) :: st) Q := VV_step rfl rfl rfl rfl
theorem xr_82_113 (h : AHp) (Q : Option Int32 → AHp → Prop) (l0 l1 l3 l4 l5 : Option AV) (x : Int32) (st : List AV) : VV 82 h 113 [l0, l1, some (.inl x), l3, l4, l5] st Q ↔ VV 82 h 114 [l0, l1, some (.inl x), l3, l4, l5] (.inl x :: st) Q := VV_step rfl rfl rfl rfl
theorem xr_82_114 (h : AHp) (Q : Option Int32 → AHp → Prop) (l0 l1 l2 l3 l4 l5 : Option AV) (x y : Int32) (st : List AV) : VV 82 h 114 [l0, l1, l2, l3, l4, l5] (.inl y :: .inl x :: st) Q ↔ VV 82 h 115 [l0, l1, l2, l3, l4, l5] (.inl (x + y) :: st) Q := VV_step rfl rfl rfl rfl
theorem xr_82_115 (h : AHp) (Q : Option Int32 → AHp → Prop) (l0 l1 l2 l3 l4 l5 : Option AV) (x : Int32) (st : List AV) : VV 82 h 115 [l0, l1, l2, l3, l4, l5] (.inl x :: st) Q ↔ VV 82 h 117 [l0, l1, l2, l3, l4, some (.inl x)] st Q := VV_step rfl rfl rfl rfl
theorem xr_82_117 (h : AHp) (Q : Option Int32 → AHp → Prop) (l0 l1 l2 l3 l5 : Option AV) (x : Int32) (st : List AV) : VV 82 h 117 [l0, l1, l2, l3, some (.inl x), l5] st Q ↔ VV 82 h 119 [l0, l1, l2, l3, some (.inl x), l5] (.inl x :: st) Q := VV_step rfl rfl rfl rfl
theorem xr_82_119 (h : AHp) (Q : Option Int32 → AHp → Prop) (l0 l2 l3 l4 l5 : Option AV) (x : Int32) (st : List AV) : VV 82 h 119 [l0, some (.inl x), l2, l3, l4, l5] st Q ↔ VV 82 h 120 [l0, some (.inl x), l2, l3, l4, l5] (.inl x :: st) Q := VV_step rfl rfl rfl rfl
theorem xr_82_120 (h : AHp) (Q : Option Int32 → AHp → Prop) (l0 l1 l2 l3 l4 l5 : Option AV) (x y : Int32) (st : List AV) : VV 82 h 120 [l0, l1, l2, l3, l4, l5] (.inl y :: .inl x :: st) Q ↔ (x = y → VV 82 h 216 [l0, l1, l2, l3, l4, l5] st Q) ∧ (¬ (x = y) → VV 82 h 123 [l0, l1, l2, l3, l4, l5] st Q) := VV_br2 rfl rfl rfl decide_eq_true_iff
theorem xr_82_123 (h : AHp) (Q : Option Int32 → AHp → Prop) (l1 l2 l3 l4 l5 : Option AV) (x : Nat × Nat) (st : List AV) : VV 82 h 123 [some (.inr x), l1, l2, l3, l4, l5] st Q ↔ VV 82 h 124 [some (.inr x), l1, l2, l3, l4, l5] (.inr x :: st) Q := VV_step rfl rfl rfl rfl
theorem xr_82_124 (h : AHp) (Q : Option Int32 → AHp → Prop) (l0 l1 l2 l3 l4 l5 : Option AV) (i : Nat) (st : List AV) : VV 82 h 124 [l0, l1, l2, l3, l4, l5] (.inr (10, i) :: st) Q ↔ VV 82 h 127 [l0, l1, l2, l3, l4, l5] (.inr (22, i) :: st) Q := VV_step rfl rfl rfl rfl
theorem xr_82_127 (h : AHp) (Q : Option Int32 → AHp → Prop) (l0 l1 l2 l3 l4 : Option AV) (x : Int32) (st : List AV) : VV 82 h 127 [l0, l1, l2, l3, l4, some (.inl x)] st Q ↔ VV 82 h 129 [l0, l1, l2, l3, l4, some (.inl x)] (.inl x :: st) Q := VV_step rfl rfl rfl rfl
theorem xr_82_129 (h : AHp) (Q : Option Int32 → AHp → Prop) (l0 l1 l2 l3 l4 l5 : Option AV) (x : Int32) (k i : Nat) (st : List AV) : VV 82 h 129 [l0, l1, l2, l3, l4, l5] (.inl x :: .inr (k, i) :: st) Q ↔ ix_z k x ∧ VV 82 h 130 [l0, l1, l2, l3, l4, l5] (.inl (h k i x.toNatClampNeg) :: st) Q := VV_bald rfl
theorem xr_82_130 (h : AHp) (Q : Option Int32 → AHp → Prop) (l0 l1 l2 l3 l4 l5 : Option AV) (x : Int32) (st : List AV) : VV 82 h 130 [l0, l1, l2, l3, l4, l5] (.inl x :: st) Q ↔ (x = 0 → VV 82 h 216 [l0, l1, l2, l3, l4, l5] st Q) ∧ (¬ (x = 0) → VV 82 h 133 [l0, l1, l2, l3, l4, l5] st Q) := VV_br rfl rfl rfl decide_eq_true_iff
theorem xr_82_133 (h : AHp) (Q : Option Int32 → AHp → Prop) (l1 l2 l3 l4 l5 : Option AV) (x : Nat × Nat) (st : List AV) : VV 82 h 133 [some (.inr x), l1, l2, l3, l4, l5] st Q ↔ VV 82 h 134 [some (.inr x), l1, l2, l3, l4, l5] (.inr x :: st) Q := VV_step rfl rfl rfl rfl
theorem xr_82_134 (h : AHp) (Q : Option Int32 → AHp → Prop) (l0 l1 l2 l3 l4 l5 : Option AV) (i : Nat) (st : List AV) : VV 82 h 134 [l0, l1, l2, l3, l4, l5] (.inr (10, i) :: st) Q ↔ VV 82 h 137 [l0, l1, l2, l3, l4, l5] (.inr (26, i) :: st) Q := VV_step rfl rfl rfl rfl
theorem xr_82_137 (h : AHp) (Q : Option Int32 → AHp → Prop) (l0 l1 l2 l3 l4 : Option AV) (x : Int32) (st : List AV) : VV 82 h 137 [l0, l1, l2, l3, l4, some (.inl x)] st Q ↔ VV 82 h 139 [l0, l1, l2, l3, l4, some (.inl x)] (.inl x :: st) Q := VV_step rfl rfl rfl rfl
theorem xr_82_139 (h : AHp) (Q : Option Int32 → AHp → Prop) (l0 l1 l2 l3 l4 l5 : Option AV) (x : Int32) (k i : Nat) (st : List AV) : VV 82 h 139 [l0, l1, l2, l3, l4, l5] (.inl x :: .inr (k, i) :: st) Q ↔ ix_i k x ∧ VV 82 h 140 [l0, l1, l2, l3, l4, l5] (.inl (h k i x.toNatClampNeg) :: st) Q := VV_iald rfl
theorem xr_82_140 (h : AHp) (Q : Option Int32 → AHp → Prop) (l1 l2 l3 l4 l5 : Option AV) (x : Nat × Nat) (st : List AV) : VV 82 h 140 [some (.inr x), l1, l2, l3, l4, l5] st Q ↔ VV 82 h 141 [some (.inr x), l1, l2, l3, l4, l5] (.inr x :: st) Q := VV_step rfl rfl rfl rfl
theorem xr_82_141 (h : AHp) (Q : Option Int32 → AHp → Prop) (l0 l1 l2 l3 l4 l5 : Option AV) (i : Nat) (st : List AV) : VV 82 h 141 [l0, l1, l2, l3, l4, l5] (.inr (10, i) :: st) Q ↔ VV 82 h 144 [l0, l1, l2, l3, l4, l5] (.inr (25, i) :: st) Q := VV_step rfl rfl rfl rfl
theorem xr_82_144 (h : AHp) (Q : Option Int32 → AHp → Prop) (l0 l1 l2 l3 l4 l5 : Option AV) (st : List AV) : VV 82 h 144 [l0, l1, l2, l3, l4, l5] st Q ↔ VV 82 h 146 [l0, l1, l2, l3, l4, l5] (.inl (8 : Int32) :: st) Q := VV_step rfl rfl rfl rfl
theorem xr_82_146 (h : AHp) (Q : Option Int32 → AHp → Prop) (l0 l2 l3 l4 l5 : Option AV) (x : Int32) (st : List AV) : VV 82 h 146 [l0, some (.inl x), l2, l3, l4, l5] st Q ↔ VV 82 h 147 [l0, some (.inl x), l2, l3, l4, l5] (.inl x :: st) Q := VV_step rfl rfl rfl rfl
theorem xr_82_147 (h : AHp) (Q : Option Int32 → AHp → Prop) (l0 l1 l2 l3 l4 l5 : Option AV) (x y : Int32) (st : List AV) : VV 82 h 147 [l0, l1, l2, l3, l4, l5] (.inl y :: .inl x :: st) Q ↔ VV 82 h 148 [l0, l1, l2, l3, l4, l5] (.inl (x * y) :: st) Q := VV_step rfl rfl rfl rfl
theorem xr_82_148 (h : AHp) (Q : Option Int32 → AHp → Prop) (l0 l1 l3 l4 l5 : Option AV) (x : Int32) (st : List AV) : VV 82 h 148 [l0, l1, some (.inl x), l3, l4, l5] st Q ↔ VV 82 h 149 [l0, l1, some (.inl x), l3, l4, l5] (.inl x :: st) Q := VV_step rfl rfl rfl rfl
theorem xr_82_149 (h : AHp) (Q : Option Int32 → AHp → Prop) (l0 l1 l2 l3 l4 l5 : Option AV) (x y : Int32) (st : List AV) : VV 82 h 149 [l0, l1, l2, l3, l4, l5] (.inl y :: .inl x :: st) Q ↔ VV 82 h 150 [l0, l1, l2, l3, l4, l5] (.inl (x + y) :: st) Q := VV_step rfl rfl rfl rfl
theorem xr_82_150 (h : AHp) (Q : Option Int32 → AHp → Prop) (l0 l1 l2 l3 l4 l5 : Option AV) (x : Int32) (k i : Nat) (st : List AV) : VV 82 h 150 [l0, l1, l2, l3, l4, l5] (.inl x :: .inr (k, i) :: st) Q ↔ ix_i k x ∧ VV 82 h 151 [l0, l1, l2, l3, l4, l5] (.inl (h k i x.toNatClampNeg) :: st) Q := VV_iald rfl
theorem xr_82_151 (h : AHp) (Q : Option Int32 → AHp → Prop) (l0 l1 l2 l3 l4 l5 : Option AV) (x y : Int32) (st : List AV) : VV 82 h 151 [l0, l1, l2, l3, l4, l5] (.inl y :: .inl x :: st) Q ↔ (y < x → VV 82 h 216 [l0, l1, l2, l3, l4, l5] st Q) ∧ (¬ (y < x) → VV 82 h 154 [l0, l1, l2, l3, l4, l5] st Q) := VV_br2 rfl rfl rfl decide_eq_true_iff
theorem xr_82_154 (h : AHp) (Q : Option Int32 → AHp → Prop) (l1 l2 l3 l4 l5 : Option AV) (x : Nat × Nat) (st : List AV) : VV 82 h 154 [some (.inr x), l1, l2, l3, l4, l5] st Q ↔ VV 82 h 155 [some (.inr x), l1, l2, l3, l4, l5] (.inr x :: st) Q := VV_step rfl rfl rfl rfl
theorem xr_82_155 (h : AHp) (Q : Option Int32 → AHp → Prop) (l0 l1 l2 l3 l4 l5 : Option AV) (i : Nat) (st : List AV) : VV 82 h 155 [l0, l1, l2, l3, l4, l5] (.inr (10, i) :: st) Q ↔ VV 82 h 158 [l0, l1, l2, l3, l4, l5] (.inr (23, i) :: st) Q := VV_step rfl rfl rfl rfl
theorem xr_82_158 (h : AHp) (Q : Option Int32 → AHp → Prop) (l0 l1 l2 l3 l4 : Option AV) (x : Int32) (st : List AV) : VV 82 h 158 [l0, l1, l2, l3, l4, some (.inl x)] st Q ↔ VV 82 h 160 [l0, l1, l2, l3, l4, some (.inl x)] (.inl x :: st) Q := VV_step rfl rfl rfl rfl
theorem xr_82_160 (h : AHp) (Q : Option Int32 → AHp → Prop) (l0 l1 l2 l3 l4 l5 : Option AV) (x : Int32) (k i : Nat) (st : List AV) : VV 82 h 160 [l0, l1, l2, l3, l4, l5] (.inl x :: .inr (k, i) :: st) Q ↔ ix_i k x ∧ VV 82 h 161 [l0, l1, l2, l3, l4, l5] (.inl (h k i x.toNatClampNeg) :: st) Q := VV_iald rfl
theorem xr_82_161 (h : AHp) (Q : Option Int32 → AHp → Prop) (l1 l2 l3 l4 l5 : Option AV) (x : Nat × Nat) (st : List AV) : VV 82 h 161 [some (.inr x), l1, l2, l3, l4, l5] st Q ↔ VV 82 h 162 [some (.inr x), l1, l2, l3, l4, l5] (.inr x :: st) Q := VV_step rfl rfl rfl rfl
theorem xr_82_162 (h : AHp) (Q : Option Int32 → AHp → Prop) (l0 l1 l2 l3 l4 l5 : Option AV) (i : Nat) (st : List AV) : VV 82 h 162 [l0, l1, l2, l3, l4, l5] (.inr (10, i) :: st) Q ↔ VV 82 h 165 [l0, l1, l2, l3, l4, l5] (.inr (23, i) :: st) Q := VV_step rfl rfl rfl rfl
theorem xr_82_165 (h : AHp) (Q : Option Int32 → AHp → Prop) (l0 l1 l2 l3 l4 l5 : Option AV) (st : List AV) : VV 82 h 165 [l0, l1, l2, l3, l4, l5] st Q ↔ VV 82 h 167 [l0, l1, l2, l3, l4, l5] (.inl (8 : Int32) :: st) Q := VV_step rfl rfl rfl rfl
theorem xr_82_167 (h : AHp) (Q : Option Int32 → AHp → Prop) (l0 l2 l3 l4 l5 : Option AV) (x : Int32) (st : List AV) : VV 82 h 167 [l0, some (.inl x), l2, l3, l4, l5] st Q ↔ VV 82 h 168 [l0, some (.inl x), l2, l3, l4, l5] (.inl x :: st) Q := VV_step rfl rfl rfl rfl
theorem xr_82_168 (h : AHp) (Q : Option Int32 → AHp → Prop) (l0 l1 l2 l3 l4 l5 : Option AV) (x y : Int32) (st : List AV) : VV 82 h 168 [l0, l1, l2, l3, l4, l5] (.inl y :: .inl x :: st) Q ↔ VV 82 h 169 [l0, l1, l2, l3, l4, l5] (.inl (x * y) :: st) Q := VV_step rfl rfl rfl rfl
theorem xr_82_169 (h : AHp) (Q : Option Int32 → AHp → Prop) (l0 l1 l3 l4 l5 : Option AV) (x : Int32) (st : List AV) : VV 82 h 169 [l0, l1, some (.inl x), l3, l4, l5] st Q ↔ VV 82 h 170 [l0, l1, some (.inl x), l3, l4, l5] (.inl x :: st) Q := VV_step rfl rfl rfl rfl
theorem xr_82_170 (h : AHp) (Q : Option Int32 → AHp → Prop) (l0 l1 l2 l3 l4 l5 : Option AV) (x y : Int32) (st : List AV) : VV 82 h 170 [l0, l1, l2, l3, l4, l5] (.inl y :: .inl x :: st) Q ↔ VV 82 h 171 [l0, l1, l2, l3, l4, l5] (.inl (x + y) :: st) Q := VV_step rfl rfl rfl rfl
theorem xr_82_171 (h : AHp) (Q : Option Int32 → AHp → Prop) (l0 l1 l2 l3 l4 l5 : Option AV) (x : Int32) (k i : Nat) (st : List AV) : VV 82 h 171 [l0, l1, l2, l3, l4, l5] (.inl x :: .inr (k, i) :: st) Q ↔ ix_i k x ∧ VV 82 h 172 [l0, l1, l2, l3, l4, l5] (.inl (h k i x.toNatClampNeg) :: st) Q := VV_iald rfl
theorem xr_82_172 (h : AHp) (Q : Option Int32 → AHp → Prop) (l0 l1 l2 l3 l4 l5 : Option AV) (a0 a1 : AV) : VV 82 h 172 [l0, l1, l2, l3, l4, l5] [a1, a0] Q ↔ Vi 81 h [some a0, some a1, none, none] (fun z h2 => VV 82 h2 175 [l0, l1, l2, l3, l4, l5] [.inl z] Q) := VV_calli (y := 81) (as := [a0, a1]) (rest := []) rfl rfl rfl (ah_noV (y := 81) (by decide))
theorem xr_82_175 (h : AHp) (Q : Option Int32 → AHp → Prop) (l1 l2 l3 l4 l5 : Option AV) (x : Nat × Nat) (st : List AV) : VV 82 h 175 [some (.inr x), l1, l2, l3, l4, l5] st Q ↔ VV 82 h 176 [some (.inr x), l1, l2, l3, l4, l5] (.inr x :: st) Q := VV_step rfl rfl rfl rfl
theorem xr_82_176 (h : AHp) (Q : Option Int32 → AHp → Prop) (l0 l1 l2 l3 l4 l5 : Option AV) (i : Nat) (st : List AV) : VV 82 h 176 [l0, l1, l2, l3, l4, l5] (.inr (10, i) :: st) Q ↔ VV 82 h 179 [l0, l1, l2, l3, l4, l5] (.inl (h 10 i 21) :: st) Q := VV_step rfl rfl rfl rfl
theorem xr_82_179 (h : AHp) (Q : Option Int32 → AHp → Prop) (l0 l1 l2 l3 l4 l5 : Option AV) (x y : Int32) (st : List AV) : VV 82 h 179 [l0, l1, l2, l3, l4, l5] (.inl y :: .inl x :: st) Q ↔ (x < y → VV 82 h 185 [l0, l1, l2, l3, l4, l5] st Q) ∧ (¬ (x < y) → VV 82 h 182 [l0, l1, l2, l3, l4, l5] st Q) := VV_br2 rfl rfl rfl decide_eq_true_iff
theorem xr_82_182 (h : AHp) (Q : Option Int32 → AHp → Prop) (l0 l1 l2 l3 l4 l5 : Option AV) (st : List AV) : VV 82 h 182 [l0, l1, l2, l3, l4, l5] st Q ↔ VV 82 h 216 [l0, l1, l2, l3, l4, l5] st Q := VV_step rfl rfl rfl rfl
theorem xr_82_185 (h : AHp) (Q : Option Int32 → AHp → Prop) (l1 l2 l3 l4 l5 : Option AV) (x : Nat × Nat) (st : List AV) : VV 82 h 185 [some (.inr x), l1, l2, l3, l4, l5] st Q ↔ VV 82 h 186 [some (.inr x), l1, l2, l3, l4, l5] (.inr x :: st) Q := VV_step rfl rfl rfl rfl
theorem xr_82_186 (h : AHp) (Q : Option Int32 → AHp → Prop) (l1 l2 l3 l4 l5 : Option AV) (x : Nat × Nat) (st : List AV) : VV 82 h 186 [some (.inr x), l1, l2, l3, l4, l5] st Q ↔ VV 82 h 187 [some (.inr x), l1, l2, l3, l4, l5] (.inr x :: st) Q := VV_step rfl rfl rfl rfl
theorem xr_82_187 (h : AHp) (Q : Option Int32 → AHp → Prop) (l0 l1 l2 l3 l4 l5 : Option AV) (i : Nat) (st : List AV) : VV 82 h 187 [l0, l1, l2, l3, l4, l5] (.inr (10, i) :: st) Q ↔ VV 82 h 190 [l0, l1, l2, l3, l4, l5] (.inr (23, i) :: st) Q := VV_step rfl rfl rfl rfl
theorem xr_82_190 (h : AHp) (Q : Option Int32 → AHp → Prop) (l0 l1 l2 l3 l4 : Option AV) (x : Int32) (st : List AV) : VV 82 h 190 [l0, l1, l2, l3, l4, some (.inl x)] st Q ↔ VV 82 h 192 [l0, l1, l2, l3, l4, some (.inl x)] (.inl x :: st) Q := VV_step rfl rfl rfl rfl
theorem xr_82_192 (h : AHp) (Q : Option Int32 → AHp → Prop) (l0 l1 l2 l3 l4 l5 : Option AV) (x : Int32) (k i : Nat) (st : List AV) : VV 82 h 192 [l0, l1, l2, l3, l4, l5] (.inl x :: .inr (k, i) :: st) Q ↔ ix_i k x ∧ VV 82 h 193 [l0, l1, l2, l3, l4, l5] (.inl (h k i x.toNatClampNeg) :: st) Q := VV_iald rfl
theorem xr_82_193 (h : AHp) (Q : Option Int32 → AHp → Prop) (l1 l2 l3 l4 l5 : Option AV) (x : Nat × Nat) (st : List AV) : VV 82 h 193 [some (.inr x), l1, l2, l3, l4, l5] st Q ↔ VV 82 h 194 [some (.inr x), l1, l2, l3, l4, l5] (.inr x :: st) Q := VV_step rfl rfl rfl rfl
theorem xr_82_194 (h : AHp) (Q : Option Int32 → AHp → Prop) (l0 l1 l2 l3 l4 l5 : Option AV) (i : Nat) (st : List AV) : VV 82 h 194 [l0, l1, l2, l3, l4, l5] (.inr (10, i) :: st) Q ↔ VV 82 h 197 [l0, l1, l2, l3, l4, l5] (.inr (23, i) :: st) Q := VV_step rfl rfl rfl rfl
theorem xr_82_197 (h : AHp) (Q : Option Int32 → AHp → Prop) (l0 l1 l2 l3 l4 l5 : Option AV) (st : List AV) : VV 82 h 197 [l0, l1, l2, l3, l4, l5] st Q ↔ VV 82 h 199 [l0, l1, l2, l3, l4, l5] (.inl (8 : Int32) :: st) Q := VV_step rfl rfl rfl rfl
theorem xr_82_199 (h : AHp) (Q : Option Int32 → AHp → Prop) (l0 l2 l3 l4 l5 : Option AV) (x : Int32) (st : List AV) : VV 82 h 199 [l0, some (.inl x), l2, l3, l4, l5] st Q ↔ VV 82 h 200 [l0, some (.inl x), l2, l3, l4, l5] (.inl x :: st) Q := VV_step rfl rfl rfl rfl
theorem xr_82_200 (h : AHp) (Q : Option Int32 → AHp → Prop) (l0 l1 l2 l3 l4 l5 : Option AV) (x y : Int32) (st : List AV) : VV 82 h 200 [l0, l1, l2, l3, l4, l5] (.inl y :: .inl x :: st) Q ↔ VV 82 h 201 [l0, l1, l2, l3, l4, l5] (.inl (x * y) :: st) Q := VV_step rfl rfl rfl rfl
theorem xr_82_201 (h : AHp) (Q : Option Int32 → AHp → Prop) (l0 l1 l3 l4 l5 : Option AV) (x : Int32) (st : List AV) : VV 82 h 201 [l0, l1, some (.inl x), l3, l4, l5] st Q ↔ VV 82 h 202 [l0, l1, some (.inl x), l3, l4, l5] (.inl x :: st) Q := VV_step rfl rfl rfl rfl
theorem xr_82_202 (h : AHp) (Q : Option Int32 → AHp → Prop) (l0 l1 l2 l3 l4 l5 : Option AV) (x y : Int32) (st : List AV) : VV 82 h 202 [l0, l1, l2, l3, l4, l5] (.inl y :: .inl x :: st) Q ↔ VV 82 h 203 [l0, l1, l2, l3, l4, l5] (.inl (x + y) :: st) Q := VV_step rfl rfl rfl rfl
theorem xr_82_203 (h : AHp) (Q : Option Int32 → AHp → Prop) (l0 l1 l2 l3 l4 l5 : Option AV) (x : Int32) (k i : Nat) (st : List AV) : VV 82 h 203 [l0, l1, l2, l3, l4, l5] (.inl x :: .inr (k, i) :: st) Q ↔ ix_i k x ∧ VV 82 h 204 [l0, l1, l2, l3, l4, l5] (.inl (h k i x.toNatClampNeg) :: st) Q := VV_iald rfl
theorem xr_82_204 (h : AHp) (Q : Option Int32 → AHp → Prop) (l0 l1 l2 l3 l4 l5 : Option AV) (a0 a1 r0 : AV) : VV 82 h 204 [l0, l1, l2, l3, l4, l5] [a1, a0, r0] Q ↔ Vi 81 h [some a0, some a1, none, none] (fun z h2 => VV 82 h2 207 [l0, l1, l2, l3, l4, l5] [.inl z, r0] Q) := VV_calli (y := 81) (as := [a0, a1]) (rest := [r0]) rfl rfl rfl (ah_noV (y := 81) (by decide))
theorem xr_82_207 (h : AHp) (Q : Option Int32 → AHp → Prop) (l0 l1 l2 l3 l4 l5 : Option AV) (v : Int32) (i : Nat) (st : List AV) : VV 82 h 207 [l0, l1, l2, l3, l4, l5] (.inl v :: .inr (10, i) :: st) Q ↔ VV 82 (ah_up h 10 i 21 v) 210 [l0, l1, l2, l3, l4, l5] st Q := VV_step rfl rfl rfl rfl
theorem xr_82_210 (h : AHp) (Q : Option Int32 → AHp → Prop) (l0 l1 l2 l3 l4 l5 : Option AV) (st : List AV) : VV 82 h 210 [l0, l1, l2, l3, l4, l5] st Q ↔ VV 82 h 212 [l0, l1, l2, l3, l4, l5] (.inl (-2 : Int32) :: st) Q := VV_step rfl rfl rfl rfl
theorem xr_82_212 (h : AHp) (Q : Option Int32 → AHp → Prop) (l0 l1 l2 l3 l5 : Option AV) (x : Int32) (st : List AV) : VV 82 h 212 [l0, l1, l2, l3, some (.inl x), l5] st Q ↔ VV 82 h 214 [l0, l1, l2, l3, some (.inl x), l5] (.inl x :: st) Q := VV_step rfl rfl rfl rfl
theorem xr_82_214 (h : AHp) (Q : Option Int32 → AHp → Prop) (l0 l1 l2 l3 l4 l5 : Option AV) (x y : Int32) (st : List AV) : VV 82 h 214 [l0, l1, l2, l3, l4, l5] (.inl y :: .inl x :: st) Q ↔ VV 82 h 215 [l0, l1, l2, l3, l4, l5] (.inl (x - y) :: st) Q := VV_step rfl rfl rfl rfl
theorem xr_82_215 (h : AHp) (Q : Option Int32 → AHp → Prop) (l0 l1 l2 l3 l4 l5 : Option AV) (x : Int32) (st : List AV) : VV 82 h 215 [l0, l1, l2, l3, l4, l5] (.inl x :: st) Q ↔ VV 82 h 216 [l0, l1, l2, some (.inl x), l4, l5] st Q := VV_step rfl rfl rfl rfl
theorem xr_82_216 (h : AHp) (Q : Option Int32 → AHp → Prop) (l0 l1 l2 l3 l5 : Option AV) (x : Int32) (st : List AV) : VV 82 h 216 [l0, l1, l2, l3, some (.inl x), l5] st Q ↔ VV 82 h 219 [l0, l1, l2, l3, some (.inl (x + (1 : Int32))), l5] st Q := VV_step rfl rfl rfl rfl
theorem xr_82_219 (h : AHp) (Q : Option Int32 → AHp → Prop) (l0 l1 l2 l3 l4 l5 : Option AV) (st : List AV) : VV 82 h 219 [l0, l1, l2, l3, l4, l5] st Q ↔ VV 82 h 99 [l0, l1, l2, l3, l4, l5] st Q := VV_step rfl rfl rfl rfl
theorem xr_82_222 (h : AHp) (Q : Option Int32 → AHp → Prop) (l0 l1 l2 l4 l5 : Option AV) (x : Int32) (st : List AV) : VV 82 h 222 [l0, l1, l2, some (.inl x), l4, l5] st Q ↔ VV 82 h 223 [l0, l1, l2, some (.inl x), l4, l5] (.inl x :: st) Q := VV_step rfl rfl rfl rfl
theorem xr_82_223 (h : AHp) (Q : Option Int32 → AHp → Prop) (l0 l1 l2 l3 l4 l5 : Option AV) (x : Int32) : VV 82 h 223 [l0, l1, l2, l3, l4, l5] [.inl x] Q ↔ Q (some x) h := VV_end rfl rfl
theorem xr_83_0 (h : AHp) (Q : Option Int32 → AHp → Prop) (l1 l2 : Option AV) (x : Nat × Nat) (st : List AV) : VV 83 h 0 [some (.inr x), l1, l2] st Q ↔ VV 83 h 1 [some (.inr x), l1, l2] (.inr x :: st) Q := VV_step rfl rfl rfl rfl
theorem xr_83_1 (h : AHp) (Q : Option Int32 → AHp → Prop) (l0 l1 l2 : Option AV) (st : List AV) : VV 83 h 1 [l0, l1, l2] st Q ↔ VV 83 h 2 [l0, l1, l2] (.inl (0 : Int32) :: st) Q := VV_step rfl rfl rfl rfl
theorem xr_83_2 (h : AHp) (Q : Option Int32 → AHp → Prop) (l0 l1 l2 : Option AV) (v : Int32) (i : Nat) (st : List AV) : VV 83 h 2 [l0, l1, l2] (.inl v :: .inr (10, i) :: st) Q ↔ VV 83 (ah_up h 10 i 20 v) 5 [l0, l1, l2] st Q := VV_step rfl rfl rfl rfl
theorem xr_83_5 (h : AHp) (Q : Option Int32 → AHp → Prop) (l1 l2 : Option AV) (x : Nat × Nat) (st : List AV) : VV 83 h 5 [some (.inr x), l1, l2] st Q ↔ VV 83 h 6 [some (.inr x), l1, l2] (.inr x :: st) Q := VV_step rfl rfl rfl rfl
theorem xr_83_6 (h : AHp) (Q : Option Int32 → AHp → Prop) (l0 l2 : Option AV) (x : Int32) (st : List AV) : VV 83 h 6 [l0, some (.inl x), l2] st Q ↔ VV 83 h 7 [l0, some (.inl x), l2] (.inl x :: st) Q := VV_step rfl rfl rfl rfl
theorem xr_83_7 (h : AHp) (Q : Option Int32 → AHp → Prop) (l0 l1 : Option AV) (x : Int32) (st : List AV) : VV 83 h 7 [l0, l1, some (.inl x)] st Q ↔ VV 83 h 8 [l0, l1, some (.inl x)] (.inl x :: st) Q := VV_step rfl rfl rfl rfl
theorem xr_83_8 (h : AHp) (Q : Option Int32 → AHp → Prop) (l0 l1 l2 : Option AV) (a0 a1 : AV) (i : Nat) : VV 83 h 8 [l0, l1, l2] [a1, a0, .inr (10, i)] Q ↔ Vi 79 h [some (.inr (10, i)), some a0, some a1] (fun z h2 => VV 83 h2 11 [l0, l1, l2] [.inl z] Q) := VV_calli (y := 79) (as := [.inr (10, i), a0, a1]) (rest := []) rfl rfl rfl (ah_noV (y := 79) (by decide))
theorem xr_83_11 (h : AHp) (Q : Option Int32 → AHp → Prop) (l0 l1 l2 : Option AV) (x : Int32) (st : List AV) : VV 83 h 11 [l0, l1, l2] (.inl x :: st) Q ↔ (x = 0 → VV 83 h 23 [l0, l1, l2] st Q) ∧ (¬ (x = 0) → VV 83 h 14 [l0, l1, l2] st Q) := VV_br rfl rfl rfl decide_eq_true_iff
theorem xr_83_14 (h : AHp) (Q : Option Int32 → AHp → Prop) (l1 l2 : Option AV) (x : Nat × Nat) (st : List AV) : VV 83 h 14 [some (.inr x), l1, l2] st Q ↔ VV 83 h 15 [some (.inr x), l1, l2] (.inr x :: st) Q := VV_step rfl rfl rfl rfl
theorem xr_83_15 (h : AHp) (Q : Option Int32 → AHp → Prop) (l0 l2 : Option AV) (x : Int32) (st : List AV) : VV 83 h 15 [l0, some (.inl x), l2] st Q ↔ VV 83 h 16 [l0, some (.inl x), l2] (.inl x :: st) Q := VV_step rfl rfl rfl rfl
theorem xr_83_16 (h : AHp) (Q : Option Int32 → AHp → Prop) (l0 l1 : Option AV) (x : Int32) (st : List AV) : VV 83 h 16 [l0, l1, some (.inl x)] st Q ↔ VV 83 h 17 [l0, l1, some (.inl x)] (.inl x :: st) Q := VV_step rfl rfl rfl rfl
theorem xr_83_17 (h : AHp) (Q : Option Int32 → AHp → Prop) (l0 l1 l2 : Option AV) (a0 a1 : AV) (i : Nat) : VV 83 h 17 [l0, l1, l2] [a1, a0, .inr (10, i)] Q ↔ Vi 82 h [some (.inr (10, i)), some a0, some a1, none, none, none] (fun z h2 => VV 83 h2 20 [l0, l1, l2] [.inl z] Q) := VV_calli (y := 82) (as := [.inr (10, i), a0, a1]) (rest := []) rfl rfl rfl (ah_noV (y := 82) (by decide))
theorem xr_83_20 (h : AHp) (Q : Option Int32 → AHp → Prop) (l0 l1 l2 : Option AV) (st : List AV) : VV 83 h 20 [l0, l1, l2] st Q ↔ VV 83 h 24 [l0, l1, l2] st Q := VV_step rfl rfl rfl rfl
theorem xr_83_23 (h : AHp) (Q : Option Int32 → AHp → Prop) (l0 l1 l2 : Option AV) (st : List AV) : VV 83 h 23 [l0, l1, l2] st Q ↔ VV 83 h 24 [l0, l1, l2] (.inl (-1 : Int32) :: st) Q := VV_step rfl rfl rfl rfl
theorem xr_83_24 (h : AHp) (Q : Option Int32 → AHp → Prop) (l0 l1 l2 : Option AV) (x : Int32) : VV 83 h 24 [l0, l1, l2] [.inl x] Q ↔ Q (some x) h := VV_end rfl rfl
theorem xr_84_0 (h : AHp) (Q : Option Int32 → AHp → Prop) (l1 l2 l3 : Option AV) (x : Nat × Nat) (st : List AV) : VV 84 h 0 [some (.inr x), l1, l2, l3] st Q ↔ VV 84 h 1 [some (.inr x), l1, l2, l3] (.inr x :: st) Q := VV_step rfl rfl rfl rfl
theorem xr_84_1 (h : AHp) (Q : Option Int32 → AHp → Prop) (l0 l1 l2 l3 : Option AV) (st : List AV) : VV 84 h 1 [l0, l1, l2, l3] st Q ↔ VV 84 h 2 [l0, l1, l2, l3] (.inl (0 : Int32) :: st) Q := VV_step rfl rfl rfl rfl
theorem xr_84_2 (h : AHp) (Q : Option Int32 → AHp → Prop) (l0 l1 l2 l3 : Option AV) (v : Int32) (i : Nat) (st : List AV) : VV 84 h 2 [l0, l1, l2, l3] (.inl v :: .inr (10, i) :: st) Q ↔ VV 84 (ah_up h 10 i 20 v) 5 [l0, l1, l2, l3] st Q := VV_step rfl rfl rfl rfl
theorem xr_84_5 (h : AHp) (Q : Option Int32 → AHp → Prop) (l1 l2 l3 : Option AV) (x : Nat × Nat) (st : List AV) : VV 84 h 5 [some (.inr x), l1, l2, l3] st Q ↔ VV 84 h 6 [some (.inr x), l1, l2, l3] (.inr x :: st) Q := VV_step rfl rfl rfl rfl
theorem xr_84_6 (h : AHp) (Q : Option Int32 → AHp → Prop) (l0 l2 l3 : Option AV) (x : Int32) (st : List AV) : VV 84 h 6 [l0, some (.inl x), l2, l3] st Q ↔ VV 84 h 7 [l0, some (.inl x), l2, l3] (.inl x :: st) Q := VV_step rfl rfl rfl rfl
theorem xr_84_7 (h : AHp) (Q : Option Int32 → AHp → Prop) (l0 l1 l2 l3 : Option AV) (a0 : AV) (i : Nat) : VV 84 h 7 [l0, l1, l2, l3] [a0, .inr (10, i)] Q ↔ Vi 62 h [some (.inr (10, i)), some a0] (fun z h2 => VV 84 h2 10 [l0, l1, l2, l3] [.inl z] Q) := VV_calli (y := 62) (as := [.inr (10, i), a0]) (rest := []) rfl rfl rfl (ah_noV (y := 62) (by decide))
theorem xr_84_10 (h : AHp) (Q : Option Int32 → AHp → Prop) (l0 l1 l2 l3 : Option AV) (x : Int32) (st : List AV) : VV 84 h 10 [l0, l1, l2, l3] (.inl x :: st) Q ↔ (¬ x = 0 → VV 84 h 15 [l0, l1, l2, l3] st Q) ∧ (¬ (¬ x = 0) → VV 84 h 13 [l0, l1, l2, l3] st Q) := VV_br rfl rfl rfl decide_eq_true_iff
theorem xr_84_13 (h : AHp) (Q : Option Int32 → AHp → Prop) (l0 l1 l2 l3 : Option AV) (st : List AV) : VV 84 h 13 [l0, l1, l2, l3] st Q ↔ VV 84 h 14 [l0, l1, l2, l3] (.inl (-1 : Int32) :: st) Q := VV_step rfl rfl rfl rfl
theorem xr_84_14 (h : AHp) (Q : Option Int32 → AHp → Prop) (l0 l1 l2 l3 : Option AV) (x : Int32) : VV 84 h 14 [l0, l1, l2, l3] [.inl x] Q ↔ Q (some x) h := VV_end rfl rfl
theorem xr_84_15 (h : AHp) (Q : Option Int32 → AHp → Prop) (l0 l1 l2 l3 : Option AV) (st : List AV) : VV 84 h 15 [l0, l1, l2, l3] st Q ↔ VV 84 h 16 [l0, l1, l2, l3] (.inl (0 : Int32) :: st) Q := VV_step rfl rfl rfl rfl
theorem xr_84_16 (h : AHp) (Q : Option Int32 → AHp → Prop) (l0 l1 l2 l3 : Option AV) (x : Int32) (st : List AV) : VV 84 h 16 [l0, l1, l2, l3] (.inl x :: st) Q ↔ VV 84 h 17 [l0, l1, some (.inl x), l3] st Q := VV_step rfl rfl rfl rfl
theorem xr_84_17 (h : AHp) (Q : Option Int32 → AHp → Prop) (l0 l1 l2 l3 : Option AV) (st : List AV) : VV 84 h 17 [l0, l1, l2, l3] st Q ↔ VV 84 h 18 [l0, l1, l2, l3] (.inl (0 : Int32) :: st) Q := VV_step rfl rfl rfl rfl
theorem xr_84_18 (h : AHp) (Q : Option Int32 → AHp → Prop) (l0 l1 l2 l3 : Option AV) (x : Int32) (st : List AV) : VV 84 h 18 [l0, l1, l2, l3] (.inl x :: st) Q ↔ VV 84 h 19 [l0, l1, l2, some (.inl x)] st Q := VV_step rfl rfl rfl rfl
theorem xr_84_19 (h : AHp) (Q : Option Int32 → AHp → Prop) (l0 l1 l2 : Option AV) (x : Int32) (st : List AV) : VV 84 h 19 [l0, l1, l2, some (.inl x)] st Q ↔ VV 84 h 20 [l0, l1, l2, some (.inl x)] (.inl x :: st) Q := VV_step rfl rfl rfl rfl
theorem xr_84_20 (h : AHp) (Q : Option Int32 → AHp → Prop) (l1 l2 l3 : Option AV) (x : Nat × Nat) (st : List AV) : VV 84 h 20 [some (.inr x), l1, l2, l3] st Q ↔ VV 84 h 21 [some (.inr x), l1, l2, l3] (.inr x :: st) Q := VV_step rfl rfl rfl rfl
theorem xr_84_21 (h : AHp) (Q : Option Int32 → AHp → Prop) (l0 l1 l2 l3 : Option AV) (i : Nat) (st : List AV) : VV 84 h 21 [l0, l1, l2, l3] (.inr (10, i) :: st) Q ↔ VV 84 h 24 [l0, l1, l2, l3] (.inl (h 10 i 6) :: st) Q := VV_step rfl rfl rfl rfl
theorem xr_84_24 (h : AHp) (Q : Option Int32 → AHp → Prop) (l0 l1 l2 l3 : Option AV) (x y : Int32) (st : List AV) : VV 84 h 24 [l0, l1, l2, l3] (.inl y :: .inl x :: st) Q ↔ (y ≤ x → VV 84 h 67 [l0, l1, l2, l3] st Q) ∧ (¬ (y ≤ x) → VV 84 h 27 [l0, l1, l2, l3] st Q) := VV_br2 rfl rfl rfl decide_eq_true_iff
theorem xr_84_27 (h : AHp) (Q : Option Int32 → AHp → Prop) (l1 l2 l3 : Option AV) (x : Nat × Nat) (st : List AV) : VV 84 h 27 [some (.inr x), l1, l2, l3] st Q ↔ VV 84 h 28 [some (.inr x), l1, l2, l3] (.inr x :: st) Q := VV_step rfl rfl rfl rfl
theorem xr_84_28 (h : AHp) (Q : Option Int32 → AHp → Prop) (l0 l1 l2 l3 : Option AV) (i : Nat) (st : List AV) : VV 84 h 28 [l0, l1, l2, l3] (.inr (10, i) :: st) Q ↔ VV 84 h 31 [l0, l1, l2, l3] (.inr (22, i) :: st) Q := VV_step rfl rfl rfl rfl
theorem xr_84_31 (h : AHp) (Q : Option Int32 → AHp → Prop) (l0 l1 l2 l3 : Option AV) (st : List AV) : VV 84 h 31 [l0, l1, l2, l3] st Q ↔ VV 84 h 33 [l0, l1, l2, l3] (.inl (8 : Int32) :: st) Q := VV_step rfl rfl rfl rfl
theorem xr_84_33 (h : AHp) (Q : Option Int32 → AHp → Prop) (l0 l1 l2 : Option AV) (x : Int32) (st : List AV) : VV 84 h 33 [l0, l1, l2, some (.inl x)] st Q ↔ VV 84 h 34 [l0, l1, l2, some (.inl x)] (.inl x :: st) Q := VV_step rfl rfl rfl rfl
theorem xr_84_34 (h : AHp) (Q : Option Int32 → AHp → Prop) (l0 l1 l2 l3 : Option AV) (x y : Int32) (st : List AV) : VV 84 h 34 [l0, l1, l2, l3] (.inl y :: .inl x :: st) Q ↔ VV 84 h 35 [l0, l1, l2, l3] (.inl (x * y) :: st) Q := VV_step rfl rfl rfl rfl
theorem xr_84_35 (h : AHp) (Q : Option Int32 → AHp → Prop) (l0 l2 l3 : Option AV) (x : Int32) (st : List AV) : VV 84 h 35 [l0, some (.inl x), l2, l3] st Q ↔ VV 84 h 36 [l0, some (.inl x), l2, l3] (.inl x :: st) Q := VV_step rfl rfl rfl rfl
theorem xr_84_36 (h : AHp) (Q : Option Int32 → AHp → Prop) (l0 l1 l2 l3 : Option AV) (x y : Int32) (st : List AV) : VV 84 h 36 [l0, l1, l2, l3] (.inl y :: .inl x :: st) Q ↔ VV 84 h 37 [l0, l1, l2, l3] (.inl (x + y) :: st) Q := VV_step rfl rfl rfl rfl
theorem xr_84_37 (h : AHp) (Q : Option Int32 → AHp → Prop) (l0 l1 l2 l3 : Option AV) (x : Int32) (k i : Nat) (st : List AV) : VV 84 h 37 [l0, l1, l2, l3] (.inl x :: .inr (k, i) :: st) Q ↔ ix_z k x ∧ VV 84 h 38 [l0, l1, l2, l3] (.inl (h k i x.toNatClampNeg) :: st) Q := VV_bald rfl
theorem xr_84_38 (h : AHp) (Q : Option Int32 → AHp → Prop) (l0 l1 l2 l3 : Option AV) (x : Int32) (st : List AV) : VV 84 h 38 [l0, l1, l2, l3] (.inl x :: st) Q ↔ (¬ x = 0 → VV 84 h 44 [l0, l1, l2, l3] st Q) ∧ (¬ (¬ x = 0) → VV 84 h 41 [l0, l1, l2, l3] st Q) := VV_br rfl rfl rfl decide_eq_true_iff
theorem xr_84_41 (h : AHp) (Q : Option Int32 → AHp → Prop) (l0 l1 l2 l3 : Option AV) (st : List AV) : VV 84 h 41 [l0, l1, l2, l3] st Q ↔ VV 84 h 61 [l0, l1, l2, l3] st Q := VV_step rfl rfl rfl rfl
theorem xr_84_44 (h : AHp) (Q : Option Int32 → AHp → Prop) (l1 l2 l3 : Option AV) (x : Nat × Nat) (st : List AV) : VV 84 h 44 [some (.inr x), l1, l2, l3] st Q ↔ VV 84 h 45 [some (.inr x), l1, l2, l3] (.inr x :: st) Q := VV_step rfl rfl rfl rfl
theorem xr_84_45 (h : AHp) (Q : Option Int32 → AHp → Prop) (l0 l1 l2 : Option AV) (x : Int32) (st : List AV) : VV 84 h 45 [l0, l1, l2, some (.inl x)] st Q ↔ VV 84 h 46 [l0, l1, l2, some (.inl x)] (.inl x :: st) Q := VV_step rfl rfl rfl rfl
theorem xr_84_46 (h : AHp) (Q : Option Int32 → AHp → Prop) (l0 l2 l3 : Option AV) (x : Int32) (st : List AV) : VV 84 h 46 [l0, some (.inl x), l2, l3] st Q ↔ VV 84 h 47 [l0, some (.inl x), l2, l3] (.inl x :: st) Q := VV_step rfl rfl rfl rfl
theorem xr_84_47 (h : AHp) (Q : Option Int32 → AHp → Prop) (l0 l1 l2 l3 : Option AV) (a0 a1 : AV) (i : Nat) : VV 84 h 47 [l0, l1, l2, l3] [a1, a0, .inr (10, i)] Q ↔ Vi 82 h [some (.inr (10, i)), some a0, some a1, none, none, none] (fun z h2 => VV 84 h2 50 [l0, l1, l2, l3] [.inl z] Q) := VV_calli (y := 82) (as := [.inr (10, i), a0, a1]) (rest := []) rfl rfl rfl (ah_noV (y := 82) (by decide))
theorem xr_84_50 (h : AHp) (Q : Option Int32 → AHp → Prop) (l0 l1 l2 l3 : Option AV) (st : List AV) : VV 84 h 50 [l0, l1, l2, l3] st Q ↔ VV 84 h 51 [l0, l1, l2, l3] (.inl (-1 : Int32) :: st) Q := VV_step rfl rfl rfl rfl
theorem xr_84_51 (h : AHp) (Q : Option Int32 → AHp → Prop) (l0 l1 l2 l3 : Option AV) (x y : Int32) (st : List AV) : VV 84 h 51 [l0, l1, l2, l3] (.inl y :: .inl x :: st) Q ↔ (x = y → VV 84 h 61 [l0, l1, l2, l3] st Q) ∧ (¬ (x = y) → VV 84 h 54 [l0, l1, l2, l3] st Q) := VV_br2 rfl rfl rfl decide_eq_true_iff
theorem xr_84_54 (h : AHp) (Q : Option Int32 → AHp → Prop) (l0 l1 l3 : Option AV) (x : Int32) (st : List AV) : VV 84 h 54 [l0, l1, some (.inl x), l3] st Q ↔ VV 84 h 55 [l0, l1, some (.inl x), l3] (.inl x :: st) Q := VV_step rfl rfl rfl rfl
theorem xr_84_55 (h : AHp) (Q : Option Int32 → AHp → Prop) (l1 l2 l3 : Option AV) (x : Nat × Nat) (st : List AV) : VV 84 h 55 [some (.inr x), l1, l2, l3] st Q ↔ VV 84 h 56 [some (.inr x), l1, l2, l3] (.inr x :: st) Q := VV_step rfl rfl rfl rfl
theorem xr_84_56 (h : AHp) (Q : Option Int32 → AHp → Prop) (l0 l1 l2 l3 : Option AV) (i : Nat) (st : List AV) : VV 84 h 56 [l0, l1, l2, l3] (.inr (10, i) :: st) Q ↔ VV 84 h 59 [l0, l1, l2, l3] (.inl (h 10 i 21) :: st) Q := VV_step rfl rfl rfl rfl
theorem xr_84_59 (h : AHp) (Q : Option Int32 → AHp → Prop) (l0 l1 l2 l3 : Option AV) (x y : Int32) (st : List AV) : VV 84 h 59 [l0, l1, l2, l3] (.inl y :: .inl x :: st) Q ↔ VV 84 h 60 [l0, l1, l2, l3] (.inl (x + y) :: st) Q := VV_step rfl rfl rfl rfl
theorem xr_84_60 (h : AHp) (Q : Option Int32 → AHp → Prop) (l0 l1 l2 l3 : Option AV) (x : Int32) (st : List AV) : VV 84 h 60 [l0, l1, l2, l3] (.inl x :: st) Q ↔ VV 84 h 61 [l0, l1, some (.inl x), l3] st Q := VV_step rfl rfl rfl rfl
theorem xr_84_61 (h : AHp) (Q : Option Int32 → AHp → Prop) (l0 l1 l2 : Option AV) (x : Int32) (st : List AV) : VV 84 h 61 [l0, l1, l2, some (.inl x)] st Q ↔ VV 84 h 64 [l0, l1, l2, some (.inl (x + (1 : Int32)))] st Q := VV_step rfl rfl rfl rfl
theorem xr_84_64 (h : AHp) (Q : Option Int32 → AHp → Prop) (l0 l1 l2 l3 : Option AV) (st : List AV) : VV 84 h 64 [l0, l1, l2, l3] st Q ↔ VV 84 h 19 [l0, l1, l2, l3] st Q := VV_step rfl rfl rfl rfl
theorem xr_84_67 (h : AHp) (Q : Option Int32 → AHp → Prop) (l0 l1 l3 : Option AV) (x : Int32) (st : List AV) : VV 84 h 67 [l0, l1, some (.inl x), l3] st Q ↔ VV 84 h 68 [l0, l1, some (.inl x), l3] (.inl x :: st) Q := VV_step rfl rfl rfl rfl
theorem xr_84_68 (h : AHp) (Q : Option Int32 → AHp → Prop) (l0 l1 l2 l3 : Option AV) (x : Int32) : VV 84 h 68 [l0, l1, l2, l3] [.inl x] Q ↔ Q (some x) h := VV_end rfl rfl
theorem xr_85_0 (h : AHp) (Q : Option Int32 → AHp → Prop) (l1 l2 l3 l4 : Option AV) (x : Nat × Nat) (st : List AV) : VV 85 h 0 [some (.inr x), l1, l2, l3, l4] st Q ↔ VV 85 h 1 [some (.inr x), l1, l2, l3, l4] (.inr x :: st) Q := VV_step rfl rfl rfl rfl
theorem xr_85_1 (h : AHp) (Q : Option Int32 → AHp → Prop) (l0 l1 l2 l3 l4 : Option AV) (st : List AV) : VV 85 h 1 [l0, l1, l2, l3, l4] st Q ↔ VV 85 h 2 [l0, l1, l2, l3, l4] (.inl (0 : Int32) :: st) Q := VV_step rfl rfl rfl rfl
theorem xr_85_2 (h : AHp) (Q : Option Int32 → AHp → Prop) (l0 l1 l2 l3 l4 : Option AV) (v : Int32) (i : Nat) (st : List AV) : VV 85 h 2 [l0, l1, l2, l3, l4] (.inl v :: .inr (10, i) :: st) Q ↔ VV 85 (ah_up h 10 i 20 v) 5 [l0, l1, l2, l3, l4] st Q := VV_step rfl rfl rfl rfl
theorem xr_85_5 (h : AHp) (Q : Option Int32 → AHp → Prop) (l1 l2 l3 l4 : Option AV) (x : Nat × Nat) (st : List AV) : VV 85 h 5 [some (.inr x), l1, l2, l3, l4] st Q ↔ VV 85 h 6 [some (.inr x), l1, l2, l3, l4] (.inr x :: st) Q := VV_step rfl rfl rfl rfl
theorem xr_85_6 (h : AHp) (Q : Option Int32 → AHp → Prop) (l0 l2 l3 l4 : Option AV) (x : Int32) (st : List AV) : VV 85 h 6 [l0, some (.inl x), l2, l3, l4] st Q ↔ VV 85 h 7 [l0, some (.inl x), l2, l3, l4] (.inl x :: st) Q := VV_step rfl rfl rfl rfl
theorem xr_85_7 (h : AHp) (Q : Option Int32 → AHp → Prop) (l0 l1 l2 l3 l4 : Option AV) (a0 : AV) (i : Nat) : VV 85 h 7 [l0, l1, l2, l3, l4] [a0, .inr (10, i)] Q ↔ Vi 61 h [some (.inr (10, i)), some a0] (fun z h2 => VV 85 h2 10 [l0, l1, l2, l3, l4] [.inl z] Q) := VV_calli (y := 61) (as := [.inr (10, i), a0]) (rest := []) rfl rfl rfl (ah_noV (y := 61) (by decide))
theorem xr_85_10 (h : AHp) (Q : Option Int32 → AHp → Prop) (l0 l1 l2 l3 l4 : Option AV) (x : Int32) (st : List AV) : VV 85 h 10 [l0, l1, l2, l3, l4] (.inl x :: st) Q ↔ (x = 0 → VV 85 h 21 [l0, l1, l2, l3, l4] st Q) ∧ (¬ (x = 0) → VV 85 h 13 [l0, l1, l2, l3, l4] st Q) := VV_br rfl rfl rfl decide_eq_true_iff
theorem xr_85_13 (h : AHp) (Q : Option Int32 → AHp → Prop) (l1 l2 l3 l4 : Option AV) (x : Nat × Nat) (st : List AV) : VV 85 h 13 [some (.inr x), l1, l2, l3, l4] st Q ↔ VV 85 h 14 [some (.inr x), l1, l2, l3, l4] (.inr x :: st) Q := VV_step rfl rfl rfl rfl
theorem xr_85_14 (h : AHp) (Q : Option Int32 → AHp → Prop) (l0 l1 l3 l4 : Option AV) (x : Int32) (st : List AV) : VV 85 h 14 [l0, l1, some (.inl x), l3, l4] st Q ↔ VV 85 h 15 [l0, l1, some (.inl x), l3, l4] (.inl x :: st) Q := VV_step rfl rfl rfl rfl
theorem xr_85_15 (h : AHp) (Q : Option Int32 → AHp → Prop) (l0 l1 l2 l3 l4 : Option AV) (a0 : AV) (i : Nat) : VV 85 h 15 [l0, l1, l2, l3, l4] [a0, .inr (10, i)] Q ↔ Vi 61 h [some (.inr (10, i)), some a0] (fun z h2 => VV 85 h2 18 [l0, l1, l2, l3, l4] [.inl z] Q) := VV_calli (y := 61) (as := [.inr (10, i), a0]) (rest := []) rfl rfl rfl (ah_noV (y := 61) (by decide))
theorem xr_85_18 (h : AHp) (Q : Option Int32 → AHp → Prop) (l0 l1 l2 l3 l4 : Option AV) (x : Int32) (st : List AV) : VV 85 h 18 [l0, l1, l2, l3, l4] (.inl x :: st) Q ↔ (¬ x = 0 → VV 85 h 23 [l0, l1, l2, l3, l4] st Q) ∧ (¬ (¬ x = 0) → VV 85 h 21 [l0, l1, l2, l3, l4] st Q) := VV_br rfl rfl rfl decide_eq_true_iff
theorem xr_85_21 (h : AHp) (Q : Option Int32 → AHp → Prop) (l0 l1 l2 l3 l4 : Option AV) (st : List AV) : VV 85 h 21 [l0, l1, l2, l3, l4] st Q ↔ VV 85 h 22 [l0, l1, l2, l3, l4] (.inl (-1 : Int32) :: st) Q := VV_step rfl rfl rfl rfl
theorem xr_85_22 (h : AHp) (Q : Option Int32 → AHp → Prop) (l0 l1 l2 l3 l4 : Option AV) (x : Int32) : VV 85 h 22 [l0, l1, l2, l3, l4] [.inl x] Q ↔ Q (some x) h := VV_end rfl rfl
theorem xr_85_23 (h : AHp) (Q : Option Int32 → AHp → Prop) (l0 l1 l2 l3 l4 : Option AV) (st : List AV) : VV 85 h 23 [l0, l1, l2, l3, l4] st Q ↔ VV 85 h 24 [l0, l1, l2, l3, l4] (.inl (0 : Int32) :: st) Q := VV_step rfl rfl rfl rfl
theorem xr_85_24 (h : AHp) (Q : Option Int32 → AHp → Prop) (l0 l1 l2 l3 l4 : Option AV) (x : Int32) (st : List AV) : VV 85 h 24 [l0, l1, l2, l3, l4] (.inl x :: st) Q ↔ VV 85 h 25 [l0, l1, l2, some (.inl x), l4] st Q := VV_step rfl rfl rfl rfl
theorem xr_85_25 (h : AHp) (Q : Option Int32 → AHp → Prop) (l0 l1 l2 l3 l4 : Option AV) (st : List AV) : VV 85 h 25 [l0, l1, l2, l3, l4] st Q ↔ VV 85 h 26 [l0, l1, l2, l3, l4] (.inl (0 : Int32) :: st) Q := VV_step rfl rfl rfl rfl
theorem xr_85_26 (h : AHp) (Q : Option Int32 → AHp → Prop) (l0 l1 l2 l3 l4 : Option AV) (x : Int32) (st : List AV) : VV 85 h 26 [l0, l1, l2, l3, l4] (.inl x :: st) Q ↔ VV 85 h 28 [l0, l1, l2, l3, some (.inl x)] st Q := VV_step rfl rfl rfl rfl
theorem xr_85_28 (h : AHp) (Q : Option Int32 → AHp → Prop) (l0 l1 l2 l3 : Option AV) (x : Int32) (st : List AV) : VV 85 h 28 [l0, l1, l2, l3, some (.inl x)] st Q ↔ VV 85 h 30 [l0, l1, l2, l3, some (.inl x)] (.inl x :: st) Q := VV_step rfl rfl rfl rfl
theorem xr_85_30 (h : AHp) (Q : Option Int32 → AHp → Prop) (l1 l2 l3 l4 : Option AV) (x : Nat × Nat) (st : List AV) : VV 85 h 30 [some (.inr x), l1, l2, l3, l4] st Q ↔ VV 85 h 31 [some (.inr x), l1, l2, l3, l4] (.inr x :: st) Q := VV_step rfl rfl rfl rfl
theorem xr_85_31 (h : AHp) (Q : Option Int32 → AHp → Prop) (l0 l1 l2 l3 l4 : Option AV) (i : Nat) (st : List AV) : VV 85 h 31 [l0, l1, l2, l3, l4] (.inr (10, i) :: st) Q ↔ VV 85 h 34 [l0, l1, l2, l3, l4] (.inl (h 10 i 0) :: st) Q := VV_step rfl rfl rfl rfl
theorem xr_85_34 (h : AHp) (Q : Option Int32 → AHp → Prop) (l0 l1 l2 l3 l4 : Option AV) (x y : Int32) (st : List AV) : VV 85 h 34 [l0, l1, l2, l3, l4] (.inl y :: .inl x :: st) Q ↔ (y ≤ x → VV 85 h 108 [l0, l1, l2, l3, l4] st Q) ∧ (¬ (y ≤ x) → VV 85 h 37 [l0, l1, l2, l3, l4] st Q) := VV_br2 rfl rfl rfl decide_eq_true_iff
theorem xr_85_37 (h : AHp) (Q : Option Int32 → AHp → Prop) (l0 l1 l2 l4 : Option AV) (x : Int32) (st : List AV) : VV 85 h 37 [l0, l1, l2, some (.inl x), l4] st Q ↔ VV 85 h 38 [l0, l1, l2, some (.inl x), l4] (.inl x :: st) Q := VV_step rfl rfl rfl rfl
theorem xr_85_38 (h : AHp) (Q : Option Int32 → AHp → Prop) (l1 l2 l3 l4 : Option AV) (x : Nat × Nat) (st : List AV) : VV 85 h 38 [some (.inr x), l1, l2, l3, l4] st Q ↔ VV 85 h 39 [some (.inr x), l1, l2, l3, l4] (.inr x :: st) Q := VV_step rfl rfl rfl rfl
theorem xr_85_39 (h : AHp) (Q : Option Int32 → AHp → Prop) (l0 l1 l2 l3 l4 : Option AV) (i : Nat) (st : List AV) : VV 85 h 39 [l0, l1, l2, l3, l4] (.inr (10, i) :: st) Q ↔ VV 85 h 42 [l0, l1, l2, l3, l4] (.inr (22, i) :: st) Q := VV_step rfl rfl rfl rfl
theorem xr_85_42 (h : AHp) (Q : Option Int32 → AHp → Prop) (l0 l1 l2 l3 l4 : Option AV) (st : List AV) : VV 85 h 42 [l0, l1, l2, l3, l4] st Q ↔ VV 85 h 44 [l0, l1, l2, l3, l4] (.inl (8 : Int32) :: st) Q := VV_step rfl rfl rfl rfl
theorem xr_85_44 (h : AHp) (Q : Option Int32 → AHp → Prop) (l0 l2 l3 l4 : Option AV) (x : Int32) (st : List AV) : VV 85 h 44 [l0, some (.inl x), l2, l3, l4] st Q ↔ VV 85 h 45 [l0, some (.inl x), l2, l3, l4] (.inl x :: st) Q := VV_step rfl rfl rfl rfl
theorem xr_85_45 (h : AHp) (Q : Option Int32 → AHp → Prop) (l0 l1 l2 l3 l4 : Option AV) (x y : Int32) (st : List AV) : VV 85 h 45 [l0, l1, l2, l3, l4] (.inl y :: .inl x :: st) Q ↔ VV 85 h 46 [l0, l1, l2, l3, l4] (.inl (x * y) :: st) Q := VV_step rfl rfl rfl rfl
theorem xr_85_46 (h : AHp) (Q : Option Int32 → AHp → Prop) (l0 l1 l2 l3 : Option AV) (x : Int32) (st : List AV) : VV 85 h 46 [l0, l1, l2, l3, some (.inl x)] st Q ↔ VV 85 h 48 [l0, l1, l2, l3, some (.inl x)] (.inl x :: st) Q := VV_step rfl rfl rfl rfl
theorem xr_85_48 (h : AHp) (Q : Option Int32 → AHp → Prop) (l0 l1 l2 l3 l4 : Option AV) (x y : Int32) (st : List AV) : VV 85 h 48 [l0, l1, l2, l3, l4] (.inl y :: .inl x :: st) Q ↔ VV 85 h 49 [l0, l1, l2, l3, l4] (.inl (x + y) :: st) Q := VV_step rfl rfl rfl rfl
theorem xr_85_49 (h : AHp) (Q : Option Int32 → AHp → Prop) (l0 l1 l2 l3 l4 : Option AV) (x : Int32) (k i : Nat) (st : List AV) : VV 85 h 49 [l0, l1, l2, l3, l4] (.inl x :: .inr (k, i) :: st) Q ↔ ix_z k x ∧ VV 85 h 50 [l0, l1, l2, l3, l4] (.inl (h k i x.toNatClampNeg) :: st) Q := VV_bald rfl
theorem xr_85_50 (h : AHp) (Q : Option Int32 → AHp → Prop) (l0 l1 l2 l3 l4 : Option AV) (x : Int32) (st : List AV) : VV 85 h 50 [l0, l1, l2, l3, l4] (.inl x :: st) Q ↔ (x = 0 → VV 85 h 99 [l0, l1, l2, l3, l4] st Q) ∧ (¬ (x = 0) → VV 85 h 53 [l0, l1, l2, l3, l4] st Q) := VV_br rfl rfl rfl decide_eq_true_iff
theorem xr_85_53 (h : AHp) (Q : Option Int32 → AHp → Prop) (l1 l2 l3 l4 : Option AV) (x : Nat × Nat) (st : List AV) : VV 85 h 53 [some (.inr x), l1, l2, l3, l4] st Q ↔ VV 85 h 54 [some (.inr x), l1, l2, l3, l4] (.inr x :: st) Q := VV_step rfl rfl rfl rfl
theorem xr_85_54 (h : AHp) (Q : Option Int32 → AHp → Prop) (l0 l1 l2 l3 l4 : Option AV) (i : Nat) (st : List AV) : VV 85 h 54 [l0, l1, l2, l3, l4] (.inr (10, i) :: st) Q ↔ VV 85 h 57 [l0, l1, l2, l3, l4] (.inr (22, i) :: st) Q := VV_step rfl rfl rfl rfl
theorem xr_85_57 (h : AHp) (Q : Option Int32 → AHp → Prop) (l0 l1 l2 l3 l4 : Option AV) (st : List AV) : VV 85 h 57 [l0, l1, l2, l3, l4] st Q ↔ VV 85 h 59 [l0, l1, l2, l3, l4] (.inl (8 : Int32) :: st) Q := VV_step rfl rfl rfl rfl
theorem xr_85_59 (h : AHp) (Q : Option Int32 → AHp → Prop) (l0 l1 l3 l4 : Option AV) (x : Int32) (st : List AV) : VV 85 h 59 [l0, l1, some (.inl x), l3, l4] st Q ↔ VV 85 h 60 [l0, l1, some (.inl x), l3, l4] (.inl x :: st) Q := VV_step rfl rfl rfl rfl
theorem xr_85_60 (h : AHp) (Q : Option Int32 → AHp → Prop) (l0 l1 l2 l3 l4 : Option AV) (x y : Int32) (st : List AV) : VV 85 h 60 [l0, l1, l2, l3, l4] (.inl y :: .inl x :: st) Q ↔ VV 85 h 61 [l0, l1, l2, l3, l4] (.inl (x * y) :: st) Q := VV_step rfl rfl rfl rfl
theorem xr_85_61 (h : AHp) (Q : Option Int32 → AHp → Prop) (l0 l1 l2 l3 : Option AV) (x : Int32) (st : List AV) : VV 85 h 61 [l0, l1, l2, l3, some (.inl x)] st Q ↔ VV 85 h 63 [l0, l1, l2, l3, some (.inl x)] (.inl x :: st) Q := VV_step rfl rfl rfl rfl
theorem xr_85_63 (h : AHp) (Q : Option Int32 → AHp → Prop) (l0 l1 l2 l3 l4 : Option AV) (x y : Int32) (st : List AV) : VV 85 h 63 [l0, l1, l2, l3, l4] (.inl y :: .inl x :: st) Q ↔ VV 85 h 64 [l0, l1, l2, l3, l4] (.inl (x + y) :: st) Q := VV_step rfl rfl rfl rfl
theorem xr_85_64 (h : AHp) (Q : Option Int32 → AHp → Prop) (l0 l1 l2 l3 l4 : Option AV) (x : Int32) (k i : Nat) (st : List AV) : VV 85 h 64 [l0, l1, l2, l3, l4] (.inl x :: .inr (k, i) :: st) Q ↔ ix_z k x ∧ VV 85 h 65 [l0, l1, l2, l3, l4] (.inl (h k i x.toNatClampNeg) :: st) Q := VV_bald rfl
theorem xr_85_65 (h : AHp) (Q : Option Int32 → AHp → Prop) (l0 l1 l2 l3 l4 : Option AV) (x : Int32) (st : List AV) : VV 85 h 65 [l0, l1, l2, l3, l4] (.inl x :: st) Q ↔ (x = 0 → VV 85 h 99 [l0, l1, l2, l3, l4] st Q) ∧ (¬ (x = 0) → VV 85 h 68 [l0, l1, l2, l3, l4] st Q) := VV_br rfl rfl rfl decide_eq_true_iff
theorem xr_85_68 (h : AHp) (Q : Option Int32 → AHp → Prop) (l1 l2 l3 l4 : Option AV) (x : Nat × Nat) (st : List AV) : VV 85 h 68 [some (.inr x), l1, l2, l3, l4] st Q ↔ VV 85 h 69 [some (.inr x), l1, l2, l3, l4] (.inr x :: st) Q := VV_step rfl rfl rfl rfl
theorem xr_85_69 (h : AHp) (Q : Option Int32 → AHp → Prop) (l0 l1 l2 l3 l4 : Option AV) (i : Nat) (st : List AV) : VV 85 h 69 [l0, l1, l2, l3, l4] (.inr (10, i) :: st) Q ↔ VV 85 h 72 [l0, l1, l2, l3, l4] (.inr (24, i) :: st) Q := VV_step rfl rfl rfl rfl
theorem xr_85_72 (h : AHp) (Q : Option Int32 → AHp → Prop) (l0 l1 l2 l3 l4 : Option AV) (st : List AV) : VV 85 h 72 [l0, l1, l2, l3, l4] st Q ↔ VV 85 h 74 [l0, l1, l2, l3, l4] (.inl (8 : Int32) :: st) Q := VV_step rfl rfl rfl rfl
theorem xr_85_74 (h : AHp) (Q : Option Int32 → AHp → Prop) (l0 l2 l3 l4 : Option AV) (x : Int32) (st : List AV) : VV 85 h 74 [l0, some (.inl x), l2, l3, l4] st Q ↔ VV 85 h 75 [l0, some (.inl x), l2, l3, l4] (.inl x :: st) Q := VV_step rfl rfl rfl rfl
theorem xr_85_75 (h : AHp) (Q : Option Int32 → AHp → Prop) (l0 l1 l2 l3 l4 : Option AV) (x y : Int32) (st : List AV) : VV 85 h 75 [l0, l1, l2, l3, l4] (.inl y :: .inl x :: st) Q ↔ VV 85 h 76 [l0, l1, l2, l3, l4] (.inl (x * y) :: st) Q := VV_step rfl rfl rfl rfl
theorem xr_85_76 (h : AHp) (Q : Option Int32 → AHp → Prop) (l0 l1 l2 l3 : Option AV) (x : Int32) (st : List AV) : VV 85 h 76 [l0, l1, l2, l3, some (.inl x)] st Q ↔ VV 85 h 78 [l0, l1, l2, l3, some (.inl x)] (.inl x :: st) Q := VV_step rfl rfl rfl rfl
theorem xr_85_78 (h : AHp) (Q : Option Int32 → AHp → Prop) (l0 l1 l2 l3 l4 : Option AV) (x y : Int32) (st : List AV) : VV 85 h 78 [l0, l1, l2, l3, l4] (.inl y :: .inl x :: st) Q ↔ VV 85 h 79 [l0, l1, l2, l3, l4] (.inl (x + y) :: st) Q := VV_step rfl rfl rfl rfl
theorem xr_85_79 (h : AHp) (Q : Option Int32 → AHp → Prop) (l0 l1 l2 l3 l4 : Option AV) (x : Int32) (k i : Nat) (st : List AV) : VV 85 h 79 [l0, l1, l2, l3, l4] (.inl x :: .inr (k, i) :: st) Q ↔ ix_i k x ∧ VV 85 h 80 [l0, l1, l2, l3, l4] (.inl (h k i x.toNatClampNeg) :: st) Q := VV_iald rfl
theorem xr_85_80 (h : AHp) (Q : Option Int32 → AHp → Prop) (l1 l2 l3 l4 : Option AV) (x : Nat × Nat) (st : List AV) : VV 85 h 80 [some (.inr x), l1, l2, l3, l4] st Q ↔ VV 85 h 81 [some (.inr x), l1, l2, l3, l4] (.inr x :: st) Q := VV_step rfl rfl rfl rfl
theorem xr_85_81 (h : AHp) (Q : Option Int32 → AHp → Prop) (l0 l1 l2 l3 l4 : Option AV) (i : Nat) (st : List AV) : VV 85 h 81 [l0, l1, l2, l3, l4] (.inr (10, i) :: st) Q ↔ VV 85 h 84 [l0, l1, l2, l3, l4] (.inr (24, i) :: st) Q := VV_step rfl rfl rfl rfl
theorem xr_85_84 (h : AHp) (Q : Option Int32 → AHp → Prop) (l0 l1 l2 l3 l4 : Option AV) (st : List AV) : VV 85 h 84 [l0, l1, l2, l3, l4] st Q ↔ VV 85 h 86 [l0, l1, l2, l3, l4] (.inl (8 : Int32) :: st) Q := VV_step rfl rfl rfl rfl
theorem xr_85_86 (h : AHp) (Q : Option Int32 → AHp → Prop) (l0 l1 l3 l4 : Option AV) (x : Int32) (st : List AV) : VV 85 h 86 [l0, l1, some (.inl x), l3, l4] st Q ↔ VV 85 h 87 [l0, l1, some (.inl x), l3, l4] (.inl x :: st) Q := VV_step rfl rfl rfl rfl
theorem xr_85_87 (h : AHp) (Q : Option Int32 → AHp → Prop) (l0 l1 l2 l3 l4 : Option AV) (x y : Int32) (st : List AV) : VV 85 h 87 [l0, l1, l2, l3, l4] (.inl y :: .inl x :: st) Q ↔ VV 85 h 88 [l0, l1, l2, l3, l4] (.inl (x * y) :: st) Q := VV_step rfl rfl rfl rfl
theorem xr_85_88 (h : AHp) (Q : Option Int32 → AHp → Prop) (l0 l1 l2 l3 : Option AV) (x : Int32) (st : List AV) : VV 85 h 88 [l0, l1, l2, l3, some (.inl x)] st Q ↔ VV 85 h 90 [l0, l1, l2, l3, some (.inl x)] (.inl x :: st) Q := VV_step rfl rfl rfl rfl
theorem xr_85_90 (h : AHp) (Q : Option Int32 → AHp → Prop) (l0 l1 l2 l3 l4 : Option AV) (x y : Int32) (st : List AV) : VV 85 h 90 [l0, l1, l2, l3, l4] (.inl y :: .inl x :: st) Q ↔ VV 85 h 91 [l0, l1, l2, l3, l4] (.inl (x + y) :: st) Q := VV_step rfl rfl rfl rfl
theorem xr_85_91 (h : AHp) (Q : Option Int32 → AHp → Prop) (l0 l1 l2 l3 l4 : Option AV) (x : Int32) (k i : Nat) (st : List AV) : VV 85 h 91 [l0, l1, l2, l3, l4] (.inl x :: .inr (k, i) :: st) Q ↔ ix_i k x ∧ VV 85 h 92 [l0, l1, l2, l3, l4] (.inl (h k i x.toNatClampNeg) :: st) Q := VV_iald rfl
theorem xr_85_92 (h : AHp) (Q : Option Int32 → AHp → Prop) (l0 l1 l2 l3 l4 : Option AV) (x y : Int32) (st : List AV) : VV 85 h 92 [l0, l1, l2, l3, l4] (.inl y :: .inl x :: st) Q ↔ (¬ x = y → VV 85 h 99 [l0, l1, l2, l3, l4] st Q) ∧ (¬ (¬ x = y) → VV 85 h 95 [l0, l1, l2, l3, l4] st Q) := VV_br2 rfl rfl rfl decide_eq_true_iff
theorem xr_85_95 (h : AHp) (Q : Option Int32 → AHp → Prop) (l0 l1 l2 l3 l4 : Option AV) (st : List AV) : VV 85 h 95 [l0, l1, l2, l3, l4] st Q ↔ VV 85 h 96 [l0, l1, l2, l3, l4] (.inl (1 : Int32) :: st) Q := VV_step rfl rfl rfl rfl
theorem xr_85_96 (h : AHp) (Q : Option Int32 → AHp → Prop) (l0 l1 l2 l3 l4 : Option AV) (st : List AV) : VV 85 h 96 [l0, l1, l2, l3, l4] st Q ↔ VV 85 h 100 [l0, l1, l2, l3, l4] st Q := VV_step rfl rfl rfl rfl
theorem xr_85_99 (h : AHp) (Q : Option Int32 → AHp → Prop) (l0 l1 l2 l3 l4 : Option AV) (st : List AV) : VV 85 h 99 [l0, l1, l2, l3, l4] st Q ↔ VV 85 h 100 [l0, l1, l2, l3, l4] (.inl (0 : Int32) :: st) Q := VV_step rfl rfl rfl rfl
theorem xr_85_100 (h : AHp) (Q : Option Int32 → AHp → Prop) (l0 l1 l2 l3 l4 : Option AV) (x y : Int32) (st : List AV) : VV 85 h 100 [l0, l1, l2, l3, l4] (.inl y :: .inl x :: st) Q ↔ VV 85 h 101 [l0, l1, l2, l3, l4] (.inl (x + y) :: st) Q := VV_step rfl rfl rfl rfl
theorem xr_85_101 (h : AHp) (Q : Option Int32 → AHp → Prop) (l0 l1 l2 l3 l4 : Option AV) (x : Int32) (st : List AV) : VV 85 h 101 [l0, l1, l2, l3, l4] (.inl x :: st) Q ↔ VV 85 h 102 [l0, l1, l2, some (.inl x), l4] st Q := VV_step rfl rfl rfl rfl
theorem xr_85_102 (h : AHp) (Q : Option Int32 → AHp → Prop) (l0 l1 l2 l3 : Option AV) (x : Int32) (st : List AV) : VV 85 h 102 [l0, l1, l2, l3, some (.inl x)] st Q ↔ VV 85 h 105 [l0, l1, l2, l3, some (.inl (x + (1 : Int32)))] st Q := VV_step rfl rfl rfl rfl
theorem xr_85_105 (h : AHp) (Q : Option Int32 → AHp → Prop) (l0 l1 l2 l3 l4 : Option AV) (st : List AV) : VV 85 h 105 [l0, l1, l2, l3, l4] st Q ↔ VV 85 h 28 [l0, l1, l2, l3, l4] st Q := VV_step rfl rfl rfl rfl
theorem xr_85_108 (h : AHp) (Q : Option Int32 → AHp → Prop) (l0 l1 l2 l4 : Option AV) (x : Int32) (st : List AV) : VV 85 h 108 [l0, l1, l2, some (.inl x), l4] st Q ↔ VV 85 h 109 [l0, l1, l2, some (.inl x), l4] (.inl x :: st) Q := VV_step rfl rfl rfl rfl
theorem xr_85_109 (h : AHp) (Q : Option Int32 → AHp → Prop) (l0 l1 l2 l3 l4 : Option AV) (x : Int32) : VV 85 h 109 [l0, l1, l2, l3, l4] [.inl x] Q ↔ Q (some x) h := VV_end rfl rfl
theorem xr_86_0 (h : AHp) (Q : Option Int32 → AHp → Prop) (l1 : Option AV) (x : Nat × Nat) (st : List AV) : VV 86 h 0 [some (.inr x), l1] st Q ↔ VV 86 h 1 [some (.inr x), l1] (.inr x :: st) Q := VV_step rfl rfl rfl rfl
theorem xr_86_1 (h : AHp) (Q : Option Int32 → AHp → Prop) (l0 : Option AV) (x : Int32) (st : List AV) : VV 86 h 1 [l0, some (.inl x)] st Q ↔ VV 86 h 2 [l0, some (.inl x)] (.inl x :: st) Q := VV_step rfl rfl rfl rfl
theorem xr_86_2 (h : AHp) (Q : Option Int32 → AHp → Prop) (l0 l1 : Option AV) (v : Int32) (i : Nat) (st : List AV) : VV 86 h 2 [l0, l1] (.inl v :: .inr (10, i) :: st) Q ↔ VV 86 (ah_up h 10 i 20 v) 5 [l0, l1] st Q := VV_step rfl rfl rfl rfl
theorem xr_86_5 (h : AHp) (Q : Option Int32 → AHp → Prop) (l0 l1 : Option AV) (st : List AV) : VV 86 h 5 [l0, l1] st Q ↔ VV 86 h 6 [l0, l1] (.inl (0 : Int32) :: st) Q := VV_step rfl rfl rfl rfl
theorem xr_86_6 (h : AHp) (Q : Option Int32 → AHp → Prop) (l0 l1 : Option AV) (x : Int32) : VV 86 h 6 [l0, l1] [.inl x] Q ↔ Q (some x) h := VV_end rfl rfl
theorem xr_87_0 (h : AHp) (Q : Option Int32 → AHp → Prop) (l1 l2 : Option AV) (x : Nat × Nat) (st : List AV) : VV 87 h 0 [some (.inr x), l1, l2] st Q ↔ VV 87 h 1 [some (.inr x), l1, l2] (.inr x :: st) Q := VV_step rfl rfl rfl rfl
theorem xr_87_1 (h : AHp) (Q : Option Int32 → AHp → Prop) (l0 l1 l2 : Option AV) (st : List AV) : VV 87 h 1 [l0, l1, l2] st Q ↔ VV 87 h 2 [l0, l1, l2] (.inl (0 : Int32) :: st) Q := VV_step rfl rfl rfl rfl
theorem xr_87_2 (h : AHp) (Q : Option Int32 → AHp → Prop) (l0 l1 l2 : Option AV) (v : Int32) (i : Nat) (st : List AV) : VV 87 h 2 [l0, l1, l2] (.inl v :: .inr (10, i) :: st) Q ↔ VV 87 (ah_up h 10 i 20 v) 5 [l0, l1, l2] st Q := VV_step rfl rfl rfl rfl
theorem xr_87_5 (h : AHp) (Q : Option Int32 → AHp → Prop) (l1 l2 : Option AV) (x : Nat × Nat) (st : List AV) : VV 87 h 5 [some (.inr x), l1, l2] st Q ↔ VV 87 h 6 [some (.inr x), l1, l2] (.inr x :: st) Q := VV_step rfl rfl rfl rfl
theorem xr_87_6 (h : AHp) (Q : Option Int32 → AHp → Prop) (l0 l2 : Option AV) (x : Int32) (st : List AV) : VV 87 h 6 [l0, some (.inl x), l2] st Q ↔ VV 87 h 7 [l0, some (.inl x), l2] (.inl x :: st) Q := VV_step rfl rfl rfl rfl
theorem xr_87_7 (h : AHp) (Q : Option Int32 → AHp → Prop) (l0 l1 l2 : Option AV) (a0 : AV) (i : Nat) : VV 87 h 7 [l0, l1, l2] [a0, .inr (10, i)] Q ↔ Vi 61 h [some (.inr (10, i)), some a0] (fun z h2 => VV 87 h2 10 [l0, l1, l2] [.inl z] Q) := VV_calli (y := 61) (as := [.inr (10, i), a0]) (rest := []) rfl rfl rfl (ah_noV (y := 61) (by decide))
theorem xr_87_10 (h : AHp) (Q : Option Int32 → AHp → Prop) (l0 l1 l2 : Option AV) (x : Int32) (st : List AV) : VV 87 h 10 [l0, l1, l2] (.inl x :: st) Q ↔ (¬ x = 0 → VV 87 h 19 [l0, l1, l2] st Q) ∧ (¬ (¬ x = 0) → VV 87 h 13 [l0, l1, l2] st Q) := VV_br rfl rfl rfl decide_eq_true_iff
theorem xr_87_13 (h : AHp) (Q : Option Int32 → AHp → Prop) (l1 l2 : Option AV) (x : Nat × Nat) (st : List AV) : VV 87 h 13 [some (.inr x), l1, l2] st Q ↔ VV 87 h 14 [some (.inr x), l1, l2] (.inr x :: st) Q := VV_step rfl rfl rfl rfl
theorem xr_87_14 (h : AHp) (Q : Option Int32 → AHp → Prop) (l0 l1 l2 : Option AV) (st : List AV) : VV 87 h 14 [l0, l1, l2] st Q ↔ VV 87 h 15 [l0, l1, l2] (.inl (1 : Int32) :: st) Q := VV_step rfl rfl rfl rfl
theorem xr_87_15 (h : AHp) (Q : Option Int32 → AHp → Prop) (l0 l1 l2 : Option AV) (a0 : AV) (i : Nat) : VV 87 h 15 [l0, l1, l2] [a0, .inr (10, i)] Q ↔ Vi 86 h [some (.inr (10, i)), some a0] (fun z h2 => VV 87 h2 18 [l0, l1, l2] [.inl z] Q) := VV_calli (y := 86) (as := [.inr (10, i), a0]) (rest := []) rfl rfl rfl (ah_noV (y := 86) (by decide))
theorem xr_87_18 (h : AHp) (Q : Option Int32 → AHp → Prop) (l0 l1 l2 : Option AV) (x : Int32) : VV 87 h 18 [l0, l1, l2] [.inl x] Q ↔ Q (some x) h := VV_end rfl rfl
theorem xr_87_19 (h : AHp) (Q : Option Int32 → AHp → Prop) (l0 l1 : Option AV) (x : Int32) (st : List AV) : VV 87 h 19 [l0, l1, some (.inl x)] st Q ↔ VV 87 h 20 [l0, l1, some (.inl x)] (.inl x :: st) Q := VV_step rfl rfl rfl rfl
theorem xr_87_20_0 (h : AHp) (Q : Option Int32 → AHp → Prop) (l0 l1 l2 : Option AV) (st : List AV) : VV 87 h 20 [l0, l1, l2] (.inl (0 : Int32) :: st) Q ↔ VV 87 h 56 [l0, l1, l2] st Q := VV_tsw rfl rfl rfl rfl
theorem xr_87_20_1 (h : AHp) (Q : Option Int32 → AHp → Prop) (l0 l1 l2 : Option AV) (st : List AV) : VV 87 h 20 [l0, l1, l2] (.inl (1 : Int32) :: st) Q ↔ VV 87 h 63 [l0, l1, l2] st Q := VV_tsw rfl rfl rfl rfl
theorem xr_87_20_2 (h : AHp) (Q : Option Int32 → AHp → Prop) (l0 l1 l2 : Option AV) (st : List AV) : VV 87 h 20 [l0, l1, l2] (.inl (2 : Int32) :: st) Q ↔ VV 87 h 95 [l0, l1, l2] st Q := VV_tsw rfl rfl rfl rfl
theorem xr_87_20_3 (h : AHp) (Q : Option Int32 → AHp → Prop) (l0 l1 l2 : Option AV) (st : List AV) : VV 87 h 20 [l0, l1, l2] (.inl (3 : Int32) :: st) Q ↔ VV 87 h 102 [l0, l1, l2] st Q := VV_tsw rfl rfl rfl rfl
theorem xr_87_20_4 (h : AHp) (Q : Option Int32 → AHp → Prop) (l0 l1 l2 : Option AV) (st : List AV) : VV 87 h 20 [l0, l1, l2] (.inl (4 : Int32) :: st) Q ↔ VV 87 h 108 [l0, l1, l2] st Q := VV_tsw rfl rfl rfl rfl
theorem xr_87_20_d (h : AHp) (Q : Option Int32 → AHp → Prop) (l0 l1 l2 : Option AV) (st : List AV) (x : Int32) (hx : x.toInt < 0 ∨ 4 < x.toInt) : VV 87 h 20 [l0, l1, l2] (.inl x :: st) Q ↔ VV 87 h 115 [l0, l1, l2] st Q := VV_tsw rfl (if_pos hx) rfl rfl
theorem xr_87_56 (h : AHp) (Q : Option Int32 → AHp → Prop) (l1 l2 : Option AV) (x : Nat × Nat) (st : List AV) : VV 87 h 56 [some (.inr x), l1, l2] st Q ↔ VV 87 h 57 [some (.inr x), l1, l2] (.inr x :: st) Q := VV_step rfl rfl rfl rfl
theorem xr_87_57 (h : AHp) (Q : Option Int32 → AHp → Prop) (l0 l1 l2 : Option AV) (i : Nat) (st : List AV) : VV 87 h 57 [l0, l1, l2] (.inr (10, i) :: st) Q ↔ VV 87 h 60 [l0, l1, l2] (.inr (17, i) :: st) Q := VV_step rfl rfl rfl rfl
theorem xr_87_60 (h : AHp) (Q : Option Int32 → AHp → Prop) (l0 l2 : Option AV) (x : Int32) (st : List AV) : VV 87 h 60 [l0, some (.inl x), l2] st Q ↔ VV 87 h 61 [l0, some (.inl x), l2] (.inl x :: st) Q := VV_step rfl rfl rfl rfl
theorem xr_87_61 (h : AHp) (Q : Option Int32 → AHp → Prop) (l0 l1 l2 : Option AV) (x : Int32) (k i : Nat) (st : List AV) : VV 87 h 61 [l0, l1, l2] (.inl x :: .inr (k, i) :: st) Q ↔ ix_i k x ∧ VV 87 h 62 [l0, l1, l2] (.inl (h k i x.toNatClampNeg) :: st) Q := VV_iald rfl
theorem xr_87_62 (h : AHp) (Q : Option Int32 → AHp → Prop) (l0 l1 l2 : Option AV) (x : Int32) : VV 87 h 62 [l0, l1, l2] [.inl x] Q ↔ Q (some x) h := VV_end rfl rfl
theorem xr_87_63 (h : AHp) (Q : Option Int32 → AHp → Prop) (l1 l2 : Option AV) (x : Nat × Nat) (st : List AV) : VV 87 h 63 [some (.inr x), l1, l2] st Q ↔ VV 87 h 64 [some (.inr x), l1, l2] (.inr x :: st) Q := VV_step rfl rfl rfl rfl
theorem xr_87_64 (h : AHp) (Q : Option Int32 → AHp → Prop) (l0 l2 : Option AV) (x : Int32) (st : List AV) : VV 87 h 64 [l0, some (.inl x), l2] st Q ↔ VV 87 h 65 [l0, some (.inl x), l2] (.inl x :: st) Q := VV_step rfl rfl rfl rfl
theorem xr_87_65 (h : AHp) (Q : Option Int32 → AHp → Prop) (l0 l1 l2 : Option AV) (a0 : AV) (i : Nat) : VV 87 h 65 [l0, l1, l2] [a0, .inr (10, i)] Q ↔ Vi 67 h [some (.inr (10, i)), some a0, none, none] (fun z h2 => VV 87 h2 68 [l0, l1, l2] [.inl z] Q) := VV_calli (y := 67) (as := [.inr (10, i), a0]) (rest := []) rfl rfl rfl (ah_noV (y := 67) (by decide))
theorem xr_87_68 (h : AHp) (Q : Option Int32 → AHp → Prop) (l1 l2 : Option AV) (x : Nat × Nat) (st : List AV) : VV 87 h 68 [some (.inr x), l1, l2] st Q ↔ VV 87 h 69 [some (.inr x), l1, l2] (.inr x :: st) Q := VV_step rfl rfl rfl rfl
theorem xr_87_69 (h : AHp) (Q : Option Int32 → AHp → Prop) (l0 l1 l2 : Option AV) (i : Nat) (st : List AV) : VV 87 h 69 [l0, l1, l2] (.inr (10, i) :: st) Q ↔ VV 87 h 72 [l0, l1, l2] (.inl (h 10 i 0) :: st) Q := VV_step rfl rfl rfl rfl
theorem xr_87_72 (h : AHp) (Q : Option Int32 → AHp → Prop) (l0 l1 l2 : Option AV) (x y : Int32) (st : List AV) : VV 87 h 72 [l0, l1, l2] (.inl y :: .inl x :: st) Q ↔ (¬ x = y → VV 87 h 79 [l0, l1, l2] st Q) ∧ (¬ (¬ x = y) → VV 87 h 75 [l0, l1, l2] st Q) := VV_br2 rfl rfl rfl decide_eq_true_iff
theorem xr_87_75 (h : AHp) (Q : Option Int32 → AHp → Prop) (l0 l1 l2 : Option AV) (st : List AV) : VV 87 h 75 [l0, l1, l2] st Q ↔ VV 87 h 76 [l0, l1, l2] (.inl (2 : Int32) :: st) Q := VV_step rfl rfl rfl rfl
theorem xr_87_76 (h : AHp) (Q : Option Int32 → AHp → Prop) (l0 l1 l2 : Option AV) (st : List AV) : VV 87 h 76 [l0, l1, l2] st Q ↔ VV 87 h 94 [l0, l1, l2] st Q := VV_step rfl rfl rfl rfl
theorem xr_87_79 (h : AHp) (Q : Option Int32 → AHp → Prop) (l1 l2 : Option AV) (x : Nat × Nat) (st : List AV) : VV 87 h 79 [some (.inr x), l1, l2] st Q ↔ VV 87 h 80 [some (.inr x), l1, l2] (.inr x :: st) Q := VV_step rfl rfl rfl rfl
theorem xr_87_80 (h : AHp) (Q : Option Int32 → AHp → Prop) (l0 l1 l2 : Option AV) (i : Nat) (st : List AV) : VV 87 h 80 [l0, l1, l2] (.inr (10, i) :: st) Q ↔ VV 87 h 83 [l0, l1, l2] (.inr (19, i) :: st) Q := VV_step rfl rfl rfl rfl
theorem xr_87_83 (h : AHp) (Q : Option Int32 → AHp → Prop) (l0 l2 : Option AV) (x : Int32) (st : List AV) : VV 87 h 83 [l0, some (.inl x), l2] st Q ↔ VV 87 h 84 [l0, some (.inl x), l2] (.inl x :: st) Q := VV_step rfl rfl rfl rfl
theorem xr_87_84 (h : AHp) (Q : Option Int32 → AHp → Prop) (l0 l1 l2 : Option AV) (x : Int32) (k i : Nat) (st : List AV) : VV 87 h 84 [l0, l1, l2] (.inl x :: .inr (k, i) :: st) Q ↔ ix_i k x ∧ VV 87 h 85 [l0, l1, l2] (.inl (h k i x.toNatClampNeg) :: st) Q := VV_iald rfl
theorem xr_87_85 (h : AHp) (Q : Option Int32 → AHp → Prop) (l0 l1 l2 : Option AV) (st : List AV) : VV 87 h 85 [l0, l1, l2] st Q ↔ VV 87 h 86 [l0, l1, l2] (.inl (-1 : Int32) :: st) Q := VV_step rfl rfl rfl rfl
theorem xr_87_86 (h : AHp) (Q : Option Int32 → AHp → Prop) (l0 l1 l2 : Option AV) (x y : Int32) (st : List AV) : VV 87 h 86 [l0, l1, l2] (.inl y :: .inl x :: st) Q ↔ (¬ x = y → VV 87 h 93 [l0, l1, l2] st Q) ∧ (¬ (¬ x = y) → VV 87 h 89 [l0, l1, l2] st Q) := VV_br2 rfl rfl rfl decide_eq_true_iff
theorem xr_87_89 (h : AHp) (Q : Option Int32 → AHp → Prop) (l0 l1 l2 : Option AV) (st : List AV) : VV 87 h 89 [l0, l1, l2] st Q ↔ VV 87 h 90 [l0, l1, l2] (.inl (0 : Int32) :: st) Q := VV_step rfl rfl rfl rfl
theorem xr_87_90 (h : AHp) (Q : Option Int32 → AHp → Prop) (l0 l1 l2 : Option AV) (st : List AV) : VV 87 h 90 [l0, l1, l2] st Q ↔ VV 87 h 94 [l0, l1, l2] st Q := VV_step rfl rfl rfl rfl
theorem xr_87_93 (h : AHp) (Q : Option Int32 → AHp → Prop) (l0 l1 l2 : Option AV) (st : List AV) : VV 87 h 93 [l0, l1, l2] st Q ↔ VV 87 h 94 [l0, l1, l2] (.inl (1 : Int32) :: st) Q := VV_step rfl rfl rfl rfl
theorem xr_87_94 (h : AHp) (Q : Option Int32 → AHp → Prop) (l0 l1 l2 : Option AV) (x : Int32) : VV 87 h 94 [l0, l1, l2] [.inl x] Q ↔ Q (some x) h := VV_end rfl rfl
theorem xr_87_95 (h : AHp) (Q : Option Int32 → AHp → Prop) (l1 l2 : Option AV) (x : Nat × Nat) (st : List AV) : VV 87 h 95 [some (.inr x), l1, l2] st Q ↔ VV 87 h 96 [some (.inr x), l1, l2] (.inr x :: st) Q := VV_step rfl rfl rfl rfl
theorem xr_87_96 (h : AHp) (Q : Option Int32 → AHp → Prop) (l0 l1 l2 : Option AV) (i : Nat) (st : List AV) : VV 87 h 96 [l0, l1, l2] (.inr (10, i) :: st) Q ↔ VV 87 h 99 [l0, l1, l2] (.inr (19, i) :: st) Q := VV_step rfl rfl rfl rfl
theorem xr_87_99 (h : AHp) (Q : Option Int32 → AHp → Prop) (l0 l2 : Option AV) (x : Int32) (st : List AV) : VV 87 h 99 [l0, some (.inl x), l2] st Q ↔ VV 87 h 100 [l0, some (.inl x), l2] (.inl x :: st) Q := VV_step rfl rfl rfl rfl
theorem xr_87_100 (h : AHp) (Q : Option Int32 → AHp → Prop) (l0 l1 l2 : Option AV) (x : Int32) (k i : Nat) (st : List AV) : VV 87 h 100 [l0, l1, l2] (.inl x :: .inr (k, i) :: st) Q ↔ ix_i k x ∧ VV 87 h 101 [l0, l1, l2] (.inl (h k i x.toNatClampNeg) :: st) Q := VV_iald rfl
theorem xr_87_101 (h : AHp) (Q : Option Int32 → AHp → Prop) (l0 l1 l2 : Option AV) (x : Int32) : VV 87 h 101 [l0, l1, l2] [.inl x] Q ↔ Q (some x) h := VV_end rfl rfl
theorem xr_87_102 (h : AHp) (Q : Option Int32 → AHp → Prop) (l1 l2 : Option AV) (x : Nat × Nat) (st : List AV) : VV 87 h 102 [some (.inr x), l1, l2] st Q ↔ VV 87 h 103 [some (.inr x), l1, l2] (.inr x :: st) Q := VV_step rfl rfl rfl rfl
theorem xr_87_103 (h : AHp) (Q : Option Int32 → AHp → Prop) (l0 l2 : Option AV) (x : Int32) (st : List AV) : VV 87 h 103 [l0, some (.inl x), l2] st Q ↔ VV 87 h 104 [l0, some (.inl x), l2] (.inl x :: st) Q := VV_step rfl rfl rfl rfl
theorem xr_87_104 (h : AHp) (Q : Option Int32 → AHp → Prop) (l0 l1 l2 : Option AV) (a0 : AV) (i : Nat) : VV 87 h 104 [l0, l1, l2] [a0, .inr (10, i)] Q ↔ Vi 67 h [some (.inr (10, i)), some a0, none, none] (fun z h2 => VV 87 h2 107 [l0, l1, l2] [.inl z] Q) := VV_calli (y := 67) (as := [.inr (10, i), a0]) (rest := []) rfl rfl rfl (ah_noV (y := 67) (by decide))
theorem xr_87_107 (h : AHp) (Q : Option Int32 → AHp → Prop) (l0 l1 l2 : Option AV) (x : Int32) : VV 87 h 107 [l0, l1, l2] [.inl x] Q ↔ Q (some x) h := VV_end rfl rfl
theorem xr_87_108 (h : AHp) (Q : Option Int32 → AHp → Prop) (l1 l2 : Option AV) (x : Nat × Nat) (st : List AV) : VV 87 h 108 [some (.inr x), l1, l2] st Q ↔ VV 87 h 109 [some (.inr x), l1, l2] (.inr x :: st) Q := VV_step rfl rfl rfl rfl
theorem xr_87_109 (h : AHp) (Q : Option Int32 → AHp → Prop) (l0 l1 l2 : Option AV) (i : Nat) (st : List AV) : VV 87 h 109 [l0, l1, l2] (.inr (10, i) :: st) Q ↔ VV 87 h 112 [l0, l1, l2] (.inr (20, i) :: st) Q := VV_step rfl rfl rfl rfl
theorem xr_87_112 (h : AHp) (Q : Option Int32 → AHp → Prop) (l0 l2 : Option AV) (x : Int32) (st : List AV) : VV 87 h 112 [l0, some (.inl x), l2] st Q ↔ VV 87 h 113 [l0, some (.inl x), l2] (.inl x :: st) Q := VV_step rfl rfl rfl rfl
theorem xr_87_113 (h : AHp) (Q : Option Int32 → AHp → Prop) (l0 l1 l2 : Option AV) (x : Int32) (k i : Nat) (st : List AV) : VV 87 h 113 [l0, l1, l2] (.inl x :: .inr (k, i) :: st) Q ↔ ix_i k x ∧ VV 87 h 114 [l0, l1, l2] (.inl (h k i x.toNatClampNeg) :: st) Q := VV_iald rfl
theorem xr_87_114 (h : AHp) (Q : Option Int32 → AHp → Prop) (l0 l1 l2 : Option AV) (x : Int32) : VV 87 h 114 [l0, l1, l2] [.inl x] Q ↔ Q (some x) h := VV_end rfl rfl
theorem xr_87_115 (h : AHp) (Q : Option Int32 → AHp → Prop) (l1 l2 : Option AV) (x : Nat × Nat) (st : List AV) : VV 87 h 115 [some (.inr x), l1, l2] st Q ↔ VV 87 h 116 [some (.inr x), l1, l2] (.inr x :: st) Q := VV_step rfl rfl rfl rfl
theorem xr_87_116 (h : AHp) (Q : Option Int32 → AHp → Prop) (l0 l1 l2 : Option AV) (st : List AV) : VV 87 h 116 [l0, l1, l2] st Q ↔ VV 87 h 117 [l0, l1, l2] (.inl (2 : Int32) :: st) Q := VV_step rfl rfl rfl rfl
theorem xr_87_117 (h : AHp) (Q : Option Int32 → AHp → Prop) (l0 l1 l2 : Option AV) (a0 : AV) (i : Nat) : VV 87 h 117 [l0, l1, l2] [a0, .inr (10, i)] Q ↔ Vi 86 h [some (.inr (10, i)), some a0] (fun z h2 => VV 87 h2 120 [l0, l1, l2] [.inl z] Q) := VV_calli (y := 86) (as := [.inr (10, i), a0]) (rest := []) rfl rfl rfl (ah_noV (y := 86) (by decide))
theorem xr_87_120 (h : AHp) (Q : Option Int32 → AHp → Prop) (l0 l1 l2 : Option AV) (x : Int32) : VV 87 h 120 [l0, l1, l2] [.inl x] Q ↔ Q (some x) h := VV_end rfl rfl
theorem xr_88_0 (h : AHp) (Q : Option Int32 → AHp → Prop) (l1 l2 : Option AV) (x : Nat × Nat) (st : List AV) : VV 88 h 0 [some (.inr x), l1, l2] st Q ↔ VV 88 h 1 [some (.inr x), l1, l2] (.inr x :: st) Q := VV_step rfl rfl rfl rfl
theorem xr_88_1 (h : AHp) (Q : Option Int32 → AHp → Prop) (l0 l1 l2 : Option AV) (st : List AV) : VV 88 h 1 [l0, l1, l2] st Q ↔ VV 88 h 2 [l0, l1, l2] (.inl (0 : Int32) :: st) Q := VV_step rfl rfl rfl rfl
theorem xr_88_2 (h : AHp) (Q : Option Int32 → AHp → Prop) (l0 l1 l2 : Option AV) (v : Int32) (i : Nat) (st : List AV) : VV 88 h 2 [l0, l1, l2] (.inl v :: .inr (10, i) :: st) Q ↔ VV 88 (ah_up h 10 i 20 v) 5 [l0, l1, l2] st Q := VV_step rfl rfl rfl rfl
theorem xr_88_5 (h : AHp) (Q : Option Int32 → AHp → Prop) (l1 l2 : Option AV) (x : Nat × Nat) (st : List AV) : VV 88 h 5 [some (.inr x), l1, l2] st Q ↔ VV 88 h 6 [some (.inr x), l1, l2] (.inr x :: st) Q := VV_step rfl rfl rfl rfl
theorem xr_88_6 (h : AHp) (Q : Option Int32 → AHp → Prop) (l0 l2 : Option AV) (x : Int32) (st : List AV) : VV 88 h 6 [l0, some (.inl x), l2] st Q ↔ VV 88 h 7 [l0, some (.inl x), l2] (.inl x :: st) Q := VV_step rfl rfl rfl rfl
theorem xr_88_7 (h : AHp) (Q : Option Int32 → AHp → Prop) (l0 l1 l2 : Option AV) (a0 : AV) (i : Nat) : VV 88 h 7 [l0, l1, l2] [a0, .inr (10, i)] Q ↔ Vi 60 h [some (.inr (10, i)), some a0] (fun z h2 => VV 88 h2 10 [l0, l1, l2] [.inl z] Q) := VV_calli (y := 60) (as := [.inr (10, i), a0]) (rest := []) rfl rfl rfl (ah_noV (y := 60) (by decide))
theorem xr_88_10 (h : AHp) (Q : Option Int32 → AHp → Prop) (l0 l1 l2 : Option AV) (x : Int32) (st : List AV) : VV 88 h 10 [l0, l1, l2] (.inl x :: st) Q ↔ (¬ x = 0 → VV 88 h 15 [l0, l1, l2] st Q) ∧ (¬ (¬ x = 0) → VV 88 h 13 [l0, l1, l2] st Q) := VV_br rfl rfl rfl decide_eq_true_iff
theorem xr_88_13 (h : AHp) (Q : Option Int32 → AHp → Prop) (l0 l1 l2 : Option AV) (st : List AV) : VV 88 h 13 [l0, l1, l2] st Q ↔ VV 88 h 14 [l0, l1, l2] (.inl (-1 : Int32) :: st) Q := VV_step rfl rfl rfl rfl
theorem xr_88_14 (h : AHp) (Q : Option Int32 → AHp → Prop) (l0 l1 l2 : Option AV) (x : Int32) : VV 88 h 14 [l0, l1, l2] [.inl x] Q ↔ Q (some x) h := VV_end rfl rfl
theorem xr_88_15 (h : AHp) (Q : Option Int32 → AHp → Prop) (l0 l1 : Option AV) (x : Int32) (st : List AV) : VV 88 h 15 [l0, l1, some (.inl x)] st Q ↔ VV 88 h 16 [l0, l1, some (.inl x)] (.inl x :: st) Q := VV_step rfl rfl rfl rfl
theorem xr_88_16 (h : AHp) (Q : Option Int32 → AHp → Prop) (l0 l1 l2 : Option AV) (x : Int32) (st : List AV) : VV 88 h 16 [l0, l1, l2] (.inl x :: st) Q ↔ (¬ x = 0 → VV 88 h 28 [l0, l1, l2] st Q) ∧ (¬ (¬ x = 0) → VV 88 h 19 [l0, l1, l2] st Q) := VV_br rfl rfl rfl decide_eq_true_iff
theorem xr_88_19 (h : AHp) (Q : Option Int32 → AHp → Prop) (l1 l2 : Option AV) (x : Nat × Nat) (st : List AV) : VV 88 h 19 [some (.inr x), l1, l2] st Q ↔ VV 88 h 20 [some (.inr x), l1, l2] (.inr x :: st) Q := VV_step rfl rfl rfl rfl
theorem xr_88_20 (h : AHp) (Q : Option Int32 → AHp → Prop) (l0 l1 l2 : Option AV) (i : Nat) (st : List AV) : VV 88 h 20 [l0, l1, l2] (.inr (10, i) :: st) Q ↔ VV 88 h 23 [l0, l1, l2] (.inr (12, i) :: st) Q := VV_step rfl rfl rfl rfl
theorem xr_88_23 (h : AHp) (Q : Option Int32 → AHp → Prop) (l0 l2 : Option AV) (x : Int32) (st : List AV) : VV 88 h 23 [l0, some (.inl x), l2] st Q ↔ VV 88 h 24 [l0, some (.inl x), l2] (.inl x :: st) Q := VV_step rfl rfl rfl rfl
theorem xr_88_24 (h : AHp) (Q : Option Int32 → AHp → Prop) (l0 l1 l2 : Option AV) (x : Int32) (k i : Nat) (st : List AV) : VV 88 h 24 [l0, l1, l2] (.inl x :: .inr (k, i) :: st) Q ↔ ix_i k x ∧ VV 88 h 25 [l0, l1, l2] (.inl (h k i x.toNatClampNeg) :: st) Q := VV_iald rfl
theorem xr_88_25 (h : AHp) (Q : Option Int32 → AHp → Prop) (l0 l1 l2 : Option AV) (st : List AV) : VV 88 h 25 [l0, l1, l2] st Q ↔ VV 88 h 71 [l0, l1, l2] st Q := VV_step rfl rfl rfl rfl
theorem xr_88_28 (h : AHp) (Q : Option Int32 → AHp → Prop) (l0 l1 : Option AV) (x : Int32) (st : List AV) : VV 88 h 28 [l0, l1, some (.inl x)] st Q ↔ VV 88 h 29 [l0, l1, some (.inl x)] (.inl x :: st) Q := VV_step rfl rfl rfl rfl
theorem xr_88_29 (h : AHp) (Q : Option Int32 → AHp → Prop) (l0 l1 l2 : Option AV) (st : List AV) : VV 88 h 29 [l0, l1, l2] st Q ↔ VV 88 h 30 [l0, l1, l2] (.inl (1 : Int32) :: st) Q := VV_step rfl rfl rfl rfl
theorem xr_88_30 (h : AHp) (Q : Option Int32 → AHp → Prop) (l0 l1 l2 : Option AV) (x y : Int32) (st : List AV) : VV 88 h 30 [l0, l1, l2] (.inl y :: .inl x :: st) Q ↔ (¬ x = y → VV 88 h 42 [l0, l1, l2] st Q) ∧ (¬ (¬ x = y) → VV 88 h 33 [l0, l1, l2] st Q) := VV_br2 rfl rfl rfl decide_eq_true_iff
theorem xr_88_33 (h : AHp) (Q : Option Int32 → AHp → Prop) (l1 l2 : Option AV) (x : Nat × Nat) (st : List AV) : VV 88 h 33 [some (.inr x), l1, l2] st Q ↔ VV 88 h 34 [some (.inr x), l1, l2] (.inr x :: st) Q := VV_step rfl rfl rfl rfl
theorem xr_88_34 (h : AHp) (Q : Option Int32 → AHp → Prop) (l0 l1 l2 : Option AV) (i : Nat) (st : List AV) : VV 88 h 34 [l0, l1, l2] (.inr (10, i) :: st) Q ↔ VV 88 h 37 [l0, l1, l2] (.inr (13, i) :: st) Q := VV_step rfl rfl rfl rfl
theorem xr_88_37 (h : AHp) (Q : Option Int32 → AHp → Prop) (l0 l2 : Option AV) (x : Int32) (st : List AV) : VV 88 h 37 [l0, some (.inl x), l2] st Q ↔ VV 88 h 38 [l0, some (.inl x), l2] (.inl x :: st) Q := VV_step rfl rfl rfl rfl
theorem xr_88_38 (h : AHp) (Q : Option Int32 → AHp → Prop) (l0 l1 l2 : Option AV) (x : Int32) (k i : Nat) (st : List AV) : VV 88 h 38 [l0, l1, l2] (.inl x :: .inr (k, i) :: st) Q ↔ ix_i k x ∧ VV 88 h 39 [l0, l1, l2] (.inl (h k i x.toNatClampNeg) :: st) Q := VV_iald rfl
theorem xr_88_39 (h : AHp) (Q : Option Int32 → AHp → Prop) (l0 l1 l2 : Option AV) (st : List AV) : VV 88 h 39 [l0, l1, l2] st Q ↔ VV 88 h 71 [l0, l1, l2] st Q := VV_step rfl rfl rfl rfl
theorem xr_88_42 (h : AHp) (Q : Option Int32 → AHp → Prop) (l0 l1 : Option AV) (x : Int32) (st : List AV) : VV 88 h 42 [l0, l1, some (.inl x)] st Q ↔ VV 88 h 43 [l0, l1, some (.inl x)] (.inl x :: st) Q := VV_step rfl rfl rfl rfl
theorem xr_88_43 (h : AHp) (Q : Option Int32 → AHp → Prop) (l0 l1 l2 : Option AV) (st : List AV) : VV 88 h 43 [l0, l1, l2] st Q ↔ VV 88 h 44 [l0, l1, l2] (.inl (2 : Int32) :: st) Q := VV_step rfl rfl rfl rfl
theorem xr_88_44 (h : AHp) (Q : Option Int32 → AHp → Prop) (l0 l1 l2 : Option AV) (x y : Int32) (st : List AV) : VV 88 h 44 [l0, l1, l2] (.inl y :: .inl x :: st) Q ↔ (¬ x = y → VV 88 h 56 [l0, l1, l2] st Q) ∧ (¬ (¬ x = y) → VV 88 h 47 [l0, l1, l2] st Q) := VV_br2 rfl rfl rfl decide_eq_true_iff
theorem xr_88_47 (h : AHp) (Q : Option Int32 → AHp → Prop) (l1 l2 : Option AV) (x : Nat × Nat) (st : List AV) : VV 88 h 47 [some (.inr x), l1, l2] st Q ↔ VV 88 h 48 [some (.inr x), l1, l2] (.inr x :: st) Q := VV_step rfl rfl rfl rfl
theorem xr_88_48 (h : AHp) (Q : Option Int32 → AHp → Prop) (l0 l1 l2 : Option AV) (i : Nat) (st : List AV) : VV 88 h 48 [l0, l1, l2] (.inr (10, i) :: st) Q ↔ VV 88 h 51 [l0, l1, l2] (.inr (14, i) :: st) Q := VV_step rfl rfl rfl rfl
theorem xr_88_51 (h : AHp) (Q : Option Int32 → AHp → Prop) (l0 l2 : Option AV) (x : Int32) (st : List AV) : VV 88 h 51 [l0, some (.inl x), l2] st Q ↔ VV 88 h 52 [l0, some (.inl x), l2] (.inl x :: st) Q := VV_step rfl rfl rfl rfl
theorem xr_88_52 (h : AHp) (Q : Option Int32 → AHp → Prop) (l0 l1 l2 : Option AV) (x : Int32) (k i : Nat) (st : List AV) : VV 88 h 52 [l0, l1, l2] (.inl x :: .inr (k, i) :: st) Q ↔ ix_i k x ∧ VV 88 h 53 [l0, l1, l2] (.inl (h k i x.toNatClampNeg) :: st) Q := VV_iald rfl
theorem xr_88_53 (h : AHp) (Q : Option Int32 → AHp → Prop) (l0 l1 l2 : Option AV) (st : List AV) : VV 88 h 53 [l0, l1, l2] st Q ↔ VV 88 h 71 [l0, l1, l2] st Q := VV_step rfl rfl rfl rfl
theorem xr_88_56 (h : AHp) (Q : Option Int32 → AHp → Prop) (l0 l1 : Option AV) (x : Int32) (st : List AV) : VV 88 h 56 [l0, l1, some (.inl x)] st Q ↔ VV 88 h 57 [l0, l1, some (.inl x)] (.inl x :: st) Q := VV_step rfl rfl rfl rfl
theorem xr_88_57 (h : AHp) (Q : Option Int32 → AHp → Prop) (l0 l1 l2 : Option AV) (st : List AV) : VV 88 h 57 [l0, l1, l2] st Q ↔ VV 88 h 58 [l0, l1, l2] (.inl (3 : Int32) :: st) Q := VV_step rfl rfl rfl rfl
theorem xr_88_58 (h : AHp) (Q : Option Int32 → AHp → Prop) (l0 l1 l2 : Option AV) (x y : Int32) (st : List AV) : VV 88 h 58 [l0, l1, l2] (.inl y :: .inl x :: st) Q ↔ (¬ x = y → VV 88 h 70 [l0, l1, l2] st Q) ∧ (¬ (¬ x = y) → VV 88 h 61 [l0, l1, l2] st Q) := VV_br2 rfl rfl rfl decide_eq_true_iff
theorem xr_88_61 (h : AHp) (Q : Option Int32 → AHp → Prop) (l1 l2 : Option AV) (x : Nat × Nat) (st : List AV) : VV 88 h 61 [some (.inr x), l1, l2] st Q ↔ VV 88 h 62 [some (.inr x), l1, l2] (.inr x :: st) Q := VV_step rfl rfl rfl rfl
theorem xr_88_62 (h : AHp) (Q : Option Int32 → AHp → Prop) (l0 l1 l2 : Option AV) (i : Nat) (st : List AV) : VV 88 h 62 [l0, l1, l2] (.inr (10, i) :: st) Q ↔ VV 88 h 65 [l0, l1, l2] (.inr (15, i) :: st) Q := VV_step rfl rfl rfl rfl
theorem xr_88_65 (h : AHp) (Q : Option Int32 → AHp → Prop) (l0 l2 : Option AV) (x : Int32) (st : List AV) : VV 88 h 65 [l0, some (.inl x), l2] st Q ↔ VV 88 h 66 [l0, some (.inl x), l2] (.inl x :: st) Q := VV_step rfl rfl rfl rfl
theorem xr_88_66 (h : AHp) (Q : Option Int32 → AHp → Prop) (l0 l1 l2 : Option AV) (x : Int32) (k i : Nat) (st : List AV) : VV 88 h 66 [l0, l1, l2] (.inl x :: .inr (k, i) :: st) Q ↔ ix_i k x ∧ VV 88 h 67 [l0, l1, l2] (.inl (h k i x.toNatClampNeg) :: st) Q := VV_iald rfl
theorem xr_88_67 (h : AHp) (Q : Option Int32 → AHp → Prop) (l0 l1 l2 : Option AV) (st : List AV) : VV 88 h 67 [l0, l1, l2] st Q ↔ VV 88 h 71 [l0, l1, l2] st Q := VV_step rfl rfl rfl rfl
theorem xr_88_70 (h : AHp) (Q : Option Int32 → AHp → Prop) (l0 l1 l2 : Option AV) (st : List AV) : VV 88 h 70 [l0, l1, l2] st Q ↔ VV 88 h 71 [l0, l1, l2] (.inl (-1 : Int32) :: st) Q := VV_step rfl rfl rfl rfl
theorem xr_88_71 (h : AHp) (Q : Option Int32 → AHp → Prop) (l0 l1 l2 : Option AV) (x : Int32) : VV 88 h 71 [l0, l1, l2] [.inl x] Q ↔ Q (some x) h := VV_end rfl rfl
theorem xr_89_0 (h : AHp) (Q : Option Int32 → AHp → Prop) (l1 l2 l3 : Option AV) (x : Nat × Nat) (st : List AV) : VV 89 h 0 [some (.inr x), l1, l2, l3] st Q ↔ VV 89 h 1 [some (.inr x), l1, l2, l3] (.inr x :: st) Q := VV_step rfl rfl rfl rfl
theorem xr_89_1 (h : AHp) (Q : Option Int32 → AHp → Prop) (l0 l1 l2 l3 : Option AV) (st : List AV) : VV 89 h 1 [l0, l1, l2, l3] st Q ↔ VV 89 h 2 [l0, l1, l2, l3] (.inl (0 : Int32) :: st) Q := VV_step rfl rfl rfl rfl
theorem xr_89_2 (h : AHp) (Q : Option Int32 → AHp → Prop) (l0 l1 l2 l3 : Option AV) (v : Int32) (i : Nat) (st : List AV) : VV 89 h 2 [l0, l1, l2, l3] (.inl v :: .inr (10, i) :: st) Q ↔ VV 89 (ah_up h 10 i 20 v) 5 [l0, l1, l2, l3] st Q := VV_step rfl rfl rfl rfl
theorem xr_89_5 (h : AHp) (Q : Option Int32 → AHp → Prop) (l0 l1 l2 l3 : Option AV) (st : List AV) : VV 89 h 5 [l0, l1, l2, l3] st Q ↔ VV 89 h 6 [l0, l1, l2, l3] (.inl (0 : Int32) :: st) Q := VV_step rfl rfl rfl rfl
theorem xr_89_6 (h : AHp) (Q : Option Int32 → AHp → Prop) (l0 l1 l2 l3 : Option AV) (x : Int32) (st : List AV) : VV 89 h 6 [l0, l1, l2, l3] (.inl x :: st) Q ↔ VV 89 h 7 [l0, l1, some (.inl x), l3] st Q := VV_step rfl rfl rfl rfl
theorem xr_89_7 (h : AHp) (Q : Option Int32 → AHp → Prop) (l0 l2 l3 : Option AV) (x : Int32) (st : List AV) : VV 89 h 7 [l0, some (.inl x), l2, l3] st Q ↔ VV 89 h 8 [l0, some (.inl x), l2, l3] (.inl x :: st) Q := VV_step rfl rfl rfl rfl
theorem xr_89_8_0 (h : AHp) (Q : Option Int32 → AHp → Prop) (l0 l1 l2 l3 : Option AV) (st : List AV) : VV 89 h 8 [l0, l1, l2, l3] (.inl (0 : Int32) :: st) Q ↔ VV 89 h 44 [l0, l1, l2, l3] st Q := VV_tsw rfl rfl rfl rfl
theorem xr_89_8_1 (h : AHp) (Q : Option Int32 → AHp → Prop) (l0 l1 l2 l3 : Option AV) (st : List AV) : VV 89 h 8 [l0, l1, l2, l3] (.inl (1 : Int32) :: st) Q ↔ VV 89 h 49 [l0, l1, l2, l3] st Q := VV_tsw rfl rfl rfl rfl
theorem xr_89_8_2 (h : AHp) (Q : Option Int32 → AHp → Prop) (l0 l1 l2 l3 : Option AV) (st : List AV) : VV 89 h 8 [l0, l1, l2, l3] (.inl (2 : Int32) :: st) Q ↔ VV 89 h 54 [l0, l1, l2, l3] st Q := VV_tsw rfl rfl rfl rfl
theorem xr_89_8_3 (h : AHp) (Q : Option Int32 → AHp → Prop) (l0 l1 l2 l3 : Option AV) (st : List AV) : VV 89 h 8 [l0, l1, l2, l3] (.inl (3 : Int32) :: st) Q ↔ VV 89 h 59 [l0, l1, l2, l3] st Q := VV_tsw rfl rfl rfl rfl
theorem xr_89_8_4 (h : AHp) (Q : Option Int32 → AHp → Prop) (l0 l1 l2 l3 : Option AV) (st : List AV) : VV 89 h 8 [l0, l1, l2, l3] (.inl (4 : Int32) :: st) Q ↔ VV 89 h 64 [l0, l1, l2, l3] st Q := VV_tsw rfl rfl rfl rfl
theorem xr_89_8_d (h : AHp) (Q : Option Int32 → AHp → Prop) (l0 l1 l2 l3 : Option AV) (st : List AV) (x : Int32) (hx : x.toInt < 0 ∨ 4 < x.toInt) : VV 89 h 8 [l0, l1, l2, l3] (.inl x :: st) Q ↔ VV 89 h 102 [l0, l1, l2, l3] st Q := VV_tsw rfl (if_pos hx) rfl rfl
theorem xr_89_44 (h : AHp) (Q : Option Int32 → AHp → Prop) (l1 l2 l3 : Option AV) (x : Nat × Nat) (st : List AV) : VV 89 h 44 [some (.inr x), l1, l2, l3] st Q ↔ VV 89 h 45 [some (.inr x), l1, l2, l3] (.inr x :: st) Q := VV_step rfl rfl rfl rfl
theorem xr_89_45 (h : AHp) (Q : Option Int32 → AHp → Prop) (l0 l1 l2 l3 : Option AV) (i : Nat) (st : List AV) : VV 89 h 45 [l0, l1, l2, l3] (.inr (10, i) :: st) Q ↔ VV 89 h 48 [l0, l1, l2, l3] (.inl (h 10 i 0) :: st) Q := VV_step rfl rfl rfl rfl
theorem xr_89_48 (h : AHp) (Q : Option Int32 → AHp → Prop) (l0 l1 l2 l3 : Option AV) (x : Int32) : VV 89 h 48 [l0, l1, l2, l3] [.inl x] Q ↔ Q (some x) h := VV_end rfl rfl
theorem xr_89_49 (h : AHp) (Q : Option Int32 → AHp → Prop) (l1 l2 l3 : Option AV) (x : Nat × Nat) (st : List AV) : VV 89 h 49 [some (.inr x), l1, l2, l3] st Q ↔ VV 89 h 50 [some (.inr x), l1, l2, l3] (.inr x :: st) Q := VV_step rfl rfl rfl rfl
theorem xr_89_50 (h : AHp) (Q : Option Int32 → AHp → Prop) (l0 l1 l2 l3 : Option AV) (i : Nat) (st : List AV) : VV 89 h 50 [l0, l1, l2, l3] (.inr (10, i) :: st) Q ↔ VV 89 h 53 [l0, l1, l2, l3] (.inl (h 10 i 1) :: st) Q := VV_step rfl rfl rfl rfl
theorem xr_89_53 (h : AHp) (Q : Option Int32 → AHp → Prop) (l0 l1 l2 l3 : Option AV) (x : Int32) : VV 89 h 53 [l0, l1, l2, l3] [.inl x] Q ↔ Q (some x) h := VV_end rfl rfl
theorem xr_89_54 (h : AHp) (Q : Option Int32 → AHp → Prop) (l1 l2 l3 : Option AV) (x : Nat × Nat) (st : List AV) : VV 89 h 54 [some (.inr x), l1, l2, l3] st Q ↔ VV 89 h 55 [some (.inr x), l1, l2, l3] (.inr x :: st) Q := VV_step rfl rfl rfl rfl
theorem xr_89_55 (h : AHp) (Q : Option Int32 → AHp → Prop) (l0 l1 l2 l3 : Option AV) (i : Nat) (st : List AV) : VV 89 h 55 [l0, l1, l2, l3] (.inr (10, i) :: st) Q ↔ VV 89 h 58 [l0, l1, l2, l3] (.inl (h 10 i 6) :: st) Q := VV_step rfl rfl rfl rfl
theorem xr_89_58 (h : AHp) (Q : Option Int32 → AHp → Prop) (l0 l1 l2 l3 : Option AV) (x : Int32) : VV 89 h 58 [l0, l1, l2, l3] [.inl x] Q ↔ Q (some x) h := VV_end rfl rfl
theorem xr_89_59 (h : AHp) (Q : Option Int32 → AHp → Prop) (l1 l2 l3 : Option AV) (x : Nat × Nat) (st : List AV) : VV 89 h 59 [some (.inr x), l1, l2, l3] st Q ↔ VV 89 h 60 [some (.inr x), l1, l2, l3] (.inr x :: st) Q := VV_step rfl rfl rfl rfl
theorem xr_89_60 (h : AHp) (Q : Option Int32 → AHp → Prop) (l0 l1 l2 l3 : Option AV) (i : Nat) (st : List AV) : VV 89 h 60 [l0, l1, l2, l3] (.inr (10, i) :: st) Q ↔ VV 89 h 63 [l0, l1, l2, l3] (.inl (h 10 i 17) :: st) Q := VV_step rfl rfl rfl rfl
theorem xr_89_63 (h : AHp) (Q : Option Int32 → AHp → Prop) (l0 l1 l2 l3 : Option AV) (x : Int32) : VV 89 h 63 [l0, l1, l2, l3] [.inl x] Q ↔ Q (some x) h := VV_end rfl rfl
theorem xr_89_64 (h : AHp) (Q : Option Int32 → AHp → Prop) (l0 l1 l2 l3 : Option AV) (st : List AV) : VV 89 h 64 [l0, l1, l2, l3] st Q ↔ VV 89 h 65 [l0, l1, l2, l3] (.inl (0 : Int32) :: st) Q := VV_step rfl rfl rfl rfl
theorem xr_89_65 (h : AHp) (Q : Option Int32 → AHp → Prop) (l0 l1 l2 l3 : Option AV) (x : Int32) (st : List AV) : VV 89 h 65 [l0, l1, l2, l3] (.inl x :: st) Q ↔ VV 89 h 66 [l0, l1, l2, some (.inl x)] st Q := VV_step rfl rfl rfl rfl
theorem xr_89_66 (h : AHp) (Q : Option Int32 → AHp → Prop) (l0 l1 l2 : Option AV) (x : Int32) (st : List AV) : VV 89 h 66 [l0, l1, l2, some (.inl x)] st Q ↔ VV 89 h 67 [l0, l1, l2, some (.inl x)] (.inl x :: st) Q := VV_step rfl rfl rfl rfl
theorem xr_89_67 (h : AHp) (Q : Option Int32 → AHp → Prop) (l1 l2 l3 : Option AV) (x : Nat × Nat) (st : List AV) : VV 89 h 67 [some (.inr x), l1, l2, l3] st Q ↔ VV 89 h 68 [some (.inr x), l1, l2, l3] (.inr x :: st) Q := VV_step rfl rfl rfl rfl
theorem xr_89_68 (h : AHp) (Q : Option Int32 → AHp → Prop) (l0 l1 l2 l3 : Option AV) (i : Nat) (st : List AV) : VV 89 h 68 [l0, l1, l2, l3] (.inr (10, i) :: st) Q ↔ VV 89 h 71 [l0, l1, l2, l3] (.inl (h 10 i 6) :: st) Q := VV_step rfl rfl rfl rfl
theorem xr_89_71 (h : AHp) (Q : Option Int32 → AHp → Prop) (l0 l1 l2 l3 : Option AV) (x y : Int32) (st : List AV) : VV 89 h 71 [l0, l1, l2, l3] (.inl y :: .inl x :: st) Q ↔ (y ≤ x → VV 89 h 100 [l0, l1, l2, l3] st Q) ∧ (¬ (y ≤ x) → VV 89 h 74 [l0, l1, l2, l3] st Q) := VV_br2 rfl rfl rfl decide_eq_true_iff
theorem xr_89_74 (h : AHp) (Q : Option Int32 → AHp → Prop) (l0 l1 l3 : Option AV) (x : Int32) (st : List AV) : VV 89 h 74 [l0, l1, some (.inl x), l3] st Q ↔ VV 89 h 75 [l0, l1, some (.inl x), l3] (.inl x :: st) Q := VV_step rfl rfl rfl rfl
theorem xr_89_75 (h : AHp) (Q : Option Int32 → AHp → Prop) (l1 l2 l3 : Option AV) (x : Nat × Nat) (st : List AV) : VV 89 h 75 [some (.inr x), l1, l2, l3] st Q ↔ VV 89 h 76 [some (.inr x), l1, l2, l3] (.inr x :: st) Q := VV_step rfl rfl rfl rfl
theorem xr_89_76 (h : AHp) (Q : Option Int32 → AHp → Prop) (l0 l1 l2 : Option AV) (x : Int32) (st : List AV) : VV 89 h 76 [l0, l1, l2, some (.inl x)] st Q ↔ VV 89 h 77 [l0, l1, l2, some (.inl x)] (.inl x :: st) Q := VV_step rfl rfl rfl rfl
theorem xr_89_77 (h : AHp) (Q : Option Int32 → AHp → Prop) (l0 l1 l2 l3 : Option AV) (a0 r0 : AV) (i : Nat) : VV 89 h 77 [l0, l1, l2, l3] [a0, .inr (10, i), r0] Q ↔ Vi 67 h [some (.inr (10, i)), some a0, none, none] (fun z h2 => VV 89 h2 80 [l0, l1, l2, l3] [.inl z, r0] Q) := VV_calli (y := 67) (as := [.inr (10, i), a0]) (rest := [r0]) rfl rfl rfl (ah_noV (y := 67) (by decide))
theorem xr_89_80 (h : AHp) (Q : Option Int32 → AHp → Prop) (l1 l2 l3 : Option AV) (x : Nat × Nat) (st : List AV) : VV 89 h 80 [some (.inr x), l1, l2, l3] st Q ↔ VV 89 h 81 [some (.inr x), l1, l2, l3] (.inr x :: st) Q := VV_step rfl rfl rfl rfl
theorem xr_89_81 (h : AHp) (Q : Option Int32 → AHp → Prop) (l0 l1 l2 l3 : Option AV) (i : Nat) (st : List AV) : VV 89 h 81 [l0, l1, l2, l3] (.inr (10, i) :: st) Q ↔ VV 89 h 84 [l0, l1, l2, l3] (.inl (h 10 i 0) :: st) Q := VV_step rfl rfl rfl rfl
theorem xr_89_84 (h : AHp) (Q : Option Int32 → AHp → Prop) (l0 l1 l2 l3 : Option AV) (x y : Int32) (st : List AV) : VV 89 h 84 [l0, l1, l2, l3] (.inl y :: .inl x :: st) Q ↔ (¬ x = y → VV 89 h 91 [l0, l1, l2, l3] st Q) ∧ (¬ (¬ x = y) → VV 89 h 87 [l0, l1, l2, l3] st Q) := VV_br2 rfl rfl rfl decide_eq_true_iff
theorem xr_89_87 (h : AHp) (Q : Option Int32 → AHp → Prop) (l0 l1 l2 l3 : Option AV) (st : List AV) : VV 89 h 87 [l0, l1, l2, l3] st Q ↔ VV 89 h 88 [l0, l1, l2, l3] (.inl (1 : Int32) :: st) Q := VV_step rfl rfl rfl rfl
theorem xr_89_88 (h : AHp) (Q : Option Int32 → AHp → Prop) (l0 l1 l2 l3 : Option AV) (st : List AV) : VV 89 h 88 [l0, l1, l2, l3] st Q ↔ VV 89 h 92 [l0, l1, l2, l3] st Q := VV_step rfl rfl rfl rfl
theorem xr_89_91 (h : AHp) (Q : Option Int32 → AHp → Prop) (l0 l1 l2 l3 : Option AV) (st : List AV) : VV 89 h 91 [l0, l1, l2, l3] st Q ↔ VV 89 h 92 [l0, l1, l2, l3] (.inl (0 : Int32) :: st) Q := VV_step rfl rfl rfl rfl
theorem xr_89_92 (h : AHp) (Q : Option Int32 → AHp → Prop) (l0 l1 l2 l3 : Option AV) (x y : Int32) (st : List AV) : VV 89 h 92 [l0, l1, l2, l3] (.inl y :: .inl x :: st) Q ↔ VV 89 h 93 [l0, l1, l2, l3] (.inl (x + y) :: st) Q := VV_step rfl rfl rfl rfl
theorem xr_89_93 (h : AHp) (Q : Option Int32 → AHp → Prop) (l0 l1 l2 l3 : Option AV) (x : Int32) (st : List AV) : VV 89 h 93 [l0, l1, l2, l3] (.inl x :: st) Q ↔ VV 89 h 94 [l0, l1, some (.inl x), l3] st Q := VV_step rfl rfl rfl rfl
theorem xr_89_94 (h : AHp) (Q : Option Int32 → AHp → Prop) (l0 l1 l2 : Option AV) (x : Int32) (st : List AV) : VV 89 h 94 [l0, l1, l2, some (.inl x)] st Q ↔ VV 89 h 97 [l0, l1, l2, some (.inl (x + (1 : Int32)))] st Q := VV_step rfl rfl rfl rfl
theorem xr_89_97 (h : AHp) (Q : Option Int32 → AHp → Prop) (l0 l1 l2 l3 : Option AV) (st : List AV) : VV 89 h 97 [l0, l1, l2, l3] st Q ↔ VV 89 h 66 [l0, l1, l2, l3] st Q := VV_step rfl rfl rfl rfl
theorem xr_89_100 (h : AHp) (Q : Option Int32 → AHp → Prop) (l0 l1 l3 : Option AV) (x : Int32) (st : List AV) : VV 89 h 100 [l0, l1, some (.inl x), l3] st Q ↔ VV 89 h 101 [l0, l1, some (.inl x), l3] (.inl x :: st) Q := VV_step rfl rfl rfl rfl
theorem xr_89_101 (h : AHp) (Q : Option Int32 → AHp → Prop) (l0 l1 l2 l3 : Option AV) (x : Int32) : VV 89 h 101 [l0, l1, l2, l3] [.inl x] Q ↔ Q (some x) h := VV_end rfl rfl
theorem xr_89_102 (h : AHp) (Q : Option Int32 → AHp → Prop) (l0 l1 l2 l3 : Option AV) (st : List AV) : VV 89 h 102 [l0, l1, l2, l3] st Q ↔ VV 89 h 103 [l0, l1, l2, l3] (.inl (-1 : Int32) :: st) Q := VV_step rfl rfl rfl rfl
theorem xr_89_103 (h : AHp) (Q : Option Int32 → AHp → Prop) (l0 l1 l2 l3 : Option AV) (x : Int32) : VV 89 h 103 [l0, l1, l2, l3] [.inl x] Q ↔ Q (some x) h := VV_end rfl rfl
end
