/-! ===== the law: a theorem a case ===== -/
section KLB
variable {p : Program} {l : Launch} {e : Env} {s : State} {m : MethodId} {below : List Frame} {meth : Method} {c : Code} {b L : Nat} {xs : Nat → Int32} {D : va_G} {cI cZ cQ cS cL : ClassId} {ad : Nat → Nat → Nat} {o sa sb : Nat} {H : Heap} {locs : List Loc} {n : Nat} {ls : Array Slot} {h : AHp} {f : Nat → Int64}
/-- what follows where a case ends -/
def kl_N (p : Program) (l : Launch) (e : Env) (s : State) (m : MethodId) (below : List Frame) (meth : Method) (c : Code) (b : Nat) (D : va_G) (cI cZ cQ cS cL : ClassId) (ad : Nat → Nat → Nat) (o n : Nat) : Prop :=
  ∀ (h : AHp) (f : Nat → Int64) (H : Heap) (locs : List Loc) (ls : Array Slot), GG h → kl_I s D cI cZ cQ cS cL ad o h f H locs → lv_has ls 7 (kl_lv b o ad n) → W p l e room_1 s m #[Value.ref b] below meth c H locs (100 + n + 1) (1100 + 6 * n + 6) (lw_Z below #[Value.ref b] s) (F0 m 696 ls [])
theorem kl_cs {n : Nat} (hL : L ≤ 2048) (hn : 4 * n + 4 ≤ L) : 100 + n ≤ room_1.cells ∧ 1100 + 6 * n ≤ room_1.slots := by
  show 100 + n ≤ 638704 ∧ 1100 + 6 * n ≤ 7179991
  omega
set_option maxHeartbeats 4000000 in
set_option maxRecDepth 100000 in
theorem kl_c0 (F : kl_F l p s m meth c b L xs D cI cZ cQ cS cL ad o sa sb) (hn : 4 * n + 4 ≤ L) (N : kl_N p l e s m below meth c b D cI cZ cQ cS cL ad o n) (g : GG h) (I : kl_I s D cI cZ cQ cS cL ad o h f H locs) (hl : lv_has ls 7 (kl_lv b o ad n)) : W p l e room_1 s m #[Value.ref b] below meth c H locs (100 + n) (1100 + 6 * n) (lw_Z below #[Value.ref b] s) (F0 m 120 ls []) := by
  obtain ⟨⟨hx, hb, hr, hml, hown, hts, hX, hbl, hlocks, hgv⟩, hL, htr, hinj, ho, hA, hAo, hK5, hZ⟩ := id F
  have hK : va_K D sm_cl (sw_tys cI cZ cQ cS) s := hK5.sub [0, 1, 2, 3] rfl
  obtain ⟨hP, hO, hS⟩ := I
  obtain ⟨n1, r1, h1, e1, v1, rfl, n2, r2, h2, e2, v2, rfl, hv, g2⟩ := op_text h (xs (4 * n + 1)) g
  refine lv_aload_n hx hb dL_law_120 rfl (lv_at hl 3 rfl) ?_
  refine kl_rd F hn hS hl 0 4 rfl rfl 1 1 (by decide) (by decide) (by decide) dL_law_121 dL_law_122 dL_law_124 dL_law_125 dL_law_126 ?_
  refine kv_go (cc := code) (nL := 7) (Ts := lw_tbl) (own := RL) ⟨hx, hb, hml, hown, hts⟩ hinj 11 21 0 0 1 [xs (4 * n + 1)] (A0 := fun q => s.heap.size ≤ q) (rest := []) e1 rfl (by decide +kernel) (by decide +kernel) lk_smW kl_g127 (by decide +kernel) hP hK hA hS hl.1 (Nat.le_of_ble_eq_true rfl) (kl_cs hL hn) dL_law_127 (fun H locs hP hS _ hk => ?_)
  have hO := ll_O hO ho hk
  refine lv_aload_n hx hb dL_law_130 rfl (lv_at hl 2 rfl) ?_
  refine kl_rd F hn hS hl 0 4 rfl rfl 1 1 (by decide) (by decide) (by decide) dL_law_131 dL_law_132 dL_law_134 dL_law_135 dL_law_136 ?_
  refine kv_go (cc := code) (nL := 7) (Ts := lw_tbl) (own := RL) ⟨hx, hb, hml, hown, hts⟩ hinj 56 25 10 0 1 [xs (4 * n + 1)] (A0 := fun q => s.heap.size ≤ q) (rest := [.int v1]) e2 rfl (by decide +kernel) (by decide +kernel) lk_smW kl_g137 (by decide +kernel) hP hK hA hS hl.1 (Nat.le_of_ble_eq_true rfl) (kl_cs hL hn) dL_law_137 (fun H locs hP hS _ hk => ?_)
  have hO := ll_O hO ho hk
  refine lv_icmp_eq (tgt := 696) (rest := []) hx hb dL_law_140 (by decide) (fun _ => ?_) (fun z => absurd hv.symm z)
  refine W.widen (k := 100 + n + 1) (n := 1100 + 6 * n + 6) (by omega) (by omega) ?_
  exact N h2 f _ _ _ g2 ⟨hP, hO, hS⟩ hl
set_option maxHeartbeats 4000000 in
set_option maxRecDepth 100000 in
theorem kl_c1 (F : kl_F l p s m meth c b L xs D cI cZ cQ cS cL ad o sa sb) (hn : 4 * n + 4 ≤ L) (N : kl_N p l e s m below meth c b D cI cZ cQ cS cL ad o n) (g : GG h) (I : kl_I s D cI cZ cQ cS cL ad o h f H locs) (hl : lv_has ls 7 (kl_lv b o ad n)) : W p l e room_1 s m #[Value.ref b] below meth c H locs (100 + n) (1100 + 6 * n) (lw_Z below #[Value.ref b] s) (F0 m 145 ls []) := by
  obtain ⟨⟨hx, hb, hr, hml, hown, hts, hX, hbl, hlocks, hgv⟩, hL, htr, hinj, ho, hA, hAo, hK5, hZ⟩ := id F
  have hK : va_K D sm_cl (sw_tys cI cZ cQ cS) s := hK5.sub [0, 1, 2, 3] rfl
  obtain ⟨hP, hO, hS⟩ := I
  obtain ⟨n1, r1, h1, e1, v1, rfl, n2, r2, h2, e2, v2, rfl, hv, g2⟩ := op_rule h (xs (4 * n + 1)) g
  refine lv_aload_n hx hb dL_law_145 rfl (lv_at hl 3 rfl) ?_
  refine kl_rd F hn hS hl 0 4 rfl rfl 1 1 (by decide) (by decide) (by decide) dL_law_146 dL_law_147 dL_law_149 dL_law_150 dL_law_151 ?_
  refine kv_go (cc := code) (nL := 7) (Ts := lw_tbl) (own := RL) ⟨hx, hb, hml, hown, hts⟩ hinj 12 26 0 0 1 [xs (4 * n + 1)] (A0 := fun q => s.heap.size ≤ q) (rest := []) e1 rfl (by decide +kernel) (by decide +kernel) lk_smW kl_g152 (by decide +kernel) hP hK hA hS hl.1 (Nat.le_of_ble_eq_true rfl) (kl_cs hL hn) dL_law_152 (fun H locs hP hS _ hk => ?_)
  have hO := ll_O hO ho hk
  refine lv_aload_n hx hb dL_law_155 rfl (lv_at hl 2 rfl) ?_
  refine kl_rd F hn hS hl 0 4 rfl rfl 1 1 (by decide) (by decide) (by decide) dL_law_156 dL_law_157 dL_law_159 dL_law_160 dL_law_161 ?_
  refine kv_go (cc := code) (nL := 7) (Ts := lw_tbl) (own := RL) ⟨hx, hb, hml, hown, hts⟩ hinj 57 29 10 0 1 [xs (4 * n + 1)] (A0 := fun q => s.heap.size ≤ q) (rest := [.int v1]) e2 rfl (by decide +kernel) (by decide +kernel) lk_smW kl_g162 (by decide +kernel) hP hK hA hS hl.1 (Nat.le_of_ble_eq_true rfl) (kl_cs hL hn) dL_law_162 (fun H locs hP hS _ hk => ?_)
  have hO := ll_O hO ho hk
  refine lv_icmp_eq (tgt := 696) (rest := []) hx hb dL_law_165 (by decide) (fun _ => ?_) (fun z => absurd hv.symm z)
  refine W.widen (k := 100 + n + 1) (n := 1100 + 6 * n + 6) (by omega) (by omega) ?_
  exact N h2 f _ _ _ g2 ⟨hP, hO, hS⟩ hl
set_option maxHeartbeats 4000000 in
set_option maxRecDepth 100000 in
theorem kl_c2 (F : kl_F l p s m meth c b L xs D cI cZ cQ cS cL ad o sa sb) (hn : 4 * n + 4 ≤ L) (N : kl_N p l e s m below meth c b D cI cZ cQ cS cL ad o n) (g : GG h) (I : kl_I s D cI cZ cQ cS cL ad o h f H locs) (hl : lv_has ls 7 (kl_lv b o ad n)) : W p l e room_1 s m #[Value.ref b] below meth c H locs (100 + n) (1100 + 6 * n) (lw_Z below #[Value.ref b] s) (F0 m 170 ls []) := by
  obtain ⟨⟨hx, hb, hr, hml, hown, hts, hX, hbl, hlocks, hgv⟩, hL, htr, hinj, ho, hA, hAo, hK5, hZ⟩ := id F
  have hK : va_K D sm_cl (sw_tys cI cZ cQ cS) s := hK5.sub [0, 1, 2, 3] rfl
  obtain ⟨hP, hO, hS⟩ := I
  obtain ⟨n1, r1, h1, e1, v1, rfl, n2, r2, h2, e2, v2, rfl, hv, g2⟩ := op_wear h (xs (4 * n + 1)) g
  refine lv_aload_n hx hb dL_law_170 rfl (lv_at hl 3 rfl) ?_
  refine kl_rd F hn hS hl 0 4 rfl rfl 1 1 (by decide) (by decide) (by decide) dL_law_171 dL_law_172 dL_law_174 dL_law_175 dL_law_176 ?_
  refine kv_go (cc := code) (nL := 7) (Ts := lw_tbl) (own := RL) ⟨hx, hb, hml, hown, hts⟩ hinj 13 30 0 0 1 [xs (4 * n + 1)] (A0 := fun q => s.heap.size ≤ q) (rest := []) e1 rfl (by decide +kernel) (by decide +kernel) lk_smW kl_g177 (by decide +kernel) hP hK hA hS hl.1 (Nat.le_of_ble_eq_true rfl) (kl_cs hL hn) dL_law_177 (fun H locs hP hS _ hk => ?_)
  have hO := ll_O hO ho hk
  refine lv_aload_n hx hb dL_law_180 rfl (lv_at hl 2 rfl) ?_
  refine kl_rd F hn hS hl 0 4 rfl rfl 1 1 (by decide) (by decide) (by decide) dL_law_181 dL_law_182 dL_law_184 dL_law_185 dL_law_186 ?_
  refine kv_go (cc := code) (nL := 7) (Ts := lw_tbl) (own := RL) ⟨hx, hb, hml, hown, hts⟩ hinj 58 33 10 0 1 [xs (4 * n + 1)] (A0 := fun q => s.heap.size ≤ q) (rest := [.int v1]) e2 rfl (by decide +kernel) (by decide +kernel) lk_smW kl_g187 (by decide +kernel) hP hK hA hS hl.1 (Nat.le_of_ble_eq_true rfl) (kl_cs hL hn) dL_law_187 (fun H locs hP hS _ hk => ?_)
  have hO := ll_O hO ho hk
  refine lv_icmp_eq (tgt := 696) (rest := []) hx hb dL_law_190 (by decide) (fun _ => ?_) (fun z => absurd hv.symm z)
  refine W.widen (k := 100 + n + 1) (n := 1100 + 6 * n + 6) (by omega) (by omega) ?_
  exact N h2 f _ _ _ g2 ⟨hP, hO, hS⟩ hl
set_option maxHeartbeats 4000000 in
set_option maxRecDepth 100000 in
theorem kl_c3 (F : kl_F l p s m meth c b L xs D cI cZ cQ cS cL ad o sa sb) (hn : 4 * n + 4 ≤ L) (N : kl_N p l e s m below meth c b D cI cZ cQ cS cL ad o n) (g : GG h) (I : kl_I s D cI cZ cQ cS cL ad o h f H locs) (hl : lv_has ls 7 (kl_lv b o ad n)) : W p l e room_1 s m #[Value.ref b] below meth c H locs (100 + n) (1100 + 6 * n) (lw_Z below #[Value.ref b] s) (F0 m 195 ls []) := by
  obtain ⟨⟨hx, hb, hr, hml, hown, hts, hX, hbl, hlocks, hgv⟩, hL, htr, hinj, ho, hA, hAo, hK5, hZ⟩ := id F
  have hK : va_K D sm_cl (sw_tys cI cZ cQ cS) s := hK5.sub [0, 1, 2, 3] rfl
  obtain ⟨hP, hO, hS⟩ := I
  obtain ⟨n1, r1, h1, e1, v1, rfl, n2, r2, h2, e2, v2, rfl, hv, g2⟩ := op_quire h (xs (4 * n + 1)) (xs (4 * n + 2)) g
  refine lv_aload_n hx hb dL_law_195 rfl (lv_at hl 3 rfl) ?_
  refine kl_rd F hn hS hl 0 4 rfl rfl 1 1 (by decide) (by decide) (by decide) dL_law_196 dL_law_197 dL_law_199 dL_law_200 dL_law_201 ?_
  refine kl_rd F hn hS hl 0 4 rfl rfl 2 2 (by decide) (by decide) (by decide) dL_law_202 dL_law_203 dL_law_205 dL_law_206 dL_law_207 ?_
  refine kv_go (cc := code) (nL := 7) (Ts := lw_tbl) (own := RL) ⟨hx, hb, hml, hown, hts⟩ hinj 16 34 0 0 2 [xs (4 * n + 1), xs (4 * n + 2)] (A0 := fun q => s.heap.size ≤ q) (rest := []) e1 rfl (by decide +kernel) (by decide +kernel) lk_smW kl_g208 (by decide +kernel) hP hK hA hS hl.1 (Nat.le_of_ble_eq_true rfl) (kl_cs hL hn) dL_law_208 (fun H locs hP hS _ hk => ?_)
  have hO := ll_O hO ho hk
  refine lv_aload_n hx hb dL_law_211 rfl (lv_at hl 2 rfl) ?_
  refine kl_rd F hn hS hl 0 4 rfl rfl 1 1 (by decide) (by decide) (by decide) dL_law_212 dL_law_213 dL_law_215 dL_law_216 dL_law_217 ?_
  refine kl_rd F hn hS hl 0 4 rfl rfl 2 2 (by decide) (by decide) (by decide) dL_law_218 dL_law_219 dL_law_221 dL_law_222 dL_law_223 ?_
  refine kv_go (cc := code) (nL := 7) (Ts := lw_tbl) (own := RL) ⟨hx, hb, hml, hown, hts⟩ hinj 63 37 10 0 2 [xs (4 * n + 1), xs (4 * n + 2)] (A0 := fun q => s.heap.size ≤ q) (rest := [.int v1]) e2 rfl (by decide +kernel) (by decide +kernel) lk_smW kl_g224 (by decide +kernel) hP hK hA hS hl.1 (Nat.le_of_ble_eq_true rfl) (kl_cs hL hn) dL_law_224 (fun H locs hP hS _ hk => ?_)
  have hO := ll_O hO ho hk
  refine lv_icmp_eq (tgt := 696) (rest := []) hx hb dL_law_227 (by decide) (fun _ => ?_) (fun z => absurd hv.symm z)
  refine W.widen (k := 100 + n + 1) (n := 1100 + 6 * n + 6) (by omega) (by omega) ?_
  exact N h2 f _ _ _ g2 ⟨hP, hO, hS⟩ hl
set_option maxHeartbeats 4000000 in
set_option maxRecDepth 100000 in
theorem kl_c4 (F : kl_F l p s m meth c b L xs D cI cZ cQ cS cL ad o sa sb) (hn : 4 * n + 4 ≤ L) (N : kl_N p l e s m below meth c b D cI cZ cQ cS cL ad o n) (g : GG h) (I : kl_I s D cI cZ cQ cS cL ad o h f H locs) (hl : lv_has ls 7 (kl_lv b o ad n)) : W p l e room_1 s m #[Value.ref b] below meth c H locs (100 + n) (1100 + 6 * n) (lw_Z below #[Value.ref b] s) (F0 m 232 ls []) := by
  obtain ⟨⟨hx, hb, hr, hml, hown, hts, hX, hbl, hlocks, hgv⟩, hL, htr, hinj, ho, hA, hAo, hK5, hZ⟩ := id F
  have hK : va_K D sm_cl (sw_tys cI cZ cQ cS) s := hK5.sub [0, 1, 2, 3] rfl
  obtain ⟨hP, hO, hS⟩ := I
  obtain ⟨n1, r1, h1, e1, v1, rfl, n2, r2, h2, e2, v2, rfl, hv, g2⟩ := op_anew h (xs (4 * n + 1)) (xs (4 * n + 2)) (xs (4 * n + 3)) g
  refine lv_aload_n hx hb dL_law_232 rfl (lv_at hl 3 rfl) ?_
  refine kl_rd F hn hS hl 0 4 rfl rfl 1 1 (by decide) (by decide) (by decide) dL_law_233 dL_law_234 dL_law_236 dL_law_237 dL_law_238 ?_
  refine kl_rd F hn hS hl 0 4 rfl rfl 2 2 (by decide) (by decide) (by decide) dL_law_239 dL_law_240 dL_law_242 dL_law_243 dL_law_244 ?_
  refine kl_rd F hn hS hl 0 4 rfl rfl 3 3 (by decide) (by decide) (by decide) dL_law_245 dL_law_246 dL_law_248 dL_law_249 dL_law_250 ?_
  refine kv_go (cc := code) (nL := 7) (Ts := lw_tbl) (own := RL) ⟨hx, hb, hml, hown, hts⟩ hinj 21 38 0 0 3 [xs (4 * n + 1), xs (4 * n + 2), xs (4 * n + 3)] (A0 := fun q => s.heap.size ≤ q) (rest := []) e1 rfl (by decide +kernel) (by decide +kernel) lk_smW kl_g251 (by decide +kernel) hP hK hA hS hl.1 (Nat.le_of_ble_eq_true rfl) (kl_cs hL hn) dL_law_251 (fun H locs hP hS _ hk => ?_)
  have hO := ll_O hO ho hk
  refine lv_aload_n hx hb dL_law_254 rfl (lv_at hl 2 rfl) ?_
  refine kl_rd F hn hS hl 0 4 rfl rfl 1 1 (by decide) (by decide) (by decide) dL_law_255 dL_law_256 dL_law_258 dL_law_259 dL_law_260 ?_
  refine kl_rd F hn hS hl 0 4 rfl rfl 2 2 (by decide) (by decide) (by decide) dL_law_261 dL_law_262 dL_law_264 dL_law_265 dL_law_266 ?_
  refine kl_rd F hn hS hl 0 4 rfl rfl 3 3 (by decide) (by decide) (by decide) dL_law_267 dL_law_268 dL_law_270 dL_law_271 dL_law_272 ?_
  refine kv_go (cc := code) (nL := 7) (Ts := lw_tbl) (own := RL) ⟨hx, hb, hml, hown, hts⟩ hinj 64 42 10 0 3 [xs (4 * n + 1), xs (4 * n + 2), xs (4 * n + 3)] (A0 := fun q => s.heap.size ≤ q) (rest := [.int v1]) e2 rfl (by decide +kernel) (by decide +kernel) lk_smW kl_g273 (by decide +kernel) hP hK hA hS hl.1 (Nat.le_of_ble_eq_true rfl) (kl_cs hL hn) dL_law_273 (fun H locs hP hS _ hk => ?_)
  have hO := ll_O hO ho hk
  refine lv_icmp_eq (tgt := 696) (rest := []) hx hb dL_law_276 (by decide) (fun _ => ?_) (fun z => absurd hv.symm z)
  refine W.widen (k := 100 + n + 1) (n := 1100 + 6 * n + 6) (by omega) (by omega) ?_
  exact N h2 f _ _ _ g2 ⟨hP, hO, hS⟩ hl
set_option maxHeartbeats 4000000 in
set_option maxRecDepth 100000 in
theorem kl_c5 (F : kl_F l p s m meth c b L xs D cI cZ cQ cS cL ad o sa sb) (hn : 4 * n + 4 ≤ L) (N : kl_N p l e s m below meth c b D cI cZ cQ cS cL ad o n) (g : GG h) (I : kl_I s D cI cZ cQ cS cL ad o h f H locs) (hl : lv_has ls 7 (kl_lv b o ad n)) : W p l e room_1 s m #[Value.ref b] below meth c H locs (100 + n) (1100 + 6 * n) (lw_Z below #[Value.ref b] s) (F0 m 281 ls []) := by
  obtain ⟨⟨hx, hb, hr, hml, hown, hts, hX, hbl, hlocks, hgv⟩, hL, htr, hinj, ho, hA, hAo, hK5, hZ⟩ := id F
  have hK : va_K D sm_cl (sw_tys cI cZ cQ cS) s := hK5.sub [0, 1, 2, 3] rfl
  obtain ⟨hP, hO, hS⟩ := I
  obtain ⟨n1, r1, h1, e1, v1, rfl, n2, r2, h2, e2, v2, rfl, hv, g2⟩ := op_scribe h (xs (4 * n + 1)) g
  refine lv_aload_n hx hb dL_law_281 rfl (lv_at hl 3 rfl) ?_
  refine kl_rd F hn hS hl 0 4 rfl rfl 1 1 (by decide) (by decide) (by decide) dL_law_282 dL_law_283 dL_law_285 dL_law_286 dL_law_287 ?_
  refine kv_go (cc := code) (nL := 7) (Ts := lw_tbl) (own := RL) ⟨hx, hb, hml, hown, hts⟩ hinj 22 43 0 0 1 [xs (4 * n + 1)] (A0 := fun q => s.heap.size ≤ q) (rest := []) e1 rfl (by decide +kernel) (by decide +kernel) lk_smW kl_g288 (by decide +kernel) hP hK hA hS hl.1 (Nat.le_of_ble_eq_true rfl) (kl_cs hL hn) dL_law_288 (fun H locs hP hS _ hk => ?_)
  have hO := ll_O hO ho hk
  refine lv_aload_n hx hb dL_law_291 rfl (lv_at hl 2 rfl) ?_
  refine kl_rd F hn hS hl 0 4 rfl rfl 1 1 (by decide) (by decide) (by decide) dL_law_292 dL_law_293 dL_law_295 dL_law_296 dL_law_297 ?_
  refine kv_go (cc := code) (nL := 7) (Ts := lw_tbl) (own := RL) ⟨hx, hb, hml, hown, hts⟩ hinj 65 47 10 0 1 [xs (4 * n + 1)] (A0 := fun q => s.heap.size ≤ q) (rest := [.int v1]) e2 rfl (by decide +kernel) (by decide +kernel) lk_smW kl_g298 (by decide +kernel) hP hK hA hS hl.1 (Nat.le_of_ble_eq_true rfl) (kl_cs hL hn) dL_law_298 (fun H locs hP hS _ hk => ?_)
  have hO := ll_O hO ho hk
  refine lv_icmp_eq (tgt := 696) (rest := []) hx hb dL_law_301 (by decide) (fun _ => ?_) (fun z => absurd hv.symm z)
  refine W.widen (k := 100 + n + 1) (n := 1100 + 6 * n + 6) (by omega) (by omega) ?_
  exact N h2 f _ _ _ g2 ⟨hP, hO, hS⟩ hl
set_option maxHeartbeats 4000000 in
set_option maxRecDepth 100000 in
theorem kl_c6 (F : kl_F l p s m meth c b L xs D cI cZ cQ cS cL ad o sa sb) (hn : 4 * n + 4 ≤ L) (N : kl_N p l e s m below meth c b D cI cZ cQ cS cL ad o n) (g : GG h) (I : kl_I s D cI cZ cQ cS cL ad o h f H locs) (hl : lv_has ls 7 (kl_lv b o ad n)) : W p l e room_1 s m #[Value.ref b] below meth c H locs (100 + n) (1100 + 6 * n) (lw_Z below #[Value.ref b] s) (F0 m 306 ls []) := by
  obtain ⟨⟨hx, hb, hr, hml, hown, hts, hX, hbl, hlocks, hgv⟩, hL, htr, hinj, ho, hA, hAo, hK5, hZ⟩ := id F
  have hK : va_K D sm_cl (sw_tys cI cZ cQ cS) s := hK5.sub [0, 1, 2, 3] rfl
  obtain ⟨hP, hO, hS⟩ := I
  obtain ⟨n1, r1, h1, e1, v1, rfl, n2, r2, h2, e2, v2, rfl, hv, g2⟩ := op_slip h (xs (4 * n + 1)) (xs (4 * n + 2)) (xs (4 * n + 3)) g
  refine lv_aload_n hx hb dL_law_306 rfl (lv_at hl 3 rfl) ?_
  refine kl_rd F hn hS hl 0 4 rfl rfl 1 1 (by decide) (by decide) (by decide) dL_law_307 dL_law_308 dL_law_310 dL_law_311 dL_law_312 ?_
  refine kl_rd F hn hS hl 0 4 rfl rfl 2 2 (by decide) (by decide) (by decide) dL_law_313 dL_law_314 dL_law_316 dL_law_317 dL_law_318 ?_
  refine kl_rd F hn hS hl 0 4 rfl rfl 3 3 (by decide) (by decide) (by decide) dL_law_319 dL_law_320 dL_law_322 dL_law_323 dL_law_324 ?_
  refine kv_go (cc := code) (nL := 7) (Ts := lw_tbl) (own := RL) ⟨hx, hb, hml, hown, hts⟩ hinj 23 48 0 0 3 [xs (4 * n + 1), xs (4 * n + 2), xs (4 * n + 3)] (A0 := fun q => s.heap.size ≤ q) (rest := []) e1 rfl (by decide +kernel) (by decide +kernel) lk_smW kl_g325 (by decide +kernel) hP hK hA hS hl.1 (Nat.le_of_ble_eq_true rfl) (kl_cs hL hn) dL_law_325 (fun H locs hP hS _ hk => ?_)
  have hO := ll_O hO ho hk
  refine lv_aload_n hx hb dL_law_328 rfl (lv_at hl 2 rfl) ?_
  refine kl_rd F hn hS hl 0 4 rfl rfl 1 1 (by decide) (by decide) (by decide) dL_law_329 dL_law_330 dL_law_332 dL_law_333 dL_law_334 ?_
  refine kl_rd F hn hS hl 0 4 rfl rfl 2 2 (by decide) (by decide) (by decide) dL_law_335 dL_law_336 dL_law_338 dL_law_339 dL_law_340 ?_
  refine kl_rd F hn hS hl 0 4 rfl rfl 3 3 (by decide) (by decide) (by decide) dL_law_341 dL_law_342 dL_law_344 dL_law_345 dL_law_346 ?_
  refine kv_go (cc := code) (nL := 7) (Ts := lw_tbl) (own := RL) ⟨hx, hb, hml, hown, hts⟩ hinj 66 52 10 0 3 [xs (4 * n + 1), xs (4 * n + 2), xs (4 * n + 3)] (A0 := fun q => s.heap.size ≤ q) (rest := [.int v1]) e2 rfl (by decide +kernel) (by decide +kernel) lk_smW kl_g347 (by decide +kernel) hP hK hA hS hl.1 (Nat.le_of_ble_eq_true rfl) (kl_cs hL hn) dL_law_347 (fun H locs hP hS _ hk => ?_)
  have hO := ll_O hO ho hk
  refine lv_icmp_eq (tgt := 696) (rest := []) hx hb dL_law_350 (by decide) (fun _ => ?_) (fun z => absurd hv.symm z)
  refine W.widen (k := 100 + n + 1) (n := 1100 + 6 * n + 6) (by omega) (by omega) ?_
  exact N h2 f _ _ _ g2 ⟨hP, hO, hS⟩ hl
set_option maxHeartbeats 4000000 in
set_option maxRecDepth 100000 in
theorem kl_c7 (F : kl_F l p s m meth c b L xs D cI cZ cQ cS cL ad o sa sb) (hn : 4 * n + 4 ≤ L) (N : kl_N p l e s m below meth c b D cI cZ cQ cS cL ad o n) (g : GG h) (I : kl_I s D cI cZ cQ cS cL ad o h f H locs) (hl : lv_has ls 7 (kl_lv b o ad n)) : W p l e room_1 s m #[Value.ref b] below meth c H locs (100 + n) (1100 + 6 * n) (lw_Z below #[Value.ref b] s) (F0 m 355 ls []) := by
  obtain ⟨⟨hx, hb, hr, hml, hown, hts, hX, hbl, hlocks, hgv⟩, hL, htr, hinj, ho, hA, hAo, hK5, hZ⟩ := id F
  have hK : va_K D sm_cl (sw_tys cI cZ cQ cS) s := hK5.sub [0, 1, 2, 3] rfl
  obtain ⟨hP, hO, hS⟩ := I
  obtain ⟨n1, r1, h1, e1, v1, rfl, n2, r2, h2, e2, v2, rfl, hv, g2⟩ := op_days h (xs (4 * n + 1)) g
  refine lv_aload_n hx hb dL_law_355 rfl (lv_at hl 3 rfl) ?_
  refine kl_rd F hn hS hl 0 4 rfl rfl 1 1 (by decide) (by decide) (by decide) dL_law_356 dL_law_357 dL_law_359 dL_law_360 dL_law_361 ?_
  refine kv_go (cc := code) (nL := 7) (Ts := lw_tbl) (own := RL) ⟨hx, hb, hml, hown, hts⟩ hinj 36 53 0 0 1 [xs (4 * n + 1)] (A0 := fun q => s.heap.size ≤ q) (rest := []) e1 rfl (by decide +kernel) (by decide +kernel) lk_smW kl_g362 (by decide +kernel) hP hK hA hS hl.1 (Nat.le_of_ble_eq_true rfl) (kl_cs hL hn) dL_law_362 (fun H locs hP hS _ hk => ?_)
  have hO := ll_O hO ho hk
  refine lv_aload_n hx hb dL_law_365 rfl (lv_at hl 2 rfl) ?_
  refine kl_rd F hn hS hl 0 4 rfl rfl 1 1 (by decide) (by decide) (by decide) dL_law_366 dL_law_367 dL_law_369 dL_law_370 dL_law_371 ?_
  refine kv_go (cc := code) (nL := 7) (Ts := lw_tbl) (own := RL) ⟨hx, hb, hml, hown, hts⟩ hinj 75 56 10 0 1 [xs (4 * n + 1)] (A0 := fun q => s.heap.size ≤ q) (rest := [.int v1]) e2 rfl (by decide +kernel) (by decide +kernel) lk_smW kl_g372 (by decide +kernel) hP hK hA hS hl.1 (Nat.le_of_ble_eq_true rfl) (kl_cs hL hn) dL_law_372 (fun H locs hP hS _ hk => ?_)
  have hO := ll_O hO ho hk
  refine lv_icmp_eq (tgt := 696) (rest := []) hx hb dL_law_375 (by decide) (fun _ => ?_) (fun z => absurd hv.symm z)
  refine W.widen (k := 100 + n + 1) (n := 1100 + 6 * n + 6) (by omega) (by omega) ?_
  exact N h2 f _ _ _ g2 ⟨hP, hO, hS⟩ hl
set_option maxHeartbeats 4000000 in
set_option maxRecDepth 100000 in
theorem kl_c8 (F : kl_F l p s m meth c b L xs D cI cZ cQ cS cL ad o sa sb) (hn : 4 * n + 4 ≤ L) (N : kl_N p l e s m below meth c b D cI cZ cQ cS cL ad o n) (g : GG h) (I : kl_I s D cI cZ cQ cS cL ad o h f H locs) (hl : lv_has ls 7 (kl_lv b o ad n)) : W p l e room_1 s m #[Value.ref b] below meth c H locs (100 + n) (1100 + 6 * n) (lw_Z below #[Value.ref b] s) (F0 m 380 ls []) := by
  obtain ⟨⟨hx, hb, hr, hml, hown, hts, hX, hbl, hlocks, hgv⟩, hL, htr, hinj, ho, hA, hAo, hK5, hZ⟩ := id F
  have hK : va_K D sm_cl (sw_tys cI cZ cQ cS) s := hK5.sub [0, 1, 2, 3] rfl
  obtain ⟨hP, hO, hS⟩ := I
  obtain ⟨n1, r1, h1, e1, v1, rfl, n2, r2, h2, e2, v2, rfl, hv, g2⟩ := op_finish h (xs (4 * n + 1)) g
  refine lv_aload_n hx hb dL_law_380 rfl (lv_at hl 3 rfl) ?_
  refine kl_rd F hn hS hl 0 4 rfl rfl 1 1 (by decide) (by decide) (by decide) dL_law_381 dL_law_382 dL_law_384 dL_law_385 dL_law_386 ?_
  refine kv_go (cc := code) (nL := 7) (Ts := lw_tbl) (own := RL) ⟨hx, hb, hml, hown, hts⟩ hinj 39 57 0 0 1 [xs (4 * n + 1)] (A0 := fun q => s.heap.size ≤ q) (rest := []) e1 rfl (by decide +kernel) (by decide +kernel) lk_smW kl_g387 (by decide +kernel) hP hK hA hS hl.1 (Nat.le_of_ble_eq_true rfl) (kl_cs hL hn) dL_law_387 (fun H locs hP hS _ hk => ?_)
  have hO := ll_O hO ho hk
  refine lv_aload_n hx hb dL_law_390 rfl (lv_at hl 2 rfl) ?_
  refine kl_rd F hn hS hl 0 4 rfl rfl 1 1 (by decide) (by decide) (by decide) dL_law_391 dL_law_392 dL_law_394 dL_law_395 dL_law_396 ?_
  refine kv_go (cc := code) (nL := 7) (Ts := lw_tbl) (own := RL) ⟨hx, hb, hml, hown, hts⟩ hinj 77 60 10 0 1 [xs (4 * n + 1)] (A0 := fun q => s.heap.size ≤ q) (rest := [.int v1]) e2 rfl (by decide +kernel) (by decide +kernel) lk_smW kl_g397 (by decide +kernel) hP hK hA hS hl.1 (Nat.le_of_ble_eq_true rfl) (kl_cs hL hn) dL_law_397 (fun H locs hP hS _ hk => ?_)
  have hO := ll_O hO ho hk
  refine lv_icmp_eq (tgt := 696) (rest := []) hx hb dL_law_400 (by decide) (fun _ => ?_) (fun z => absurd hv.symm z)
  refine W.widen (k := 100 + n + 1) (n := 1100 + 6 * n + 6) (by omega) (by omega) ?_
  exact N h2 f _ _ _ g2 ⟨hP, hO, hS⟩ hl
set_option maxHeartbeats 4000000 in
set_option maxRecDepth 100000 in
theorem kl_c9 (F : kl_F l p s m meth c b L xs D cI cZ cQ cS cL ad o sa sb) (hn : 4 * n + 4 ≤ L) (N : kl_N p l e s m below meth c b D cI cZ cQ cS cL ad o n) (g : GG h) (I : kl_I s D cI cZ cQ cS cL ad o h f H locs) (hl : lv_has ls 7 (kl_lv b o ad n)) : W p l e room_1 s m #[Value.ref b] below meth c H locs (100 + n) (1100 + 6 * n) (lw_Z below #[Value.ref b] s) (F0 m 405 ls []) := by
  obtain ⟨⟨hx, hb, hr, hml, hown, hts, hX, hbl, hlocks, hgv⟩, hL, htr, hinj, ho, hA, hAo, hK5, hZ⟩ := id F
  have hK : va_K D sm_cl (sw_tys cI cZ cQ cS) s := hK5.sub [0, 1, 2, 3] rfl
  obtain ⟨hP, hO, hS⟩ := I
  obtain ⟨n1, r1, h1, e1, v1, rfl, n2, r2, h2, e2, v2, rfl, hv, g2⟩ := op_bound h  g
  refine lv_aload_n hx hb dL_law_405 rfl (lv_at hl 3 rfl) ?_
  refine kv_go (cc := code) (nL := 7) (Ts := lw_tbl) (own := RL) ⟨hx, hb, hml, hown, hts⟩ hinj 43 61 0 0 0 [] (A0 := fun q => s.heap.size ≤ q) (rest := []) e1 rfl (by decide +kernel) (by decide +kernel) lk_smW kl_g406 (by decide +kernel) hP hK hA hS hl.1 (Nat.le_of_ble_eq_true rfl) (kl_cs hL hn) dL_law_406 (fun H locs hP hS _ hk => ?_)
  have hO := ll_O hO ho hk
  refine lv_aload_n hx hb dL_law_409 rfl (lv_at hl 2 rfl) ?_
  refine kv_go (cc := code) (nL := 7) (Ts := lw_tbl) (own := RL) ⟨hx, hb, hml, hown, hts⟩ hinj 78 65 10 0 0 [] (A0 := fun q => s.heap.size ≤ q) (rest := [.int v1]) e2 rfl (by decide +kernel) (by decide +kernel) lk_smW kl_g410 (by decide +kernel) hP hK hA hS hl.1 (Nat.le_of_ble_eq_true rfl) (kl_cs hL hn) dL_law_410 (fun H locs hP hS _ hk => ?_)
  have hO := ll_O hO ho hk
  refine lv_icmp_eq (tgt := 696) (rest := []) hx hb dL_law_413 (by decide) (fun _ => ?_) (fun z => absurd hv.symm z)
  refine W.widen (k := 100 + n + 1) (n := 1100 + 6 * n + 6) (by omega) (by omega) ?_
  exact N h2 f _ _ _ g2 ⟨hP, hO, hS⟩ hl
set_option maxHeartbeats 4000000 in
set_option maxRecDepth 100000 in
theorem kl_c10 (F : kl_F l p s m meth c b L xs D cI cZ cQ cS cL ad o sa sb) (hn : 4 * n + 4 ≤ L) (N : kl_N p l e s m below meth c b D cI cZ cQ cS cL ad o n) (g : GG h) (I : kl_I s D cI cZ cQ cS cL ad o h f H locs) (hl : lv_has ls 7 (kl_lv b o ad n)) : W p l e room_1 s m #[Value.ref b] below meth c H locs (100 + n) (1100 + 6 * n) (lw_Z below #[Value.ref b] s) (F0 m 418 ls []) := by
  obtain ⟨⟨hx, hb, hr, hml, hown, hts, hX, hbl, hlocks, hgv⟩, hL, htr, hinj, ho, hA, hAo, hK5, hZ⟩ := id F
  have hK : va_K D sm_cl (sw_tys cI cZ cQ cS) s := hK5.sub [0, 1, 2, 3] rfl
  obtain ⟨hP, hO, hS⟩ := I
  obtain ⟨n1, r1, h1, e1, v1, rfl, n2, r2, h2, e2, v2, rfl, hv, g2⟩ := op_page h (xs (4 * n + 1)) (xs (4 * n + 2)) (xs (4 * n + 3)) g
  refine lv_aload_n hx hb dL_law_418 rfl (lv_at hl 3 rfl) ?_
  refine kl_rd F hn hS hl 0 4 rfl rfl 1 1 (by decide) (by decide) (by decide) dL_law_419 dL_law_420 dL_law_422 dL_law_423 dL_law_424 ?_
  refine kl_rd F hn hS hl 0 4 rfl rfl 2 2 (by decide) (by decide) (by decide) dL_law_425 dL_law_426 dL_law_428 dL_law_429 dL_law_430 ?_
  refine kl_rd F hn hS hl 0 4 rfl rfl 3 3 (by decide) (by decide) (by decide) dL_law_431 dL_law_432 dL_law_434 dL_law_435 dL_law_436 ?_
  refine kv_go (cc := code) (nL := 7) (Ts := lw_tbl) (own := RL) ⟨hx, hb, hml, hown, hts⟩ hinj 44 66 0 0 3 [xs (4 * n + 1), xs (4 * n + 2), xs (4 * n + 3)] (A0 := fun q => s.heap.size ≤ q) (rest := []) e1 rfl (by decide +kernel) (by decide +kernel) lk_smW kl_g437 (by decide +kernel) hP hK hA hS hl.1 (Nat.le_of_ble_eq_true rfl) (kl_cs hL hn) dL_law_437 (fun H locs hP hS _ hk => ?_)
  have hO := ll_O hO ho hk
  refine lv_aload_n hx hb dL_law_440 rfl (lv_at hl 2 rfl) ?_
  refine kl_rd F hn hS hl 0 4 rfl rfl 1 1 (by decide) (by decide) (by decide) dL_law_441 dL_law_442 dL_law_444 dL_law_445 dL_law_446 ?_
  refine kl_rd F hn hS hl 0 4 rfl rfl 2 2 (by decide) (by decide) (by decide) dL_law_447 dL_law_448 dL_law_450 dL_law_451 dL_law_452 ?_
  refine kl_rd F hn hS hl 0 4 rfl rfl 3 3 (by decide) (by decide) (by decide) dL_law_453 dL_law_454 dL_law_456 dL_law_457 dL_law_458 ?_
  refine kv_go (cc := code) (nL := 7) (Ts := lw_tbl) (own := RL) ⟨hx, hb, hml, hown, hts⟩ hinj 80 69 10 0 3 [xs (4 * n + 1), xs (4 * n + 2), xs (4 * n + 3)] (A0 := fun q => s.heap.size ≤ q) (rest := [.int v1]) e2 rfl (by decide +kernel) (by decide +kernel) lk_smW kl_g459 (by decide +kernel) hP hK hA hS hl.1 (Nat.le_of_ble_eq_true rfl) (kl_cs hL hn) dL_law_459 (fun H locs hP hS _ hk => ?_)
  have hO := ll_O hO ho hk
  refine lv_icmp_eq (tgt := 696) (rest := []) hx hb dL_law_462 (by decide) (fun _ => ?_) (fun z => absurd hv.symm z)
  refine W.widen (k := 100 + n + 1) (n := 1100 + 6 * n + 6) (by omega) (by omega) ?_
  exact N h2 f _ _ _ g2 ⟨hP, hO, hS⟩ hl
set_option maxHeartbeats 4000000 in
set_option maxRecDepth 100000 in
theorem kl_c11 (F : kl_F l p s m meth c b L xs D cI cZ cQ cS cL ad o sa sb) (hn : 4 * n + 4 ≤ L) (N : kl_N p l e s m below meth c b D cI cZ cQ cS cL ad o n) (g : GG h) (I : kl_I s D cI cZ cQ cS cL ad o h f H locs) (hl : lv_has ls 7 (kl_lv b o ad n)) : W p l e room_1 s m #[Value.ref b] below meth c H locs (100 + n) (1100 + 6 * n) (lw_Z below #[Value.ref b] s) (F0 m 467 ls []) := by
  obtain ⟨⟨hx, hb, hr, hml, hown, hts, hX, hbl, hlocks, hgv⟩, hL, htr, hinj, ho, hA, hAo, hK5, hZ⟩ := id F
  have hK : va_K D sm_cl (sw_tys cI cZ cQ cS) s := hK5.sub [0, 1, 2, 3] rfl
  obtain ⟨hP, hO, hS⟩ := I
  obtain ⟨n1, r1, h1, e1, v1, rfl, n2, r2, h2, e2, v2, rfl, hv, g2⟩ := op_parent h (xs (4 * n + 1)) (xs (4 * n + 2)) g
  refine lv_aload_n hx hb dL_law_467 rfl (lv_at hl 3 rfl) ?_
  refine kl_rd F hn hS hl 0 4 rfl rfl 1 1 (by decide) (by decide) (by decide) dL_law_468 dL_law_469 dL_law_471 dL_law_472 dL_law_473 ?_
  refine kl_rd F hn hS hl 0 4 rfl rfl 2 2 (by decide) (by decide) (by decide) dL_law_474 dL_law_475 dL_law_477 dL_law_478 dL_law_479 ?_
  refine kv_go (cc := code) (nL := 7) (Ts := lw_tbl) (own := RL) ⟨hx, hb, hml, hown, hts⟩ hinj 47 70 0 0 2 [xs (4 * n + 1), xs (4 * n + 2)] (A0 := fun q => s.heap.size ≤ q) (rest := []) e1 rfl (by decide +kernel) (by decide +kernel) lk_smW kl_g480 (by decide +kernel) hP hK hA hS hl.1 (Nat.le_of_ble_eq_true rfl) (kl_cs hL hn) dL_law_480 (fun H locs hP hS _ hk => ?_)
  have hO := ll_O hO ho hk
  refine lv_aload_n hx hb dL_law_483 rfl (lv_at hl 2 rfl) ?_
  refine kl_rd F hn hS hl 0 4 rfl rfl 1 1 (by decide) (by decide) (by decide) dL_law_484 dL_law_485 dL_law_487 dL_law_488 dL_law_489 ?_
  refine kl_rd F hn hS hl 0 4 rfl rfl 2 2 (by decide) (by decide) (by decide) dL_law_490 dL_law_491 dL_law_493 dL_law_494 dL_law_495 ?_
  refine kv_go (cc := code) (nL := 7) (Ts := lw_tbl) (own := RL) ⟨hx, hb, hml, hown, hts⟩ hinj 83 73 10 0 2 [xs (4 * n + 1), xs (4 * n + 2)] (A0 := fun q => s.heap.size ≤ q) (rest := [.int v1]) e2 rfl (by decide +kernel) (by decide +kernel) lk_smW kl_g496 (by decide +kernel) hP hK hA hS hl.1 (Nat.le_of_ble_eq_true rfl) (kl_cs hL hn) dL_law_496 (fun H locs hP hS _ hk => ?_)
  have hO := ll_O hO ho hk
  refine lv_icmp_eq (tgt := 696) (rest := []) hx hb dL_law_499 (by decide) (fun _ => ?_) (fun z => absurd hv.symm z)
  refine W.widen (k := 100 + n + 1) (n := 1100 + 6 * n + 6) (by omega) (by omega) ?_
  exact N h2 f _ _ _ g2 ⟨hP, hO, hS⟩ hl
set_option maxHeartbeats 4000000 in
set_option maxRecDepth 100000 in
theorem kl_c12 (F : kl_F l p s m meth c b L xs D cI cZ cQ cS cL ad o sa sb) (hn : 4 * n + 4 ≤ L) (N : kl_N p l e s m below meth c b D cI cZ cQ cS cL ad o n) (g : GG h) (I : kl_I s D cI cZ cQ cS cL ad o h f H locs) (hl : lv_has ls 7 (kl_lv b o ad n)) : W p l e room_1 s m #[Value.ref b] below meth c H locs (100 + n) (1100 + 6 * n) (lw_Z below #[Value.ref b] s) (F0 m 504 ls []) := by
  obtain ⟨⟨hx, hb, hr, hml, hown, hts, hX, hbl, hlocks, hgv⟩, hL, htr, hinj, ho, hA, hAo, hK5, hZ⟩ := id F
  have hK : va_K D sm_cl (sw_tys cI cZ cQ cS) s := hK5.sub [0, 1, 2, 3] rfl
  obtain ⟨hP, hO, hS⟩ := I
  obtain ⟨n1, r1, h1, e1, v1, rfl, n2, r2, h2, e2, v2, rfl, hv, g2⟩ := op_changes h (xs (4 * n + 1)) g
  refine lv_aload_n hx hb dL_law_504 rfl (lv_at hl 3 rfl) ?_
  refine kl_rd F hn hS hl 0 4 rfl rfl 1 1 (by decide) (by decide) (by decide) dL_law_505 dL_law_506 dL_law_508 dL_law_509 dL_law_510 ?_
  refine kv_go (cc := code) (nL := 7) (Ts := lw_tbl) (own := RL) ⟨hx, hb, hml, hown, hts⟩ hinj 49 74 0 0 1 [xs (4 * n + 1)] (A0 := fun q => s.heap.size ≤ q) (rest := []) e1 rfl (by decide +kernel) (by decide +kernel) lk_smW kl_g511 (by decide +kernel) hP hK hA hS hl.1 (Nat.le_of_ble_eq_true rfl) (kl_cs hL hn) dL_law_511 (fun H locs hP hS _ hk => ?_)
  have hO := ll_O hO ho hk
  refine lv_aload_n hx hb dL_law_514 rfl (lv_at hl 2 rfl) ?_
  refine kl_rd F hn hS hl 0 4 rfl rfl 1 1 (by decide) (by decide) (by decide) dL_law_515 dL_law_516 dL_law_518 dL_law_519 dL_law_520 ?_
  refine kv_go (cc := code) (nL := 7) (Ts := lw_tbl) (own := RL) ⟨hx, hb, hml, hown, hts⟩ hinj 84 77 10 0 1 [xs (4 * n + 1)] (A0 := fun q => s.heap.size ≤ q) (rest := [.int v1]) e2 rfl (by decide +kernel) (by decide +kernel) lk_smW kl_g521 (by decide +kernel) hP hK hA hS hl.1 (Nat.le_of_ble_eq_true rfl) (kl_cs hL hn) dL_law_521 (fun H locs hP hS _ hk => ?_)
  have hO := ll_O hO ho hk
  refine lv_icmp_eq (tgt := 696) (rest := []) hx hb dL_law_524 (by decide) (fun _ => ?_) (fun z => absurd hv.symm z)
  refine W.widen (k := 100 + n + 1) (n := 1100 + 6 * n + 6) (by omega) (by omega) ?_
  exact N h2 f _ _ _ g2 ⟨hP, hO, hS⟩ hl
set_option maxHeartbeats 4000000 in
set_option maxRecDepth 100000 in
theorem kl_c13 (F : kl_F l p s m meth c b L xs D cI cZ cQ cS cL ad o sa sb) (hn : 4 * n + 4 ≤ L) (N : kl_N p l e s m below meth c b D cI cZ cQ cS cL ad o n) (g : GG h) (I : kl_I s D cI cZ cQ cS cL ad o h f H locs) (hl : lv_has ls 7 (kl_lv b o ad n)) : W p l e room_1 s m #[Value.ref b] below meth c H locs (100 + n) (1100 + 6 * n) (lw_Z below #[Value.ref b] s) (F0 m 529 ls []) := by
  obtain ⟨⟨hx, hb, hr, hml, hown, hts, hX, hbl, hlocks, hgv⟩, hL, htr, hinj, ho, hA, hAo, hK5, hZ⟩ := id F
  have hK : va_K D sm_cl (sw_tys cI cZ cQ cS) s := hK5.sub [0, 1, 2, 3] rfl
  obtain ⟨hP, hO, hS⟩ := I
  obtain ⟨n1, r1, h1, e1, v1, rfl, n2, r2, h2, e2, v2, rfl, hv, g2⟩ := op_met h (xs (4 * n + 1)) (xs (4 * n + 2)) g
  refine lv_aload_n hx hb dL_law_529 rfl (lv_at hl 3 rfl) ?_
  refine kl_rd F hn hS hl 0 4 rfl rfl 1 1 (by decide) (by decide) (by decide) dL_law_530 dL_law_531 dL_law_533 dL_law_534 dL_law_535 ?_
  refine kl_rd F hn hS hl 0 4 rfl rfl 2 2 (by decide) (by decide) (by decide) dL_law_536 dL_law_537 dL_law_539 dL_law_540 dL_law_541 ?_
  refine kv_go (cc := code) (nL := 7) (Ts := lw_tbl) (own := RL) ⟨hx, hb, hml, hown, hts⟩ hinj 50 78 0 0 2 [xs (4 * n + 1), xs (4 * n + 2)] (A0 := fun q => s.heap.size ≤ q) (rest := []) e1 rfl (by decide +kernel) (by decide +kernel) lk_smW kl_g542 (by decide +kernel) hP hK hA hS hl.1 (Nat.le_of_ble_eq_true rfl) (kl_cs hL hn) dL_law_542 (fun H locs hP hS _ hk => ?_)
  have hO := ll_O hO ho hk
  refine lv_aload_n hx hb dL_law_545 rfl (lv_at hl 2 rfl) ?_
  refine kl_rd F hn hS hl 0 4 rfl rfl 1 1 (by decide) (by decide) (by decide) dL_law_546 dL_law_547 dL_law_549 dL_law_550 dL_law_551 ?_
  refine kl_rd F hn hS hl 0 4 rfl rfl 2 2 (by decide) (by decide) (by decide) dL_law_552 dL_law_553 dL_law_555 dL_law_556 dL_law_557 ?_
  refine kv_go (cc := code) (nL := 7) (Ts := lw_tbl) (own := RL) ⟨hx, hb, hml, hown, hts⟩ hinj 85 81 10 0 2 [xs (4 * n + 1), xs (4 * n + 2)] (A0 := fun q => s.heap.size ≤ q) (rest := [.int v1]) e2 rfl (by decide +kernel) (by decide +kernel) lk_smW kl_g558 (by decide +kernel) hP hK hA hS hl.1 (Nat.le_of_ble_eq_true rfl) (kl_cs hL hn) dL_law_558 (fun H locs hP hS _ hk => ?_)
  have hO := ll_O hO ho hk
  refine lv_icmp_eq (tgt := 696) (rest := []) hx hb dL_law_561 (by decide) (fun _ => ?_) (fun z => absurd hv.symm z)
  refine W.widen (k := 100 + n + 1) (n := 1100 + 6 * n + 6) (by omega) (by omega) ?_
  exact N h2 f _ _ _ g2 ⟨hP, hO, hS⟩ hl
set_option maxHeartbeats 4000000 in
set_option maxRecDepth 100000 in
theorem kl_c15 (F : kl_F l p s m meth c b L xs D cI cZ cQ cS cL ad o sa sb) (hn : 4 * n + 4 ≤ L) (N : kl_N p l e s m below meth c b D cI cZ cQ cS cL ad o n) (g : GG h) (I : kl_I s D cI cZ cQ cS cL ad o h f H locs) (hl : lv_has ls 7 (kl_lv b o ad n)) : W p l e room_1 s m #[Value.ref b] below meth c H locs (100 + n) (1100 + 6 * n) (lw_Z below #[Value.ref b] s) (F0 m 634 ls []) := by
  obtain ⟨⟨hx, hb, hr, hml, hown, hts, hX, hbl, hlocks, hgv⟩, hL, htr, hinj, ho, hA, hAo, hK5, hZ⟩ := id F
  have hK : va_K D sm_cl (sw_tys cI cZ cQ cS) s := hK5.sub [0, 1, 2, 3] rfl
  obtain ⟨hP, hO, hS⟩ := I
  obtain ⟨n1, r1, h1, e1, v1, rfl, n2, r2, h2, e2, v2, rfl, hv, g2⟩ := op_stock h (xs (4 * n + 1)) (xs (4 * n + 2)) g
  refine lv_aload_n hx hb dL_law_634 rfl (lv_at hl 3 rfl) ?_
  refine kl_rd F hn hS hl 0 4 rfl rfl 1 1 (by decide) (by decide) (by decide) dL_law_635 dL_law_636 dL_law_638 dL_law_639 dL_law_640 ?_
  refine kl_rd F hn hS hl 0 4 rfl rfl 2 2 (by decide) (by decide) (by decide) dL_law_641 dL_law_642 dL_law_644 dL_law_645 dL_law_646 ?_
  refine kv_go (cc := code) (nL := 7) (Ts := lw_tbl) (own := RL) ⟨hx, hb, hml, hown, hts⟩ hinj 53 91 0 0 2 [xs (4 * n + 1), xs (4 * n + 2)] (A0 := fun q => s.heap.size ≤ q) (rest := []) e1 rfl (by decide +kernel) (by decide +kernel) lk_smW kl_g647 (by decide +kernel) hP hK hA hS hl.1 (Nat.le_of_ble_eq_true rfl) (kl_cs hL hn) dL_law_647 (fun H locs hP hS _ hk => ?_)
  have hO := ll_O hO ho hk
  refine lv_aload_n hx hb dL_law_650 rfl (lv_at hl 2 rfl) ?_
  refine kl_rd F hn hS hl 0 4 rfl rfl 1 1 (by decide) (by decide) (by decide) dL_law_651 dL_law_652 dL_law_654 dL_law_655 dL_law_656 ?_
  refine kl_rd F hn hS hl 0 4 rfl rfl 2 2 (by decide) (by decide) (by decide) dL_law_657 dL_law_658 dL_law_660 dL_law_661 dL_law_662 ?_
  refine kv_go (cc := code) (nL := 7) (Ts := lw_tbl) (own := RL) ⟨hx, hb, hml, hown, hts⟩ hinj 88 94 10 0 2 [xs (4 * n + 1), xs (4 * n + 2)] (A0 := fun q => s.heap.size ≤ q) (rest := [.int v1]) e2 rfl (by decide +kernel) (by decide +kernel) lk_smW kl_g663 (by decide +kernel) hP hK hA hS hl.1 (Nat.le_of_ble_eq_true rfl) (kl_cs hL hn) dL_law_663 (fun H locs hP hS _ hk => ?_)
  have hO := ll_O hO ho hk
  refine lv_icmp_eq (tgt := 696) (rest := []) hx hb dL_law_666 (by decide) (fun _ => ?_) (fun z => absurd hv.symm z)
  refine W.widen (k := 100 + n + 1) (n := 1100 + 6 * n + 6) (by omega) (by omega) ?_
  exact N h2 f _ _ _ g2 ⟨hP, hO, hS⟩ hl
set_option maxHeartbeats 4000000 in
set_option maxRecDepth 100000 in
theorem kl_c16 (F : kl_F l p s m meth c b L xs D cI cZ cQ cS cL ad o sa sb) (hn : 4 * n + 4 ≤ L) (N : kl_N p l e s m below meth c b D cI cZ cQ cS cL ad o n) (g : GG h) (I : kl_I s D cI cZ cQ cS cL ad o h f H locs) (hl : lv_has ls 7 (kl_lv b o ad n)) : W p l e room_1 s m #[Value.ref b] below meth c H locs (100 + n) (1100 + 6 * n) (lw_Z below #[Value.ref b] s) (F0 m 671 ls []) := by
  obtain ⟨⟨hx, hb, hr, hml, hown, hts, hX, hbl, hlocks, hgv⟩, hL, htr, hinj, ho, hA, hAo, hK5, hZ⟩ := id F
  have hK : va_K D sm_cl (sw_tys cI cZ cQ cS) s := hK5.sub [0, 1, 2, 3] rfl
  obtain ⟨hP, hO, hS⟩ := I
  obtain ⟨n1, r1, h1, e1, v1, rfl, n2, r2, h2, e2, v2, rfl, hv, g2⟩ := op_count h (xs (4 * n + 1)) g
  refine lv_aload_n hx hb dL_law_671 rfl (lv_at hl 3 rfl) ?_
  refine kl_rd F hn hS hl 0 4 rfl rfl 1 1 (by decide) (by decide) (by decide) dL_law_672 dL_law_673 dL_law_675 dL_law_676 dL_law_677 ?_
  refine kv_go (cc := code) (nL := 7) (Ts := lw_tbl) (own := RL) ⟨hx, hb, hml, hown, hts⟩ hinj 54 95 0 0 1 [xs (4 * n + 1)] (A0 := fun q => s.heap.size ≤ q) (rest := []) e1 rfl (by decide +kernel) (by decide +kernel) lk_smW kl_g678 (by decide +kernel) hP hK hA hS hl.1 (Nat.le_of_ble_eq_true rfl) (kl_cs hL hn) dL_law_678 (fun H locs hP hS _ hk => ?_)
  have hO := ll_O hO ho hk
  refine lv_aload_n hx hb dL_law_681 rfl (lv_at hl 2 rfl) ?_
  refine kl_rd F hn hS hl 0 4 rfl rfl 1 1 (by decide) (by decide) (by decide) dL_law_682 dL_law_683 dL_law_685 dL_law_686 dL_law_687 ?_
  refine kv_go (cc := code) (nL := 7) (Ts := lw_tbl) (own := RL) ⟨hx, hb, hml, hown, hts⟩ hinj 89 98 10 0 1 [xs (4 * n + 1)] (A0 := fun q => s.heap.size ≤ q) (rest := [.int v1]) e2 rfl (by decide +kernel) (by decide +kernel) lk_smW kl_g688 (by decide +kernel) hP hK hA hS hl.1 (Nat.le_of_ble_eq_true rfl) (kl_cs hL hn) dL_law_688 (fun H locs hP hS _ hk => ?_)
  have hO := ll_O hO ho hk
  refine lv_icmp_eq (tgt := 696) (rest := []) hx hb dL_law_691 (by decide) (fun _ => ?_) (fun z => absurd hv.symm z)
  refine W.widen (k := 100 + n + 1) (n := 1100 + 6 * n + 6) (by omega) (by omega) ?_
  exact N h2 f _ _ _ g2 ⟨hP, hO, hS⟩ hl
end KLB
