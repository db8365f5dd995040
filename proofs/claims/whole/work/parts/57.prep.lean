/-! ===== from the law's entry to its loop ===== -/
set_option maxRecDepth 20000 in
theorem kw_X2_init : GoodIn lw_tbl wsX2_init := goodIn_p wsX2_init [58, 61, 69, 93] (by decide +kernel) (by decide +kernel)
set_option maxRecDepth 20000 in
theorem kw_X3_init : GoodIn lw_tbl wsX3_init := goodIn_p wsX3_init [488, 61] (by decide +kernel) (by decide +kernel)
def cw2 : List (Nat × Nat) := [(10, 0), (12, 0), (13, 0), (14, 0), (15, 0), (17, 0), (18, 0), (19, 0), (20, 0), (21, 0), (22, 0), (23, 0), (24, 0), (25, 0), (26, 0)]
theorem cw_all : ∀ q ∈ ck_wl, q ∈ cw1 ++ cw2 := by decide +kernel
theorem kp_P {α : Type} {D : va_G} {cl : List vw_C} {K K' : List α} {E : α → Nat × va_E} {H : Heap} (hP : va_P D cl (K.map E) H) (hs : ∀ q ∈ K', q ∈ K) : va_P D cl (K'.map E) H := by
  intro k q hk
  obtain ⟨a, ha, rfl⟩ := List.mem_map.mp (List.mem_of_getElem? hk)
  obtain ⟨i, hi⟩ := List.getElem?_of_mem (hs a ha)
  exact hP i (E a) (by rw [List.getElem?_map, hi]; rfl)
theorem kp_at {α : Type} {K : List α} {E : α → Nat × va_E} {a : α} (ha : a ∈ K) : ∃ i, i < K.length ∧ K[i]? = some a ∧ (K.map E)[i]? = some (E a) := by
  obtain ⟨i, hi⟩ := List.getElem?_of_mem ha
  exact ⟨i, (List.getElem?_eq_some_iff.mp hi).1, hi, by rw [List.getElem?_map, hi]; rfl⟩
section KPI
variable {A : Nat → Prop} {cI cZ cQ cS : ClassId} {ad : Nat → Nat → Nat} {h : AHp} {K : List (Nat × Nat)} {x : Nat × va_E}
theorem kp_inj (hD : va_D A (K.map (sw_E cI cZ cQ cS ad h) ++ [x])) (hs : ∀ q ∈ ck_wl, q ∈ K) : sw_inj ad := by
  intro q hq q' hq' e
  obtain ⟨i, l1, k1, m1⟩ := kp_at (E := sw_E cI cZ cQ cS ad h) (hs q hq)
  obtain ⟨j, l2, k2, m2⟩ := kp_at (E := sw_E cI cZ cQ cS ad h) (hs q' hq')
  have hij := hD.1 i j _ _ (by rw [List.getElem?_append_left (by simp; exact l1)]; exact m1) (by rw [List.getElem?_append_left (by simp; exact l2)]; exact m2) e
  subst hij
  exact Option.some.inj (k1.symm.trans k2)
theorem kp_A (hD : va_D A (K.map (sw_E cI cZ cQ cS ad h) ++ [x])) (hs : ∀ q ∈ ck_wl, q ∈ K) : ∀ q, sw_A ad q → A q := by
  intro a ⟨q, hq, e⟩
  obtain ⟨i, l1, k1, m1⟩ := kp_at (E := sw_E cI cZ cQ cS ad h) (hs q hq)
  have := hD.2 i _ (by rw [List.getElem?_append_left (by simp; exact l1)]; exact m1)
  rw [e]
  exact this
theorem kp_o (hD : va_D A (K.map (sw_E cI cZ cQ cS ad h) ++ [x])) (hs : ∀ q ∈ ck_wl, q ∈ K) : ¬ sw_A ad x.1 := by
  intro ⟨q, hq, e⟩
  obtain ⟨i, l1, k1, m1⟩ := kp_at (E := sw_E cI cZ cQ cS ad h) (hs q hq)
  have hij := hD.1 i (K.map (sw_E cI cZ cQ cS ad h)).length _ x (by rw [List.getElem?_append_left (by simp; exact l1)]; exact m1) (by simp) e.symm
  simp at hij
  omega
/-- a cell of the picture, by another address book that agrees where it looks -/
theorem kp_E {ad' : Nat → Nat → Nat} (q : Nat × Nat) (h1 : ∀ k i, k ≤ 9 → ad' k i = ad k i) (hq : q.1 ≤ 9) : sw_E cI cZ cQ cS ad' h q = sw_E cI cZ cQ cS ad h q := by
  have ht : ∀ c, ah_cls q.1 = some c → ∀ j, ah_tgt c j ≤ 9 := by
    obtain ⟨k, i⟩ := q
    intro c hc j
    dsimp only at hc hq
    rcases (show k = 0 ∨ k = 1 ∨ k = 2 ∨ k = 3 ∨ k = 4 ∨ k = 5 ∨ k = 6 ∨ k = 7 ∨ k = 8 ∨ k = 9 by omega) with rfl | rfl | rfl | rfl | rfl | rfl | rfl | rfl | rfl | rfl <;> cases hc
    · show (if j = 0 then 1 else if j = 1 then 2 else 0) ≤ 9
      split
      · decide
      · split <;> decide
    · show 0 ≤ 9
      decide
    · show (if j < 5 then 5 + j else 0) ≤ 9
      split <;> omega
  have hr : ∀ N kt, ah_rlen q.1 = some (N, kt) → kt ≤ 9 := by
    obtain ⟨k, i⟩ := q
    intro N kt hc
    dsimp only at hc hq
    rcases (show k = 0 ∨ k = 1 ∨ k = 2 ∨ k = 3 ∨ k = 4 ∨ k = 5 ∨ k = 6 ∨ k = 7 ∨ k = 8 ∨ k = 9 by omega) with rfl | rfl | rfl | rfl | rfl | rfl | rfl | rfl | rfl | rfl <;> cases hc <;> decide
  unfold sw_E
  rw [h1 q.1 q.2 hq]
  congr 1
  unfold sw_e
  cases hc : ah_cls q.1 with
  | some c =>
    show (Sum.inr (c, sw_fs ad' h q c) : va_E) = Sum.inr (c, sw_fs ad h q c)
    have : sw_fs ad' h q c = sw_fs ad h q c := by
      unfold sw_fs
      apply List.map_congr_left
      intro j _
      rw [h1 _ _ (ht c hc j)]
    rw [this]
  | none =>
    cases hi : ah_ilen q.1 with
    | some N => rfl
    | none =>
      cases hz : ah_zlen q.1 with
      | some N => rfl
      | none =>
        cases hrr : ah_rlen q.1 with
        | none => rfl
        | some w =>
          obtain ⟨N, kt⟩ := w
          have h9 : (fun j => some (ad' kt j)) = (fun j => some (ad kt j)) := by
            funext j
            rw [h1 kt j (hr N kt hrr)]
          simp only [h9]
end KPI
theorem cw1_9 : ∀ q ∈ cw1, q.1 ≤ 9 := by decide +kernel
def kp_ad (ad : Nat → Nat → Nat) (qm q1 q2 q3 q4 q5 q6 q7 q8 q9 q10 q11 q12 q13 q14 : Nat) : Nat → Nat → Nat := fun k i => if k ≤ 9 then ad k i else match k with | 10 => qm | 12 => q1 | 13 => q2 | 14 => q3 | 15 => q4 | 17 => q5 | 18 => q6 | 19 => q7 | 20 => q8 | 21 => q9 | 22 => q10 | 23 => q11 | 24 => q12 | 25 => q13 | 26 => q14 | _ => 0
theorem kp_1 {cI cZ cQ cS : ClassId} {ad : Nat → Nat → Nat} {qm q1 q2 q3 q4 q5 q6 q7 q8 q9 q10 q11 q12 q13 q14 : Nat} : cw1.map (sw_E cI cZ cQ cS (kp_ad ad qm q1 q2 q3 q4 q5 q6 q7 q8 q9 q10 q11 q12 q13 q14) st_h) = cw1.map (sw_E cI cZ cQ cS ad st_h) := List.map_congr_left (fun q hq => kp_E q (fun k i hk => if_pos hk) (cw1_9 q hq))
set_option maxRecDepth 100000 in
theorem kp_2 {cI cZ cQ cS : ClassId} {ad : Nat → Nat → Nat} {qm q1 q2 q3 q4 q5 q6 q7 q8 q9 q10 q11 q12 q13 q14 : Nat} : cw2.map (sw_E cI cZ cQ cS (kp_ad ad qm q1 q2 q3 q4 q5 q6 q7 q8 q9 q10 q11 q12 q13 q14) st_h) = [(qm, .inr (3, [.int 1, .int 0, .ref q1, .ref q2, .ref q3, .ref q4, .int 0, .ref q5, .ref q6, .ref q7, .ref q8, .ref q9, .ref q10, .ref q11, .ref q12, .ref q13, .ref q14, .int 0, .int 0, .int 99, .int 0, .int 0])), (q1, .inl (cI, 20, .inl (fun _ => 0))), (q2, .inl (cI, 20, .inl (fun _ => 0))), (q3, .inl (cI, 20, .inl (fun _ => 0))), (q4, .inl (cI, 20, .inl (fun _ => 0))), (q5, .inl (cI, 8, .inl (fun _ => 0))), (q6, .inl (cI, 8, .inl (fun _ => 0))), (q7, .inl (cI, 8, .inl (fun _ => 0))), (q8, .inl (cI, 8, .inl (fun _ => 0))), (q9, .inl (cI, 64, .inl (fun _ => 0))), (q10, .inl (cZ, 64, .inl (fun _ => 0))), (q11, .inl (cI, 64, .inl (fun _ => 0))), (q12, .inl (cI, 64, .inl (fun _ => 0))), (q13, .inl (cI, 64, .inl (fun _ => 0))), (q14, .inl (cI, 64, .inl (fun _ => 0)))] := rfl
theorem kp_arr {args : Array Value} {s : State} {ty : FieldType} (h : (Cond.arrayClass ty).before args s = true) (hp : ∀ C, ty ≠ .object C) : ∃ cA, ArrOfT s cA ty ∧ va_RA s cA ty := by
  obtain ⟨c, k, comp, h1, h2, h3⟩ := Cond.arrayClass_spec h
  refine ⟨c, fun n z => ⟨fun k h => (by cases h), k, h2, comp, h3⟩, ?_⟩
  cases ty with
  | object C => exact absurd rfl (hp C)
  | _ => exact h1
theorem kp_arq {args : Array Value} {s : State} {C : String} (h : (Cond.arrayOver (.object C)).before args s = true) : ∃ cA, ArrOfT s cA (.object C) ∧ va_RA s cA (.object C) := by
  obtain ⟨comp, c, k, h1, -, h2, h3, h4⟩ := Cond.arrayOver_spec h
  exact ⟨c, fun n z => ⟨fun k h => (by cases h), k, h2, comp, h3⟩, k, comp, h2, h3, h1, h4⟩
theorem kp_str {args : Array Value} {s : State} {own tx : String} {k : Nat} (h1 : (Cond.stringRef own k tx).before args s = true) (h2 : (Cond.exactly (.string own k) "java/lang/String").before args s = true) : ∃ a, vk_R own k tx a s := by
  obtain ⟨a, c, cA, kA, q1, -⟩ := Cond.exactly_spec (args := args) (first := s) (o := none) (s := s) (idx := []) h2
  exact ⟨a, vk_R.of h1 q1⟩
set_option maxHeartbeats 4000000 in
set_option maxRecDepth 100000 in
/-- what the Statement gives of the start, for the throws -/
theorem kp_Z {p : Program} {s : State} {m : MethodId} {meth : Method} {c : Code} {b L : Nat} {xs : Nat → Int32} (C0 : lw_At p s m meth c b L xs) : ∃ sa sb, lk_Z (fun q => s.heap.size ≤ q) sa sb s s.heap := by
  obtain ⟨hx, hb, hr, hml, hown, hts, hX, hbl, hlocks, hgv⟩ := C0
  have hs := flat_of_before _ hgv
  have hA : ∀ a : Nat, a < s.heap.size → ¬ (fun q => s.heap.size ≤ q) a := fun a h => Nat.not_le.mpr h
  obtain ⟨sa, ha⟩ := kp_str (args := #[Value.ref b]) (s := s) (own := RX2) (k := 134) (tx := "no such scribe") (hts _ (by decide +kernel)) (hs _ (by decide +kernel))
  obtain ⟨sb, hb9⟩ := kp_str (args := #[Value.ref b]) (s := s) (own := RX2) (k := 160) (tx := "no such what") (hts _ (by decide +kernel)) (hs _ (by decide +kernel))
  exact ⟨sa, sb, vx_Zqof (args := #[Value.ref b]) (hts _ (by decide +kernel)) (hts _ (by decide +kernel)) (hs _ (by decide +kernel)) hA, vx_Zqof (args := #[Value.ref b]) (hts _ (by decide +kernel)) (hts _ (by decide +kernel)) (hs _ (by decide +kernel)) hA, ha, hb9, fun w hw => va_Nw.of (lk_ng_on w hw) (hts w (lk_ng_in w hw)), va_Nc.of (hs (.not (.castable lk_N lk_I)) (by decide +kernel))⟩
