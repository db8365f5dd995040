/-! ===== QuireShop.<init> ===== -/
def st_h : AHp := fun k _ j => if k = 0 ∧ j = 2 then 1 else if k = 0 ∧ j = 7 then 99 else if k = 3 ∧ j = 3 then -1 else if k = 4 ∧ j = 5 then 1 else if k = 4 ∧ j = 8 then -1 else if k = 10 ∧ j = 0 then 1 else if k = 10 ∧ j = 19 then 99 else 0
def cw1 : List (Nat × Nat) := [(0, 0), (1, 0), (2, 0)] ++ (List.range 20).map (fun j => (3, j)) ++ (List.range 8).flatMap (fun s => [(4, s), (5, s), (6, s), (7, s), (8, s), (9, s)])
theorem kj {A0 : Nat → Prop} {D : va_G} {cl : List vw_C} {ws w1 : va_W} {x : Nat × va_E} {H H1 : Heap} (hP : va_P D cl (ws ++ [x]) H) (hD : va_D A0 (ws ++ [x])) (hk : ∀ q : Nat, q < H.size → ¬ va_A [x] H.size q → H1[q]? = H[q]?) (hF : ∀ q, va_A [x] H.size q → A0 q) (hP1 : va_P D cl w1 H1) (hD1 : va_D (va_A [x] H.size) w1) : va_P D cl (ws ++ w1) H1 ∧ va_D A0 (ws ++ w1) := by
  have inl : ∀ (k : Nat) (q : Nat × va_E), ws[k]? = some q → (ws ++ [x])[k]? = some q := fun k q hq => by
    rw [List.getElem?_append_left (List.getElem?_eq_some_iff.mp hq).1]; exact hq
  have ap : ∀ (k : Nat) (q : Nat × va_E), ws[k]? = some q → q.1 < H.size ∧ ¬ va_A [x] H.size q.1 := by
    intro k q hq
    have lt := (hP k q (inl k q hq)).lt
    refine ⟨lt, fun z => ?_⟩
    rcases z with ⟨j, e, hj⟩ | z
    · have hj0 : j = 0 := by
        have := (List.getElem?_eq_some_iff.mp hj).1
        simp at this
        exact this
      subst hj0
      have ex : x = (q.1, e) := by simpa using hj
      have hx : (ws ++ [x])[ws.length]? = some x := by simp
      have := hD.1 k ws.length q x (inl k q hq) hx (by rw [ex])
      have := (List.getElem?_eq_some_iff.mp hq).1
      omega
    · omega
  have sp : ∀ (k : Nat) (q : Nat × va_E), (ws ++ w1)[k]? = some q → (ws[k]? = some q) ∨ (ws.length ≤ k ∧ w1[k - ws.length]? = some q) := by
    intro k q hq
    by_cases hl : k < ws.length
    · rw [List.getElem?_append_left hl] at hq; exact Or.inl hq
    · rw [List.getElem?_append_right (by omega)] at hq; exact Or.inr ⟨by omega, hq⟩
  refine ⟨fun k q hq => ?_, fun i j a b ha hb e => ?_, fun k q hq => ?_⟩
  · rcases sp k q hq with h | ⟨-, h⟩
    · obtain ⟨h1, h2⟩ := ap k q h
      exact (hP k q (inl k q h)).kept (hk q.1 h1 h2)
    · exact hP1 _ q h
  · rcases sp i a ha with h | ⟨h0, h⟩ <;> rcases sp j b hb with g | ⟨g0, g⟩
    · exact hD.1 i j a b (inl i a h) (inl j b g) e
    · exact absurd (e ▸ hD1.2 _ b g) (ap i a h).2
    · exact absurd (e ▸ hD1.2 _ a h) (ap j b g).2
    · have := hD1.1 _ _ a b h g e
      omega
  · rcases sp k q hq with h | ⟨-, h⟩
    · exact hD.2 k q (inl k q h)
    · exact hF _ (hD1.2 _ q h)
theorem kn_newq {cc : ByteArray} {p : Program} {l : Launch} {e : Env} {R : Room} {s : State} {m : MethodId} {args : Array Value} {below : List Frame} {meth : Method} {c : Code} {H H0 : Heap} {locs : List Loc} {cells slots : Nat} {Q : State → Prop} {pc : Nat} {ls : Array Slot} {rest : List Value} {D : va_G} {cl : List vw_C} {tys : List (ClassId × FieldType)} {ws : va_W} {A : Nat → Prop} (hexec : p.tables.exec = Jvm.exec) (hb : c.code = cc) {own C : String} {index : Nat} (hown : s.vm.findClass own = some m.cls) (hclink : (Cond.classLink own index C).before args s = true) (hover : va_AO C s) (hK : va_K D cl tys s) (hP : va_P D cl ws H) (hD : va_D A ws) (hS : va_S A H0 H locs) (hA : ∀ q, H0.size ≤ q → A q) (t0 : Nat) {cA : ClassId} (ht : tys[t0]? = some (cA, .object C))
    {n : Int32} {N' : Nat} (hn : ¬ n < 0) (hN : n.toNatClampNeg = N') (hbytes : N' * 4 ≤ 536870912) (hcells : cells + 1 ≤ R.cells) (hslots : slots + N' ≤ R.slots) (hdg : decode cc pc = .ok (.anewarray index, 3))
    (kk : ∀ (q : Nat) (H1 : Heap), va_P D cl (ws ++ [(q, .inl (cA, N', .inr (.inr (.inr (.inr (fun _ => none))))))]) H1 → va_D A (ws ++ [(q, .inl (cA, N', .inr (.inr (.inr (.inr (fun _ => none))))))]) → va_S A H0 H1 locs →
      W p l e R s m args below meth c H1 locs (cells + 1) (slots + N') Q (F0 m (pc + 3) ls (.ref q :: rest))) : W p l e R s m args below meth c H locs cells slots Q (F0 m pc ls (.int n :: rest)) := by
  refine va_newq hexec hb hown hclink hover hK hP hD hS hA hn hN hbytes hcells hslots hdg (fun q cB H1 hK1 hP1 hD1 hS1 => ?_)
  obtain ⟨-, kA, comp, g1, g2, g3, g4⟩ := hK1.2 tys.length (cB, .object C) (by simp)
  obtain ⟨-, kA2, comp2, f1, f2, f3, f4⟩ := hK.2 t0 (cA, .object C) ht
  have e : cB = cA := Option.some.inj (g4.symm.trans f4)
  subst e
  exact kk q H1 hP1 hD1 hS1
theorem kx_P {D : va_G} {cl : List vw_C} {ws : va_W} {x : Nat × va_E} {H : Heap} (hP : va_P D cl (ws ++ [x]) H) : va_P D cl [x] H := fun k q hk => hP (ws.length + k) q (by rw [List.getElem?_append_right (by omega), Nat.add_sub_cancel_left]; exact hk)
theorem kx_D (x : Nat × va_E) : va_D (fun _ => True) [x] := ⟨fun a b _ _ ha hb _ => by
    have h1 := (List.getElem?_eq_some_iff.mp ha).1
    have h2 := (List.getElem?_eq_some_iff.mp hb).1
    simp at h1 h2
    omega, fun _ _ _ => trivial⟩
theorem kx_F {A : Nat → Prop} {ws : va_W} {x : Nat × va_E} {H0 H : Heap} {locs : List Loc} (hD : va_D A (ws ++ [x])) (hS : va_S A H0 H locs) (hA : ∀ q : Nat, H0.size ≤ q → A q) : ∀ q, va_A [x] H.size q → A q := by
  intro q hq
  rcases hq with ⟨k, e1, h⟩ | h
  · have h1 := (List.getElem?_eq_some_iff.mp h).1
    simp at h1
    subst h1
    have h2 : x = (q, e1) := by simpa using h
    have h3 := hD.2 ws.length x (by simp)
    rw [h2] at h3
    exact h3
  · exact hA q (Nat.le_trans hS.1 h)
abbrev e_Q0 : va_E := .inr (0, [.int 0, .int 0, .int 0, .int 0])
abbrev e_Q1 : va_E := .inr (0, [.int 0, .int 0, .int 0, .int (-1)])
def x2_X (cQ cS : ClassId) (h0 qa sa : Nat) (fq fs : Nat → Option Nat) : va_W := [(h0, .inr (2, [.ref qa, .ref sa, .int 1, .int 0, .int 0, .int 0, .int 0, .int 99])), (qa, .inl (cQ, 20, .inr (.inr (.inr (.inr fq))))), (sa, .inl (cS, 8, .inr (.inr (.inr (.inr fs)))))]
def x2_f (aq : Nat → Nat) (i : Nat) : Nat → Option Nat := fun j => if j < i then some (aq j) else none
def x2_pq (aq : Nat → Nat) (i : Nat) : va_W := (List.range i).map (fun j => (aq j, e_Q1))
def x2_s1 (cI : ClassId) (g : Nat → Nat) : va_W := [(g 4, .inr (1, [.ref (g 5), .ref (g 6), .ref (g 7), .ref (g 8), .ref (g 9), .int 1, .int 0, .int 0, .int (-1), .int 0, .int 0, .int 0])), (g 5, .inl (cI, 8, .inl (fun _ => 0))), (g 6, .inl (cI, 8, .inl (fun _ => 0))), (g 7, .inl (cI, 8, .inl (fun _ => 0))), (g 8, .inl (cI, 8, .inl (fun _ => 0))), (g 9, .inl (cI, 8, .inl (fun _ => 0)))]
def x2_ps (cI : ClassId) (g : Nat → Nat → Nat) (i : Nat) : va_W := (List.range i).flatMap (fun j => x2_s1 cI (g j))
theorem x2_f_up {aq : Nat → Nat} {i q : Nat} : va_up (x2_f aq i) i (some q) = x2_f (fun j => if j = i then q else aq j) (i + 1) := by
  funext j
  unfold va_up x2_f
  by_cases h : j = i
  · subst h; simp
  · by_cases h2 : j < i
    · rw [if_neg h, if_pos h2, if_pos (by omega)]; simp [h]
    · rw [if_neg h, if_neg h2, if_neg (by omega)]
theorem x2_pq_up {aq : Nat → Nat} {i q : Nat} : x2_pq aq i ++ [(q, e_Q1)] = x2_pq (fun j => if j = i then q else aq j) (i + 1) := by
  unfold x2_pq
  rw [List.range_succ, List.map_append]
  congr 1
  · apply List.map_congr_left
    intro j hj
    have : j < i := List.mem_range.mp hj
    simp [show ¬ j = i by omega]
  · simp
theorem x2_ps_up {cI : ClassId} {g : Nat → Nat → Nat} {i : Nat} {k : Nat → Nat} : x2_ps cI g i ++ x2_s1 cI k = x2_ps cI (fun j => if j = i then k else g j) (i + 1) := by
  unfold x2_ps
  rw [List.range_succ, List.flatMap_append]
  congr 1
  · rw [List.flatMap_def, List.flatMap_def]
    congr 1
    apply List.map_congr_left
    intro j hj
    have : j < i := List.mem_range.mp hj
    simp [show ¬ j = i by omega]
  · simp
theorem arrV_eq {cA : ClassId} {N : Nat} {f g : Nat → Value} (h : ∀ j, j < N → f j = g j) : arrV cA N f = arrV cA N g := by
  unfold arrV
  congr 1
  congr 1
  funext j
  exact h j.1 j.2
/-- the picture's address book -/
def x2_ad (h0 qa sa : Nat) (aq : Nat → Nat) (g : Nat → Nat → Nat) : Nat → Nat → Nat := fun k n => match k with | 0 => h0 | 1 => qa | 2 => sa | 3 => aq n | k => g n k
theorem x2_out {D : va_G} {cI cZ cQ cS : ClassId} {h0 qa sa : Nat} {aq : Nat → Nat} {g : Nat → Nat → Nat} {H : Heap} {A : Nat → Prop} (hP : va_P D sm_cl (x2_X cQ cS h0 qa sa (x2_f aq 20) (x2_f (fun j => g j 4) 8) ++ (x2_pq aq 20 ++ x2_ps cI g 8)) H) (hD : va_D A (x2_X cQ cS h0 qa sa (x2_f aq 20) (x2_f (fun j => g j 4) 8) ++ (x2_pq aq 20 ++ x2_ps cI g 8))) : va_P D sm_cl (cw1.map (sw_E cI cZ cQ cS (x2_ad h0 qa sa aq g) st_h)) H ∧ va_D A (cw1.map (sw_E cI cZ cQ cS (x2_ad h0 qa sa aq g) st_h)) := by
  have e : cw1.map (sw_E cI cZ cQ cS (x2_ad h0 qa sa aq g) st_h) = x2_X cQ cS h0 qa sa (fun j => some (aq j)) (fun j => some (g j 4)) ++ (x2_pq aq 20 ++ x2_ps cI g 8) := by
    unfold cw1
    rw [List.map_append, List.map_append, List.map_map, List.map_flatMap, List.append_assoc]
    rfl
  rw [e]
  constructor
  · refine va_P.app ?_ (fun k q hk => hP ((x2_X cQ cS h0 qa sa (x2_f aq 20) (x2_f (fun j => g j 4) 8)).length + k) q (by rw [List.getElem?_append_right (by omega), Nat.add_sub_cancel_left]; exact hk))
    intro k q hk
    match k, hk with
    | 0, hk => cases hk; exact hP 0 _ rfl
    | 1, hk =>
      cases hk
      have h1 := hP 1 _ rfl
      show H[qa]? = some (vp_cell _ _)
      refine Eq.trans h1 ?_
      congr 1
    | 2, hk =>
      cases hk
      have h1 := hP 2 _ rfl
      show H[sa]? = some (vp_cell _ _)
      refine Eq.trans h1 ?_
      congr 1
    | k + 3, hk => cases hk
  · have h1 := (hD.set (p := 1) (e := .inl (cQ, 20, .inr (.inr (.inr (.inr (fun j => some (aq j))))))) rfl)
    exact (h1.set (p := 2) (e := .inl (cS, 8, .inr (.inr (.inr (.inr (fun j => some (g j 4))))))) rfl)
theorem x2_pq_len {aq : Nat → Nat} {i : Nat} : (x2_pq aq i).length = i := by unfold x2_pq; simp
theorem x2_ps_len {cI : ClassId} {g : Nat → Nat → Nat} : ∀ {i : Nat}, (x2_ps cI g i).length = 6 * i
  | 0 => rfl
  | i + 1 => by
    have ih := x2_ps_len (cI := cI) (g := g) (i := i)
    unfold x2_ps at ih ⊢
    rw [List.range_succ, List.flatMap_append, List.length_append, ih]
    show 6 * i + 6 = 6 * (i + 1)
    omega
theorem goodIn_x2 {big : List Cond} (ws : List Cond) (hm : ∀ w ∈ ws, w ∈ big) (h : ws.all goodWord = true) : GoodIn big ws := fun w hw => ⟨hm w hw, good_of_word (List.all_eq_true.mp h w hw)⟩
section X2I
variable {p : Program} {l : Launch} {e : Env} {s : State} {m : MethodId} {args : Array Value} {below : List Frame} {meth : Method} {c : Code} {D : va_G} {cI cZ cQ cS : ClassId} {h0 qa sa : Nat} {A : Nat → Prop}
abbrev x2_R : Room := { frames := 2, cells := 70, slots := 524, locals := 32 }
def x2_Q (D : va_G) (cI cZ cQ cS : ClassId) (h0 : Nat) (A : Nat → Prop) : Array Value → State → Outcome → State → Prop := va_Qv (fun _ : Unit => True) (fun _ t => ∃ ad : Nat → Nat → Nat, ad 0 0 = h0 ∧ va_P D sm_cl (cw1.map (sw_E cI cZ cQ cS ad st_h)) t.heap ∧ va_D A (cw1.map (sw_E cI cZ cQ cS ad st_h))) A
set_option maxHeartbeats 4000000 in
set_option maxRecDepth 100000 in
theorem x2_l2 (hx : p.tables.exec = Jvm.exec) (hb : c.code = cX2_init) (hr : meth.sig.returnType = none) (hml : c.maxLocals = 2) (hlocks : meth.locks = false) (hown : s.vm.findClass RX2 = some m.cls) (hts : ∀ w ∈ wsX2_init, w.before args s = true) (hK : va_K D sm_cl (sw_tys cI cZ cQ cS) s) (hn : va_Nw (.methodLinkNest RX2 41 yX1_init RX2) s) (hA : ∀ q : Nat, s.heap.size ≤ q → A q) (aq : Nat → Nat) :
    ∀ (n i : Nat) (g : Nat → Nat → Nat) (H : Heap) (locs : List Loc) (ls : Array Slot), i + n = 8 → va_P D sm_cl (x2_X cQ cS h0 qa sa (x2_f aq 20) (x2_f (fun j => g j 4) i) ++ (x2_pq aq 20 ++ x2_ps cI g i)) H → va_D A (x2_X cQ cS h0 qa sa (x2_f aq 20) (x2_f (fun j => g j 4) i) ++ (x2_pq aq 20 ++ x2_ps cI g i)) → va_S A s.heap H locs → lv_has ls 2 [(0, .ref h0), (1, .int (nI i))] → W p l e x2_R s m args below meth c H locs (22 + 6 * i) (108 + 52 * i) (MQ below (x2_Q D cI cZ cQ cS h0 A) args s 70 524 A) (F0 m 82 ls []) := by
  intro n
  induction n with
  | zero =>
    intro i g H locs ls hi hP hD hS hl
    have hi8 : i = 8 := by omega
    subst hi8
    refine lv_iload_n hx hb dX2_init_82 rfl (lv_at hl 1 rfl) ?_
    refine lv_bipush (v := 8) hx hb dX2_init_83 (by decide) ?_
    refine lv_icmp_ge (tgt := 107) hx hb dX2_init_85 (by decide) (fun _ => ?_) (fun z => absurd (by decide) z)
    obtain ⟨hP9, hD9⟩ := x2_out (cZ := cZ) hP hD
    exact W.vret hx hb hr (fun t ht hW => ⟨⟨(), rfl, trivial, x2_ad h0 qa sa aq g, rfl, by rw [ht]; exact hP9, hD9⟩, hS.F ht⟩) hS.2.2 dX2_init_107
  | succ n ih =>
    intro i g H locs ls hi hP hD hS hl
    have hlt : i < 8 := by omega
    obtain ⟨f1, f2, f3, f4⟩ := lx hlt (Nat.le_refl 8) (by omega)
    refine lv_iload_n hx hb dX2_init_82 rfl (lv_at hl 1 rfl) ?_
    refine lv_bipush (v := 8) hx hb dX2_init_83 (by decide) ?_
    refine lv_icmp_ge (tgt := 107) hx hb dX2_init_85 (by decide) (fun z => absurd z f1) (fun _ => ?_)
    refine lv_aload_n hx hb dX2_init_88 rfl (lv_at hl 0 rfl) ?_
    refine va_get (D := D) (ci := 2) (v := .ref sa) (C := RX2) (T := TX2) (N := 8) hx hb hts (by decide +kernel) hown hK hP 0 rfl rfl 1 (by decide) (hts (.fieldLink RX2 17 "QuireShop" "scribes" "[LQuireShop$Scribe;") (by decide +kernel)) (fun _ h9 => h9) rfl dX2_init_89 ?_
    refine lv_iload_n hx hb dX2_init_92 rfl (lv_at hl 1 rfl) ?_
    refine va_new (ci := 1) (fs := [.null, .null, .null, .null, .null, .int 0, .int 0, .int 0, .int 0, .int 0, .int 0, .int 0]) (C := RX1) (T := TX1) (N := 12) hx hb hts (by decide +kernel) tyX1 tyX1_ok hown (hts (.classLink RX2 15 RX1) (by decide +kernel)) (hts (.instantiable RX1 12) (by decide +kernel)) (hts (.initialized RX1) (by decide +kernel)) hK hP hD hS hA rfl (by decide) (by show 22 + 6 * i + 1 ≤ 70; omega) (by show 108 + 52 * i + 12 ≤ 524; omega) dX2_init_93 (fun q5 H hP hD hS => ?_)
    refine lv_dup hx hb dX2_init_96 rfl ?_
    have hPc := kx_P hP
    have hFc := kx_F hD hS hA
    refine va_callv (va_runIN (As := []) (rest := [.ref q5, .int (nI i), .ref sa]) ⟨hx, hb, hml, hown, hts⟩ (c_X1_init l D cI cZ cQ cS q5 H.size) ⟨va_cnB 0 hts (goodIn_x2 wsX1_init (by decide +kernel) (by decide +kernel)) rfl rfl rfl hn (hts (.initialized RX1) (by decide +kernel)) (by decide +kernel) ⟨Nat.le_of_ble_eq_true rfl, Nat.le_of_ble_eq_true rfl⟩, rfl, hts (.instanceMethod yX1_init) (by decide +kernel)⟩ ⟨fun a U g mk q => by obtain ⟨q0, q1, qP, qK, qD⟩ := q; exact ⟨q0, q1, qP, va_K.moved (u := U) (U := U.calling g mk a) (Vm.Alike.refl U.vm) qK, qD⟩, fun U hU hW => ⟨rfl, by rw [hU], by rw [hU]; exact hPc, va_K.moved hW.alike hK, kx_D _⟩⟩ rfl rfl hl.1 rfl (lv_room (Nat.le_of_ble_eq_true rfl)) dX2_init_97 ⟨by show 22 + 6 * i + 1 + 5 ≤ 70; omega, by show 108 + 52 * i + 12 + 40 ≤ 524; omega⟩) hS (fun q _ h => hFc q h) hFc (fun u t H1 locs ht hvm hw hB hz1 hk1 hS => ?_)
    obtain ⟨q1, q2, q3, q4, q6, hP1, hD1⟩ := hB
    rw [ht] at hP1
    obtain ⟨hP, hD⟩ := kj hP hD hk1 hFc hP1 hD1
    obtain ⟨k, hk⟩ : ∃ k : Nat → Nat, k = fun j => match j with | 4 => q5 | 5 => q1 | 6 => q2 | 7 => q3 | 8 => q4 | _ => q6 := ⟨_, rfl⟩
    have hP : va_P D sm_cl ((x2_X cQ cS h0 qa sa (x2_f aq 20) (x2_f (fun j => g j 4) i) ++ (x2_pq aq 20 ++ x2_ps cI g i)) ++ x2_s1 cI k) H1 := by rw [hk]; exact hP
    have hD : va_D A ((x2_X cQ cS h0 qa sa (x2_f aq 20) (x2_f (fun j => g j 4) i) ++ (x2_pq aq 20 ++ x2_ps cI g i)) ++ x2_s1 cI k) := by rw [hk]; exact hD
    have hk4 : k 4 = q5 := congrFun hk 4
    rw [List.append_assoc, List.append_assoc, x2_ps_up] at hP hD
    refine va_astq (D := D) (r := (RX1, TX1, 12)) (vs := [.ref (k 5), .ref (k 6), .ref (k 7), .ref (k 8), .ref (k 9), .int 1, .int 0, .int 0, .int (-1), .int 0, .int 0, .int 0]) hx hb hK hP hD hS 2 3 (3 + (20 + 6 * i)) 1 rfl rfl ?_ rfl f2 dX2_init_100 (fun H locs hP hD hS => ?_)
    · rw [← x2_ps_up, ← hk4]
      have hxl : (x2_X cQ cS h0 qa sa (x2_f aq 20) (x2_f (fun j => g j 4) i)).length = 3 := rfl
      rw [List.getElem?_append_right (by rw [hxl]; omega), hxl]
      rw [List.getElem?_append_right (by rw [x2_pq_len]; omega), List.getElem?_append_right (by rw [x2_pq_len, x2_ps_len]; omega), x2_pq_len, x2_ps_len]
      rw [show 3 + (20 + 6 * i) - 3 - 20 - 6 * i = 0 by omega]
      rfl
    obtain ⟨x1, ex1⟩ : ∃ y : Int32, y = nI i + 1 := ⟨_, rfl⟩
    refine lv_iinc (v := x1) (lv' := [(1, .int x1), (0, .ref h0)]) hx hb dX2_init_101 hl (k := 1) rfl (by rw [ex1]; rfl) (by decide) rfl (fun ls hl => ?_)
    refine lv_goto (tgt := 82) hx hb dX2_init_104 (by decide) ?_
    refine W.widen (k := 22 + 6 * (i + 1)) (n := 108 + 52 * (i + 1)) (by omega) (by omega) ?_
    have ef : va_up (x2_f (fun j => g j 4) i) (nI i).toNatClampNeg (some q5) = x2_f (fun j => (fun j => if j = i then k else g j) j 4) (i + 1) := by
      rw [f3, x2_f_up, ← hk4]
      congr 1
      funext j
      by_cases hj : j = i
      · simp [hj]
      · simp [hj]
    refine ih (i + 1) (fun j => if j = i then k else g j) H locs ls (by omega) ?_ ?_ hS ?_
    · rw [← ef]; exact hP
    · rw [← ef]; exact hD
    · rw [ex1, f4] at hl
      exact lv_sub hl [1, 0] rfl
set_option maxHeartbeats 4000000 in
set_option maxRecDepth 100000 in
theorem x2_l1 (hx : p.tables.exec = Jvm.exec) (hb : c.code = cX2_init) (hr : meth.sig.returnType = none) (hml : c.maxLocals = 2) (hlocks : meth.locks = false) (hown : s.vm.findClass RX2 = some m.cls) (hts : ∀ w ∈ wsX2_init, w.before args s = true) (hK : va_K D sm_cl (sw_tys cI cZ cQ cS) s) (hn0 : va_Nw (.methodLinkNest RX2 40 yX0_init RX2) s) (hn : va_Nw (.methodLinkNest RX2 41 yX1_init RX2) s) (hA : ∀ q : Nat, s.heap.size ≤ q → A q) :
    ∀ (n i : Nat) (aq : Nat → Nat) (H : Heap) (locs : List Loc) (ls : Array Slot), i + n = 20 → va_P D sm_cl (x2_X cQ cS h0 qa sa (x2_f aq i) (fun _ => none) ++ x2_pq aq i) H → va_D A (x2_X cQ cS h0 qa sa (x2_f aq i) (fun _ => none) ++ x2_pq aq i) → va_S A s.heap H locs → lv_has ls 2 [(0, .ref h0), (1, .int (nI i))] → W p l e x2_R s m args below meth c H locs (2 + i) (28 + 4 * i) (MQ below (x2_Q D cI cZ cQ cS h0 A) args s 70 524 A) (F0 m 55 ls []) := by
  intro n
  induction n with
  | zero =>
    intro i aq H locs ls hi hP hD hS hl
    have hi8 : i = 20 := by omega
    subst hi8
    refine lv_iload_n hx hb dX2_init_55 rfl (lv_at hl 1 rfl) ?_
    refine lv_bipush (v := 20) hx hb dX2_init_56 (by decide) ?_
    refine lv_icmp_ge (tgt := 80) hx hb dX2_init_58 (by decide) (fun _ => ?_) (fun z => absurd (by decide) z)
    refine lv_iconst (v := 0) hx hb dX2_init_80 (by decide) ?_
    refine lv_istore_n (lv' := [(1, .int 0), (0, .ref h0)]) hx hb dX2_init_81 rfl hl (by decide) rfl (fun ls hl => ?_)
    refine W.widen (k := 22 + 6 * 0) (n := 108 + 52 * 0) (by decide) (by decide) ?_
    refine x2_l2 (qa := qa) (sa := sa) hx hb hr hml hlocks hown hts hK hn hA aq 8 0 (fun _ _ => 0) H locs ls (by omega) ?_ ?_ hS (lv_sub hl [1, 0] rfl)
    · have e0 : x2_ps cI (fun _ _ => 0) 0 = [] := rfl
      have e1 : x2_f (fun j => (fun _ _ => 0 : Nat → Nat → Nat) j 4) 0 = (fun _ => none) := by funext j; unfold x2_f; rw [if_neg (by omega)]
      rw [e0, e1, List.append_nil]; exact hP
    · have e0 : x2_ps cI (fun _ _ => 0) 0 = [] := rfl
      have e1 : x2_f (fun j => (fun _ _ => 0 : Nat → Nat → Nat) j 4) 0 = (fun _ => none) := by funext j; unfold x2_f; rw [if_neg (by omega)]
      rw [e0, e1, List.append_nil]; exact hD
  | succ n ih =>
    intro i aq H locs ls hi hP hD hS hl
    have hlt : i < 20 := by omega
    obtain ⟨f1, f2, f3, f4⟩ := lx hlt (Nat.le_refl 20) (by omega)
    refine lv_iload_n hx hb dX2_init_55 rfl (lv_at hl 1 rfl) ?_
    refine lv_bipush (v := 20) hx hb dX2_init_56 (by decide) ?_
    refine lv_icmp_ge (tgt := 80) hx hb dX2_init_58 (by decide) (fun z => absurd z f1) (fun _ => ?_)
    refine lv_aload_n hx hb dX2_init_61 rfl (lv_at hl 0 rfl) ?_
    refine va_get (D := D) (ci := 2) (v := .ref qa) (C := RX2) (T := TX2) (N := 8) hx hb hts (by decide +kernel) hown hK hP 0 rfl rfl 0 (by decide) (hts (.fieldLink RX2 11 "QuireShop" "quires" "[LQuireShop$Quire;") (by decide +kernel)) (fun _ h9 => h9) rfl dX2_init_62 ?_
    refine lv_iload_n hx hb dX2_init_65 rfl (lv_at hl 1 rfl) ?_
    refine va_new (ci := 0) (fs := [.int 0, .int 0, .int 0, .int 0]) (C := RX0) (T := TX0) (N := 4) hx hb hts (by decide +kernel) tyX0 tyX0_ok hown (hts (.classLink RX2 9 RX0) (by decide +kernel)) (hts (.instantiable RX0 4) (by decide +kernel)) (hts (.initialized RX0) (by decide +kernel)) hK hP hD hS hA rfl (by decide) (by show 2 + i + 1 ≤ 70; omega) (by show 28 + 4 * i + 4 ≤ 524; omega) dX2_init_66 (fun q5 H hP hD hS => ?_)
    refine lv_dup hx hb dX2_init_69 rfl ?_
    have hPc := kx_P hP
    have hFc := kx_F hD hS hA
    refine va_callv (va_runIN (As := []) (rest := [.ref q5, .int (nI i), .ref qa]) ⟨hx, hb, hml, hown, hts⟩ (c_X0_init l D cI cZ cQ cS q5 H.size) ⟨va_cnB 0 hts (goodIn_x2 wsX0_init (by decide +kernel) (by decide +kernel)) rfl rfl rfl hn0 (hts (.initialized RX0) (by decide +kernel)) (by decide +kernel) ⟨Nat.le_of_ble_eq_true rfl, Nat.le_of_ble_eq_true rfl⟩, rfl, hts (.instanceMethod yX0_init) (by decide +kernel)⟩ ⟨fun a U g mk q => by obtain ⟨q0, q1, qP, qK, qD⟩ := q; exact ⟨q0, q1, qP, va_K.moved (u := U) (U := U.calling g mk a) (Vm.Alike.refl U.vm) qK, qD⟩, fun U hU hW => ⟨rfl, by rw [hU], by rw [hU]; exact hPc, va_K.moved hW.alike hK, kx_D _⟩⟩ rfl rfl hl.1 rfl (lv_room (Nat.le_of_ble_eq_true rfl)) dX2_init_70 ⟨by show 2 + i + 1 + 0 ≤ 70; omega, by show 28 + 4 * i + 4 + 0 ≤ 524; omega⟩) hS (fun q _ h => hFc q h) hFc (fun u t H1 locs ht hvm hw hB hz1 hk1 hS => ?_)
    obtain ⟨hP1, hD1⟩ := hB
    rw [ht] at hP1
    obtain ⟨hP, hD⟩ := kj hP hD hk1 hFc hP1 hD1
    rw [List.append_assoc, x2_pq_up] at hP hD
    refine va_astq (D := D) (r := (RX0, TX0, 4)) (vs := [.int 0, .int 0, .int 0, .int (-1)]) hx hb hK hP hD hS 1 2 (3 + i) 0 rfl rfl ?_ rfl f2 dX2_init_73 (fun H locs hP hD hS => ?_)
    · have hxl : (x2_X cQ cS h0 qa sa (x2_f aq i) (fun _ => none)).length = 3 := rfl
      rw [List.getElem?_append_right (by rw [hxl]; omega), hxl, ← x2_pq_up, List.getElem?_append_right (by rw [x2_pq_len]; omega), x2_pq_len, show 3 + i - 3 - i = 0 by omega]
      rfl
    obtain ⟨x1, ex1⟩ : ∃ y : Int32, y = nI i + 1 := ⟨_, rfl⟩
    refine lv_iinc (v := x1) (lv' := [(1, .int x1), (0, .ref h0)]) hx hb dX2_init_74 hl (k := 1) rfl (by rw [ex1]; rfl) (by decide) rfl (fun ls hl => ?_)
    refine lv_goto (tgt := 55) hx hb dX2_init_77 (by decide) ?_
    refine W.widen (k := 2 + (i + 1)) (n := 28 + 4 * (i + 1)) (by omega) (by omega) ?_
    have ef : va_up (x2_f aq i) (nI i).toNatClampNeg (some q5) = x2_f (fun j => if j = i then q5 else aq j) (i + 1) := by
      rw [f3, x2_f_up]
    refine ih (i + 1) (fun j => if j = i then q5 else aq j) H locs ls (by omega) ?_ ?_ hS ?_
    · rw [← ef]; exact hP
    · rw [← ef]; exact hD
    · rw [ex1, f4] at hl
      exact lv_sub hl [1, 0] rfl
end X2I

set_option maxHeartbeats 4000000 in
set_option maxRecDepth 100000 in
theorem c_X2_init (l : Launch) (D : va_G) (cI cZ cQ cS : ClassId) (h0 sz : Nat) : Met l yX2_init wsX2_init x2_R (va_Pc [.ref h0] (fun U => U.heap.size = sz ∧ va_P D sm_cl [(h0, .inr (2, [.null, .null, .int 0, .int 0, .int 0, .int 0, .int 0, .int 0]))] U.heap ∧ va_K D sm_cl (sw_tys cI cZ cQ cS) U ∧ va_D (fun _ => True) [(h0, .inr (2, [.null, .null, .int 0, .int 0, .int 0, .int 0, .int 0, .int 0]))] ∧ va_Nw (.methodLinkNest RX2 40 yX0_init RX2) U ∧ va_Nw (.methodLinkNest RX2 41 yX1_init RX2) U ∧ va_AO RX0 U ∧ va_AO RX1 U)) (x2_Q D cI cZ cQ cS h0 (va_A [(h0, .inr (2, [.null, .null, .int 0, .int 0, .int 0, .int 0, .int 0, .int 0]))] sz)) 70 524 (va_A [(h0, .inr (2, [.null, .null, .int 0, .int 0, .int 0, .int 0, .int 0, .int 0]))] sz) := by
  refine Met.ofW (cc := cX2_init) (maxL := 2) (ret := none) (by decide) rfl ?_
  intro p e s m args below meth c s₁ B hml hv
  obtain ⟨rfl, hsz, hP, hK, hD0, hn0, hn1, ha0, ha1⟩ := hv
  have hx := B.exec
  have hb := B.bytes
  have hr := B.returns
  have hlocks := B.notSynchronized
  have hts := atoms_spec (ws := wsX2_init) B.pre
  have hown : s.vm.findClass RX2 = some m.cls := findClass_of_methodNamed B.named
  have hin : meth.name = "<init>" := (name_of_methodNamed B.named B.method).1
  subst hsz
  have hD := hD0.self (sz := s.heap.size)
  generalize hAe : va_A [(h0, .inr (2, [.null, .null, .int 0, .int 0, .int 0, .int 0, .int 0, .int 0]))] s.heap.size = A at hD ⊢
  have hA : ∀ q : Nat, s.heap.size ≤ q → A q := fun q h => by rw [← hAe]; exact Or.inr h
  have hS : va_S A s.heap s.heap [] := va_S.rf
  have hl := lv_entry ([.ref h0]) (n := 2) (Nat.le_of_ble_eq_true rfl)
  rw [lg_entry_eq]
  generalize (lg_sl ([.ref h0]) ++ List.replicate (2 - (lg_sl ([.ref h0])).length) Slot.unset).toArray = ls at hl ⊢
  have hl : lv_has ls 2 [(0, .ref h0)] := hl
  refine lv_aload_n hx hb dX2_init_0 rfl (lv_at hl 0 rfl) ?_
  refine W.objInit hx hb hown (hts (.methodLink RX2 1 objectInit) (by decide +kernel)) (hts (.instanceMethod objectInit) (by decide +kernel)) (hts _ (List.mem_cons_of_mem _ (List.mem_append_left _ (List.mem_append_left _ (List.mem_append_left _ (List.mem_append_left _ (List.mem_of_getElem? (i := 2) rfl))))))) rfl (by rw [hml]; exact hl.1) rfl dX2_init_1 (Nat.le_of_ble_eq_true rfl) (Nat.le_of_ble_eq_true rfl) ?_
  refine W.eq (g2 := F0 m 4 ls []) rfl ?_
  refine lv_aload_n hx hb dX2_init_4 rfl (lv_at hl 0 rfl) ?_
  refine lv_bipush (v := 20) hx hb dX2_init_5 (by decide) ?_
  refine kn_newq (C := RX0) hx hb hown (hts (.classLink RX2 9 RX0) (by decide +kernel)) ha0 hK hP hD hS hA 2 rfl (by decide) rfl (by decide) (Nat.le_of_ble_eq_true rfl) (Nat.le_of_ble_eq_true rfl) dX2_init_7 (fun qa H hP hD hS => ?_)
  have hP : va_P D sm_cl [(h0, .inr (2, [.null, .null, .int 0, .int 0, .int 0, .int 0, .int 0, .int 0])), (qa, .inl (cQ, 20, .inr (.inr (.inr (.inr (fun _ => none))))))] H := hP
  have hD : va_D A [(h0, .inr (2, [.null, .null, .int 0, .int 0, .int 0, .int 0, .int 0, .int 0])), (qa, .inl (cQ, 20, .inr (.inr (.inr (.inr (fun _ => none))))))] := hD
  refine va_putF (D := D) (ci := 2) (v := .ref qa) (ty := .array (.object "QuireShop$Quire")) (C := RX2) (T := TX2) (N := 8) hx hb hts (by decide +kernel) tyX2 tyX2_ok nmX2 hown hK hP hD hS 0 rfl rfl 0 (by decide) (hts (.fieldLink RX2 11 "QuireShop" "quires" "[LQuireShop$Quire;") (by decide +kernel)) (fun _ h9 => h9) rfl hin rfl (by decide +kernel) rfl rfl (Nat.le_of_ble_eq_true rfl) dX2_init_10 (fun H locs hP hD hS => ?_)
  have hP : va_P D sm_cl [(h0, .inr (2, [.ref qa, .null, .int 0, .int 0, .int 0, .int 0, .int 0, .int 0])), (qa, .inl (cQ, 20, .inr (.inr (.inr (.inr (fun _ => none))))))] H := hP
  have hD : va_D A [(h0, .inr (2, [.ref qa, .null, .int 0, .int 0, .int 0, .int 0, .int 0, .int 0])), (qa, .inl (cQ, 20, .inr (.inr (.inr (.inr (fun _ => none))))))] := hD
  refine lv_aload_n hx hb dX2_init_13 rfl (lv_at hl 0 rfl) ?_
  refine lv_bipush (v := 8) hx hb dX2_init_14 (by decide) ?_
  refine kn_newq (C := RX1) hx hb hown (hts (.classLink RX2 15 RX1) (by decide +kernel)) ha1 hK hP hD hS hA 3 rfl (by decide) rfl (by decide) (Nat.le_of_ble_eq_true rfl) (Nat.le_of_ble_eq_true rfl) dX2_init_16 (fun sa H hP hD hS => ?_)
  have hP : va_P D sm_cl [(h0, .inr (2, [.ref qa, .null, .int 0, .int 0, .int 0, .int 0, .int 0, .int 0])), (qa, .inl (cQ, 20, .inr (.inr (.inr (.inr (fun _ => none)))))), (sa, .inl (cS, 8, .inr (.inr (.inr (.inr (fun _ => none))))))] H := hP
  have hD : va_D A [(h0, .inr (2, [.ref qa, .null, .int 0, .int 0, .int 0, .int 0, .int 0, .int 0])), (qa, .inl (cQ, 20, .inr (.inr (.inr (.inr (fun _ => none)))))), (sa, .inl (cS, 8, .inr (.inr (.inr (.inr (fun _ => none))))))] := hD
  refine va_putF (D := D) (ci := 2) (v := .ref sa) (ty := .array (.object "QuireShop$Scribe")) (C := RX2) (T := TX2) (N := 8) hx hb hts (by decide +kernel) tyX2 tyX2_ok nmX2 hown hK hP hD hS 0 rfl rfl 1 (by decide) (hts (.fieldLink RX2 17 "QuireShop" "scribes" "[LQuireShop$Scribe;") (by decide +kernel)) (fun _ h9 => h9) rfl hin rfl (by decide +kernel) rfl rfl (Nat.le_of_ble_eq_true rfl) dX2_init_19 (fun H locs hP hD hS => ?_)
  have hP : va_P D sm_cl [(h0, .inr (2, [.ref qa, .ref sa, .int 0, .int 0, .int 0, .int 0, .int 0, .int 0])), (qa, .inl (cQ, 20, .inr (.inr (.inr (.inr (fun _ => none)))))), (sa, .inl (cS, 8, .inr (.inr (.inr (.inr (fun _ => none))))))] H := hP
  have hD : va_D A [(h0, .inr (2, [.ref qa, .ref sa, .int 0, .int 0, .int 0, .int 0, .int 0, .int 0])), (qa, .inl (cQ, 20, .inr (.inr (.inr (.inr (fun _ => none)))))), (sa, .inl (cS, 8, .inr (.inr (.inr (.inr (fun _ => none))))))] := hD
  refine lv_aload_n hx hb dX2_init_22 rfl (lv_at hl 0 rfl) ?_
  refine lv_iconst (v := 1) hx hb dX2_init_23 (by decide) ?_
  refine va_put (D := D) (ci := 2) (v := .int 1) (ty := .int) (C := RX2) (T := TX2) (N := 8) hx hb hts (by decide +kernel) tyX2 tyX2_ok nmX2 hown hK hP hD hS 0 rfl rfl 2 (by decide) (hts (.fieldLink RX2 21 "QuireShop" "pieces" "I") (by decide +kernel)) (fun _ h9 => h9) rfl (by decide +kernel) rfl rfl (Nat.le_of_ble_eq_true rfl) dX2_init_24 (fun H locs hP hD hS => ?_)
  have hP : va_P D sm_cl [(h0, .inr (2, [.ref qa, .ref sa, .int 1, .int 0, .int 0, .int 0, .int 0, .int 0])), (qa, .inl (cQ, 20, .inr (.inr (.inr (.inr (fun _ => none)))))), (sa, .inl (cS, 8, .inr (.inr (.inr (.inr (fun _ => none))))))] H := hP
  have hD : va_D A [(h0, .inr (2, [.ref qa, .ref sa, .int 1, .int 0, .int 0, .int 0, .int 0, .int 0])), (qa, .inl (cQ, 20, .inr (.inr (.inr (.inr (fun _ => none)))))), (sa, .inl (cS, 8, .inr (.inr (.inr (.inr (fun _ => none))))))] := hD
  refine lv_aload_n hx hb dX2_init_27 rfl (lv_at hl 0 rfl) ?_
  refine lv_iconst (v := 0) hx hb dX2_init_28 (by decide) ?_
  refine va_put (D := D) (ci := 2) (v := .int 0) (ty := .int) (C := RX2) (T := TX2) (N := 8) hx hb hts (by decide +kernel) tyX2 tyX2_ok nmX2 hown hK hP hD hS 0 rfl rfl 3 (by decide) (hts (.fieldLink RX2 25 "QuireShop" "quireCount" "I") (by decide +kernel)) (fun _ h9 => h9) rfl (by decide +kernel) rfl rfl (Nat.le_of_ble_eq_true rfl) dX2_init_29 (fun H locs hP hD hS => ?_)
  have hP : va_P D sm_cl [(h0, .inr (2, [.ref qa, .ref sa, .int 1, .int 0, .int 0, .int 0, .int 0, .int 0])), (qa, .inl (cQ, 20, .inr (.inr (.inr (.inr (fun _ => none)))))), (sa, .inl (cS, 8, .inr (.inr (.inr (.inr (fun _ => none))))))] H := hP
  have hD : va_D A [(h0, .inr (2, [.ref qa, .ref sa, .int 1, .int 0, .int 0, .int 0, .int 0, .int 0])), (qa, .inl (cQ, 20, .inr (.inr (.inr (.inr (fun _ => none)))))), (sa, .inl (cS, 8, .inr (.inr (.inr (.inr (fun _ => none))))))] := hD
  refine lv_aload_n hx hb dX2_init_32 rfl (lv_at hl 0 rfl) ?_
  refine lv_iconst (v := 0) hx hb dX2_init_33 (by decide) ?_
  refine va_put (D := D) (ci := 2) (v := .int 0) (ty := .int) (C := RX2) (T := TX2) (N := 8) hx hb hts (by decide +kernel) tyX2 tyX2_ok nmX2 hown hK hP hD hS 0 rfl rfl 4 (by decide) (hts (.fieldLink RX2 28 "QuireShop" "scribeCount" "I") (by decide +kernel)) (fun _ h9 => h9) rfl (by decide +kernel) rfl rfl (Nat.le_of_ble_eq_true rfl) dX2_init_34 (fun H locs hP hD hS => ?_)
  have hP : va_P D sm_cl [(h0, .inr (2, [.ref qa, .ref sa, .int 1, .int 0, .int 0, .int 0, .int 0, .int 0])), (qa, .inl (cQ, 20, .inr (.inr (.inr (.inr (fun _ => none)))))), (sa, .inl (cS, 8, .inr (.inr (.inr (.inr (fun _ => none))))))] H := hP
  have hD : va_D A [(h0, .inr (2, [.ref qa, .ref sa, .int 1, .int 0, .int 0, .int 0, .int 0, .int 0])), (qa, .inl (cQ, 20, .inr (.inr (.inr (.inr (fun _ => none)))))), (sa, .inl (cS, 8, .inr (.inr (.inr (.inr (fun _ => none))))))] := hD
  refine lv_aload_n hx hb dX2_init_37 rfl (lv_at hl 0 rfl) ?_
  refine lv_iconst (v := 0) hx hb dX2_init_38 (by decide) ?_
  refine va_put (D := D) (ci := 2) (v := .int 0) (ty := .int) (C := RX2) (T := TX2) (N := 8) hx hb hts (by decide +kernel) tyX2 tyX2_ok nmX2 hown hK hP hD hS 0 rfl rfl 5 (by decide) (hts (.fieldLink RX2 31 "QuireShop" "day" "I") (by decide +kernel)) (fun _ h9 => h9) rfl (by decide +kernel) rfl rfl (Nat.le_of_ble_eq_true rfl) dX2_init_39 (fun H locs hP hD hS => ?_)
  have hP : va_P D sm_cl [(h0, .inr (2, [.ref qa, .ref sa, .int 1, .int 0, .int 0, .int 0, .int 0, .int 0])), (qa, .inl (cQ, 20, .inr (.inr (.inr (.inr (fun _ => none)))))), (sa, .inl (cS, 8, .inr (.inr (.inr (.inr (fun _ => none))))))] H := hP
  have hD : va_D A [(h0, .inr (2, [.ref qa, .ref sa, .int 1, .int 0, .int 0, .int 0, .int 0, .int 0])), (qa, .inl (cQ, 20, .inr (.inr (.inr (.inr (fun _ => none)))))), (sa, .inl (cS, 8, .inr (.inr (.inr (.inr (fun _ => none))))))] := hD
  refine lv_aload_n hx hb dX2_init_42 rfl (lv_at hl 0 rfl) ?_
  refine lv_iconst (v := 0) hx hb dX2_init_43 (by decide) ?_
  refine va_put (D := D) (ci := 2) (v := .int 0) (ty := .int) (C := RX2) (T := TX2) (N := 8) hx hb hts (by decide +kernel) tyX2 tyX2_ok nmX2 hown hK hP hD hS 0 rfl rfl 6 (by decide) (hts (.fieldLink RX2 34 "QuireShop" "rule" "I") (by decide +kernel)) (fun _ h9 => h9) rfl (by decide +kernel) rfl rfl (Nat.le_of_ble_eq_true rfl) dX2_init_44 (fun H locs hP hD hS => ?_)
  have hP : va_P D sm_cl [(h0, .inr (2, [.ref qa, .ref sa, .int 1, .int 0, .int 0, .int 0, .int 0, .int 0])), (qa, .inl (cQ, 20, .inr (.inr (.inr (.inr (fun _ => none)))))), (sa, .inl (cS, 8, .inr (.inr (.inr (.inr (fun _ => none))))))] H := hP
  have hD : va_D A [(h0, .inr (2, [.ref qa, .ref sa, .int 1, .int 0, .int 0, .int 0, .int 0, .int 0])), (qa, .inl (cQ, 20, .inr (.inr (.inr (.inr (fun _ => none)))))), (sa, .inl (cS, 8, .inr (.inr (.inr (.inr (fun _ => none))))))] := hD
  refine lv_aload_n hx hb dX2_init_47 rfl (lv_at hl 0 rfl) ?_
  refine lv_bipush (v := 99) hx hb dX2_init_48 (by decide) ?_
  refine va_put (D := D) (ci := 2) (v := .int 99) (ty := .int) (C := RX2) (T := TX2) (N := 8) hx hb hts (by decide +kernel) tyX2 tyX2_ok nmX2 hown hK hP hD hS 0 rfl rfl 7 (by decide) (hts (.fieldLink RX2 37 "QuireShop" "wear" "I") (by decide +kernel)) (fun _ h9 => h9) rfl (by decide +kernel) rfl rfl (Nat.le_of_ble_eq_true rfl) dX2_init_50 (fun H locs hP hD hS => ?_)
  have hP : va_P D sm_cl [(h0, .inr (2, [.ref qa, .ref sa, .int 1, .int 0, .int 0, .int 0, .int 0, .int 99])), (qa, .inl (cQ, 20, .inr (.inr (.inr (.inr (fun _ => none)))))), (sa, .inl (cS, 8, .inr (.inr (.inr (.inr (fun _ => none))))))] H := hP
  have hD : va_D A [(h0, .inr (2, [.ref qa, .ref sa, .int 1, .int 0, .int 0, .int 0, .int 0, .int 99])), (qa, .inl (cQ, 20, .inr (.inr (.inr (.inr (fun _ => none)))))), (sa, .inl (cS, 8, .inr (.inr (.inr (.inr (fun _ => none))))))] := hD
  refine lv_iconst (v := 0) hx hb dX2_init_53 (by decide) ?_
  refine lv_istore_n (lv' := [(1, .int 0), (0, .ref h0)]) hx hb dX2_init_54 rfl hl (by decide) rfl (fun ls hl => ?_)
  refine W.widen (k := 2 + 0) (n := 28 + 4 * 0) (by decide) (by decide) ?_
  refine x2_l1 (qa := qa) (sa := sa) hx hb hr hml hlocks hown hts hK hn0 hn1 hA 20 0 (fun _ => 0) H _ ls (by omega) ?_ ?_ hS (lv_sub hl [1, 0] rfl)
  · have e1 : x2_f (fun _ => 0) 0 = (fun _ => none) := by funext j; unfold x2_f; rw [if_neg (by omega)]
    rw [e1]; exact hP
  · have e1 : x2_f (fun _ => 0) 0 = (fun _ => none) := by funext j; unfold x2_f; rw [if_neg (by omega)]
    rw [e1]; exact hD