/-! ===== the picture's cells in the heap ===== -/
def sw_conc (ad : Nat → Nat → Nat) (v : AV) : Value := match v with | .inl x => .int x | .inr q => .ref (ad q.1 q.2)
def sw_ok (v : AV) : Prop := match v with | .inl _ => True | .inr q => q ∈ ck_wl
def sw_rt (mi : Nat) : Option FieldType := match sm_ret.getD mi 9 with | 0 => none | 1 => some .int | _ => some .boolean
def sw_tys (cI cZ cQ cS : ClassId) : List (ClassId × FieldType) := [(cI, .int), (cZ, .boolean), (cQ, .object RX0), (cS, .object RX1)]
def sw_fs (ad : Nat → Nat → Nat) (h : AHp) (q : Nat × Nat) (c : Nat) : List Value := (List.range (ah_nf c)).map (fun j => if ah_tgt c j = 0 then .int (h q.1 q.2 j) else .ref (ad (ah_tgt c j) q.2))
def sw_e (cI cZ cQ cS : ClassId) (ad : Nat → Nat → Nat) (h : AHp) (q : Nat × Nat) : va_E :=
  match ah_cls q.1 with
  | some c => .inr (c, sw_fs ad h q c)
  | none => match ah_ilen q.1 with
    | some N => .inl (cI, N, .inl (h q.1 q.2))
    | none => match ah_zlen q.1 with
      | some N => .inl (cZ, N, .inl (h q.1 q.2))
      | none => match ah_rlen q.1 with
        | some (N, kt) => .inl (if kt = 3 then cQ else cS, N, .inr (.inr (.inr (.inr (fun j => some (ad kt j))))))
        | none => .inl (cI, 0, .inl (h q.1 q.2))
def sw_E (cI cZ cQ cS : ClassId) (ad : Nat → Nat → Nat) (h : AHp) (q : Nat × Nat) : Nat × va_E := (ad q.1 q.2, sw_e cI cZ cQ cS ad h q)
def sw_ws (cI cZ cQ cS : ClassId) (ad : Nat → Nat → Nat) (h : AHp) : va_W := ck_wl.map (sw_E cI cZ cQ cS ad h)
def sw_A (ad : Nat → Nat → Nat) : Nat → Prop := fun a => ∃ q ∈ ck_wl, a = ad q.1 q.2
def sw_inj (ad : Nat → Nat → Nat) : Prop := ∀ q ∈ ck_wl, ∀ q' ∈ ck_wl, ad q.1 q.2 = ad q'.1 q'.2 → q = q'
theorem sw_cat (ad : Nat → Nat → Nat) (v : AV) : (sw_conc ad v).category = 1 := by cases v <;> rfl
section SWP
variable {cI cZ cQ cS : ClassId} {ad : Nat → Nat → Nat} {h : AHp} {q : Nat × Nat} {n j N c : Nat} {v : Int32}
theorem sw_place (hq : q ∈ ck_wl) : ∃ n : Nat, ck_wl[n]? = some q ∧ (sw_ws cI cZ cQ cS ad h)[n]? = some (ad q.1 q.2, sw_e cI cZ cQ cS ad h q) := by
  obtain ⟨n, hn⟩ := List.getElem?_of_mem hq
  exact ⟨n, hn, by rw [sw_ws, List.getElem?_map, hn]; rfl⟩
theorem ck_at {a b : Nat} {q : Nat × Nat} (h1 : ck_wl[a]? = some q) (h2 : ck_wl[b]? = some q) : a = b := by
  obtain ⟨l1, e1⟩ := List.getElem?_eq_some_iff.mp h1
  obtain ⟨l2, e2⟩ := List.getElem?_eq_some_iff.mp h2
  have hp := List.pairwise_iff_getElem.mp ck_nodup
  rcases Nat.lt_trichotomy a b with z | z | z
  · exact absurd (e1.trans e2.symm) (hp a b l1 l2 z)
  · exact z
  · exact absurd (e2.trans e1.symm) (hp b a l2 l1 z)
theorem sw_e_other {k i : Nat} (hne : q ≠ (k, i)) : sw_e cI cZ cQ cS ad (ah_up h k i j v) q = sw_e cI cZ cQ cS ad h q := by
  have e : ah_up h k i j v q.1 q.2 = h q.1 q.2 := by
    funext j'
    unfold ah_up
    rw [if_neg]
    intro ⟨a, b, _⟩
    exact hne (Prod.ext a b)
  simp only [sw_e, sw_fs, e]
theorem sw_set (hn : ck_wl[n]? = some q) : (sw_ws cI cZ cQ cS ad h).set n (ad q.1 q.2, sw_e cI cZ cQ cS ad (ah_up h q.1 q.2 j v) q) = sw_ws cI cZ cQ cS ad (ah_up h q.1 q.2 j v) := by
  have hl : n < ck_wl.length := (List.getElem?_eq_some_iff.mp hn).1
  apply List.ext_getElem?
  intro k
  by_cases hk : k = n
  · subst hk
    rw [List.getElem?_set_self (by rw [sw_ws, List.length_map]; exact hl), sw_ws, List.getElem?_map, hn]
    rfl
  · rw [List.getElem?_set_ne (Ne.symm hk), sw_ws, sw_ws, List.getElem?_map, List.getElem?_map]
    cases hq : ck_wl[k]? with
    | none => rfl
    | some q' =>
      have hne : q' ≠ (q.1, q.2) := fun z => hk (ck_at (by rw [hq, z]) hn)
      show some (sw_E cI cZ cQ cS ad h q') = some (sw_E cI cZ cQ cS ad (ah_up h q.1 q.2 j v) q')
      unfold sw_E
      rw [sw_e_other hne]
theorem sw_fs_set (hj : j < ah_nf c) (ht : ah_tgt c j = 0) : (sw_fs ad h q c).set j (.int v) = sw_fs ad (ah_up h q.1 q.2 j v) q c := by
  apply List.ext_getElem?
  intro k
  unfold sw_fs
  by_cases hk : k = j
  · subst hk
    rw [List.getElem?_set_self (by simp; exact hj)]
    simp [hj, ht, ah_up]
  · rw [List.getElem?_set_ne (Ne.symm hk)]
    simp only [List.getElem?_map]
    cases hr : (List.range (ah_nf c))[k]? with
    | none => rfl
    | some k' =>
      have : k' = k := by
        obtain ⟨l, e⟩ := List.getElem?_eq_some_iff.mp hr
        simp at e
        exact e.symm
      subst this
      simp [ah_up, hk]
theorem sw_fs_get (hj : j < ah_nf c) : (sw_fs ad h q c)[j]? = some (if ah_tgt c j = 0 then .int (h q.1 q.2 j) else .ref (ad (ah_tgt c j) q.2)) := by
  unfold sw_fs
  simp [hj]
theorem sw_fs_len : (sw_fs ad h q c).length = ah_nf c := by unfold sw_fs; simp
theorem sw_arr_set : (upd (h q.1 q.2) j v) = (ah_up h q.1 q.2 j v) q.1 q.2 := by
  funext k
  simp [upd, ah_up]
theorem sw_eC {c : Nat} (hc : ah_cls q.1 = some c) : sw_e cI cZ cQ cS ad h q = .inr (c, sw_fs ad h q c) := by unfold sw_e; rw [hc]
theorem ck_in : ∀ q ∈ ck_wl, q.1 < 27 := by decide +kernel
theorem ck_il : ∀ k, k < 27 → (ah_ilen k).isSome = true → ah_cls k = none := by decide +kernel
theorem ck_zl : ∀ k, k < 27 → (ah_zlen k).isSome = true → ah_cls k = none ∧ ah_ilen k = none := by decide +kernel
theorem ck_rl : ∀ k, k < 27 → (ah_rlen k).isSome = true → ah_cls k = none ∧ ah_ilen k = none ∧ ah_zlen k = none := by decide +kernel
theorem sw_eI (hq : q ∈ ck_wl) (hc : ah_ilen q.1 = some N) : sw_e cI cZ cQ cS ad h q = .inl (cI, N, .inl (h q.1 q.2)) := by
  unfold sw_e; rw [ck_il q.1 (ck_in q hq) (by rw [hc]; rfl), hc]
theorem sw_eZ (hq : q ∈ ck_wl) (hc : ah_zlen q.1 = some N) : sw_e cI cZ cQ cS ad h q = .inl (cZ, N, .inl (h q.1 q.2)) := by
  have a := ck_zl q.1 (ck_in q hq) (by rw [hc]; rfl)
  unfold sw_e; rw [a.1, a.2, hc]
theorem sw_eR {kt : Nat} (hq : q ∈ ck_wl) (hc : ah_rlen q.1 = some (N, kt)) : sw_e cI cZ cQ cS ad h q = .inl (if kt = 3 then cQ else cS, N, .inr (.inr (.inr (.inr (fun j => some (ad kt j)))))) := by
  have a := ck_rl q.1 (ck_in q hq) (by rw [hc]; rfl)
  unfold sw_e; rw [a.1, a.2.1, a.2.2, hc]
theorem sw_D (hi : sw_inj ad) : va_D (sw_A ad) (sw_ws cI cZ cQ cS ad h) := by
  have key : ∀ (k : Nat) (x : Nat × va_E), (sw_ws cI cZ cQ cS ad h)[k]? = some x → ∃ q, ck_wl[k]? = some q ∧ x.1 = ad q.1 q.2 := by
    intro k x hx
    rw [sw_ws, List.getElem?_map] at hx
    cases hq : ck_wl[k]? with
    | none => rw [hq] at hx; cases hx
    | some q => rw [hq] at hx; cases hx; exact ⟨q, rfl, rfl⟩
  refine ⟨fun i j x y hx hy e => ?_, fun k x hx => ?_⟩
  · obtain ⟨a, h1, h2⟩ := key i x hx
    obtain ⟨b, h3, h4⟩ := key j y hy
    have hab : a = b := hi a (List.mem_of_getElem? h1) b (List.mem_of_getElem? h3) (by rw [← h2, ← h4]; exact e)
    subst hab
    exact ck_at h1 h3
  · obtain ⟨a, h1, h2⟩ := key k x hx
    exact ⟨a, List.mem_of_getElem? h1, h2⟩
end SWP
/-! the locals -/
def sw_lv (ad : Nat → Nat → Nat) (ls : List (Option AV)) : List (Nat × Value) := (List.range ls.length).filterMap (fun i => match ls[i]? with | some (some v) => some (i, sw_conc ad v) | _ => none)
theorem sw_lv_mem {ad : Nat → Nat → Nat} {ls : List (Option AV)} {q : Nat × Value} : q ∈ sw_lv ad ls ↔ ∃ v, ls[q.1]? = some (some v) ∧ q.2 = sw_conc ad v := by
  unfold sw_lv
  rw [List.mem_filterMap]
  constructor
  · intro ⟨i, hi, e⟩
    split at e
    · rename_i v hv
      cases e
      exact ⟨v, hv, rfl⟩
    · cases e
  · intro ⟨v, h1, h2⟩
    refine ⟨q.1, List.mem_range.mpr (List.getElem?_eq_some_iff.mp h1).1, ?_⟩
    rw [h1]
    show some (q.1, sw_conc ad v) = some q
    rw [← h2]
theorem sw_lv_at {ad : Nat → Nat → Nat} {ls : List (Option AV)} {LS : Array Slot} {nL i : Nat} {v : AV} (h : lv_has LS nL (sw_lv ad ls)) (hv : ls[i]? = some (some v)) : LS[i]? = some (.val (sw_conc ad v)) := h.2.2 (i, sw_conc ad v) (sw_lv_mem.mpr ⟨v, hv, rfl⟩)
theorem sw_lv_set {ad : Nat → Nat → Nat} {ls : List (Option AV)} {LS : Array Slot} {nL i : Nat} {v : AV} (h : lv_has LS nL ((i, sw_conc ad v) :: (sw_lv ad ls).filter (fun q => !(q.1 == i) && !(q.1 + 1 == i && q.2.category == 2)))) : lv_has LS nL (sw_lv ad (ls.set i (some v))) := by
  refine ⟨h.1, h.2.1, fun q hq => h.2.2 q ?_⟩
  obtain ⟨w, h1, h2⟩ := sw_lv_mem.mp hq
  by_cases hi : q.1 = i
  · rw [hi] at h1
    have hl : i < ls.length := by
      have := (List.getElem?_eq_some_iff.mp h1).1
      rw [List.length_set] at this
      exact this
    rw [List.getElem?_set_self hl] at h1
    cases h1
    rw [List.mem_cons]
    left
    rw [← h2, ← hi]
  · rw [List.getElem?_set_ne (Ne.symm hi)] at h1
    rw [List.mem_cons]
    right
    rw [List.mem_filter]
    refine ⟨sw_lv_mem.mpr ⟨w, h1, h2⟩, ?_⟩
    rw [h2, sw_cat]
    simp [hi]
theorem sw_sl (ad : Nat → Nat → Nat) : ∀ as : List AV, lg_sl (as.map (sw_conc ad)) = (as.map (sw_conc ad)).map Slot.val
  | [] => rfl
  | a :: as => by
    have ih := sw_sl ad as
    unfold lg_sl at ih ⊢
    rw [List.map_cons, List.flatMap_cons, ih, sw_cat]
    rfl
theorem sw_args (ad : Nat → Nat → Nat) : ∀ (as : List AV) (i k : Nat) (v : AV), as[k]? = some v → (i + k, sw_conc ad v) ∈ lv_args i (as.map (sw_conc ad))
  | [], i, k, v, h => by simp at h
  | a :: as, i, 0, v, h => by
    simp at h
    subst h
    simp [lv_args]
  | a :: as, i, k + 1, v, h => by
    simp at h
    have := sw_args ad as (i + 1) k v h
    rw [List.map_cons, lv_args, sw_cat]
    simp only [List.mem_cons]
    right
    rw [if_neg (by omega), show i + (k + 1) = i + 1 + k by omega]
    exact this
theorem sw_entry (ad : Nat → Nat → Nat) (y : Nat) (as : List AV) (hn : as.length ≤ sm_L.getD y 0) : lv_has ((lg_sl (as.map (sw_conc ad)) ++ List.replicate (sm_L.getD y 0 - (lg_sl (as.map (sw_conc ad))).length) Slot.unset).toArray) (sm_L.getD y 0) (sw_lv ad (ah_entry y as)) := by
  have h := lv_entry (as.map (sw_conc ad)) (n := sm_L.getD y 0) (by rw [sw_sl]; simp; exact hn)
  refine ⟨h.1, h.2.1, fun q hq => h.2.2 q ?_⟩
  obtain ⟨v, h1, h2⟩ := sw_lv_mem.mp hq
  unfold ah_entry at h1
  by_cases hk : q.1 < as.length
  · rw [List.getElem?_append_left (by simp; exact hk), List.getElem?_map] at h1
    cases ha : as[q.1]? with
    | none => rw [ha] at h1; cases h1
    | some w =>
      rw [ha] at h1
      cases h1
      have := sw_args ad as 0 q.1 v ha
      rw [Nat.zero_add, ← h2] at this
      exact this
  · rw [List.getElem?_append_right (by simp; omega)] at h1
    have := List.mem_of_getElem? h1
    rw [List.mem_replicate] at this
    cases this.2
theorem sw_entry_ok {y : Nat} {as : List AV} (h : ∀ v ∈ as, sw_ok v) : ∀ v, some v ∈ ah_entry y as → sw_ok v := by
  intro v hv
  unfold ah_entry at hv
  rcases List.mem_append.mp hv with h1 | h1
  · obtain ⟨w, hw, e⟩ := List.mem_map.mp h1
    cases e
    exact h _ hw
  · have := (List.mem_replicate.mp h1).2
    cases this
