/-! ===== a small machine over a picture of the cells: ints by (kind, number, slot); references by (kind, number) ===== -/
abbrev AV : Type := Int32 ⊕ (Nat × Nat)
abbrev AHp : Type := Nat → Nat → Nat → Int32
def ah_up (h : AHp) (k i j : Nat) (v : Int32) : AHp := fun k' i' j' => if k' = k ∧ i' = i ∧ j' = j then v else h k' i' j'
/-- the class of a kind of object -/
def ah_cls (k : Nat) : Option Nat := match k with | 0 => some 2 | 3 => some 0 | 4 => some 1 | 10 => some 3 | _ => none
/-- which kind a field of references points to; 0: a field of ints -/
def ah_tgt (c j : Nat) : Nat := match c with
  | 2 => if j = 0 then 1 else if j = 1 then 2 else 0
  | 1 => if j < 5 then 5 + j else 0
  | 3 => if (2 ≤ j ∧ j ≤ 5) ∨ (7 ≤ j ∧ j ≤ 16) then 10 + j else 0
  | _ => 0
def ah_nf (c : Nat) : Nat := match c with | 0 => 4 | 1 => 12 | 2 => 8 | _ => 22
def ah_ilen (k : Nat) : Option Nat := if 5 ≤ k ∧ k ≤ 9 then some 8 else if 12 ≤ k ∧ k ≤ 15 then some 20 else if 17 ≤ k ∧ k ≤ 20 then some 8 else if k = 21 ∨ (23 ≤ k ∧ k ≤ 26) then some 64 else none
def ah_zlen (k : Nat) : Option Nat := if k = 22 then some 64 else none
def ah_rlen (k : Nat) : Option (Nat × Nat) := match k with | 1 => some (20, 3) | 2 => some (8, 4) | _ => none
def ah_fld (o idx : Nat) : Option (Nat × Nat) := (sm_fld.find? (fun q => q.1 == o && q.2.1 == idx)).map (fun q => q.2.2)
def ah_mth (o idx : Nat) : Option Nat := (sm_mth.find? (fun q => q.1 == o && q.2.1 == idx)).map (fun q => q.2.2)
def ah_cst (o idx : Nat) : Option Int32 := (sm_cst.find? (fun q => q.1 == o && q.2.1 == idx)).map (fun q => q.2.2)
def ah_ins (mi pc : Nat) : Option (Instr × Nat) := (sm_tabs.getD mi []).lookup pc
def ah_jmp (pc : Nat) (off : Int) : Nat := ((pc : Int) + off).toNat
def ah_jok (pc : Nat) (off : Int) : Bool := decide (0 ≤ (pc : Int) + off)
def ah_cmp (co : Jvm.ClassFile.Cond) (x y : Int32) : Bool := match co with
  | .eq => decide (x = y) | .ne => decide (¬ x = y) | .lt => decide (x < y) | .ge => decide (y ≤ x) | .gt => decide (y < x) | .le => decide (x ≤ y)
/-- the end of a method -/
def ah_end (mi : Nat) (i : Instr) (len : Nat) (st : List AV) (h : AHp) : Option (Option Int32 × AHp) := match i with
  | .ireturn => match st with
    | [.inl x] => if len = 1 ∧ (sm_ret.getD mi 9 = 1 ∨ (sm_ret.getD mi 9 = 2 ∧ (x = 0 ∨ x = 1))) then some (some x, h) else none
    | _ => none
  | .return_ => match st with
    | [] => if len = 1 ∧ sm_ret.getD mi 9 = 0 then some (none, h) else none
    | _ => none
  | _ => none
/-- a call: the callee, its arguments, the rest of the stack -/
def ah_call (mi : Nat) (i : Instr) (len : Nat) (st : List AV) : Option (Nat × List AV × List AV) := match i with
  | .invokevirtual idx => match ah_mth (sm_own.getD mi 9) idx with
    | some y => match st[sm_n.getD y 0]? with
      | some (.inr (k, _)) => if len = 3 ∧ mi < 92 ∧ y < 92 ∧ sm_st.getD y 9 = 0 ∧ ah_cls k = some (sm_own.getD y 9) ∧ sm_fr.getD y 99 + 1 ≤ sm_fr.getD mi 0 ∧ 8 + (sm_L.getD y 0 + 11) + sm_lo.getD y 999 ≤ sm_lo.getD mi 0 ∧ (st.drop (sm_n.getD y 0 + 1)).length ≤ 8 ∧ sm_n.getD y 0 + 1 ≤ sm_L.getD y 0
          then some (y, (st.take (sm_n.getD y 0 + 1)).reverse, st.drop (sm_n.getD y 0 + 1)) else none
      | _ => none
    | none => none
  | .invokestatic idx => match ah_mth (sm_own.getD mi 9) idx with
    | some y => if len = 3 ∧ mi < 92 ∧ y < 92 ∧ sm_st.getD y 9 = 1 ∧ sm_n.getD y 0 ≤ st.length ∧ sm_fr.getD y 99 + 1 ≤ sm_fr.getD mi 0 ∧ 8 + (sm_L.getD y 0 + 11) + sm_lo.getD y 999 ≤ sm_lo.getD mi 0 ∧ (st.drop (sm_n.getD y 0)).length ≤ 8 ∧ sm_n.getD y 0 ≤ sm_L.getD y 0
          then some (y, (st.take (sm_n.getD y 0)).reverse, st.drop (sm_n.getD y 0)) else none
    | none => none
  | _ => none
abbrev AF : Type := Nat × List (Option AV) × List AV × AHp
def ah_load (n len pc : Nat) (ls : List (Option AV)) (st : List AV) (h : AHp) (ref : Bool) : Option AF := match ls[n]? with
  | some (some v) => if v.isRight = ref then some (pc + len, ls, v :: st, h) else none
  | _ => none
def ah_store (n len pc : Nat) (ls : List (Option AV)) (st : List AV) (h : AHp) (ref : Bool) : Option AF := match st with
  | v :: st => if n < ls.length ∧ v.isRight = ref then some (pc + len, ls.set n (some v), st, h) else none
  | _ => none
def ah_bin (len pc : Nat) (ls : List (Option AV)) (st : List AV) (h : AHp) (f : Int32 → Int32 → Int32) : Option AF := match st with
  | .inl y :: .inl x :: st => some (pc + len, ls, .inl (f x y) :: st, h)
  | _ => none
def ah_step (mi : Nat) (i : Instr) (len pc : Nat) (ls : List (Option AV)) (st : List AV) (h : AHp) : Option AF := match i with
  | .iconst n => if len = 1 then some (pc + 1, ls, .inl (Int32.ofInt n) :: st, h) else none
  | .bipush n => if len = 2 then some (pc + 2, ls, .inl (Int8.ofInt n).toInt32 :: st, h) else none
  | .sipush n => if len = 3 then some (pc + 3, ls, .inl (Int16.ofInt n).toInt32 :: st, h) else none
  | .ldc idx => match ah_cst (sm_own.getD mi 9) idx with | some v => if len = 2 then some (pc + 2, ls, .inl v :: st, h) else none | none => none
  | .ldc_w idx => match ah_cst (sm_own.getD mi 9) idx with | some v => if len = 3 then some (pc + 3, ls, .inl v :: st, h) else none | none => none
  | .iload_n n => if len = 1 then ah_load n.val 1 pc ls st h false else none
  | .iload n => if len = 2 then ah_load n 2 pc ls st h false else none
  | .aload_n n => if len = 1 then ah_load n.val 1 pc ls st h true else none
  | .aload n => if len = 2 then ah_load n 2 pc ls st h true else none
  | .istore_n n => if len = 1 then ah_store n.val 1 pc ls st h false else none
  | .istore n => if len = 2 then ah_store n 2 pc ls st h false else none
  | .astore_n n => if len = 1 then ah_store n.val 1 pc ls st h true else none
  | .astore n => if len = 2 then ah_store n 2 pc ls st h true else none
  | .iinc n k => match ls[n]? with | some (some (.inl x)) => if len = 3 then some (pc + 3, ls.set n (some (.inl (x + Int32.ofInt k))), st, h) else none | _ => none
  | .iadd => if len = 1 then ah_bin 1 pc ls st h (fun x y => x + y) else none
  | .isub => if len = 1 then ah_bin 1 pc ls st h (fun x y => x - y) else none
  | .imul => if len = 1 then ah_bin 1 pc ls st h (fun x y => x * y) else none
  | .iand => if len = 1 then ah_bin 1 pc ls st h (fun x y => x &&& y) else none
  | .ixor => if len = 1 then ah_bin 1 pc ls st h (fun x y => x ^^^ y) else none
  | .ishr => if len = 1 then ah_bin 1 pc ls st h (fun x y => x >>> (y &&& 31)) else none
  | .iushr => if len = 1 then ah_bin 1 pc ls st h (fun x y => (x.toUInt32 >>> (y.toUInt32 &&& Int32.toUInt32 31)).toInt32) else none
  | .idiv => match st with | .inl y :: _ => if len = 1 ∧ ¬ y = 0 then ah_bin 1 pc ls st h (fun x y => x / y) else none | _ => none
  | .dup => match st with | v :: st => if len = 1 then some (pc + 1, ls, v :: v :: st, h) else none | _ => none
  | .dup2 => match st with | v :: w :: st => if len = 1 then some (pc + 1, ls, v :: w :: v :: w :: st, h) else none | _ => none
  | .goto off => if len = 3 ∧ ah_jok pc off = true then some (ah_jmp pc off, ls, st, h) else none
  | .ifCond co off => match st with | .inl x :: st => if len = 3 ∧ ah_jok pc off = true then (if ah_cmp co x 0 = true then some (ah_jmp pc off, ls, st, h) else some (pc + 3, ls, st, h)) else none | _ => none
  | .if_icmp co off => match st with | .inl y :: .inl x :: st => if len = 3 ∧ ah_jok pc off = true then (if ah_cmp co x y = true then some (ah_jmp pc off, ls, st, h) else some (pc + 3, ls, st, h)) else none | _ => none
  | .tableswitch d lo hi offs => match st with
    | .inl x :: st => if x.toInt < lo ∨ hi < x.toInt then (if ah_jok pc d = true then some (ah_jmp pc d, ls, st, h) else none)
        else match offs[(x.toInt - lo).toNat]? with | some off => if ah_jok pc off = true then some (ah_jmp pc off, ls, st, h) else none | none => none
    | _ => none
  | .getfield idx => match st with
    | .inr (k, n) :: st => match ah_fld (sm_own.getD mi 9) idx with
      | some (c, j) => if len = 3 ∧ ah_cls k = some c ∧ j < ah_nf c then some (pc + 3, ls, (if ah_tgt c j = 0 then .inl (h k n j) else .inr (ah_tgt c j, n)) :: st, h) else none
      | none => none
    | _ => none
  | .putfield idx => match st with
    | .inl v :: .inr (k, n) :: st => match ah_fld (sm_own.getD mi 9) idx with
      | some (c, j) => if len = 3 ∧ ah_cls k = some c ∧ j < ah_nf c ∧ ah_tgt c j = 0 then some (pc + 3, ls, st, ah_up h k n j v) else none
      | none => none
    | _ => none
  | .iaload => match st with
    | .inl x :: .inr (k, n) :: st => match ah_ilen k with | some N => if len = 1 ∧ ¬ (x < 0 ∨ N ≤ x.toNatClampNeg) then some (pc + 1, ls, .inl (h k n x.toNatClampNeg) :: st, h) else none | none => none
    | _ => none
  | .baload => match st with
    | .inl x :: .inr (k, n) :: st => match ah_zlen k with | some N => if len = 1 ∧ ¬ (x < 0 ∨ N ≤ x.toNatClampNeg) then some (pc + 1, ls, .inl (h k n x.toNatClampNeg) :: st, h) else none | none => none
    | _ => none
  | .aaload => match st with
    | .inl x :: .inr (k, _) :: st => match ah_rlen k with | some (N, kt) => if len = 1 ∧ ¬ (x < 0 ∨ N ≤ x.toNatClampNeg) then some (pc + 1, ls, .inr (kt, x.toNatClampNeg) :: st, h) else none | none => none
    | _ => none
  | .iastore => match st with
    | .inl v :: .inl x :: .inr (k, n) :: st => match ah_ilen k with | some N => if len = 1 ∧ ¬ (x < 0 ∨ N ≤ x.toNatClampNeg) then some (pc + 1, ls, st, ah_up h k n x.toNatClampNeg v) else none | none => none
    | _ => none
  | .bastore => match st with
    | .inl v :: .inl x :: .inr (k, n) :: st => match ah_zlen k with | some N => if len = 1 ∧ ¬ (x < 0 ∨ N ≤ x.toNatClampNeg) ∧ (v = 0 ∨ v = 1) then some (pc + 1, ls, st, ah_up h k n x.toNatClampNeg v) else none | none => none
    | _ => none
  | .arraylength => match st with
    | .inr (k, _) :: st => match ah_ilen k with | some N => if len = 1 then some (pc + 1, ls, .inl (Int32.ofNat N) :: st, h) else none | none => none
    | _ => none
  | _ => none
def ah_entry (y : Nat) (as : List AV) : List (Option AV) := as.map some ++ List.replicate (sm_L.getD y 0 - as.length) none
def ah_run : Nat → Nat → Nat → List (Option AV) → List AV → AHp → Option (Option Int32 × AHp)
  | 0, _, _, _, _, _ => none
  | n + 1, mi, pc, ls, st, h => match ah_ins mi pc with
    | none => none
    | some (i, len) => match ah_end mi i len st h with
      | some r => some r
      | none => match ah_call mi i len st with
        | some (y, as, rest) => match ah_run n y 0 (ah_entry y as) [] h with
          | some (r, h') => ah_run n mi (pc + 3) ls (r.toList.map Sum.inl ++ rest) h'
          | none => none
        | none => match ah_step mi i len pc ls st h with
          | some (pc', ls', st', h') => ah_run n mi pc' ls' st' h'
          | none => none
theorem ah_mono : ∀ (n : Nat) {mi pc : Nat} {ls : List (Option AV)} {st : List AV} {h : AHp} {r : Option Int32 × AHp}, ah_run n mi pc ls st h = some r → ∀ k, ah_run (n + k) mi pc ls st h = some r := by
  intro n
  induction n with
  | zero => intro mi pc ls st h r e; simp [ah_run] at e
  | succ n ih =>
    intro mi pc ls st h r e k
    rw [show n + 1 + k = (n + k) + 1 by omega]
    simp only [ah_run] at e ⊢
    cases hi : ah_ins mi pc with
    | none => rw [hi] at e; cases e
    | some il =>
      obtain ⟨i, len⟩ := il
      simp only [hi] at e ⊢
      cases he : ah_end mi i len st h with
      | some r' => simp only [he] at e ⊢; exact e
      | none =>
        simp only [he] at e ⊢
        cases hc : ah_call mi i len st with
        | some q =>
          obtain ⟨y, as, rest⟩ := q
          simp only [hc] at e ⊢
          cases h1 : ah_run n y 0 (ah_entry y as) [] h with
          | none => simp only [h1] at e; cases e
          | some q1 =>
            simp only [h1] at e
            rw [ih h1 k]
            exact ih e k
        | none =>
          simp only [hc] at e ⊢
          cases hs : ah_step mi i len pc ls st h with
          | none => simp only [hs] at e; cases e
          | some q =>
            simp only [hs] at e ⊢
            exact ih e k
/-- from here on the method comes to its end, with Q of answer and cells -/
def VV (mi : Nat) (h : AHp) (pc : Nat) (ls : List (Option AV)) (st : List AV) (Q : Option Int32 → AHp → Prop) : Prop := ∃ n r h', ah_run n mi pc ls st h = some (r, h') ∧ Q r h'
def Vi (mi : Nat) (h : AHp) (ls : List (Option AV)) (K : Int32 → AHp → Prop) : Prop := VV mi h 0 ls [] (fun r h' => ∃ x, r = some x ∧ K x h')
def Vv (mi : Nat) (h : AHp) (ls : List (Option AV)) (K : AHp → Prop) : Prop := VV mi h 0 ls [] (fun r h' => r = none ∧ K h')
theorem VV_mono {mi pc : Nat} {h : AHp} {ls : List (Option AV)} {st : List AV} {Q Q' : Option Int32 → AHp → Prop} (hq : ∀ r h', Q r h' → Q' r h') (v : VV mi h pc ls st Q) : VV mi h pc ls st Q' := by
  obtain ⟨n, r, h', e, q⟩ := v
  exact ⟨n, r, h', e, hq _ _ q⟩
theorem Vi_mono {mi : Nat} {h : AHp} {ls : List (Option AV)} {K K' : Int32 → AHp → Prop} (hk : ∀ x h', K x h' → K' x h') (v : Vi mi h ls K) : Vi mi h ls K' := VV_mono (fun _ h' q => by obtain ⟨x, e, k⟩ := q; exact ⟨x, e, hk x h' k⟩) v
theorem Vv_mono {mi : Nat} {h : AHp} {ls : List (Option AV)} {K K' : AHp → Prop} (hk : ∀ h', K h' → K' h') (v : Vv mi h ls K) : Vv mi h ls K' := VV_mono (fun _ h' q => ⟨q.1, hk h' q.2⟩) v
theorem ah_det {mi pc n1 n2 : Nat} {h : AHp} {ls : List (Option AV)} {st : List AV} {r1 r2 : Option Int32 × AHp} (e1 : ah_run n1 mi pc ls st h = some r1) (e2 : ah_run n2 mi pc ls st h = some r2) : r1 = r2 := by
  have a := ah_mono n1 e1 n2
  have b := ah_mono n2 e2 n1
  rw [Nat.add_comm] at b
  exact Option.some.inj (a.symm.trans b)
theorem Vi_iff {mi : Nat} {h h0 : AHp} {ls : List (Option AV)} {x0 : Int32} (v : Vi mi h ls (fun x h' => x = x0 ∧ h' = h0)) (K : Int32 → AHp → Prop) : Vi mi h ls K ↔ K x0 h0 := by
  obtain ⟨n, r, h', e, x, rfl, rfl, rfl⟩ := v
  constructor
  · intro ⟨n2, r2, h2, e2, x2, er, k⟩
    have := ah_det e e2
    cases this
    cases er
    exact k
  · intro k
    exact ⟨n, _, _, e, _, rfl, k⟩
theorem Vv_iff {mi : Nat} {h h0 : AHp} {ls : List (Option AV)} (v : Vv mi h ls (fun h' => h' = h0)) (K : AHp → Prop) : Vv mi h ls K ↔ K h0 := by
  obtain ⟨n, r, h', e, rfl, rfl⟩ := v
  constructor
  · intro ⟨n2, r2, h2, e2, er, k⟩
    have := ah_det e e2
    cases this
    exact k
  · intro k
    exact ⟨n, _, _, e, rfl, k⟩
theorem VV_end {mi pc len : Nat} {i : Instr} {h : AHp} {ls : List (Option AV)} {st : List AV} {Q : Option Int32 → AHp → Prop} {r : Option Int32} (hi : ah_ins mi pc = some (i, len)) (he : ah_end mi i len st h = some (r, h)) : VV mi h pc ls st Q ↔ Q r h := by
  constructor
  · intro ⟨n, r2, h2, e, q⟩
    cases n with
    | zero => simp [ah_run] at e
    | succ n =>
      simp only [ah_run, hi, he] at e
      cases e
      exact q
  · intro q
    exact ⟨1, r, h, by simp only [ah_run, hi, he], q⟩
theorem VV_step {mi pc len pc' : Nat} {i : Instr} {h h' : AHp} {ls ls' : List (Option AV)} {st st' : List AV} {Q : Option Int32 → AHp → Prop} (hi : ah_ins mi pc = some (i, len)) (he : ah_end mi i len st h = none) (hc : ah_call mi i len st = none) (hs : ah_step mi i len pc ls st h = some (pc', ls', st', h')) : VV mi h pc ls st Q ↔ VV mi h' pc' ls' st' Q := by
  constructor
  · intro ⟨n, r2, h2, e, q⟩
    cases n with
    | zero => simp [ah_run] at e
    | succ n =>
      simp only [ah_run, hi, he, hc, hs] at e
      exact ⟨n, r2, h2, e, q⟩
  · intro ⟨n, r2, h2, e, q⟩
    exact ⟨n + 1, r2, h2, by simp only [ah_run, hi, he, hc, hs]; exact e, q⟩
theorem VV_no {mi pc len : Nat} {i : Instr} {h : AHp} {ls : List (Option AV)} {st : List AV} {Q : Option Int32 → AHp → Prop} (hi : ah_ins mi pc = some (i, len)) (he : ah_end mi i len st h = none) (hc : ah_call mi i len st = none) (hs : ah_step mi i len pc ls st h = none) : ¬ VV mi h pc ls st Q := by
  intro ⟨n, r2, h2, e, q⟩
  cases n with
  | zero => simp [ah_run] at e
  | succ n => simp only [ah_run, hi, he, hc, hs] at e; cases e
theorem VV_calli {mi pc len y : Nat} {i : Instr} {h : AHp} {ls : List (Option AV)} {st as rest : List AV} {Q : Option Int32 → AHp → Prop} (hi : ah_ins mi pc = some (i, len)) (he : ah_end mi i len st h = none) (hc : ah_call mi i len st = some (y, as, rest)) (hv : ∀ n h1 h2, ah_run n y 0 (ah_entry y as) [] h1 = some (none, h2) → False) : VV mi h pc ls st Q ↔ Vi y h (ah_entry y as) (fun x h' => VV mi h' (pc + 3) ls (.inl x :: rest) Q) := by
  constructor
  · intro ⟨n, r2, h2, e, q⟩
    cases n with
    | zero => simp [ah_run] at e
    | succ n =>
      simp only [ah_run, hi, he, hc] at e
      cases h1 : ah_run n y 0 (ah_entry y as) [] h with
      | none => simp only [h1] at e; cases e
      | some q1 =>
        obtain ⟨r, h'⟩ := q1
        simp only [h1] at e
        cases r with
        | none => exact (hv _ _ _ h1).elim
        | some x => exact ⟨n, some x, h', h1, x, rfl, n, r2, h2, e, q⟩
  · intro ⟨n, r, h', e1, x, er, n2, r2, h2, e2, q⟩
    subst er
    refine ⟨(n + n2) + 1, r2, h2, ?_, q⟩
    simp only [ah_run, hi, he, hc]
    rw [ah_mono n e1 n2]
    have := ah_mono n2 e2 n
    rw [Nat.add_comm] at this
    exact this
theorem VV_callv {mi pc len y : Nat} {i : Instr} {h : AHp} {ls : List (Option AV)} {st as rest : List AV} {Q : Option Int32 → AHp → Prop} (hi : ah_ins mi pc = some (i, len)) (he : ah_end mi i len st h = none) (hc : ah_call mi i len st = some (y, as, rest)) (hv : ∀ n h1 x h2, ah_run n y 0 (ah_entry y as) [] h1 = some (some x, h2) → False) : VV mi h pc ls st Q ↔ Vv y h (ah_entry y as) (fun h' => VV mi h' (pc + 3) ls rest Q) := by
  constructor
  · intro ⟨n, r2, h2, e, q⟩
    cases n with
    | zero => simp [ah_run] at e
    | succ n =>
      simp only [ah_run, hi, he, hc] at e
      cases h1 : ah_run n y 0 (ah_entry y as) [] h with
      | none => simp only [h1] at e; cases e
      | some q1 =>
        obtain ⟨r, h'⟩ := q1
        simp only [h1] at e
        cases r with
        | some x => exact (hv _ _ _ _ h1).elim
        | none => exact ⟨n, none, h', h1, rfl, n, r2, h2, e, q⟩
  · intro ⟨n, r, h', e1, er, n2, r2, h2, e2, q⟩
    subst er
    refine ⟨(n + n2) + 1, r2, h2, ?_, q⟩
    simp only [ah_run, hi, he, hc]
    rw [ah_mono n e1 n2]
    have := ah_mono n2 e2 n
    rw [Nat.add_comm] at this
    exact this
/-- what a method gives back is as its head says -/
theorem ah_kind : ∀ (n : Nat) {mi pc : Nat} {ls : List (Option AV)} {st : List AV} {h : AHp} {r : Option Int32} {h' : AHp}, ah_run n mi pc ls st h = some (r, h') → (r = none ↔ sm_ret.getD mi 9 = 0) := by
  intro n
  induction n with
  | zero => intro mi pc ls st h r h' e; simp [ah_run] at e
  | succ n ih =>
    intro mi pc ls st h r h' e
    simp only [ah_run] at e
    cases hi : ah_ins mi pc with
    | none => rw [hi] at e; cases e
    | some il =>
      obtain ⟨i, len⟩ := il
      simp only [hi] at e
      cases he : ah_end mi i len st h with
      | some r' =>
        simp only [he] at e
        cases e
        unfold ah_end at he
        split at he
        · split at he
          · split at he
            · rename_i hh
              cases he
              constructor
              · intro z; cases z
              · intro z; rw [z] at hh; simp at hh
            · cases he
          · cases he
        · split at he
          · split at he
            · rename_i hh
              cases he
              exact ⟨fun _ => hh.2, fun _ => rfl⟩
            · cases he
          · cases he
        · cases he
      | none =>
        simp only [he] at e
        cases hc : ah_call mi i len st with
        | some q =>
          obtain ⟨y, as, rest⟩ := q
          simp only [hc] at e
          cases h1 : ah_run n y 0 (ah_entry y as) [] h with
          | none => simp only [h1] at e; cases e
          | some q1 =>
            simp only [h1] at e
            exact ih e
        | none =>
          simp only [hc] at e
          cases hs : ah_step mi i len pc ls st h with
          | none => simp only [hs] at e; cases e
          | some q =>
            simp only [hs] at e
            exact ih e
theorem ah_noV {y : Nat} (hy : ¬ sm_ret.getD y 9 = 0) {as : List AV} : ∀ n h1 h2, ah_run n y 0 (ah_entry y as) [] h1 = some (none, h2) → False := fun n _ _ e => hy ((ah_kind n e).mp rfl)
theorem ah_noI {y : Nat} (hy : sm_ret.getD y 9 = 0) {as : List AV} : ∀ n h1 x h2, ah_run n y 0 (ah_entry y as) [] h1 = some (some x, h2) → False := fun n _ _ _ e => by
  have := (ah_kind n e).mpr hy
  cases this
