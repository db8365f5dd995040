/-! ===== unlike places, the nearest model ===== -/
theorem nx_and (a b : Nat) : nI a &&& nI b = nI (a &&& b) := by
  apply Int32.toBitVec_inj.1
  show BitVec.ofNat 32 a &&& BitVec.ofNat 32 b = BitVec.ofNat 32 (a &&& b)
  apply BitVec.eq_of_getLsbD_eq
  intro i hi
  simp [hi]
def bc_us (x : Int32) (k : Int32) : Int32 := (x.toUInt32 >>> (k.toUInt32 &&& Int32.toUInt32 31)).toInt32
def bcI (x : Int32) : Int32 :=
  let a := x - (bc_us x 1 &&& 1431655765)
  let b := (a &&& 858993459) + (bc_us a 2 &&& 858993459)
  let c := (b + bc_us b 4) &&& 252645135
  let d := c + bc_us c 8
  (d + bc_us d 16) &&& 63
theorem bcI_ok {v : Nat} (hv : v < 65536) : bcI (nI v) = nI (sp_pop v 16) := by
  have h1 : bcN v = sp_pop v 16 := by
    have := bcN_ok (v / 256) (by omega) (v % 256) (by omega)
    rw [show 256 * (v / 256) + v % 256 = v by omega] at this
    exact this
  rw [← h1]
  have us : ∀ {n : Nat}, n < 2 ^ 32 → bc_us (nI n) 1 = nI (n / 2) ∧ bc_us (nI n) 2 = nI (n / 4) ∧ bc_us (nI n) 4 = nI (n / 16) ∧ bc_us (nI n) 8 = nI (n / 256) ∧ bc_us (nI n) 16 = nI (n / 65536) := by
    intro n hn
    exact ⟨pk_ushrN hn 1 1 (by decide), pk_ushrN hn 2 2 (by decide), pk_ushrN hn 4 4 (by decide), pk_ushrN hn 8 8 (by decide), pk_ushrN hn 16 16 (by decide)⟩
  have c1 : (1431655765 : Int32) = nI 1431655765 := rfl
  have c2 : (858993459 : Int32) = nI 858993459 := rfl
  have c3 : (252645135 : Int32) = nI 252645135 := rfl
  have c4 : (63 : Int32) = nI 63 := rfl
  have e1 : (v / 2 &&& 1431655765) ≤ v := Nat.le_trans (Nat.and_le_left) (by omega)
  unfold bcI bcN
  simp only
  rw [(us (show v < 2 ^ 32 by omega)).1, c1, nx_and, pk_sub e1]
  generalize ha : v - (v / 2 &&& 1431655765) = a
  have ha2 : a < 65536 := by omega
  rw [(us (show a < 2 ^ 32 by omega)).2.1, c2, nx_and, nx_and, nI_add]
  have hb1 : (a &&& 858993459) ≤ a := Nat.and_le_left
  have hb2 : (a / 4 &&& 858993459) ≤ a / 4 := Nat.and_le_left
  generalize hb : (a &&& 858993459) + (a / 4 &&& 858993459) = b
  have hb3 : b < 131072 := by omega
  rw [(us (show b < 2 ^ 32 by omega)).2.2.1, nI_add, c3, nx_and]
  have hc1 : ((b + b / 16) &&& 252645135) ≤ b + b / 16 := Nat.and_le_left
  generalize hc : ((b + b / 16) &&& 252645135) = c
  have hc2 : c < 262144 := by omega
  rw [(us (show c < 2 ^ 32 by omega)).2.2.2.1, nI_add]
  generalize hd : c + c / 256 = d
  have hd2 : d < 524288 := by omega
  rw [(us (show d < 2 ^ 32 by omega)).2.2.2.2, nI_add, c4, nx_and]
theorem c_J6_bitCount (h : AHp) (x : Int32) (K : Int32 → AHp → Prop) : Vi 45 h [some (.inl x)] K ↔ K (bcI x) h := by
  rw [Vi]
  simp only [xr_45_0, xr_45_1, xr_45_2, xr_45_3, xr_45_4, xr_45_7, xr_45_8, xr_45_9, xr_45_10, xr_45_11, xr_45_14, xr_45_15, xr_45_16, xr_45_17, xr_45_18, xr_45_21, xr_45_22, xr_45_23, xr_45_24, xr_45_25, xr_45_26, xr_45_27, xr_45_28, xr_45_29, xr_45_32, xr_45_33, xr_45_34, xr_45_35, xr_45_36, xr_45_38, xr_45_39, xr_45_40, xr_45_41, xr_45_42, xr_45_43, xr_45_45, xr_45_46, xr_45_47, xr_45_48, xr_45_49, xr_45_51, xr_45_52, ex_some]
  exact Iff.rfl
theorem sh_l : ∀ n, n < 32 → ((nI n &&& 31).toBitVec.smod 32).toNat = n := by decide +kernel
theorem c_X3_unlike (h : AHp) {x y : Int32} {v : Nat} (hv : v < 65536) (e : x ^^^ y = nI v) (K : Int32 → AHp → Prop) : Vi 81 h [some (.inl x), some (.inl y), none, none] K ↔ K (nI (sp_pop v 16)) h := by
  rw [Vi]
  simp only [xr_81_0, xr_81_1, xr_81_2, xr_81_3]
  refine Iff.trans (it0 (V := fun i => VV 81 h 4 [some (.inl x), some (.inl y), some (.inl (nI (sp_pop v i))), some (.inl (nI i))] [] (fun r h' => ∃ x, r = some x ∧ K x h')) 16 ?_) ?_
  · intro i hi
    have f1 : ¬ (16 : Int32) ≤ nI i := nI_ge (b := 16) hi (by omega)
    have f4 := nI_1 i
    have g1 : nI v >>> (nI i &&& 31) = nI (v / 2 ^ i) := pk_shrN (by omega) _ i (sh_l i (by omega))
    have g2 : nI (v / 2 ^ i) &&& 1 = nI (v / 2 ^ i % 2) := pk_andN (n := v / 2 ^ i) (by have := Nat.div_le_self v (2 ^ i); omega) 1 (by decide)
    rw [xr_81_4]
    simp only [xr_81_0, xr_81_1, xr_81_2, xr_81_3, xr_81_5, xr_81_7, xr_81_10, xr_81_11, xr_81_12, xr_81_13, xr_81_14, xr_81_15, xr_81_16, xr_81_17, xr_81_18, xr_81_19, xr_81_20, xr_81_23, xr_81_26, xr_81_27, e, f1, f4, g1, g2, nI_add, sp_pop, not_false_iff, true_imp_iff, false_imp_iff, true_and]
  · have f1 : (16 : Int32) ≤ nI 16 := Int32.le_refl _
    rw [xr_81_4]
    simp only [xr_81_0, xr_81_1, xr_81_2, xr_81_3, xr_81_5, xr_81_7, xr_81_10, xr_81_11, xr_81_12, xr_81_13, xr_81_14, xr_81_15, xr_81_16, xr_81_17, xr_81_18, xr_81_19, xr_81_20, xr_81_23, xr_81_26, xr_81_27, f1, not_true, false_imp_iff, true_imp_iff, and_true, ex_some]
def sp_nst (c : Bool) (d : Nat) (w : Int32) (st : Option (Int32 × Nat)) : Option (Int32 × Nat) := match st with
  | none => if c = true then some (w, d) else none
  | some u => if c = true ∧ d < u.2 then some (w, d) else some u
def sp_nq (pc er : Nat → Int32) (p : Int32) (v : Nat) : Nat → Option (Int32 × Nat)
  | 0 => none
  | n + 1 => sp_nst (decide (pc n = p)) (sp_pop (v ^^^ (er n).toNatClampNeg) 16) (nI n) (sp_nq pc er p v n)
def sp_nb (cb : Nat → Bool) (pg : Nat → Int32) (v : Nat) (st : Option (Int32 × Nat)) : Nat → Option (Int32 × Nat)
  | 0 => st
  | n + 1 => sp_nst (cb n) (sp_pop (v ^^^ (pg n).toNatClampNeg) 16) (-2 - nI n) (sp_nb cb pg v st n)
def sp_w (st : Option (Int32 × Nat)) : Int32 := match st with | none => -1 | some u => u.1
def sp_f (k : Nat) (st : Option (Int32 × Nat)) : Nat := match st with | none => k | some u => u.2
def sp_le (st : Option (Int32 × Nat)) : Prop := ∀ u, st = some u → u.2 ≤ 16
theorem sp_nst_le {c : Bool} {d : Nat} {w : Int32} {st : Option (Int32 × Nat)} (hd : d ≤ 16) (h : sp_le st) : sp_le (sp_nst c d w st) := by
  intro u hu
  cases st with
  | none =>
    simp only [sp_nst] at hu
    split at hu
    · cases hu; exact hd
    · cases hu
  | some u' =>
    simp only [sp_nst] at hu
    split at hu
    · cases hu; exact hd
    · cases hu; exact h u rfl
theorem sp_nq_le {pc er : Nat → Int32} {p : Int32} {v : Nat} : ∀ n, sp_le (sp_nq pc er p v n)
  | 0 => fun u h => by cases h
  | n + 1 => sp_nst_le (sp_pop_le _ _) (sp_nq_le n)
theorem sp_nb_le {cb : Nat → Bool} {pg : Nat → Int32} {v : Nat} {st : Option (Int32 × Nat)} (hs : sp_le st) : ∀ n, sp_le (sp_nb cb pg v st n)
  | 0 => hs
  | n + 1 => sp_nst_le (sp_pop_le _ _) (sp_nb_le hs n)
theorem sp_nq_congr {pc er pc' er' : Nat → Int32} {p : Int32} {v : Nat} : ∀ {n : Nat}, (∀ q, q < n → pc q = pc' q ∧ er q = er' q) → sp_nq pc er p v n = sp_nq pc' er' p v n
  | 0, _ => rfl
  | n + 1, h => by rw [sp_nq, sp_nq, sp_nq_congr (fun q hq => h q (by omega)), (h n (by omega)).1, (h n (by omega)).2]
theorem sp_nb_congr {cb cb' : Nat → Bool} {pg pg' : Nat → Int32} {v : Nat} {st : Option (Int32 × Nat)} : ∀ {n : Nat}, (∀ q, q < n → cb q = cb' q ∧ (cb q = true → pg q = pg' q)) → sp_nb cb pg v st n = sp_nb cb' pg' v st n
  | 0, _ => rfl
  | n + 1, h => by
    obtain ⟨h1, h2⟩ := h n (by omega)
    rw [sp_nb, sp_nb, sp_nb_congr (fun q hq => h q (by omega)), ← h1]
    by_cases c : cb n = true
    · rw [h2 c]
    · have c' : cb n = false := by simpa using c
      rw [c']
      cases sp_nb cb' pg' v st n <;> simp [sp_nst]
theorem sp_nq_ok {pc er : Nat → Int32} {p : Int32} {v : Nat} {u : Int32 × Nat} : ∀ {n : Nat}, sp_nq pc er p v n = some u → ∃ q, q < n ∧ u.1 = nI q ∧ pc q = p ∧ u.2 = sp_pop (v ^^^ (er q).toNatClampNeg) 16
  | 0, h => by cases h
  | n + 1, h => by
    rw [sp_nq] at h
    cases e : sp_nq pc er p v n with
    | none =>
      rw [e] at h
      simp only [sp_nst] at h
      split at h
      · rename_i c; cases h; exact ⟨n, by omega, rfl, by simpa using c, rfl⟩
      · cases h
    | some u' =>
      rw [e] at h
      simp only [sp_nst] at h
      split at h
      · rename_i c; cases h; exact ⟨n, by omega, rfl, by simpa using c.1, rfl⟩
      · cases h
        obtain ⟨q, q1, q2⟩ := sp_nq_ok e
        exact ⟨q, by omega, q2⟩
theorem sp_nb_ok {cb : Nat → Bool} {pg : Nat → Int32} {v : Nat} {st : Option (Int32 × Nat)} {u : Int32 × Nat} : ∀ {n : Nat}, sp_nb cb pg v st n = some u → st = some u ∨ ∃ q, q < n ∧ u.1 = -2 - nI q ∧ cb q = true ∧ u.2 = sp_pop (v ^^^ (pg q).toNatClampNeg) 16
  | 0, h => Or.inl h
  | n + 1, h => by
    rw [sp_nb] at h
    have key : (cb n = true ∧ u = (-2 - nI n, sp_pop (v ^^^ (pg n).toNatClampNeg) 16)) ∨ sp_nb cb pg v st n = some u := by
      cases e : sp_nb cb pg v st n with
      | none =>
        rw [e] at h
        simp only [sp_nst] at h
        split at h
        · rename_i c; exact Or.inl ⟨c, (Option.some.inj h).symm⟩
        · cases h
      | some u' =>
        rw [e] at h
        simp only [sp_nst] at h
        split at h
        · rename_i c; exact Or.inl ⟨c.1, (Option.some.inj h).symm⟩
        · exact Or.inr h
    rcases key with ⟨k1, k2⟩ | k
    · exact Or.inr ⟨n, by omega, by rw [k2], k1, by rw [k2]⟩
    · rcases sp_nb_ok k with z | ⟨q, q1, q2⟩
      · exact Or.inl z
      · exact Or.inr ⟨q, by omega, q2⟩
def sp_cb (a : AHp) (s p : Nat) : Nat → Bool := fun b => decide (¬ b = s ∧ ¬ a 7 b p = -1 ∧ a 9 b p ≤ a 8 s p)
def sp_np (a : AHp) (NQ NS s p : Nat) : Option (Int32 × Nat) := sp_nb (sp_cb a s p) (fun b => a 6 b p) (a 6 s p).toNatClampNeg (sp_nq (fun q => a 3 q 0) (fun q => a 3 q 1) (nI p) (a 6 s p).toNatClampNeg NQ) NS
section NR
variable {P NQ NS D : Nat} {a b : AHp} {s p : Nat}
set_option maxHeartbeats 4000000 in
theorem c_X2_nearest (c : cI P NQ NS D (fun _ => D) a) (hs : s < NS) (hp : p < P) (h7 : ¬ a 7 s p = -1) (K : Int32 → AHp → Prop) : Vi 46 a [some (.inr (0, 0)), some (.inl (nI s)), some (.inl (nI p)), none, none, none, none, none] K ↔ K (sp_w (sp_np a NQ NS s p)) a := by
  obtain ⟨⟨p1, p2, p3, p4, p5⟩, z2, z3, z4, z5, z6, z7⟩ := c.1
  have s1 : vp_in (nI s) 8 := vp_in_nI (by omega) (by omega)
  have s2 : (nI s).toNatClampNeg = s := nI_clamp (by omega)
  have q1 : vp_in (nI p) 8 := vp_in_nI (by omega) (by omega)
  have q2 : (nI p).toNatClampNeg = p := nI_clamp (by omega)
  obtain ⟨v, hv, ev⟩ := (c.2.2 s hs).2.2.2.2.1 p hp h7
  have ev2 : (nI v).toNatClampNeg = v := nI_clamp (by omega)
  rw [Vi]
  simp only [xr_46_0, xr_46_1, xr_46_4, xr_46_5_2, xr_46_6, xr_46_7, xr_46_8, xr_46_10, xr_46_12, xr_46_14, xr_46_15, s1, s2, true_and]
  unfold sp_np
  rw [ev, ev2]
  obtain ⟨t', e⟩ := it1 (V := fun i t => VV 46 a 17 [some (.inr (0, 0)), some (.inl (nI s)), some (.inl (nI p)), some (.inr (4, s)), some (.inl (sp_w (sp_nq (fun q => a 3 q 0) (fun q => a 3 q 1) (nI p) v i))), some (.inl (nI (sp_f 17 (sp_nq (fun q => a 3 q 0) (fun q => a 3 q 1) (nI p) v i)))), some (.inl (nI i)), t] [] (fun r h' => ∃ x, r = some x ∧ K x h')) NQ (by
    intro i t hi
    obtain ⟨f1, f2, f3, f4⟩ := lx hi p3 (by omega)
    obtain ⟨er, er1, er2⟩ := (c.2.1 i hi).2.1
    have ec : (nI er).toNatClampNeg = er := nI_clamp (by omega)
    have hb : bcI (nI v ^^^ nI er) = nI (sp_pop (v ^^^ er) 16) := by rw [nx_xor]; exact bcI_ok (nx_xor_lt hv er1)
    have hpl := sp_pop_le (v ^^^ er) 16
    have hle := sp_nq_le (pc := fun q => a 3 q 0) (er := fun q => a 3 q 1) (p := nI p) (v := v) i
    refine ⟨some (.inl (nI (sp_pop (v ^^^ er) 16))), ?_⟩
    rw [xr_46_17]
    simp only [xr_46_0, xr_46_1, xr_46_4, xr_46_5_1, xr_46_5_2, xr_46_6, xr_46_7, xr_46_8, xr_46_10, xr_46_12, xr_46_14, xr_46_15, xr_46_19, xr_46_20, xr_46_23, xr_46_26, xr_46_27, xr_46_30, xr_46_31, xr_46_32, xr_46_33, xr_46_36, xr_46_38_1, xr_46_38_2, xr_46_39, xr_46_42, xr_46_43, xr_46_46, xr_46_48, xr_46_49, xr_46_52, xr_46_54_1, xr_46_54_2, xr_46_55, xr_46_58, xr_46_59, xr_46_62, xr_46_64, xr_46_66, xr_46_69, xr_46_71, xr_46_73, xr_46_75, xr_46_77, xr_46_80, xr_46_83, xr_46_84, xr_46_88, xr_46_89, xr_46_92, xr_46_95, xr_46_96, xr_46_99, xr_46_100, xr_46_101, xr_46_102, xr_46_105, xr_46_107_1, xr_46_107_2, xr_46_108, xr_46_111, xr_46_112, xr_46_113, xr_46_114, xr_46_117, xr_46_119, xr_46_121, xr_46_122, xr_46_125, xr_46_126, xr_46_129, xr_46_131_1, xr_46_131_2, xr_46_132, xr_46_133, xr_46_134, xr_46_137, xr_46_138, xr_46_139, xr_46_142, xr_46_145, xr_46_147, xr_46_149, xr_46_152, xr_46_154, xr_46_156, xr_46_157, xr_46_159, xr_46_161, xr_46_163, xr_46_166, xr_46_169, xr_46_171, z3, f1, f2, f3, f4, q1, q2, ev, er2, ec, hb, c_J6_bitCount, ix_i6, true_and, not_false_iff, true_imp_iff, false_imp_iff, sp_nq]
    generalize sp_nq (fun q => a 3 q 0) (fun q => a 3 q 1) (nI p) v i = st at hle ⊢
    by_cases a1 : a 3 i 0 = nI p
    · cases st with
      | none =>
        have g1 : ¬ nI 17 ≤ nI (sp_pop (v ^^^ er) 16) := nI_ge (by omega) (by omega)
        simp [a1, sp_nst, sp_w, sp_f, g1]
      | some u =>
        have hu := hle u rfl
        have g1 : nI u.2 ≤ nI (sp_pop (v ^^^ er) 16) ↔ u.2 ≤ sp_pop (v ^^^ er) 16 := nI_leI (by omega) (by omega)
        by_cases g2 : u.2 ≤ sp_pop (v ^^^ er) 16
        · simp [a1, sp_nst, sp_w, sp_f, g1, g2, Nat.not_lt.mpr g2]
        · simp [a1, sp_nst, sp_w, sp_f, g1, g2, Nat.lt_of_not_le g2]
    · cases st <;> simp [a1, sp_nst, sp_w, sp_f]) none
  refine Iff.trans e ?_
  have hle1 := sp_nq_le (pc := fun q => a 3 q 0) (er := fun q => a 3 q 1) (p := nI p) (v := v) NQ
  generalize sp_nq (fun q => a 3 q 0) (fun q => a 3 q 1) (nI p) v NQ = st0 at hle1 ⊢
  rw [xr_46_17]
  simp only [xr_46_0, xr_46_1, xr_46_4, xr_46_5_1, xr_46_5_2, xr_46_6, xr_46_7, xr_46_8, xr_46_10, xr_46_12, xr_46_14, xr_46_15, xr_46_19, xr_46_20, xr_46_23, xr_46_26, xr_46_27, xr_46_30, xr_46_31, xr_46_32, xr_46_33, xr_46_36, xr_46_38_1, xr_46_38_2, xr_46_39, xr_46_42, xr_46_43, xr_46_46, xr_46_48, xr_46_49, xr_46_52, xr_46_54_1, xr_46_54_2, xr_46_55, xr_46_58, xr_46_59, xr_46_62, xr_46_64, xr_46_66, xr_46_69, xr_46_71, xr_46_73, xr_46_75, xr_46_77, xr_46_80, xr_46_83, xr_46_84, xr_46_88, xr_46_89, xr_46_92, xr_46_95, xr_46_96, xr_46_99, xr_46_100, xr_46_101, xr_46_102, xr_46_105, xr_46_107_1, xr_46_107_2, xr_46_108, xr_46_111, xr_46_112, xr_46_113, xr_46_114, xr_46_117, xr_46_119, xr_46_121, xr_46_122, xr_46_125, xr_46_126, xr_46_129, xr_46_131_1, xr_46_131_2, xr_46_132, xr_46_133, xr_46_134, xr_46_137, xr_46_138, xr_46_139, xr_46_142, xr_46_145, xr_46_147, xr_46_149, xr_46_152, xr_46_154, xr_46_156, xr_46_157, xr_46_159, xr_46_161, xr_46_163, xr_46_166, xr_46_169, xr_46_171, z3, lxe, not_true, false_imp_iff, true_imp_iff, and_true]
  obtain ⟨t2, e2⟩ := it1 (V := fun i t => VV 46 a 86 [some (.inr (0, 0)), some (.inl (nI s)), some (.inl (nI p)), some (.inr (4, s)), some (.inl (sp_w (sp_nb (sp_cb a s p) (fun b => a 6 b p) v st0 i))), some (.inl (nI (sp_f 17 (sp_nb (sp_cb a s p) (fun b => a 6 b p) v st0 i)))), some (.inl (nI i)), t] [] (fun r h' => ∃ x, r = some x ∧ K x h')) NS (by
    intro i t hi
    obtain ⟨f1, f2, f3, f4⟩ := lx hi p4 (by omega)
    have hle := sp_nb_le (cb := sp_cb a s p) (pg := fun b => a 6 b p) (v := v) hle1 i
    have gis : nI i = nI s ↔ i = s := nI_eq (by omega) (by omega)
    refine ⟨some (.inl (bcI (nI v ^^^ a 6 i p))), ?_⟩
    rw [xr_46_86]
    simp only [xr_46_0, xr_46_1, xr_46_4, xr_46_5_1, xr_46_5_2, xr_46_6, xr_46_7, xr_46_8, xr_46_10, xr_46_12, xr_46_14, xr_46_15, xr_46_19, xr_46_20, xr_46_23, xr_46_26, xr_46_27, xr_46_30, xr_46_31, xr_46_32, xr_46_33, xr_46_36, xr_46_38_1, xr_46_38_2, xr_46_39, xr_46_42, xr_46_43, xr_46_46, xr_46_48, xr_46_49, xr_46_52, xr_46_54_1, xr_46_54_2, xr_46_55, xr_46_58, xr_46_59, xr_46_62, xr_46_64, xr_46_66, xr_46_69, xr_46_71, xr_46_73, xr_46_75, xr_46_77, xr_46_80, xr_46_83, xr_46_84, xr_46_88, xr_46_89, xr_46_92, xr_46_95, xr_46_96, xr_46_99, xr_46_100, xr_46_101, xr_46_102, xr_46_105, xr_46_107_1, xr_46_107_2, xr_46_108, xr_46_111, xr_46_112, xr_46_113, xr_46_114, xr_46_117, xr_46_119, xr_46_121, xr_46_122, xr_46_125, xr_46_126, xr_46_129, xr_46_131_1, xr_46_131_2, xr_46_132, xr_46_133, xr_46_134, xr_46_137, xr_46_138, xr_46_139, xr_46_142, xr_46_145, xr_46_147, xr_46_149, xr_46_152, xr_46_154, xr_46_156, xr_46_157, xr_46_159, xr_46_161, xr_46_163, xr_46_166, xr_46_169, xr_46_171, z4, f1, f2, f3, f4, q1, q2, ev, gis, c_J6_bitCount, c_X1_hadBy, b01_z, ix_i6, ix_i8, true_and, not_false_iff, true_imp_iff, false_imp_iff, sp_nb, Classical.not_not]
    generalize sp_nb (sp_cb a s p) (fun b => a 6 b p) v st0 i = st at hle ⊢
    by_cases hcb : sp_cb a s p i = true
    · have hcb' : ¬ i = s ∧ ¬ a 7 i p = -1 ∧ a 9 i p ≤ a 8 s p := by simpa [sp_cb] using hcb
      obtain ⟨er, er1, er2⟩ := (c.2.2 i hi).2.2.2.2.1 p hp hcb'.2.1
      have ec : (nI er).toNatClampNeg = er := nI_clamp (by omega)
      have hb : bcI (nI v ^^^ nI er) = nI (sp_pop (v ^^^ er) 16) := by rw [nx_xor]; exact bcI_ok (nx_xor_lt hv er1)
      have hpl := sp_pop_le (v ^^^ er) 16
      rw [er2, hb, ec, hcb]
      obtain ⟨b1, b2, b3⟩ := hcb'
      cases st with
      | none =>
        have g1 : ¬ nI 17 ≤ nI (sp_pop (v ^^^ er) 16) := nI_ge (by omega) (by omega)
        simp [b1, b2, b3, sp_nst, sp_w, sp_f, g1]
      | some u =>
        have hu := hle u rfl
        have g1 : nI u.2 ≤ nI (sp_pop (v ^^^ er) 16) ↔ u.2 ≤ sp_pop (v ^^^ er) 16 := nI_leI (by omega) (by omega)
        by_cases g2 : u.2 ≤ sp_pop (v ^^^ er) 16
        · simp [b1, b2, b3, sp_nst, sp_w, sp_f, g1, g2, Nat.not_lt.mpr g2]
        · simp [b1, b2, b3, sp_nst, sp_w, sp_f, g1, g2, Nat.lt_of_not_le g2]
    · have hcf : sp_cb a s p i = false := by simpa using hcb
      rw [hcf]
      by_cases b1 : i = s
      · cases st <;> simp [b1, sp_nst, sp_w, sp_f]
      · have b2 : ¬ (¬ a 7 i p = -1 ∧ a 9 i p ≤ a 8 s p) := fun zz => hcb (by simp [sp_cb, b1, zz.1, zz.2])
        cases st <;> simp only [b1, b2, sp_nst, sp_w, sp_f, not_false_iff, not_true, true_imp_iff, false_imp_iff, true_and, and_true, false_and, if_false, Bool.false_eq_true]) t'
  refine Iff.trans e2 ?_
  rw [xr_46_86]
  simp only [xr_46_0, xr_46_1, xr_46_4, xr_46_5_1, xr_46_5_2, xr_46_6, xr_46_7, xr_46_8, xr_46_10, xr_46_12, xr_46_14, xr_46_15, xr_46_19, xr_46_20, xr_46_23, xr_46_26, xr_46_27, xr_46_30, xr_46_31, xr_46_32, xr_46_33, xr_46_36, xr_46_38_1, xr_46_38_2, xr_46_39, xr_46_42, xr_46_43, xr_46_46, xr_46_48, xr_46_49, xr_46_52, xr_46_54_1, xr_46_54_2, xr_46_55, xr_46_58, xr_46_59, xr_46_62, xr_46_64, xr_46_66, xr_46_69, xr_46_71, xr_46_73, xr_46_75, xr_46_77, xr_46_80, xr_46_83, xr_46_84, xr_46_88, xr_46_89, xr_46_92, xr_46_95, xr_46_96, xr_46_99, xr_46_100, xr_46_101, xr_46_102, xr_46_105, xr_46_107_1, xr_46_107_2, xr_46_108, xr_46_111, xr_46_112, xr_46_113, xr_46_114, xr_46_117, xr_46_119, xr_46_121, xr_46_122, xr_46_125, xr_46_126, xr_46_129, xr_46_131_1, xr_46_131_2, xr_46_132, xr_46_133, xr_46_134, xr_46_137, xr_46_138, xr_46_139, xr_46_142, xr_46_145, xr_46_147, xr_46_149, xr_46_152, xr_46_154, xr_46_156, xr_46_157, xr_46_159, xr_46_161, xr_46_163, xr_46_166, xr_46_169, xr_46_171, z4, lxe, not_true, false_imp_iff, true_imp_iff, and_true, ex_some]
end NR
