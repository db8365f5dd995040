/-! ===== finish ===== -/
def sp_eA (NS : Nat) (a : AHp) : Prop := sp_cnt (fun s => decide (a 0 0 2 ≤ a 4 s 6)) NS = NS
def md_eM (P NS : Nat) (b : AHp) : Prop := sp_cnt (fun s => decide (sp_cnt (md_has b s) P = P)) NS = NS
section FN
variable {P NQ NS D : Nat} {E : Nat → Nat} {a b : AHp} {s : Nat}
theorem cI_weak {E' : Nat → Nat} (c : cI P NQ NS D E a) (h : ∀ t, t < NS → E' t ≤ E t) : cI P NQ NS D E' a := by
  refine ⟨c.1, c.2.1, fun t ht => ?_⟩
  obtain ⟨i1, i2, i3, i4, i5, i6⟩ := c.2.2 t ht
  refine ⟨i1, i2, i3, i4, i5, ?_⟩
  rcases i6 with i6 | ⟨q, p, er, d, pc, j1, j2, j3, j4, j5, j6, j7, j8, j9, j10, j11, j12, j13, j14⟩
  · exact Or.inl i6
  · exact Or.inr ⟨q, p, er, d, pc, j1, j2, j3, j4, j5, j6, j7, j8, j9, j10, j11, j12, Nat.le_trans (h t ht) j13, j14⟩
theorem eM_iff (c : cI P NQ NS D (fun _ => D) a) (r : rI NQ NS a b) : md_eM P NS b ↔ sp_eA NS a := by
  unfold md_eM sp_eA
  rw [ended_eq c r NS (Nat.le_refl NS)]
theorem eA_up (v : Int32) : sp_eA NS (ah_up a 0 0 5 v) ↔ sp_eA NS a := Iff.rfl
theorem c_X3_allEnded (hS : b 10 0 6 = nI NS) (h8 : NS ≤ 8) (hP : b 10 0 0 = nI P) (hP8 : P ≤ 8) (K : Int32 → AHp → Prop) (dc : Decidable (md_eM P NS b)) : Vi 76 b [some (.inr (10, 0)), none] K ↔ K (if md_eM P NS b then 1 else 0) b := by
  rw [Vi]
  simp only [xr_76_0, xr_76_1]
  have key : ∀ (k i : Nat), i + k = NS → sp_cnt (fun s => decide (sp_cnt (md_has b s) P = P)) i = i → (VV 76 b 2 [some (.inr (10, 0)), some (.inl (nI i))] [] (fun r h' => ∃ x, r = some x ∧ K x h') ↔ K (if md_eM P NS b then 1 else 0) b) := by
    intro k
    induction k with
    | zero =>
      intro i hi hn
      rw [Nat.add_zero] at hi
      subst hi
      have he : md_eM P i b := hn
      rw [xr_76_2]
      simp only [xr_76_0, xr_76_1, xr_76_3, xr_76_4, xr_76_7, xr_76_10, xr_76_11, xr_76_12, xr_76_15, xr_76_16, xr_76_19, xr_76_22, xr_76_23, xr_76_24, xr_76_27, xr_76_30, xr_76_31, hS, lxe, not_true, false_imp_iff, true_imp_iff, and_true, ex_some, or_true, true_and, if_pos he]
    | succ k ih =>
      intro i hi hn
      obtain ⟨f1, f2, f3, f4⟩ := lx (show i < NS by omega) h8 (by omega)
      have hle := sp_cnt_le (md_has b i) P
      have gl : nI P ≤ nI (sp_cnt (md_has b i) P) ↔ P ≤ sp_cnt (md_has b i) P := nI_leI (by omega) (by omega)
      rw [xr_76_2]
      simp only [xr_76_0, xr_76_1, xr_76_3, xr_76_4, xr_76_7, xr_76_10, xr_76_11, xr_76_12, xr_76_15, xr_76_16, xr_76_19, xr_76_22, xr_76_23, xr_76_24, xr_76_27, xr_76_30, xr_76_31, hS, hP, f1, f2, f3, f4, c_X3_hasMany b P i _ (show i < 8 by omega) hP hP8, gl, true_and, not_false_iff, true_imp_iff, false_imp_iff, ex_some]
      by_cases c9 : P ≤ sp_cnt (md_has b i) P
      · have h1 : sp_cnt (fun s => decide (sp_cnt (md_has b s) P = P)) (i + 1) = i + 1 := by
          rw [sp_cnt, hn, if_pos (by simp; omega)]
        have := ih (i + 1) (by omega) h1
        simp only [c9, not_true, false_imp_iff, true_imp_iff, and_true]
        exact this
      · have hne : ¬ md_eM P NS b := by
          intro z
          have := sp_cnt_all.mp z i (by omega)
          simp at this
          omega
        simp only [c9, not_false_iff, false_imp_iff, true_imp_iff, true_and, if_neg hne]
        simp
  exact key NS 0 (by omega) rfl
theorem fin_cls {m n : Nat} (hm : m ≤ 9999) (hn : n ≤ 999) : ∀ (k : Nat) (a : AHp) (D gone : Nat), cI P NQ NS D (fun _ => D) a → D ≤ m → m - D ≤ k → gone + k = n → ∀ (Q : Option Int32 → AHp → Prop), (∀ a' D', D ≤ D' → D' ≤ m → cI P NQ NS D' (fun _ => D') a' → (D' = m ∨ sp_eA NS a') → (∀ b, rI NQ NS a b → rI NQ NS a' (md_its P NQ NS D b (D' - D)) ∧ ∀ j, j < D' - D → ¬ md_eM P NS (md_its P NQ NS D b j)) → (∀ j, 10 ≤ j → a' j = a j) → Q (some (nI D')) a') → VV 39 a 22 [some (.inr (0, 0)), some (.inl (nI n)), some (.inl (nI m)), some (.inl (nI gone))] [] Q := by
  intro k
  induction k with
  | zero =>
    intro a D gone c hD hk hg Q hQ
    have e : D = m := by omega
    subst e
    have z5 := c.1.2.2.2.2.1
    rw [show gone = n by omega, xr_39_22]
    simp only [xr_39_0, xr_39_1, xr_39_2, xr_39_5, xr_39_8, xr_39_11, xr_39_12, xr_39_13, xr_39_14, xr_39_17, xr_39_18, xr_39_19, xr_39_20, xr_39_21, xr_39_23, xr_39_24, xr_39_27, xr_39_28, xr_39_31, xr_39_32, xr_39_35, xr_39_36, xr_39_39, xr_39_42, xr_39_43, xr_39_46, xr_39_47, xr_39_50, xr_39_53, xr_39_54, xr_39_55, xr_39_58, xr_39_61, xr_39_64, xr_39_65, xr_39_68, lxe, not_true, false_imp_iff, true_imp_iff, and_true, z5]
    refine hQ a D (Nat.le_refl D) (Nat.le_refl D) c (Or.inl rfl) (fun b r => ?_) (fun _ _ => rfl)
    rw [Nat.sub_self]; exact ⟨r, fun j hj => by omega⟩
  | succ k ih =>
    intro a D gone c hD hk hg Q hQ
    obtain ⟨⟨p1, p2, p3, p4, p5⟩, z2, z3, z4, z5, z6, z7⟩ := c.1
    have f1 : ¬ nI n ≤ nI gone := nI_ge (by omega) (by omega)
    have f4 : nI gone + 1 = nI (gone + 1) := nI_1 gone
    have hself : (D = m ∨ sp_eA NS a) → Q (some (nI D)) a := by
      intro ho
      refine hQ a D (Nat.le_refl D) hD c ho (fun b r => ?_) (fun _ _ => rfl)
      rw [Nat.sub_self]; exact ⟨r, fun j hj => by omega⟩
    rw [xr_39_22]
    by_cases hlt : D < m
    · have f2 : ¬ nI m ≤ nI D := nI_ge hlt (by omega)
      by_cases hE : sp_eA NS a
      · have hE' : sp_cnt (fun s => decide (a 0 0 2 ≤ a 4 s 6)) NS = NS := hE
        simp only [xr_39_0, xr_39_1, xr_39_2, xr_39_5, xr_39_8, xr_39_11, xr_39_12, xr_39_13, xr_39_14, xr_39_17, xr_39_18, xr_39_19, xr_39_20, xr_39_21, xr_39_23, xr_39_24, xr_39_27, xr_39_28, xr_39_31, xr_39_32, xr_39_35, xr_39_36, xr_39_39, xr_39_42, xr_39_43, xr_39_46, xr_39_47, xr_39_50, xr_39_53, xr_39_54, xr_39_55, xr_39_58, xr_39_61, xr_39_64, xr_39_65, xr_39_68, f1, f2, f4, z5, c_X2_allEnded a 0 NS _ z4 p4, hE', b01_n, b01_z, not_true, not_false_iff, true_imp_iff, false_imp_iff, true_and, and_true]
        exact hself (Or.inr hE)
      · have hE' : ¬ sp_cnt (fun s => decide (a 0 0 2 ≤ a 4 s 6)) NS = NS := hE
        obtain ⟨e, e1, e2, e3, e4, e5, e6⟩ := step_ok c hlt hm
        have e5' : cI P NQ NS (D + 1) (fun _ => D + 1) (sp_pass P NQ NS a) := cI_weak e5 (fun t _ => by show D + 1 ≤ e; omega)
        have y4 := e5'.1.2.2.2.1
        have y5 := e5'.1.2.2.2.2.1
        have rel : ∀ b, rI NQ NS a b → ¬ md_eM P NS b := fun b r => fun z => hE ((eM_iff c r).mp z)
        by_cases hE1 : sp_eA NS (sp_pass P NQ NS a)
        · have hE1' : sp_cnt (fun s => decide (sp_pass P NQ NS a 0 0 2 ≤ sp_pass P NQ NS a 4 s 6)) NS = NS := hE1
          simp only [xr_39_0, xr_39_1, xr_39_2, xr_39_5, xr_39_8, xr_39_11, xr_39_12, xr_39_13, xr_39_14, xr_39_17, xr_39_18, xr_39_19, xr_39_20, xr_39_21, xr_39_23, xr_39_24, xr_39_27, xr_39_28, xr_39_31, xr_39_32, xr_39_35, xr_39_36, xr_39_39, xr_39_42, xr_39_43, xr_39_46, xr_39_47, xr_39_50, xr_39_53, xr_39_54, xr_39_55, xr_39_58, xr_39_61, xr_39_64, xr_39_65, xr_39_68, f1, f2, f4, z5, c_X2_allEnded a 0 NS _ z4 p4, c_X2_allEnded (sp_pass P NQ NS a) 0 NS _ y4 p4, hE', hE1', c_X2_passDay c, b01_n, b01_z, not_true, not_false_iff, true_imp_iff, false_imp_iff, true_and, and_true]
          refine ih _ (D + 1) (gone + 1) e5' (by omega) (by omega) (by omega) Q (fun a' D' h1 h2 h3 h4 h5 h6 => hQ a' D' (by omega) h2 h3 h4 (fun b r => ?_) (fun j hj => by rw [h6 j hj, sp_pass_k hj]))
          have r1 := e6 b r 0 (by omega)
          rw [ah_up_id (show sp_pass P NQ NS a 0 0 5 = nI (D + 1 + 0) from y5)] at r1
          obtain ⟨g1, g2⟩ := h5 _ r1
          rw [show D' - D = (1 + 0) + (D' - (D + 1)) by omega, md_its_add]
          refine ⟨g1, fun j hj => ?_⟩
          rcases Nat.lt_or_ge j 1 with z | z
          · rw [show j = 0 by omega]; exact rel b r
          · have g3 := g2 (j - 1) (by omega)
            rw [show j = (1 + 0) + (j - 1) by omega, md_its_add]
            exact g3
        · have hE1' : ¬ sp_cnt (fun s => decide (sp_pass P NQ NS a 0 0 2 ≤ sp_pass P NQ NS a 4 s 6)) NS = NS := hE1
          simp only [xr_39_0, xr_39_1, xr_39_2, xr_39_5, xr_39_8, xr_39_11, xr_39_12, xr_39_13, xr_39_14, xr_39_17, xr_39_18, xr_39_19, xr_39_20, xr_39_21, xr_39_23, xr_39_24, xr_39_27, xr_39_28, xr_39_31, xr_39_32, xr_39_35, xr_39_36, xr_39_39, xr_39_42, xr_39_43, xr_39_46, xr_39_47, xr_39_50, xr_39_53, xr_39_54, xr_39_55, xr_39_58, xr_39_61, xr_39_64, xr_39_65, xr_39_68, f1, f2, f4, z5, c_X2_allEnded a 0 NS _ z4 p4, c_X2_allEnded (sp_pass P NQ NS a) 0 NS _ y4 p4, hE', hE1', c_X2_passDay c, e3, b01_n, b01_z, not_true, not_false_iff, true_imp_iff, false_imp_iff, true_and, and_true]
          refine ih _ e (gone + 1) e4 e2 (by omega) (by omega) Q (fun a' D' h1 h2 h3 h4 h5 h6 => hQ a' D' (by omega) h2 h3 h4 (fun b r => ?_) (fun j hj => by rw [h6 j hj, ah_rk (by omega), sp_pass_k hj]))
          have r1 := e6 b r (e - (D + 1)) (by omega)
          rw [show D + 1 + (e - (D + 1)) = e by omega] at r1
          obtain ⟨g1, g2⟩ := h5 _ r1
          rw [show D' - D = (1 + (e - (D + 1))) + (D' - e) by omega, md_its_add, show D + (1 + (e - (D + 1))) = e by omega]
          refine ⟨g1, fun j hj => ?_⟩
          rcases Nat.lt_or_ge j (1 + (e - (D + 1))) with z | z
          · rcases Nat.lt_or_ge j 1 with z1 | z1
            · rw [show j = 0 by omega]; exact rel b r
            · have r2 := e6 b r (j - 1) (by omega)
              rw [show 1 + (j - 1) = j by omega] at r2
              have c2 : cI P NQ NS (D + 1 + (j - 1)) (fun _ => D + 1 + (j - 1)) (ah_up (sp_pass P NQ NS a) 0 0 5 (nI (D + 1 + (j - 1)))) := cI_weak (cI_day e5 (by omega) (by omega)) (fun t _ => by show D + 1 + (j - 1) ≤ e; omega)
              exact fun zz => hE1 ((eM_iff c2 r2).mp zz)
          · have g3 := g2 (j - (1 + (e - (D + 1)))) (by omega)
            rw [show j = (1 + (e - (D + 1))) + (j - (1 + (e - (D + 1)))) by omega, md_its_add, show D + (1 + (e - (D + 1))) = e by omega]
            exact g3
    · have e : D = m := by omega
      subst e
      simp only [xr_39_0, xr_39_1, xr_39_2, xr_39_5, xr_39_8, xr_39_11, xr_39_12, xr_39_13, xr_39_14, xr_39_17, xr_39_18, xr_39_19, xr_39_20, xr_39_21, xr_39_23, xr_39_24, xr_39_27, xr_39_28, xr_39_31, xr_39_32, xr_39_35, xr_39_36, xr_39_39, xr_39_42, xr_39_43, xr_39_46, xr_39_47, xr_39_50, xr_39_53, xr_39_54, xr_39_55, xr_39_58, xr_39_61, xr_39_64, xr_39_65, xr_39_68, f1, z5, lxe, not_true, not_false_iff, false_imp_iff, true_imp_iff, and_true, true_and]
      exact hself (Or.inl rfl)
theorem fin_mod {n T : Nat} (hn : n ≤ 999) (hT : T ≤ n) (c : cI P NQ NS D (fun _ => D) a) (r : rI NQ NS a b) (hm : D + n ≤ 9999) (h1 : ∀ j, j < T → ¬ md_eM P NS (md_its P NQ NS D b j)) (h2 : T = n ∨ md_eM P NS (md_its P NQ NS D b T)) (Q : Option Int32 → AHp → Prop) : VV 77 b 33 [some (.inr (10, 0)), some (.inl (nI n)), some (.inl (nI 0))] [] Q ↔ Q (some (nI (D + T))) (md_its P NQ NS D b T) := by
  have sc : ∀ j, j ≤ n → ∃ a', cI P NQ NS (D + j) (fun _ => D + j) a' ∧ rI NQ NS a' (md_its P NQ NS D b j) := fun j hj => its_ok c r j (by omega)
  have ca : ∀ j, j ≤ n → ∀ K, Vi 76 (md_its P NQ NS D b j) [some (.inr (10, 0)), none] K ↔ K (b01 (sp_cnt (fun s => decide (sp_cnt (md_has (md_its P NQ NS D b j) s) P = P)) NS = NS)) (md_its P NQ NS D b j) := by
    intro j hj K
    obtain ⟨a', g1, g2⟩ := sc j hj
    obtain ⟨⟨p1, p2, p3, p4, p5⟩, z2, z3, z4, z5, z6, z7⟩ := g1.1
    have := c_X3_allEnded (P := P) (NS := NS) (b := md_its P NQ NS D b j) (by rw [g2.1.2.2.1, z4]) p4 (by rw [g2.1.1, z2]) p2 K (inferInstanceAs (Decidable (sp_cnt (fun s => decide (sp_cnt (md_has (md_its P NQ NS D b j) s) P = P)) NS = NS)))
    exact this
  refine Iff.trans (it0 (V := fun i => VV 77 (md_its P NQ NS D b i) 33 [some (.inr (10, 0)), some (.inl (nI n)), some (.inl (nI i))] [] Q) T ?_) ?_
  · intro i hi
    obtain ⟨a', g1, g2⟩ := sc i (by omega)
    have f1 : ¬ nI n ≤ nI i := nI_ge (by omega) (by omega)
    have f2 : ¬ sp_cnt (fun s => decide (sp_cnt (md_has (md_its P NQ NS D b i) s) P = P)) NS = NS := h1 i hi
    rw [xr_77_33, md_its]
    simp only [xr_77_0, xr_77_1, xr_77_2, xr_77_5, xr_77_6, xr_77_7, xr_77_10, xr_77_11, xr_77_14, xr_77_17, xr_77_18, xr_77_21, xr_77_22, xr_77_23, xr_77_26, xr_77_29, xr_77_30, xr_77_31, xr_77_32, xr_77_34, xr_77_35, xr_77_38, xr_77_39, xr_77_42, xr_77_45, xr_77_46, xr_77_49, xr_77_52, xr_77_55, xr_77_56, xr_77_59, f1, f2, nI_1, ca i (by omega), oneDay_c g1 g2, b01_n, b01_z, not_true, not_false_iff, true_imp_iff, false_imp_iff, true_and]
  · obtain ⟨a', g1, g2⟩ := sc T hT
    have e : md_its P NQ NS D b T 10 0 17 = nI (D + T) := by rw [g2.1.2.2.2.1, g1.1.2.2.2.2.1]
    rw [xr_77_33]
    by_cases hTn : T = n
    · subst hTn
      simp only [xr_77_0, xr_77_1, xr_77_2, xr_77_5, xr_77_6, xr_77_7, xr_77_10, xr_77_11, xr_77_14, xr_77_17, xr_77_18, xr_77_21, xr_77_22, xr_77_23, xr_77_26, xr_77_29, xr_77_30, xr_77_31, xr_77_32, xr_77_34, xr_77_35, xr_77_38, xr_77_39, xr_77_42, xr_77_45, xr_77_46, xr_77_49, xr_77_52, xr_77_55, xr_77_56, xr_77_59, lxe, e, not_true, false_imp_iff, true_imp_iff, and_true]
    · have f1 : ¬ nI n ≤ nI T := nI_ge (by omega) (by omega)
      have f2 : sp_cnt (fun s => decide (sp_cnt (md_has (md_its P NQ NS D b T) s) P = P)) NS = NS := h2.resolve_left hTn
      simp only [xr_77_0, xr_77_1, xr_77_2, xr_77_5, xr_77_6, xr_77_7, xr_77_10, xr_77_11, xr_77_14, xr_77_17, xr_77_18, xr_77_21, xr_77_22, xr_77_23, xr_77_26, xr_77_29, xr_77_30, xr_77_31, xr_77_32, xr_77_34, xr_77_35, xr_77_38, xr_77_39, xr_77_42, xr_77_45, xr_77_46, xr_77_49, xr_77_52, xr_77_55, xr_77_56, xr_77_59, f1, f2, e, ca T hT, b01_n, b01_z, not_true, not_false_iff, false_imp_iff, true_imp_iff, and_true, true_and]
theorem op_finish (h : AHp) (x : Int32) (g : GG h) : Vi 39 h [some (.inr (0, 0)), some (.inl x), none, none] (fun r h1 => Vi 77 h1 [some (.inr (10, 0)), some (.inl x), none] (fun r2 h2 => r2 = r ∧ GG h2)) := by
  obtain ⟨P, NQ, NS, D, c, r⟩ := id g
  obtain ⟨⟨p1, p2, p3, p4, p5⟩, z2, z3, z4, z5, z6, z7⟩ := c.1
  obtain ⟨y0, y1, y2, y3, y4, y5⟩ := r.1
  by_cases hc : 1 ≤ x ∧ x ≤ 999 ∧ h 0 0 5 + x ≤ 9999
  · obtain ⟨n, n1, n2, rfl⟩ := in_rng (x := x) (lo := 1) (N := 999) (by omega) (by omega) (i32_nlt.mpr hc.1) (i32_nlt.mpr hc.2.1)
    have q3 : nI (D + n) ≤ 9999 := by have := hc.2.2; rw [z5, nI_add] at this; exact this
    have hdn : D + n ≤ 9999 := (nI_leI (b := 9999) (by omega) (by omega)).mp q3
    rw [Vi]
    simp only [q3, xr_39_0, xr_39_1, xr_39_2, xr_39_5, xr_39_8, xr_39_11, xr_39_12, xr_39_13, xr_39_14, xr_39_17, xr_39_18, xr_39_19, xr_39_20, xr_39_21, c_X2_mayPass, b01_n, hc, true_imp_iff, not_true, false_imp_iff, and_true, and_self, z5, nI_add]
    refine fin_cls (m := D + n) (n := n) hdn (by omega) n h D 0 c (by omega) (by omega) (by omega) _ (fun a' D' l1 l2 h1 l3 h2 h3 => ⟨nI D', rfl, ?_⟩)
    have rb : rI NQ NS h (ah_up a' 10 0 20 0) := rI_20 (rI_congr r (fun _ _ => rfl) (fun k hk => h3 k hk))
    have t17 : (ah_up a' 10 0 20 0) 10 0 17 = nI D := by rw [rb.1.2.2.2.1, z5]
    have q1 : ¬ nI n < 1 := i32_nlt.mpr hc.1
    have q2 : ¬ 999 < nI n := i32_nlt.mpr hc.2.1
    obtain ⟨g1, g2⟩ := h2 _ rb
    rw [Vi]
    simp only [xr_77_0, xr_77_1, xr_77_2, xr_77_5, xr_77_6, xr_77_7, xr_77_10, xr_77_11, xr_77_14, xr_77_17, xr_77_18, xr_77_21, xr_77_22, xr_77_23, xr_77_26, xr_77_29, xr_77_30, xr_77_31, xr_77_32, t17, q1, q2, nI_add, q3, not_true, not_false_iff, true_imp_iff, false_imp_iff, and_true, true_and]
    have hl : (D' - D = n ∨ md_eM P NS (md_its P NQ NS D (ah_up a' 10 0 20 0) (D' - D))) := by
      rcases l3 with l3 | l3
      · exact Or.inl (by omega)
      · exact Or.inr ((eM_iff h1 g1).mpr l3)
    refine (fin_mod (T := D' - D) (by omega) (by omega) c rb hdn g2 hl _).mpr ⟨_, rfl, ?_, P, NQ, NS, D', ?_, ?_⟩
    · rw [show D + (D' - D) = D' by omega]
    · exact cI_congr h1 (fun k hk => by rw [md_its_k hk, ah_rk (by omega)])
    · exact rI_congr g1 (fun k hk => by rw [md_its_k hk, ah_rk (by omega)]) (fun _ _ => rfl)
  · rw [Vi]
    simp only [xr_39_0, xr_39_1, xr_39_2, xr_39_5, xr_39_8, xr_39_11, xr_39_12, c_X2_mayPass, b01_n, b01_z, hc, true_imp_iff, not_true, not_false_iff, false_imp_iff, and_true, true_and, ex_some]
    rw [Vi]
    have t17 : (ah_up h 10 0 20 0) 10 0 17 = h 0 0 5 := by rw [ah_rd, if_neg (by omega), y3]
    simp only [xr_77_0, xr_77_1, xr_77_2, xr_77_5, xr_77_6, xr_77_7, xr_77_10, xr_77_11, xr_77_14, xr_77_17, xr_77_18, xr_77_21, xr_77_22, xr_77_23, xr_77_26, xr_77_29, xr_77_30, t17, ex_some]
    have fin : True ∧ GG (ah_up h 10 0 20 0) := ⟨trivial, GG_thr g⟩
    refine ⟨fun _ => fin, fun e1 => ⟨fun _ => fin, fun e2 => ⟨fun e3 => ?_, fun _ => fin⟩⟩⟩
    exact absurd ⟨i32_nlt.mp e1, i32_nlt.mp e2, e3⟩ hc
end FN
