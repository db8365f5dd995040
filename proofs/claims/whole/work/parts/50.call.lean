/-! ===== a throw of NoSuchElementException (turned from the kit's printed row vx_throwS), a call of a class method out of any frame ===== -/
section LKT
variable {p : Program} {l : Launch} {e : Env} {R : Room} {s : State} {m : MethodId} {args : Array Value} {below : List Frame} {meth : Method} {c : Code} {H : Heap} {locs : List Loc} {cells slots : Nat} {Q : State → Prop}
variable {mc ms : Nat} {free : Addr → Prop} {A0 A1 : Nat → Prop} {H0 : Heap} {a : Array Value} {ls : Array Slot} {st0 rest : List Value}
variable {Qc : Array Value → State → Outcome → State → Prop} {XC : String → State → State → Prop}
theorem lk_throw {cc : ByteArray} {pc : Nat} (hexec : p.tables.exec = Jvm.exec) (hb : c.code = cc) (hl : l.stackTraces = false) {own cls text : String} {Y0 : String} {r : List String} {ik is ic mc ms sa : Nat} {A : Nat → Prop}
    (hown : s.vm.findClass own = some m.cls) (hcls : Bundle.fit cls = true) (hY0 : Bundle.fit Y0 = true) (hnames : ∀ n ∈ r, Bundle.fit n = true)
    (hk : (Cond.classLink own ik cls).before args s = true) (hini : (Cond.initialized cls).before args s = true) (hstr : vk_R own is text sa s) (hat : ∀ w ∈ (lk_at own ic cls Y0 r).filter vx_no, w.before args s = true)
    (hgood : ∀ w ∈ Cond.classLink own ik cls :: Cond.initialized cls :: (lk_at own ic cls Y0 r).filter vx_no, vx_ot w = true)
    (hU : vx_Zq Bundle.tN "UNASSIGNED_STACK" Bundle.steD A s s.heap) (hN : vx_Zq Bundle.tN "SUPPRESSED_SENTINEL" Bundle.listD A s s.heap) (hS : va_S A s.heap H locs) (hsize : ls.size = c.maxLocals)
    (d0 : decode cc pc = .ok (.new ik, 3)) (d3 : decode cc (pc + 3) = .ok (.dup, 1)) (d4 : decode cc (pc + 4) = .ok (.ldc is, 2)) (d6 : decode cc (pc + 6) = .ok (.invokespecial ic, 3)) (d9 : decode cc (pc + 9) = .ok (.athrow, 1))
    (hout : ∀ x ∈ c.exceptionTable.toList, covers x (pc + 9) = false)
    (hRframes : r.length + 1 + 3 < R.frames) (hRlocals : (rest.map fun v => v.category).sum + (13 * (r.length + 1 + 1) + 43) ≤ R.locals) (hRcells : cells + 1 ≤ R.cells) (hRslots : slots + 6 ≤ R.slots) (hlocks : meth.locks = false)
    (hx : ∀ t : State, s.vm.Alike t.vm → H.size ≤ t.heap.size → (∀ q : Nat, q < H.size → t.heap[q]? = H[q]?) → XC cls s t)
    (hf : ∀ z ∈ locs, free z.base) (hc : cells + 1 ≤ mc) (hs : slots + 6 ≤ ms) :
    W p l e R s m args below meth c H locs cells slots (vx_MQ below Qc XC args s mc ms free) (F0 m pc ls rest) := by
  intro T hT X
  have htr : e.platform.stackTraces = false := (show e.platform.stackTraces = l.stackTraces by rw [X.admits.platform]).trans hl
  have Y := vx_rebase X (R' := { frames := R.frames, locals := R.locals, cells := 1, slots := 6 }) (Nat.le_refl _) (Nat.le_refl _) hRcells hRslots
  obtain ⟨s', hA⟩ : ∃ z, z = (T.setVm s.vm).setFrames (.invoking m args :: below) := ⟨_, rfl⟩
  rw [← hA] at Y
  have hvm : s'.vm = s.vm := by rw [hA]; rfl
  have hhp : s'.heap = H := by rw [hA]; exact hT
  have hW0 : s.WarmedH s'.vm := by rw [hvm]; exact State.WarmedH.refl s
  have hat' : ∀ w ∈ (lk_at own ic cls Y0 r).filter vx_no, w.before args s' = true := fun w hw => vx_ot_at hW0 hvm.symm (hgood w (List.mem_cons_of_mem _ (List.mem_cons_of_mem _ hw))) (hat w hw)
  have hk' : (Cond.classLink own ik cls).before args s' = true := vx_ot_at hW0 hvm.symm (hgood _ List.mem_cons_self) hk
  have hini' : (Cond.initialized cls).before args s' = true := vx_ot_at hW0 hvm.symm (hgood _ (List.mem_cons_of_mem _ List.mem_cons_self)) hini
  have hU' : vx_Zq Bundle.tN "UNASSIGNED_STACK" Bundle.steD A s' s'.heap := by rw [hhp]; exact vx_Zq.moved hW0.alike (hU.kept hS.2.1)
  have hN' : vx_Zq Bundle.tN "SUPPRESSED_SENTINEL" Bundle.listD A s' s'.heap := by rw [hhp]; exact vx_Zq.moved hW0.alike (hN.kept hS.2.1)
  have h : ∀ w ∈ lk_at own ic cls Y0 r, w.before args s' = true := vx_own hat' (vx_isRefq hU'.1) (vx_isRefq hN'.1) hU'.2.word hN'.2.word
  have hown' : s'.vm.findClass own = some m.cls := by rw [hvm]; exact hown
  have hins : (Cond.instantiable cls 6).before args s' = true := h _ (by unfold lk_at; refine List.mem_append_right _ (List.mem_append_right _ (List.mem_append_right _ (List.mem_append_right _ ?_))); simp [lk_tail])
  obtain ⟨vm₁, cX, kX, hfX, hkX, -, -, X₁, st1⟩ := Y.newCold hexec (own := own) (C := cls) (index := ik) (n := 6) hown' hk' hins hini'
    (g := F0 m pc ls rest) rfl (by rw [hb]; exact d0) (Nat.le_refl _) (Nat.le_refl _)
  generalize hT1 : (T.setVm vm₁).pushCell { cls := cX, slots := kX.instanceTypes.map defaultValue, vm := .none } = T1 at X₁ st1
  have hcat : (Value.ref T.heap.size).category = 1 := rfl
  have hcellA : T1.heap[T.heap.size]? = some (freshCell cX kX) := by rw [← hT1]; exact State.heap_pushCell_size _ _
  have d3' : decode c.code (pc + 3) = .ok (.dup, 1) := by rw [hb]; exact d3
  have d4' : decode c.code (pc + 4) = .ok (.ldc is, 2) := by rw [hb]; exact d4
  have hstr' : vk_R own is text sa s' := vk_R.warm hW0 hstr
  obtain ⟨U, hsteps, hrun, hend, hW, hsame, ce, hce, hOv, hOc⟩ := lk_ctor X₁ hexec htr (own := own) (cls := cls) (Y0 := Y0) (r := r) (ic := ic) hown' hcls hY0 hnames h (fun x hx => nomatch hx) hfX hkX hcellA (by rw [hhp, hT]; exact Nat.le_refl _) (msg := .ref sa) rfl
    (g := { method := m, pc := pc + 6, locals := ls, stack := .ref sa :: .ref T.heap.size :: .ref T.heap.size :: rest, locked := none }) rfl hsize rfl rfl (rest := rest) rfl
    (by rw [hb]; exact d6) (by rw [hb]; exact d9) hout hRframes (by simp only [List.map_cons, List.sum_cons, hcat]; omega) hlocks
  obtain ⟨f1, f2⟩ := vx_frame hsame
  rw [hhp] at f1 f2
  have hWs : s.WarmedH U.vm := State.WarmedH.trans hW0 hW
  have hcl : s.vm.findClass cls = some ce.cls := by
    have h9 := hOc
    rw [hvm] at h9
    exact h9
  have hall : s.sameButNew ({ U with vm := s.vm } : State) locs mc ms := by
    subst hA
    obtain ⟨e1, e2⟩ := hsame
    rw [State.setFrames_setFrames] at e1
    have h2 : (T.setVm s.vm).sameButNew ({ U with vm := s.vm } : State) [] (0 + 1) (0 + 6) := ⟨e1, e2⟩
    have h3 := X.same.trans h2
    rw [List.append_nil] at h3
    exact h3.mono hc hs
  refine ⟨U, ?_, .threw T.heap.size, hrun, hend, Or.inr ⟨T.heap.size, rfl, cls, ce, locs, hx U hWs.alike f1 (fun q hq => f2 q hq (fun z hz => nomatch hz)), hce, hOv, hcl, hWs, hall, hf⟩⟩
  refine st1 _ ?_
  show Steps p.tables e below (T1.setTop { method := m, pc := pc + 3, locals := ls, stack := .ref T.heap.size :: rest, locked := none }) _
  jvm_step X₁.here [X₁.here.top, hexec, d3', Value.category]
  exact X₁.ldcString hexec (own := own) (text := text) (index := is) (a := sa) hown' hstr'.1 hstr'.2
    (g := { method := m, pc := pc + 4, locals := ls, stack := .ref T.heap.size :: .ref T.heap.size :: rest, locked := none }) rfl d4' _ hsteps
end LKT
def lk_w2 : List Cond := ((lk_at RX2 162 lk_N "java/lang/RuntimeException" ["java/lang/Exception"]).filter vx_no).filter goodWord
theorem lk_w2_in : ∀ w ∈ lk_w2, w ∈ lw_tbl := by decide +kernel
theorem lk_ot2 : ∀ w ∈ Cond.classLink RX2 158 lk_N :: Cond.initialized lk_N :: (lk_at RX2 162 lk_N "java/lang/RuntimeException" ["java/lang/Exception"]).filter vx_no, vx_ot w = true := by decide +kernel
def lk_ng : List Cond := [.castable lk_I lk_I, .castable lk_N lk_N, .declares (Bundle.initS "java/lang/RuntimeException"), .declares (Bundle.initS "java/lang/Exception"), .declares (Bundle.initS Bundle.tN)]
theorem lk_ng1 : ∀ w ∈ (vx_atS RX2 136 lk_I lk_nm).filter (fun w => !goodWord w), w ∈ lk_ng := by decide +kernel
theorem lk_ng2 : ∀ w ∈ ((lk_at RX2 162 lk_N "java/lang/RuntimeException" ["java/lang/Exception"]).filter vx_no).filter (fun w => !goodWord w), w ∈ lk_ng := by decide +kernel
theorem lk_ng_in : ∀ w ∈ lk_ng, w ∈ lw_tbl := by decide +kernel
section KVC
variable {D : va_G} {cI cZ cQ cS : ClassId} {ad : Nat → Nat → Nat} {p : Program} {l : Launch} {e : Env} {R : Room} {s : State} {m : MethodId} {args : Array Value} {below : List Frame} {meth : Method} {c : Code} {H : Heap} {locs : List Loc} {Q : State → Prop} {pc : Nat} {LS : Array Slot} {cells slots : Nat}
set_option maxHeartbeats 1000000 in
/-- a call of method y of the small machine, out of any frame whose words hold sm_W -/
theorem kv_call {Ts : List Cond} {own : String} {cc : ByteArray} {nL : Nat} (S : CallFix p m c cc nL s args Ts own) (hinj : sw_inj ad) (y idx k nr : Nat) (as : List AV) {h h1 : AHp} {x : Option Int32} {n : Nat} {rest : List Value} {A0 : Nat → Prop} (hrun : ah_run n y 0 (ah_entry y (.inr (k, nr) :: as)) [] h = some (x, h1))
    (hd : decide (y < 92) && decide (as.length = sm_n.getD y 0) && decide (as.length + 1 ≤ sm_L.getD y 0) && decide (sm_own.getD y 9 < 4) && decide (ah_cls k = some (sm_own.getD y 9)) && decide ((k, nr) ∈ ck_wl) = true) (hok : ∀ v ∈ as, sw_ok v)
    (hcl : (sm_y.getD y ⟨"", "", ""⟩).cls = (sm_cl.getD (sm_own.getD y 9) (RX0, TX0, 4)).1)
    (hsm : GoodIn Ts sm_W) (hw4 : GoodIn Ts [Cond.methodLink own idx (sm_y.getD y ⟨"", "", ""⟩), Cond.instanceMethod (sm_y.getD y ⟨"", "", ""⟩), Cond.selects ((sm_cl.getD (sm_own.getD y 9) (RX0, TX0, 4)).1) (sm_y.getD y ⟨"", "", ""⟩) (sm_y.getD y ⟨"", "", ""⟩), Cond.initialized ((sm_cl.getD (sm_own.getD y 9) (RX0, TX0, 4)).1)])
    (hroom : decide (sm_fr.getD y 99 + 1 ≤ R.frames) && decide (8 + (sm_L.getD y 0 + 11) + sm_lo.getD y 999 ≤ R.locals) = true)
    (hP : va_P D sm_cl (sw_ws cI cZ cQ cS ad h) H) (hK : va_K D sm_cl (sw_tys cI cZ cQ cS) s) (hA0 : ∀ q, sw_A ad q → A0 q) (hS : va_S A0 s.heap H locs) (hLS : LS.size = nL) (hrest : (rest.map fun v => v.category).sum ≤ 8) (hcells : cells ≤ R.cells ∧ slots ≤ R.slots) (hdg : decode cc pc = .ok (.invokevirtual idx, 3))
    (kk : ∀ (H1 : Heap) (locs1 : List Loc), va_P D sm_cl (sw_ws cI cZ cQ cS ad h1) H1 → va_S A0 s.heap H1 locs1 → H.size ≤ H1.size → (∀ q : Nat, q < H.size → ¬ sw_A ad q → H1[q]? = H[q]?) → W p l e R s m args below meth c H1 locs1 cells slots Q (F0 m (pc + 3) LS ((x.map Value.int).toList ++ rest))) :
    W p l e R s m args below meth c H locs cells slots Q (F0 m pc LS ((as.map (sw_conc ad)).reverse ++ .ref (ad k nr) :: rest)) := by
  simp only [Bool.and_eq_true, decide_eq_true_eq] at hd hroom
  obtain ⟨⟨⟨⟨⟨hy, hnum⟩, hnL⟩, how⟩, hcls⟩, hmem⟩ := hd
  obtain ⟨hx, hb, hml, hown, hts⟩ := id S
  obtain ⟨n1, n2, n3, n4, n5⟩ := ck_name y hy
  have hok' : ∀ v ∈ ((.inr (k, nr) : AV) :: as), sw_ok v := by
    intro v hv
    rcases List.mem_cons.mp hv with rfl | hv
    · exact hmem
    · exact hok v hv
  have hM : sw_Met D cI cZ cQ cS ad l y (.inr (k, nr) :: as) h x h1 := sw_met hinj l hy hok' hnL hrun
  obtain ⟨q0, -, hp⟩ := sw_place (cI := cI) (cZ := cZ) (cQ := cQ) (cS := cS) (ad := ad) (h := h) hmem
  rw [sw_eC (q := (k, nr)) hcls] at hp
  refine sw_after hA0 (va_runV (As := as.map (sw_conc ad)) (rest := rest) (b := ad k nr) (C := (sm_cl.getD (sm_own.getD y 9) (RX0, TX0, 4)).1) S hM
    (cwV (sm_n.getD y 0) hts (fun w hw => ?_) rfl rfl rfl ⟨hcl, n3, n4, n5⟩ hroom)
    ⟨sw_blind, va_recv hK hP (sw_cl_at _ how) hp, fun U hU hW => ⟨rfl, by rw [hU]; exact hP, va_K.moved hW.alike hK⟩⟩ rfl (by rw [List.length_map]; exact hnum) hLS rfl (lv_room hrest) hdg hcells) hS kk
  unfold wsV at hw
  rcases List.mem_append.mp hw with hw | hw
  · exact hw4 w hw
  · exact hsm w (sw_wd_in hy w hw)
end KVC
