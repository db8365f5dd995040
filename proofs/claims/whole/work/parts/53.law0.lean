/-! ===== the law: its entry (the task's skeleton), the words of its calls ===== -/
def R_law : String := "QuireShopLaw"
def lw_P (b : Addr) (xs : List Int32) (args : Array Value) (s : State) : Prop := args = #[.ref b] ∧ s.IntsAt b xs ∧ xs.length ≤ 2048 ∧ (Jvm.Cond.and given_1 narrow_1).before args s = true
def lw_Q (_ : Array Value) (s : State) (o : Outcome) (t : State) : Prop := o = .returned (some (.int 1)) ∧ Framed s o t [] 638704 7179991
def lw_Z (below : List Frame) (a : Array Value) (s : State) : State → Prop := fun t => ∃ o, t.status = .running ∧ Ended t below o ∧ lw_Q a s o t
/-- the law's own end, with 1 on the stack, nothing written that was there before, its room as the claim has it -/
theorem lw_ret {p : Program} {l : Launch} {e : Env} {s : State} {m : MethodId} {below : List Frame} {meth : Method} {c : Code} {b : Nat} (hx : p.tables.exec = Jvm.exec) (hb : c.code = code) (hr : meth.sig.returnType = ret) (hlocks : meth.locks = false) {pc : Nat} {H : Heap} {ls : Array Slot} (hdg : decode code pc = .ok (.ireturn, 1)) : W p l e room_1 s m #[Value.ref b] below meth c H [] 638704 7179991 (lw_Z below #[Value.ref b] s) (F0 m pc ls [.int 1]) := by
  intro T hT X
  obtain ⟨fs, hret, hrun, hended, hW, hframe⟩ := X.leave (v := some (.int 1)) (hlocks := hlocks) (fun h => by rw [hr] at h; cases h)
  have hmeth' : T.vm.method? m = some meth := X.method'
  refine ⟨T.setFrames fs, ?_, .returned (some (.int 1)), hrun, hended, rfl, ⟨_, rfl⟩, hW, hframe⟩
  jvm_step X.here [X.here.top, hx, hb, hdg, hmeth', hr, ret, narrow_b1]
  (try refine ⟨rfl, ?_⟩); (try refine ⟨rfl, ?_⟩)
  first | (intro acts; rw [hret _ acts rfl rfl rfl]) | rw [hret _ _ rfl rfl rfl]
  exact Steps.refl _
/-- what holds at the law's entry: the machine, the code, the tables' words (any of lw_tbl by 'hts w (by decide +kernel)'), the script of L ints xs at the cell b, what the Statement gives of the start (any of its parts by flat_of_before) -/
def lw_At (p : Program) (s : State) (m : MethodId) (meth : Method) (c : Code) (b L : Nat) (xs : Nat → Int32) : Prop :=
  p.tables.exec = Jvm.exec ∧ c.code = code ∧ meth.sig.returnType = ret ∧ c.maxLocals = 7 ∧ s.vm.findClass R_law = some m.cls ∧ (∀ w ∈ lw_tbl, w.before #[Value.ref b] s = true) ∧ va_X b L xs s s.heap ∧ b < s.heap.size ∧ meth.locks = false ∧ (Jvm.Cond.and given_1 narrow_1).before #[Value.ref b] s = true
theorem kl_g127 : GoodIn lw_tbl [Cond.methodLink RL 21 (sm_y.getD 11 ⟨"", "", ""⟩), Cond.instanceMethod (sm_y.getD 11 ⟨"", "", ""⟩), Cond.selects ((sm_cl.getD (sm_own.getD 11 9) (RX0, TX0, 4)).1) (sm_y.getD 11 ⟨"", "", ""⟩) (sm_y.getD 11 ⟨"", "", ""⟩), Cond.initialized ((sm_cl.getD (sm_own.getD 11 9) (RX0, TX0, 4)).1)] := goodIn_of _ (by decide +kernel)
theorem kl_g137 : GoodIn lw_tbl [Cond.methodLink RL 25 (sm_y.getD 56 ⟨"", "", ""⟩), Cond.instanceMethod (sm_y.getD 56 ⟨"", "", ""⟩), Cond.selects ((sm_cl.getD (sm_own.getD 56 9) (RX0, TX0, 4)).1) (sm_y.getD 56 ⟨"", "", ""⟩) (sm_y.getD 56 ⟨"", "", ""⟩), Cond.initialized ((sm_cl.getD (sm_own.getD 56 9) (RX0, TX0, 4)).1)] := goodIn_of _ (by decide +kernel)
theorem kl_g152 : GoodIn lw_tbl [Cond.methodLink RL 26 (sm_y.getD 12 ⟨"", "", ""⟩), Cond.instanceMethod (sm_y.getD 12 ⟨"", "", ""⟩), Cond.selects ((sm_cl.getD (sm_own.getD 12 9) (RX0, TX0, 4)).1) (sm_y.getD 12 ⟨"", "", ""⟩) (sm_y.getD 12 ⟨"", "", ""⟩), Cond.initialized ((sm_cl.getD (sm_own.getD 12 9) (RX0, TX0, 4)).1)] := goodIn_of _ (by decide +kernel)
theorem kl_g162 : GoodIn lw_tbl [Cond.methodLink RL 29 (sm_y.getD 57 ⟨"", "", ""⟩), Cond.instanceMethod (sm_y.getD 57 ⟨"", "", ""⟩), Cond.selects ((sm_cl.getD (sm_own.getD 57 9) (RX0, TX0, 4)).1) (sm_y.getD 57 ⟨"", "", ""⟩) (sm_y.getD 57 ⟨"", "", ""⟩), Cond.initialized ((sm_cl.getD (sm_own.getD 57 9) (RX0, TX0, 4)).1)] := goodIn_of _ (by decide +kernel)
theorem kl_g177 : GoodIn lw_tbl [Cond.methodLink RL 30 (sm_y.getD 13 ⟨"", "", ""⟩), Cond.instanceMethod (sm_y.getD 13 ⟨"", "", ""⟩), Cond.selects ((sm_cl.getD (sm_own.getD 13 9) (RX0, TX0, 4)).1) (sm_y.getD 13 ⟨"", "", ""⟩) (sm_y.getD 13 ⟨"", "", ""⟩), Cond.initialized ((sm_cl.getD (sm_own.getD 13 9) (RX0, TX0, 4)).1)] := goodIn_of _ (by decide +kernel)
theorem kl_g187 : GoodIn lw_tbl [Cond.methodLink RL 33 (sm_y.getD 58 ⟨"", "", ""⟩), Cond.instanceMethod (sm_y.getD 58 ⟨"", "", ""⟩), Cond.selects ((sm_cl.getD (sm_own.getD 58 9) (RX0, TX0, 4)).1) (sm_y.getD 58 ⟨"", "", ""⟩) (sm_y.getD 58 ⟨"", "", ""⟩), Cond.initialized ((sm_cl.getD (sm_own.getD 58 9) (RX0, TX0, 4)).1)] := goodIn_of _ (by decide +kernel)
theorem kl_g208 : GoodIn lw_tbl [Cond.methodLink RL 34 (sm_y.getD 16 ⟨"", "", ""⟩), Cond.instanceMethod (sm_y.getD 16 ⟨"", "", ""⟩), Cond.selects ((sm_cl.getD (sm_own.getD 16 9) (RX0, TX0, 4)).1) (sm_y.getD 16 ⟨"", "", ""⟩) (sm_y.getD 16 ⟨"", "", ""⟩), Cond.initialized ((sm_cl.getD (sm_own.getD 16 9) (RX0, TX0, 4)).1)] := goodIn_of _ (by decide +kernel)
theorem kl_g224 : GoodIn lw_tbl [Cond.methodLink RL 37 (sm_y.getD 63 ⟨"", "", ""⟩), Cond.instanceMethod (sm_y.getD 63 ⟨"", "", ""⟩), Cond.selects ((sm_cl.getD (sm_own.getD 63 9) (RX0, TX0, 4)).1) (sm_y.getD 63 ⟨"", "", ""⟩) (sm_y.getD 63 ⟨"", "", ""⟩), Cond.initialized ((sm_cl.getD (sm_own.getD 63 9) (RX0, TX0, 4)).1)] := goodIn_of _ (by decide +kernel)
theorem kl_g251 : GoodIn lw_tbl [Cond.methodLink RL 38 (sm_y.getD 21 ⟨"", "", ""⟩), Cond.instanceMethod (sm_y.getD 21 ⟨"", "", ""⟩), Cond.selects ((sm_cl.getD (sm_own.getD 21 9) (RX0, TX0, 4)).1) (sm_y.getD 21 ⟨"", "", ""⟩) (sm_y.getD 21 ⟨"", "", ""⟩), Cond.initialized ((sm_cl.getD (sm_own.getD 21 9) (RX0, TX0, 4)).1)] := goodIn_of _ (by decide +kernel)
theorem kl_g273 : GoodIn lw_tbl [Cond.methodLink RL 42 (sm_y.getD 64 ⟨"", "", ""⟩), Cond.instanceMethod (sm_y.getD 64 ⟨"", "", ""⟩), Cond.selects ((sm_cl.getD (sm_own.getD 64 9) (RX0, TX0, 4)).1) (sm_y.getD 64 ⟨"", "", ""⟩) (sm_y.getD 64 ⟨"", "", ""⟩), Cond.initialized ((sm_cl.getD (sm_own.getD 64 9) (RX0, TX0, 4)).1)] := goodIn_of _ (by decide +kernel)
theorem kl_g288 : GoodIn lw_tbl [Cond.methodLink RL 43 (sm_y.getD 22 ⟨"", "", ""⟩), Cond.instanceMethod (sm_y.getD 22 ⟨"", "", ""⟩), Cond.selects ((sm_cl.getD (sm_own.getD 22 9) (RX0, TX0, 4)).1) (sm_y.getD 22 ⟨"", "", ""⟩) (sm_y.getD 22 ⟨"", "", ""⟩), Cond.initialized ((sm_cl.getD (sm_own.getD 22 9) (RX0, TX0, 4)).1)] := goodIn_of _ (by decide +kernel)
theorem kl_g298 : GoodIn lw_tbl [Cond.methodLink RL 47 (sm_y.getD 65 ⟨"", "", ""⟩), Cond.instanceMethod (sm_y.getD 65 ⟨"", "", ""⟩), Cond.selects ((sm_cl.getD (sm_own.getD 65 9) (RX0, TX0, 4)).1) (sm_y.getD 65 ⟨"", "", ""⟩) (sm_y.getD 65 ⟨"", "", ""⟩), Cond.initialized ((sm_cl.getD (sm_own.getD 65 9) (RX0, TX0, 4)).1)] := goodIn_of _ (by decide +kernel)
theorem kl_g325 : GoodIn lw_tbl [Cond.methodLink RL 48 (sm_y.getD 23 ⟨"", "", ""⟩), Cond.instanceMethod (sm_y.getD 23 ⟨"", "", ""⟩), Cond.selects ((sm_cl.getD (sm_own.getD 23 9) (RX0, TX0, 4)).1) (sm_y.getD 23 ⟨"", "", ""⟩) (sm_y.getD 23 ⟨"", "", ""⟩), Cond.initialized ((sm_cl.getD (sm_own.getD 23 9) (RX0, TX0, 4)).1)] := goodIn_of _ (by decide +kernel)
theorem kl_g347 : GoodIn lw_tbl [Cond.methodLink RL 52 (sm_y.getD 66 ⟨"", "", ""⟩), Cond.instanceMethod (sm_y.getD 66 ⟨"", "", ""⟩), Cond.selects ((sm_cl.getD (sm_own.getD 66 9) (RX0, TX0, 4)).1) (sm_y.getD 66 ⟨"", "", ""⟩) (sm_y.getD 66 ⟨"", "", ""⟩), Cond.initialized ((sm_cl.getD (sm_own.getD 66 9) (RX0, TX0, 4)).1)] := goodIn_of _ (by decide +kernel)
theorem kl_g362 : GoodIn lw_tbl [Cond.methodLink RL 53 (sm_y.getD 36 ⟨"", "", ""⟩), Cond.instanceMethod (sm_y.getD 36 ⟨"", "", ""⟩), Cond.selects ((sm_cl.getD (sm_own.getD 36 9) (RX0, TX0, 4)).1) (sm_y.getD 36 ⟨"", "", ""⟩) (sm_y.getD 36 ⟨"", "", ""⟩), Cond.initialized ((sm_cl.getD (sm_own.getD 36 9) (RX0, TX0, 4)).1)] := goodIn_of _ (by decide +kernel)
theorem kl_g372 : GoodIn lw_tbl [Cond.methodLink RL 56 (sm_y.getD 75 ⟨"", "", ""⟩), Cond.instanceMethod (sm_y.getD 75 ⟨"", "", ""⟩), Cond.selects ((sm_cl.getD (sm_own.getD 75 9) (RX0, TX0, 4)).1) (sm_y.getD 75 ⟨"", "", ""⟩) (sm_y.getD 75 ⟨"", "", ""⟩), Cond.initialized ((sm_cl.getD (sm_own.getD 75 9) (RX0, TX0, 4)).1)] := goodIn_of _ (by decide +kernel)
theorem kl_g387 : GoodIn lw_tbl [Cond.methodLink RL 57 (sm_y.getD 39 ⟨"", "", ""⟩), Cond.instanceMethod (sm_y.getD 39 ⟨"", "", ""⟩), Cond.selects ((sm_cl.getD (sm_own.getD 39 9) (RX0, TX0, 4)).1) (sm_y.getD 39 ⟨"", "", ""⟩) (sm_y.getD 39 ⟨"", "", ""⟩), Cond.initialized ((sm_cl.getD (sm_own.getD 39 9) (RX0, TX0, 4)).1)] := goodIn_of _ (by decide +kernel)
theorem kl_g397 : GoodIn lw_tbl [Cond.methodLink RL 60 (sm_y.getD 77 ⟨"", "", ""⟩), Cond.instanceMethod (sm_y.getD 77 ⟨"", "", ""⟩), Cond.selects ((sm_cl.getD (sm_own.getD 77 9) (RX0, TX0, 4)).1) (sm_y.getD 77 ⟨"", "", ""⟩) (sm_y.getD 77 ⟨"", "", ""⟩), Cond.initialized ((sm_cl.getD (sm_own.getD 77 9) (RX0, TX0, 4)).1)] := goodIn_of _ (by decide +kernel)
theorem kl_g406 : GoodIn lw_tbl [Cond.methodLink RL 61 (sm_y.getD 43 ⟨"", "", ""⟩), Cond.instanceMethod (sm_y.getD 43 ⟨"", "", ""⟩), Cond.selects ((sm_cl.getD (sm_own.getD 43 9) (RX0, TX0, 4)).1) (sm_y.getD 43 ⟨"", "", ""⟩) (sm_y.getD 43 ⟨"", "", ""⟩), Cond.initialized ((sm_cl.getD (sm_own.getD 43 9) (RX0, TX0, 4)).1)] := goodIn_of _ (by decide +kernel)
theorem kl_g410 : GoodIn lw_tbl [Cond.methodLink RL 65 (sm_y.getD 78 ⟨"", "", ""⟩), Cond.instanceMethod (sm_y.getD 78 ⟨"", "", ""⟩), Cond.selects ((sm_cl.getD (sm_own.getD 78 9) (RX0, TX0, 4)).1) (sm_y.getD 78 ⟨"", "", ""⟩) (sm_y.getD 78 ⟨"", "", ""⟩), Cond.initialized ((sm_cl.getD (sm_own.getD 78 9) (RX0, TX0, 4)).1)] := goodIn_of _ (by decide +kernel)
theorem kl_g437 : GoodIn lw_tbl [Cond.methodLink RL 66 (sm_y.getD 44 ⟨"", "", ""⟩), Cond.instanceMethod (sm_y.getD 44 ⟨"", "", ""⟩), Cond.selects ((sm_cl.getD (sm_own.getD 44 9) (RX0, TX0, 4)).1) (sm_y.getD 44 ⟨"", "", ""⟩) (sm_y.getD 44 ⟨"", "", ""⟩), Cond.initialized ((sm_cl.getD (sm_own.getD 44 9) (RX0, TX0, 4)).1)] := goodIn_of _ (by decide +kernel)
theorem kl_g459 : GoodIn lw_tbl [Cond.methodLink RL 69 (sm_y.getD 80 ⟨"", "", ""⟩), Cond.instanceMethod (sm_y.getD 80 ⟨"", "", ""⟩), Cond.selects ((sm_cl.getD (sm_own.getD 80 9) (RX0, TX0, 4)).1) (sm_y.getD 80 ⟨"", "", ""⟩) (sm_y.getD 80 ⟨"", "", ""⟩), Cond.initialized ((sm_cl.getD (sm_own.getD 80 9) (RX0, TX0, 4)).1)] := goodIn_of _ (by decide +kernel)
theorem kl_g480 : GoodIn lw_tbl [Cond.methodLink RL 70 (sm_y.getD 47 ⟨"", "", ""⟩), Cond.instanceMethod (sm_y.getD 47 ⟨"", "", ""⟩), Cond.selects ((sm_cl.getD (sm_own.getD 47 9) (RX0, TX0, 4)).1) (sm_y.getD 47 ⟨"", "", ""⟩) (sm_y.getD 47 ⟨"", "", ""⟩), Cond.initialized ((sm_cl.getD (sm_own.getD 47 9) (RX0, TX0, 4)).1)] := goodIn_of _ (by decide +kernel)
theorem kl_g496 : GoodIn lw_tbl [Cond.methodLink RL 73 (sm_y.getD 83 ⟨"", "", ""⟩), Cond.instanceMethod (sm_y.getD 83 ⟨"", "", ""⟩), Cond.selects ((sm_cl.getD (sm_own.getD 83 9) (RX0, TX0, 4)).1) (sm_y.getD 83 ⟨"", "", ""⟩) (sm_y.getD 83 ⟨"", "", ""⟩), Cond.initialized ((sm_cl.getD (sm_own.getD 83 9) (RX0, TX0, 4)).1)] := goodIn_of _ (by decide +kernel)
theorem kl_g511 : GoodIn lw_tbl [Cond.methodLink RL 74 (sm_y.getD 49 ⟨"", "", ""⟩), Cond.instanceMethod (sm_y.getD 49 ⟨"", "", ""⟩), Cond.selects ((sm_cl.getD (sm_own.getD 49 9) (RX0, TX0, 4)).1) (sm_y.getD 49 ⟨"", "", ""⟩) (sm_y.getD 49 ⟨"", "", ""⟩), Cond.initialized ((sm_cl.getD (sm_own.getD 49 9) (RX0, TX0, 4)).1)] := goodIn_of _ (by decide +kernel)
theorem kl_g521 : GoodIn lw_tbl [Cond.methodLink RL 77 (sm_y.getD 84 ⟨"", "", ""⟩), Cond.instanceMethod (sm_y.getD 84 ⟨"", "", ""⟩), Cond.selects ((sm_cl.getD (sm_own.getD 84 9) (RX0, TX0, 4)).1) (sm_y.getD 84 ⟨"", "", ""⟩) (sm_y.getD 84 ⟨"", "", ""⟩), Cond.initialized ((sm_cl.getD (sm_own.getD 84 9) (RX0, TX0, 4)).1)] := goodIn_of _ (by decide +kernel)
theorem kl_g542 : GoodIn lw_tbl [Cond.methodLink RL 78 (sm_y.getD 50 ⟨"", "", ""⟩), Cond.instanceMethod (sm_y.getD 50 ⟨"", "", ""⟩), Cond.selects ((sm_cl.getD (sm_own.getD 50 9) (RX0, TX0, 4)).1) (sm_y.getD 50 ⟨"", "", ""⟩) (sm_y.getD 50 ⟨"", "", ""⟩), Cond.initialized ((sm_cl.getD (sm_own.getD 50 9) (RX0, TX0, 4)).1)] := goodIn_of _ (by decide +kernel)
theorem kl_g558 : GoodIn lw_tbl [Cond.methodLink RL 81 (sm_y.getD 85 ⟨"", "", ""⟩), Cond.instanceMethod (sm_y.getD 85 ⟨"", "", ""⟩), Cond.selects ((sm_cl.getD (sm_own.getD 85 9) (RX0, TX0, 4)).1) (sm_y.getD 85 ⟨"", "", ""⟩) (sm_y.getD 85 ⟨"", "", ""⟩), Cond.initialized ((sm_cl.getD (sm_own.getD 85 9) (RX0, TX0, 4)).1)] := goodIn_of _ (by decide +kernel)
theorem kl_g598 : GoodIn lw_tbl [Cond.methodLink RL 87 (sm_y.getD 87 ⟨"", "", ""⟩), Cond.instanceMethod (sm_y.getD 87 ⟨"", "", ""⟩), Cond.selects ((sm_cl.getD (sm_own.getD 87 9) (RX0, TX0, 4)).1) (sm_y.getD 87 ⟨"", "", ""⟩) (sm_y.getD 87 ⟨"", "", ""⟩), Cond.initialized ((sm_cl.getD (sm_own.getD 87 9) (RX0, TX0, 4)).1)] := goodIn_of _ (by decide +kernel)
theorem kl_g604 : GoodIn lw_tbl [Cond.methodLink RL 88 (sm_y.getD 55 ⟨"", "", ""⟩), Cond.instanceMethod (sm_y.getD 55 ⟨"", "", ""⟩), Cond.selects ((sm_cl.getD (sm_own.getD 55 9) (RX0, TX0, 4)).1) (sm_y.getD 55 ⟨"", "", ""⟩) (sm_y.getD 55 ⟨"", "", ""⟩), Cond.initialized ((sm_cl.getD (sm_own.getD 55 9) (RX0, TX0, 4)).1)] := goodIn_of _ (by decide +kernel)
theorem kl_g647 : GoodIn lw_tbl [Cond.methodLink RL 91 (sm_y.getD 53 ⟨"", "", ""⟩), Cond.instanceMethod (sm_y.getD 53 ⟨"", "", ""⟩), Cond.selects ((sm_cl.getD (sm_own.getD 53 9) (RX0, TX0, 4)).1) (sm_y.getD 53 ⟨"", "", ""⟩) (sm_y.getD 53 ⟨"", "", ""⟩), Cond.initialized ((sm_cl.getD (sm_own.getD 53 9) (RX0, TX0, 4)).1)] := goodIn_of _ (by decide +kernel)
theorem kl_g663 : GoodIn lw_tbl [Cond.methodLink RL 94 (sm_y.getD 88 ⟨"", "", ""⟩), Cond.instanceMethod (sm_y.getD 88 ⟨"", "", ""⟩), Cond.selects ((sm_cl.getD (sm_own.getD 88 9) (RX0, TX0, 4)).1) (sm_y.getD 88 ⟨"", "", ""⟩) (sm_y.getD 88 ⟨"", "", ""⟩), Cond.initialized ((sm_cl.getD (sm_own.getD 88 9) (RX0, TX0, 4)).1)] := goodIn_of _ (by decide +kernel)
theorem kl_g678 : GoodIn lw_tbl [Cond.methodLink RL 95 (sm_y.getD 54 ⟨"", "", ""⟩), Cond.instanceMethod (sm_y.getD 54 ⟨"", "", ""⟩), Cond.selects ((sm_cl.getD (sm_own.getD 54 9) (RX0, TX0, 4)).1) (sm_y.getD 54 ⟨"", "", ""⟩) (sm_y.getD 54 ⟨"", "", ""⟩), Cond.initialized ((sm_cl.getD (sm_own.getD 54 9) (RX0, TX0, 4)).1)] := goodIn_of _ (by decide +kernel)
theorem kl_g688 : GoodIn lw_tbl [Cond.methodLink RL 98 (sm_y.getD 89 ⟨"", "", ""⟩), Cond.instanceMethod (sm_y.getD 89 ⟨"", "", ""⟩), Cond.selects ((sm_cl.getD (sm_own.getD 89 9) (RX0, TX0, 4)).1) (sm_y.getD 89 ⟨"", "", ""⟩) (sm_y.getD 89 ⟨"", "", ""⟩), Cond.initialized ((sm_cl.getD (sm_own.getD 89 9) (RX0, TX0, 4)).1)] := goodIn_of _ (by decide +kernel)
theorem kl_gL : GoodIn lw_tbl (va_wsS RL 82 yL_look ll_ws) := by
  have h1 : GoodIn lw_tbl (([.methodLink RL 82 yL_look, .static yL_look, .initialized yL_look.cls] : List Cond) ++ [.codeWith yL_look cL_look 5 (some .int) [(0, 10, 13, 13), (0, 10, 17, 15)], .classLink RL 13 lk_I, .classLink RL 15 lk_N, .methodLink RL 7 yX2_look, .instanceMethod yX2_look, .selects RX2 yX2_look yX2_look, .initialized RX2, .code yX2_look cX2_look 4 (some .int)]) := goodIn_p _ [396] (by decide +kernel) (by decide +kernel)
  have h2 : ∀ w ∈ lk_w1, goodWord w = true := fun w hw => (List.mem_filter.mp hw).2
  have h3 : ∀ w ∈ lk_w2, goodWord w = true := fun w hw => (List.mem_filter.mp hw).2
  intro w hw
  unfold va_wsS ll_ws wsV lx_ws at hw
  simp only [List.mem_append, List.mem_cons, List.not_mem_nil, or_false] at hw
  rcases hw with (rfl | rfl | rfl) | rfl | (rfl | rfl) | (rfl | rfl | rfl | rfl) | rfl | hw | hw | hw | hw
  · exact h1 _ (by simp)
  · exact h1 _ (by simp)
  · exact h1 _ (by simp)
  · exact h1 _ (by simp)
  · exact h1 _ (by simp)
  · exact h1 _ (by simp)
  · exact h1 _ (by simp)
  · exact h1 _ (by simp)
  · exact h1 _ (by simp)
  · exact h1 _ (by simp)
  · exact h1 _ (by simp)
  · exact lk_smW w hw
  · exact lk_w0_in w hw
  · exact ⟨lk_w1_in w hw, good_of_word (h2 w hw)⟩
  · exact ⟨lk_w2_in w hw, good_of_word (h3 w hw)⟩
/-- what holds throughout the law's loop -/
def kl_F (l : Launch) (p : Program) (s : State) (m : MethodId) (meth : Method) (c : Code) (b L : Nat) (xs : Nat → Int32) (D : va_G) (cI cZ cQ cS cL : ClassId) (ad : Nat → Nat → Nat) (o sa sb : Nat) : Prop :=
  lw_At p s m meth c b L xs ∧ L ≤ 2048 ∧ l.stackTraces = false ∧ sw_inj ad ∧ ¬ sw_A ad o ∧ (∀ q, sw_A ad q → s.heap.size ≤ q) ∧ s.heap.size ≤ o ∧ va_K D sm_cl (sw_tys cI cZ cQ cS ++ [(cL, .long)]) s ∧ lk_Z (fun q => s.heap.size ≤ q) sa sb s s.heap
abbrev kl_lv (b o : Nat) (ad : Nat → Nat → Nat) (n : Nat) : List (Nat × Value) := [(4, .int (nI (4 * n))), (3, .ref o), (2, .ref (ad 10 0)), (1, .ref (ad 0 0)), (0, .ref b)]
/-- the world between two calls -/
def kl_I (s : State) (D : va_G) (cI cZ cQ cS cL : ClassId) (ad : Nat → Nat → Nat) (o : Nat) (h : AHp) (f : Nat → Int64) (H : Heap) (locs : List Loc) : Prop :=
  va_P D sm_cl (sw_ws cI cZ cQ cS ad h) H ∧ va_P D sm_cl [ll_o cL o f] H ∧ va_S (fun q => s.heap.size ≤ q) s.heap H locs
section KLA
variable {p : Program} {l : Launch} {e : Env} {s : State} {m : MethodId} {below : List Frame} {meth : Method} {c : Code} {b L : Nat} {xs : Nat → Int32} {D : va_G} {cI cZ cQ cS cL : ClassId} {ad : Nat → Nat → Nat} {o sa sb : Nat} {H : Heap} {locs : List Loc} {cells slots pc n : Nat} {ls : Array Slot} {st : List Value} {lv : List (Nat × Value)} {Q : State → Prop}
/-- the script's int at 4 n + j -/
theorem kl_rd (F : kl_F l p s m meth c b L xs D cI cZ cQ cS cL ad o sa sb) (hn : 4 * n + 4 ≤ L) (hS : va_S (fun q => s.heap.size ≤ q) s.heap H locs) (hl : lv_has ls 7 lv) (i4 i0 : Nat) (h4 : lv[i4]? = some (4, .int (nI (4 * n)))) (h0 : lv[i0]? = some (0, .ref b)) (j : Nat) (jv : Int32) (hj : j < 4) (hjv : jv = nI j) {jc : Int} (hjc : Int32.ofInt jc = jv)
    (d1 : decode code pc = .ok (.aload_n 0, 1)) (d2 : decode code (pc + 1) = .ok (.iload 4, 2)) (d3 : decode code (pc + 3) = .ok (.iconst jc, 1)) (d4 : decode code (pc + 4) = .ok (.iadd, 1)) (d5 : decode code (pc + 5) = .ok (.iaload, 1))
    (kk : W p l e room_1 s m #[Value.ref b] below meth c H locs cells slots Q (F0 m (pc + 6) ls (.int (xs (4 * n + j)) :: st))) : W p l e room_1 s m #[Value.ref b] below meth c H locs cells slots Q (F0 m pc ls st) := by
  obtain ⟨⟨hx, hb, hr, hml, hown, hts, hX, hbl, hlocks, hgv⟩, hL, htr, hinj, ho, hA, hAo, hK5, hZ⟩ := F
  have e1 : nI (4 * n) + jv = nI (4 * n + j) := by rw [hjv]; exact nI_add _ _
  refine lv_aload_n hx hb d1 rfl (lv_at hl i0 h0) ?_
  refine lv_iload hx hb d2 (lv_at hl i4 h4) ?_
  refine lv_iconst (v := jv) hx hb d3 hjc ?_
  refine lv_iadd hx hb d4 ?_
  rw [e1]
  refine va_sld (A := fun q => s.heap.size ≤ q) hx hb hX hbl (Nat.not_le.mpr hbl) hS (vp_in_nI (by omega) (by omega)) d5 ?_
  rw [nI_clamp (by omega)]
  exact kk
end KLA
