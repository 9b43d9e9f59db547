/-! ===== throw new E("text"), E's own constructor by any index of its pool ===== -/
/-- what the road of such a throw asks of the tables: 'ix' and 'bs' are E's own index and bytes -/
def cz_at (own : String) (ic : Nat) (X Y : String) (ix : Nat) (bs : ByteArray) (names : List String) : List Cond := Bundle.throwableAtoms ++ (Bundle.throwableSAtoms ++ (Bundle.passSAtoms X Y ix bs ++ (Bundle.chainSAtoms Y names ++ [.methodLink own ic (Bundle.initS X), .instantiable X 6, .selects X Bundle.tFill0 Bundle.tFill0, .selects X Bundle.tFill Bundle.tFill, .lays X Bundle.tN "cause" "Ljava/lang/Throwable;", .lays X Bundle.tN "stackTrace" Bundle.steD, .lays X Bundle.tN "suppressedExceptions" Bundle.listD, .lays X Bundle.tN "detailMessage" "Ljava/lang/String;", .lays X Bundle.tN "backtrace" "Ljava/lang/Object;", .isRef (.static Bundle.tN "UNASSIGNED_STACK" Bundle.steD), .isRef (.static Bundle.tN "SUPPRESSED_SENTINEL" Bundle.listD), .fieldLink Bundle.tN 198 Bundle.tN "backtrace" "Ljava/lang/Object;", .lays Bundle.tN Bundle.tN "backtrace" "Ljava/lang/Object;"])))
theorem cz_dec {args : Array Value} {s : State} {x : MethodName} {bs : ByteArray} {ml : Nat} {ret : Option FieldType} (h1 : (Cond.instanceMethod x).before args s = true) (h2 : (Cond.code x bs ml ret).before args s = true) : (Cond.declares x).before args s = true := by
  obtain ⟨m, meth, hn, hm, hs, -⟩ := Cond.instanceMethod_spec h1
  obtain ⟨meth', cd, hm', -, -, -, -, -, -, hp⟩ := Cond.code_spec hn h2
  cases hm.symm.trans hm'
  simp [Cond.before, Cond.holds, Cond.value, hn, hm, hs, hp]
set_option maxHeartbeats 1000000 in
theorem cz_ctor {p : Program} {l : Launch} {e : Env} {R : Room} {s : State} {m0 : MethodId} {args : Array Value} {below : List Frame} {meth : Method} {c : Code} {V : State} {locs : List Loc} {cells slots : Nat} (X : Stand p l e R s m0 args below meth c V locs cells slots) (hexec : p.tables.exec = Jvm.exec) (htr : e.platform.stackTraces = false) {own cls Y : String} {names : List String} {ic ix : Nat} {bs : ByteArray}
    (hown : s.vm.findClass own = some m0.cls) (hcls : Bundle.fit cls = true) (hY : Bundle.fit Y = true) (hnames : ∀ n ∈ names, Bundle.fit n = true) (b0 : decode bs 0 = .ok (.aload_n 0, 1)) (b1 : decode bs 1 = .ok (.aload_n 1, 1)) (b2 : decode bs 2 = .ok (.invokespecial ix, 3)) (b5 : decode bs 5 = .ok (.return_, 1))
    (h : ∀ w ∈ cz_at own ic cls Y ix bs names, w.before args s = true) (hlocs : ∀ x ∈ locs, ∀ cell, s.heap[x.base]? = some cell → cell.vm.isStatics = false)
    {a : Addr} {cX : ClassId} {kX : Class} (hfX : s.vm.findClass cls = some cX) (hkX : s.vm.classes[cX]? = some kX) (hcell : V.heap[a]? = some (freshCell cX kX)) (hnew : s.heap.size ≤ a) {msg : Value} (hmsg : msg.isRef = true)
    {g : JFrame} (hg : g.method = m0) (hsize : g.locals.size = c.maxLocals) (hlocked : g.locked = none) (hentered : g.entered = []) {rest : List Value} (hstack : g.stack = msg :: .ref a :: .ref a :: rest)
    (hd6 : decode c.code g.pc = .ok (.invokespecial ic, 3)) (hd9 : decode c.code (g.pc + 3) = .ok (.athrow, 1)) (hout : ∀ x ∈ c.exceptionTable.toList, covers x (g.pc + 3) = false)
    (hRf : names.length + 4 < R.frames) (hRl : 2 * g.monitorRoom + ((Value.ref a :: rest).map fun v => v.category).sum + (13 * (names.length + 2) + 42) ≤ R.locals) (hlocks : meth.locks = false) :
    ∃ U : State, Steps p.tables e below (V.setTop g) U ∧ U.status = .running ∧ Ended U below (.threw a) ∧ s.WarmedH U.vm ∧ s.sameButNew ({ U with vm := s.vm } : State) locs cells slots ∧ ∃ ce, U.heap[a]? = some ce ∧ ce.vm = .none ∧ s.vm.findClass cls = some ce.cls := by
  have howns : e.platform.frameOwnsMonitors = true := by rw [X.admits.platform]
  have hfin : e.platform.finalization = false := by rw [X.admits.platform]
  have hpl : e.platform.magicAccessors = ({} : Platform).magicAccessors := by rw [X.admits.platform]
  have q1 : ∀ w ∈ Bundle.throwableAtoms, w.before args s = true := fun w hw => h w (List.mem_append.mpr (Or.inl hw))
  have q2 : ∀ w ∈ Bundle.throwableSAtoms, w.before args s = true := fun w hw => h w (List.mem_append.mpr (Or.inr (List.mem_append.mpr (Or.inl hw))))
  have q3 : ∀ w ∈ Bundle.passSAtoms cls Y ix bs, w.before args s = true := fun w hw => h w (List.mem_append.mpr (Or.inr (List.mem_append.mpr (Or.inr (List.mem_append.mpr (Or.inl hw))))))
  have q4 : ∀ w ∈ Bundle.chainSAtoms Y names, w.before args s = true := fun w hw => h w (List.mem_append.mpr (Or.inr (List.mem_append.mpr (Or.inr (List.mem_append.mpr (Or.inr (List.mem_append.mpr (Or.inl hw))))))))
  have q5 : ∀ w : Cond, w ∈ [Cond.methodLink own ic (Bundle.initS cls), .instantiable cls 6, .selects cls Bundle.tFill0 Bundle.tFill0, .selects cls Bundle.tFill Bundle.tFill, .lays cls Bundle.tN "cause" "Ljava/lang/Throwable;", .lays cls Bundle.tN "stackTrace" Bundle.steD, .lays cls Bundle.tN "suppressedExceptions" Bundle.listD, .lays cls Bundle.tN "detailMessage" "Ljava/lang/String;", .lays cls Bundle.tN "backtrace" "Ljava/lang/Object;", .isRef (.static Bundle.tN "UNASSIGNED_STACK" Bundle.steD), .isRef (.static Bundle.tN "SUPPRESSED_SENTINEL" Bundle.listD), .fieldLink Bundle.tN 198 Bundle.tN "backtrace" "Ljava/lang/Object;", .lays Bundle.tN Bundle.tN "backtrace" "Ljava/lang/Object;"] → w.holds args s none s [] = true := fun w hw => h w (List.mem_append.mpr (Or.inr (List.mem_append.mpr (Or.inr (List.mem_append.mpr (Or.inr (List.mem_append.mpr (Or.inr hw))))))))
  simp only [List.forall_mem_cons] at q5
  obtain ⟨w1, w2, w3, w4, w5, w6, w7, w8, w9, w10, w11, w12, w13, -⟩ := q5
  obtain ⟨T, Z0, L, -, K⟩ := ThrowableC.of_atoms (args := args) howns hfin hpl q1
  obtain ⟨Z, N, LZ, LN, hnZ⟩ := Init0T.ofS_atoms (args := args) hpl L K q2
  obtain ⟨P2, Qs, hlen, L2, hLs, hP2, hl2, hls⟩ := Bundle.chainS (args := args) hpl hnZ names Y hY hnames q4
  obtain ⟨P1, L1, hP1, hsup⟩ := PassC.ofS_atoms (args := args) hpl (Bundle.fit_spec hcls).1 (Bundle.fit_spec hY).2 b0 b1 b2 b5 q3
  have hs1 : P1.sup = P2.m := Option.some.inj (hsup.symm.trans hP2)
  have hfc : s.vm.findClass cls = some P1.m.cls := findClass_of_methodNamed hP1
  cases Option.some.inj (hfX.symm.trans hfc)
  obtain ⟨c1, kX', hc1, hk, hord, -, -, hn6⟩ := Cond.instantiable_spec w2
  cases Option.some.inj (hc1.symm.trans hfc)
  cases Option.some.inj (hkX.symm.trans hk)
  have hsel0 : selectMethod e.platform s.vm P1.m.cls T.fill0 = .method T.fill0 := by
    obtain ⟨c2, r2, m2, z1, z2, z3, z4, -⟩ := Cond.selects_spec w3
    cases Option.some.inj (z1.symm.trans hfc)
    cases Option.some.inj (z2.symm.trans (State.methodFound?_of_named K.fill0 (by decide)))
    cases Option.some.inj (z3.symm.trans K.fill0)
    rw [Launch.admits_selectMethod X.admits]; exact z4
  have hsel1 : selectMethod e.platform s.vm P1.m.cls T.fill = .method T.fill := by
    obtain ⟨c2, r2, m2, z1, z2, z3, z4, -⟩ := Cond.selects_spec w4
    cases Option.some.inj (z1.symm.trans hfc)
    cases Option.some.inj (z2.symm.trans (State.methodFound?_of_named K.fill (by decide)))
    cases Option.some.inj (z3.symm.trans K.fill)
    rw [Launch.admits_selectMethod X.admits]; exact z4
  obtain ⟨cS0, hS0, hiss⟩ := K.statics
  obtain ⟨u0, hu0⟩ := Cond.staticRefV K.unassigned L.unassignedStatic L.statics hS0 hiss w10
  obtain ⟨u1, hu1⟩ := Cond.staticRefV K.sentinel L.sentinelStatic L.statics hS0 hiss w11
  obtain ⟨ci9, i9, fB, hk9, hg9, ha9, hsB, -, hnB, htB, hffB⟩ := Cond.ownField (t := .object "java/lang/Object") K.found L.cls (by decide +kernel) w12 w13 e.platform hpl
  obtain ⟨cS, hS1, heS, -, hkeep⟩ := X.same.2.2.2.2.2 T.aS cS0 hS0
  have hcS : V.heap[T.aS]? = some cS := hS1
  have hoff : ∀ i, (⟨T.aS, i⟩ : Loc) ∉ locs := fun i hmem => by
    have z := hlocs _ hmem cS0 hS0
    rw [hiss] at z; cases z
  have hkn : cS.vm ≠ .unknown := by
    rw [heS]; intro hu
    rw [show cS0.vm = .unknown from hu] at hiss
    cases hiss
  have hne : T.aS ≠ a := Nat.ne_of_lt (Nat.lt_of_lt_of_le (Array.getElem?_eq_some_iff.mp hS0).1 hnew)
  obtain ⟨iM, hffM⟩ := K.msg
  obtain ⟨tC, dC, eC, fC⟩ := Cond.laysAt hfc hk K.cause w5
  obtain ⟨tS, dS, eS, fS⟩ := Cond.laysAt hfc hk K.stack w6
  obtain ⟨tP, dP, eP, fP⟩ := Cond.laysAt hfc hk K.supp w7
  obtain ⟨tM, dM, eM, fM⟩ := Cond.laysAt hfc hk hffM w8
  obtain ⟨tB, dB, eB, fB9⟩ := Cond.laysAt hfc hk hffB w9
  have bC := Cond.laysApart eB eC fB9 fC (by rw [hnB, K.causeName]; decide)
  have bS := Cond.laysApart eB eS fB9 fS (by rw [hnB, K.stackName]; decide)
  have bP := Cond.laysApart eB eP fB9 fP (by rw [hnB, K.suppName]; decide)
  have hskip : SkipFacts T e.platform s (fun u => u) u0 ((preparedCellV T.toThrowableT (freshCell P1.m.cls kX) a u0 u1).withEntry V.cur) :=
    ⟨{ ci198 := ci9, i198 := i9, fBack := fB }, ⟨hk9, hg9, ha9, hsB⟩, by
      have z := fresh_default (c := P1.m.cls) tB
      rw [htB] at z
      simpa [preparedCellV, Cell.setSlot, Cell.withEntry, Array.getElem?_setIfInBounds, bC, bS, bP, bC.symm, bS.symm, bP.symm, defaultValue] using z, fun _ _ => rfl⟩
  obtain ⟨tm, mC, cC, kC, vm1, hnC, -, -, -, -, -, -, -, hW1, st1⟩ := Steps.initColdS (tb := p.tables) (e := e) (below := below) (s := s) (U := V) X.here hexec X.warmed hpl hown (t := Bundle.initS cls) rfl rfl (Bundle.fit_spec hcls).2
    w1 (q3 (.instanceMethod (Bundle.initS cls)) List.mem_cons_self) (bytes := bs) (maxL := 2) (q3 (.code (Bundle.initS cls) bs 2 none) (List.mem_cons_of_mem _ List.mem_cons_self)) (f := g) hg (a := a) (msg := msg) (rest := .ref a :: rest) hstack hd6
  cases Option.some.inj (hnC.symm.trans hP1)
  have X1 := X.noted hW1
  obtain ⟨vm2, X2, st2⟩ := X1.ctorMessageOffV hexec (g := { g with stack := .ref a :: rest }) hg hsize T L Z LZ N LN (P1 :: P2 :: Qs)
    (fun P hP => by
      rcases List.mem_cons.mp hP with rfl | hP
      · exact L1
      · rcases List.mem_cons.mp hP with rfl | hP
        · exact L2
        · exact hLs P hP) ⟨hs1, hl2, hls⟩ (u0 := u0) (sen := u1) (self := a) hmsg (cell := freshCell P1.m.cls kX) (cellS := cS)
    hcell (fun _ => by simp) (by simp) rfl rfl hsel0 hsel1 hcS hne hkn (by rw [hkeep _ (hoff _)]; exact hu0) (by rw [hkeep _ (hoff _)]; exact hu1)
    (Takes.of_laid hk hord tC (by rw [K.causeType]; rfl)) (Takes.of_laid hk hord tS (by rw [K.stackType]; exact fits_refV_array _ u0)) (Takes.of_laid hk hord tP (by rw [K.suppType]; exact fits_refV_object _ u1))
    (Takes.of_laid hk hord tM (by rw [K.msgType]; exact fits_refV_object _ ⟨msg, hmsg⟩)) K.objLocals hskip htr [] hd6
    (by simp only [List.length_cons, hlen]; omega) (by simp only [List.length_cons, hlen]; exact hRl)
  obtain ⟨hwalk, hrun, hended, hWU, hsame⟩ := X2.athrowLeaves hexec (g := { g with stack := .ref a :: rest, pc := g.pc + 3 }) hg hlocked hentered hout (a := a) (rest := rest) rfl hd9
  have hlt : a < ((V.setVm vm1).setVm vm2).heap.size := (Array.getElem?_eq_some_iff.mp hcell).1
  have hU := heapAt_setCell_self (s := (V.setVm vm1).setVm vm2) (plainBareV T.toThrowableT (freshCell P1.m.cls kX) a u0 u1 msg) hlt
  refine ⟨_, st1 _ (fun acts => ?_), hrun, hended, hWU, hsame.weaken (fun y hy hlt9 => ?_) (Nat.le_refl _) (Nat.le_refl _), _, hU, rfl, hfc⟩
  · rw [doInvoke_state]
    exact st2 _ hwalk
  · rcases List.mem_append.mp hy with z | z
    · exact z
    · exfalso
      have hb : y.base = a := by
        simp only [List.mem_cons, List.not_mem_nil, or_false] at z
        rcases z with rfl | rfl | rfl | rfl | rfl <;> rfl
      rw [hb] at hlt9
      exact Nat.not_lt.mpr hnew hlt9

