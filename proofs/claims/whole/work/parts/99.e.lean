/-! ===== arrays of two and three dimensions ===== -/
def o3 (c : ClassId) (N K h0 : Nat) : Nat → Cell
  | 0 => { cls := c, slots := Array.replicate N .null, vm := .none }
  | i + 1 => (o3 c N K h0 i).setSlot i (.ref (h0 + 1 + i * (1 + K)))
def f3 (s : State) (c c2 c1 : ClassId) (N K L : Nat) (dv : Value) : Nat → State
  | 0 => s.pushCell (o3 c N K s.heap.size 0)
  | i + 1 => (Multi.fill (f3 s c c2 c1 N K L dv i) c2 c1 K L dv K).setCell s.heap.size (o3 c N K s.heap.size (i + 1))
theorem o3_facts (c : ClassId) (N K h0 : Nat) : ∀ i, (o3 c N K h0 i).cls = c ∧ (o3 c N K h0 i).vm = .none ∧ (o3 c N K h0 i).slots.size = N
  | 0 => ⟨rfl, rfl, by simp [o3]⟩
  | i + 1 => by
    obtain ⟨a, b, d⟩ := o3_facts c N K h0 i
    exact ⟨by simp [o3, Cell.setSlot, a], by simp [o3, Cell.setSlot, b], by simp [o3, Cell.setSlot, d]⟩
theorem f3_facts (s : State) (c c2 c1 : ClassId) (N K L : Nat) (dv : Value) : ∀ i, (f3 s c c2 c1 N K L dv i).heap.size = s.heap.size + 1 + i * (1 + K) ∧ (f3 s c c2 c1 N K L dv i).heap[s.heap.size]? = some (o3 c N K s.heap.size i) ∧
    (f3 s c c2 c1 N K L dv i).vm = s.vm ∧ (f3 s c c2 c1 N K L dv i).slotsUsed = s.slotsUsed + N + i * (K + K * L)
  | 0 => ⟨by simp [f3], by simp [f3], rfl, by simp [f3, o3]⟩
  | i + 1 => by
    obtain ⟨a, b, d, u⟩ := f3_facts s c c2 c1 N K L dv i
    obtain ⟨a2, b2, d2, u2⟩ := Multi.fill_facts (f3 s c c2 c1 N K L dv i) c2 c1 K L dv K
    have hlt : s.heap.size < (f3 s c c2 c1 N K L dv i).heap.size := by omega
    have hb' : (Multi.fill (f3 s c c2 c1 N K L dv i) c2 c1 K L dv K).heap[s.heap.size]? = some (o3 c N K s.heap.size i) := by rw [Multi.fill_old _ _ _ _ _ _ hlt]; exact b
    refine ⟨?_, State.heap_setCell_self hb', by simp [f3, d2, d], ?_⟩
    · simp [f3, State.setCell, a2, a, Nat.succ_mul]; omega
    · simp [f3, u2, u, Nat.succ_mul]; omega
theorem f3_setTop (s : State) (f : JFrame) (c c2 c1 : ClassId) (N K L : Nat) (dv : Value) : ∀ i, f3 (s.setTop f) c c2 c1 N K L dv i = (f3 s c c2 c1 N K L dv i).setTop f
  | 0 => rfl
  | i + 1 => by simp only [f3, f3_setTop s f c c2 c1 N K L dv i, State.heap_setTop, Multi.fill_setTop, State.setCell_setTop]
theorem f3_old (s : State) (c c2 c1 : ClassId) (N K L : Nat) (dv : Value) {a : Addr} (ha : a < s.heap.size) : ∀ i, (f3 s c c2 c1 N K L dv i).heap[a]? = s.heap[a]?
  | 0 => State.heap_pushCell_of_lt _ _ ha
  | i + 1 => by
    have f1 := (f3_facts s c c2 c1 N K L dv i).1
    have hlt : a < (f3 s c c2 c1 N K L dv i).heap.size := Nat.lt_of_lt_of_le ha (by rw [f1]; omega)
    show ((Multi.fill (f3 s c c2 c1 N K L dv i) c2 c1 K L dv K).setCell s.heap.size _).heap[a]? = _
    rw [State.heap_setCell_other (Nat.ne_of_gt ha), Multi.fill_old _ _ _ _ _ _ hlt]
    exact f3_old s c c2 c1 N K L dv ha i
theorem f3_mid (s : State) (c c2 c1 : ClassId) (N K L : Nat) (dv : Value) : ∀ i j, j < i → (f3 s c c2 c1 N K L dv i).heap[s.heap.size + 1 + j * (1 + K)]? = some (Multi.outerC c2 K (s.heap.size + 1 + j * (1 + K)) K) ∧ ∀ q, q < K → (f3 s c c2 c1 N K L dv i).heap[s.heap.size + 1 + j * (1 + K) + 1 + q]? = some (Multi.innerC c1 L dv)
  | 0, _, h => absurd h (Nat.not_lt_zero _)
  | i + 1, j, h => by
    have f1 := (f3_facts s c c2 c1 N K L dv i).1
    have e : ∀ a, a ≠ s.heap.size → (f3 s c c2 c1 N K L dv (i + 1)).heap[a]? = (Multi.fill (f3 s c c2 c1 N K L dv i) c2 c1 K L dv K).heap[a]? := fun a ha => by
      show ((Multi.fill (f3 s c c2 c1 N K L dv i) c2 c1 K L dv K).setCell s.heap.size _).heap[a]? = _
      rw [State.heap_setCell_other (Ne.symm ha)]
    rcases Nat.lt_or_ge j i with hj | hj
    · obtain ⟨g1, g2⟩ := f3_mid s c c2 c1 N K L dv i j hj
      have hm : j * (1 + K) + (1 + K) ≤ i * (1 + K) := by
        have := Nat.mul_le_mul_right (1 + K) (show j + 1 ≤ i from hj)
        rw [Nat.succ_mul] at this; exact this
      refine ⟨?_, fun q hq => ?_⟩
      · have hx : s.heap.size + 1 + j * (1 + K) < (f3 s c c2 c1 N K L dv i).heap.size := by rw [f1]; omega
        rw [e _ (by omega), Multi.fill_old _ _ _ _ _ _ hx]; exact g1
      · have hx : s.heap.size + 1 + j * (1 + K) + 1 + q < (f3 s c c2 c1 N K L dv i).heap.size := by rw [f1]; omega
        rw [e _ (by omega), Multi.fill_old _ _ _ _ _ _ hx]; exact g2 q hq
    · have ej : j = i := by omega
      subst ej
      have g1 := (Multi.fill_facts (f3 s c c2 c1 N K L dv j) c2 c1 K L dv K).2.1
      rw [f1] at g1
      refine ⟨?_, fun q hq => ?_⟩
      · rw [e _ (by omega)]; exact g1
      · have g2 := Multi.fill_inner (f3 s c c2 c1 N K L dv j) c2 c1 K L dv K q hq
        rw [f1] at g2
        rw [e _ (by omega)]; exact g2
theorem o3_arr (c : ClassId) (N K h0 : Nat) : ∀ i : Nat, o3 c N K h0 i = arrV c N (fun j => va_rf (if j < i then some (h0 + 1 + j * (1 + K)) else none))
  | 0 => by
    show ({ cls := c, slots := Array.replicate N .null, vm := .none } : Cell) = _
    rw [arrV_new]
    refine congrArg (arrV c N) (funext fun j => ?_)
    simp [va_rf]
  | i + 1 => by
    show (o3 c N K h0 i).setSlot i (.ref (h0 + 1 + i * (1 + K))) = _
    rw [o3_arr c N K h0 i, arrV_store]
    refine congrArg (arrV c N) (funext fun j => ?_)
    by_cases e : j = i
    · subst e
      simp [updV, va_rf]
    · by_cases h : j < i
      · simp [updV, e, h, Nat.lt_succ_of_lt h]
      · simp [updV, e, h, show ¬ j < i + 1 by omega]
section MK3
variable {E : CtlPost} {e : Env} {d : Bool} {acts : List Action} {s : State}
theorem wp_make3 {c c2 c1 cc : ClassId} {k k2 k1 : Class} {t0 t1 type : FieldType} {n m q : Int32} (hk : s.vm.classes[c]? = some k) (hkind : k.kind = .array c2 t0) (href : t0.isReference = true)
    (hk2 : s.vm.classes[c2]? = some k2) (hkind2 : k2.kind = .array c1 t1) (href1 : t1.isReference = true) (hk1 : s.vm.classes[c1]? = some k1) (hkind1 : k1.kind = .array cc type) (hn : ¬ n < 0) (hm : ¬ m < 0) (hq0 : ¬ q < 0)
    (hl1 : ¬ n.toNatClampNeg > e.platform.arrayLengthLimit) (hh1 : ¬ n.toNatClampNeg * componentBytes t0 > e.platform.maxHeapBytes)
    (hl2 : ¬ m.toNatClampNeg > e.platform.arrayLengthLimit) (hh2 : ¬ m.toNatClampNeg * componentBytes t1 > e.platform.maxHeapBytes)
    (hl3 : ¬ q.toNatClampNeg > e.platform.arrayLengthLimit) (hh3 : ¬ q.toNatClampNeg * componentBytes type > e.platform.maxHeapBytes)
    (hdf : fits type (defaultValue type) = true) (hdd : (defaultValue type).isDefault = true)
    (hc : s.heap.size + 1 + n.toNatClampNeg * (1 + m.toNatClampNeg) ≤ e.platform.maxCells) (hs : s.slotsUsed + n.toNatClampNeg + n.toNatClampNeg * (m.toNatClampNeg + m.toNatClampNeg * q.toNatClampNeg) ≤ e.platform.maxSlots)
    {Q : Addr → Pre} (hq : ∀ d' acts', Q s.heap.size d' acts' (f3 s c c2 c1 n.toNatClampNeg m.toNatClampNeg q.toNatClampNeg (defaultValue type) n.toNatClampNeg)) :
    wp (multianewarray.make c [n, m, q]) Q E e d acts s := by
  have hfind : ([m, q].find? (· < 0)) = none := by simp [hm, hq0]
  rw [multianewarray.make]
  simp only [wp_bind', W.ite, hn, if_false, wp_pure', W.theClass, hk, hkind, Option.some.injEq, exists_eq_left']
  refine Multi.wp_newArray hk hkind hl1 hh1 (Multi.refFits href _ (Or.inl rfl)) rfl (by omega) (by have := Nat.zero_le (n.toNatClampNeg * (m.toNatClampNeg + m.toNatClampNeg * q.toNatClampNeg)); omega) ?_
  simp only [hfind]
  rw [ite_self, wp_bind', Std.Legacy.Range.forIn_eq_forIn_range']
  have hsz : ([:n.toNatClampNeg] : Std.Legacy.Range).size = n.toNatClampNeg := by simp [Std.Legacy.Range.size]
  rw [hsz]
  show wp (forIn (List.range' 0 n.toNatClampNeg 1) PUnit.unit _) _ E e d acts _
  refine wp_forIn_inv (fun rest s' => ∃ i, i ≤ n.toNatClampNeg ∧ rest = List.range' i (n.toNatClampNeg - i) ∧ s' = f3 s c c2 c1 n.toNatClampNeg m.toNatClampNeg q.toNatClampNeg (defaultValue type) i) _ _ ⟨0, Nat.zero_le _, rfl, rfl⟩ ?_ ?_
  · rintro x rest s' d' acts' Q' ⟨i, hi, hl, rfl⟩ hnext
    have hlt : i < n.toNatClampNeg := by
      rcases Nat.lt_or_ge i n.toNatClampNeg with h | h
      · exact h
      · rw [show n.toNatClampNeg - i = 0 from by omega] at hl; simp at hl
    obtain ⟨rfl, hrest⟩ : x = i ∧ rest = List.range' (i + 1) (n.toNatClampNeg - (i + 1)) := by
      rw [show n.toNatClampNeg - i = (n.toNatClampNeg - (i + 1)) + 1 from by omega, List.range'_succ] at hl
      exact ⟨(List.cons.inj hl).1, (List.cons.inj hl).2⟩
    obtain ⟨f1, f2, f3', f4⟩ := f3_facts s c c2 c1 n.toNatClampNeg m.toNatClampNeg q.toNatClampNeg (defaultValue type) x
    obtain ⟨o1, o2, o3'⟩ := o3_facts c n.toNatClampNeg m.toNatClampNeg s.heap.size x
    have hmul : x * (1 + m.toNatClampNeg) + (1 + m.toNatClampNeg) ≤ n.toNatClampNeg * (1 + m.toNatClampNeg) := by
      have := Nat.mul_le_mul_right (1 + m.toNatClampNeg) (show x + 1 ≤ n.toNatClampNeg from hlt)
      rw [Nat.succ_mul] at this; exact this
    have hmul2 : x * (m.toNatClampNeg + m.toNatClampNeg * q.toNatClampNeg) + (m.toNatClampNeg + m.toNatClampNeg * q.toNatClampNeg) ≤ n.toNatClampNeg * (m.toNatClampNeg + m.toNatClampNeg * q.toNatClampNeg) := by
      have := Nat.mul_le_mul_right (m.toNatClampNeg + m.toNatClampNeg * q.toNatClampNeg) (show x + 1 ≤ n.toNatClampNeg from hlt)
      rw [Nat.succ_mul] at this; exact this
    simp only [wp_bind']
    refine Multi.wp_make2 (by rw [f3']; exact hk2) hkind2 href1 (by rw [f3']; exact hk1) hkind1 hm hq0 hl2 hh2 hl3 hh3 hdf hdd (by rw [f1]; omega) (by rw [f4]; omega) (fun d2 acts2 => ?_)
    have hlt0 : s.heap.size < (f3 s c c2 c1 n.toNatClampNeg m.toNatClampNeg q.toNatClampNeg (defaultValue type) x).heap.size := by rw [f1]; omega
    obtain ⟨a2, b2, v2, u2⟩ := Multi.fill_facts (f3 s c c2 c1 n.toNatClampNeg m.toNatClampNeg q.toNatClampNeg (defaultValue type) x) c2 c1 m.toNatClampNeg q.toNatClampNeg (defaultValue type) m.toNatClampNeg
    simp only [wp_bind', W.writeLoc, wp_pure']
    refine ⟨o3 c n.toNatClampNeg m.toNatClampNeg s.heap.size x, by rw [Multi.fill_old _ _ _ _ _ _ hlt0]; exact f2, by rw [o2]; simp, by rw [o3']; exact hlt, ?_, hnext _ _ _ ⟨x + 1, hlt, hrest, ?_⟩⟩
    · rw [o1, o2]
      simp [State.fitsSlot, State.slotType?, v2, f3', hk, hkind, Multi.refFits href _ (Or.inr ⟨_, rfl⟩)]
    · rw [f1]; rfl
  · rintro s' d' acts' ⟨i, hi, hl, rfl⟩
    have hiN : i = n.toNatClampNeg := by
      rcases Nat.lt_or_ge i n.toNatClampNeg with h | h
      · rw [show n.toNatClampNeg - i = (n.toNatClampNeg - (i + 1)) + 1 from by omega, List.range'_succ] at hl; cases hl
      · omega
    subst hiN
    simp only [wp_pure']
    exact hq _ _
end MK3
section ST3
variable {p : Program} {l : Launch} {e : Env} {R : Room} {s : State} {m : MethodId} {args : Array Value} {below : List Frame} {meth : Method} {c : Code} {T : State} {locs : List Loc} {cells slots : Nat}
theorem st_fill (X : Stand p l e R s m args below meth c T locs cells slots) (cA comp : ClassId) (N M : Nat) (dv : Value) (i : Nat) : Stand p l e R s m args below meth c (Multi.fill T cA comp N M dv i) locs (cells + 1 + i) (slots + N + i * M) := by
  refine Stand.dropFresh (Stand.filled X cA comp N M dv i) (fun x hx => ?_)
  obtain ⟨j, -, rfl⟩ := List.mem_map.mp hx
  exact X.heapGrown
theorem st_f3 (X : Stand p l e R s m args below meth c T locs cells slots) (c3 c2 c1 : ClassId) (N K L : Nat) (dv : Value) : ∀ i, Stand p l e R s m args below meth c (f3 T c3 c2 c1 N K L dv i) locs (cells + 1 + i * (1 + K)) (slots + N + i * (K + K * L))
  | 0 => by
    have h := X.pushed (o3 c3 N K T.heap.size 0)
    rw [(o3_facts c3 N K T.heap.size 0).2.2] at h
    simpa [f3] using h
  | i + 1 => by
    have Xi := st_f3 X c3 c2 c1 N K L dv i
    obtain ⟨f1, f2, f3', f4⟩ := f3_facts T c3 c2 c1 N K L dv i
    have hlt0 : T.heap.size < (f3 T c3 c2 c1 N K L dv i).heap.size := by rw [f1]; omega
    have hcell : (Multi.fill (f3 T c3 c2 c1 N K L dv i) c2 c1 K L dv K).heap[T.heap.size]? = some (o3 c3 N K T.heap.size i) := by rw [Multi.fill_old _ _ _ _ _ _ hlt0]; exact f2
    have h := Stand.dropFresh ((st_fill Xi c2 c1 K L dv K).stored hcell i (.ref (T.heap.size + 1 + i * (1 + K)))) (fun x hx => by rw [List.mem_singleton.mp hx]; exact X.heapGrown)
    have e2 : cells + 1 + (i + 1) * (1 + K) = cells + 1 + i * (1 + K) + 1 + K := by rw [Nat.succ_mul]; omega
    have e3 : slots + N + (i + 1) * (K + K * L) = slots + N + i * (K + K * L) + K + K * L := by rw [Nat.succ_mul]; omega
    rw [e2, e3]
    exact h
end ST3
section MNA
variable {p : Program} {l : Launch} {e : Env} {R : Room} {s : State} {m : MethodId} {args : Array Value} {below : List Frame} {meth : Method} {c : Code} {T : State} {locs : List Loc} {cells slots : Nat}
theorem st_mna2 (X : Stand p l e R s m args below meth c T locs cells slots) (hexec : p.tables.exec = Jvm.exec) {own nm : String} {index : Nat} {cA c1 cc : ClassId} {kA k1 : Class}
    (hown : s.vm.findClass own = some m.cls) (hclink : (Cond.classLink own index nm).before args s = true) (hnameA : s.vm.findClass nm = some cA)
    (hkA : s.vm.classes[cA]? = some kA) (hkindA : kA.kind = .array c1 (.array .int)) (hk1 : s.vm.classes[c1]? = some k1) (hkind1 : k1.kind = .array cc .int)
    {g : JFrame} (hg : g.method = m) (hdg : decode c.code g.pc = .ok (.multianewarray index 2, 4)) {n k : Int32} {rest : List Value} (hstack : g.stack = .int k :: .int n :: rest)
    (hn : ¬ n < 0) (hk : ¬ k < 0) (hb1 : n.toNatClampNeg ≤ 10000) (hb2 : k.toNatClampNeg ≤ 10000)
    (hcells : cells + (1 + n.toNatClampNeg) ≤ R.cells) (hslots : slots + (n.toNatClampNeg + n.toNatClampNeg * k.toNatClampNeg) ≤ R.slots) :
    ∃ (vm₁ : Vm), Stand p l e R s m args below meth c (Multi.fill (T.setVm vm₁) cA c1 n.toNatClampNeg k.toNatClampNeg (defaultValue .int) n.toNatClampNeg) locs (cells + 1 + n.toNatClampNeg) (slots + n.toNatClampNeg + n.toNatClampNeg * k.toNatClampNeg) ∧
      ∀ target, Steps p.tables e below ((Multi.fill (T.setVm vm₁) cA c1 n.toNatClampNeg k.toNatClampNeg (defaultValue .int) n.toNatClampNeg).setTop { g with pc := g.pc + 4, stack := .ref T.heap.size :: rest }) target →
        Steps p.tables e below (T.setTop g) target := by
  subst hg
  have hpl : e.platform.magicAccessors = ({} : Platform).magicAccessors := by rw [X.admits.platform]
  obtain ⟨c0, hfc0, hcl⟩ := Cond.classLink_spec hown hclink e.platform hpl
  cases hnameA.symm.trans hfc0
  obtain ⟨hg₁, hwarm₁, hready₁⟩ := State.classEntry (e := e) X.warmed hcl
  generalize T.vm.noted g.method.cls index (.cls cA) = vm₁ at hg₁ hwarm₁ hready₁
  have hal : s.vm.Alike vm₁ := hwarm₁.alike
  obtain ⟨kA₁, hkA₁, heA⟩ := hal.2.2 _ _ hkA
  obtain ⟨kC₁, hkC₁, heC⟩ := hal.2.2 _ _ hk1
  have hkindA₁ : kA₁.kind = .array c1 (.array .int) := by rw [heA]; exact hkindA
  have hkindC₁ : kC₁.kind = .array cc .int := by rw [heC]; exact hkind1
  have X₁ := X.noted hwarm₁
  obtain ⟨hr1, hr2⟩ := X.roomAbove hcells hslots
  refine ⟨vm₁, st_fill X₁ cA c1 _ _ _ _, fun target hrest => ?_⟩
  have hl1 : ¬ n.toNatClampNeg > e.platform.arrayLengthLimit := by rw [Launch.admits_arrayLengthLimit X.admits]; omega
  have hh1 : ¬ n.toNatClampNeg * componentBytes (.array .int) > e.platform.maxHeapBytes := by
    rw [Launch.admits_maxHeapBytes X.admits]; show ¬ n.toNatClampNeg * 4 > 536870912; omega
  have hl2 : ¬ k.toNatClampNeg > e.platform.arrayLengthLimit := by rw [Launch.admits_arrayLengthLimit X.admits]; omega
  have hh2 : ¬ k.toNatClampNeg * componentBytes .int > e.platform.maxHeapBytes := by rw [Launch.admits_maxHeapBytes X.admits]; show ¬ k.toNatClampNeg * 4 > 536870912; omega
  jvm_step X.here [hexec, hdg]
  simp only [multianewarray.sem, wp_bind', W.resolveClassAt_links (State.method?_setTop g X.here.top) hg₁]
  rw [W.popN, if_neg (by decide)]
  refine ⟨g, State.topJava?_setTop' (s := T.setVm vm₁) g X.here.top, [.int n, .int k], rest, rfl, hstack, ?_⟩
  simp only [List.mapM_cons, List.mapM_nil, wp_bind', wp_pure']
  refine Multi.wp_make2 (k := kA₁) (kc := kC₁) (comp := c1) (cc := cc) (t0 := .array .int) (type := .int) hkA₁ hkindA₁ rfl hkC₁ hkindC₁ hn hk hl1 hh1 hl2 hh2 rfl rfl (by show T.heap.size + 1 + _ ≤ _; omega) (by show T.slotsUsed + _ + _ ≤ _; omega) (fun d' acts' => ?_)
  have XF := st_fill X₁ cA c1 n.toNatClampNeg k.toNatClampNeg (defaultValue .int) n.toNatClampNeg
  have eS : ((T.setTop g).setVm vm₁).setTop { g with stack := rest } = (T.setVm vm₁).setTop { g with stack := rest } := by
    show ((T.setVm vm₁).setTop g).setTop _ = _
    rw [State.setTop_setTop]
  rw [eS, Multi.fill_setTop]
  simp only [wp_bind', W.mark, W.pushRef, State.topJava?_setTop' _ XF.here.top, Option.some.injEq, exists_eq_left', State.setTop_setTop, State.heap_setTop]
  intro acts
  simp [jvm, XF.here.top]
  exact hrest
theorem st_mna3 (X : Stand p l e R s m args below meth c T locs cells slots) (hexec : p.tables.exec = Jvm.exec) {own nm : String} {index : Nat} {cA c2 c1 cc : ClassId} {kA k2 k1 : Class}
    (hown : s.vm.findClass own = some m.cls) (hclink : (Cond.classLink own index nm).before args s = true) (hnameA : s.vm.findClass nm = some cA)
    (hkA : s.vm.classes[cA]? = some kA) (hkindA : kA.kind = .array c2 (.array (.array .int))) (hk2 : s.vm.classes[c2]? = some k2) (hkind2 : k2.kind = .array c1 (.array .int)) (hk1 : s.vm.classes[c1]? = some k1) (hkind1 : k1.kind = .array cc .int)
    {g : JFrame} (hg : g.method = m) (hdg : decode c.code g.pc = .ok (.multianewarray index 3, 4)) {n k q : Int32} {rest : List Value} (hstack : g.stack = .int q :: .int k :: .int n :: rest)
    (hn : ¬ n < 0) (hk : ¬ k < 0) (hq : ¬ q < 0) (hb1 : n.toNatClampNeg ≤ 10000) (hb2 : k.toNatClampNeg ≤ 10000) (hb3 : q.toNatClampNeg ≤ 10000)
    (hcells : cells + (1 + n.toNatClampNeg * (1 + k.toNatClampNeg)) ≤ R.cells) (hslots : slots + (n.toNatClampNeg + n.toNatClampNeg * (k.toNatClampNeg + k.toNatClampNeg * q.toNatClampNeg)) ≤ R.slots) :
    ∃ (vm₁ : Vm), Stand p l e R s m args below meth c (f3 (T.setVm vm₁) cA c2 c1 n.toNatClampNeg k.toNatClampNeg q.toNatClampNeg (defaultValue .int) n.toNatClampNeg) locs (cells + 1 + n.toNatClampNeg * (1 + k.toNatClampNeg)) (slots + n.toNatClampNeg + n.toNatClampNeg * (k.toNatClampNeg + k.toNatClampNeg * q.toNatClampNeg)) ∧
      ∀ target, Steps p.tables e below ((f3 (T.setVm vm₁) cA c2 c1 n.toNatClampNeg k.toNatClampNeg q.toNatClampNeg (defaultValue .int) n.toNatClampNeg).setTop { g with pc := g.pc + 4, stack := .ref T.heap.size :: rest }) target →
        Steps p.tables e below (T.setTop g) target := by
  subst hg
  have hpl : e.platform.magicAccessors = ({} : Platform).magicAccessors := by rw [X.admits.platform]
  obtain ⟨c0, hfc0, hcl⟩ := Cond.classLink_spec hown hclink e.platform hpl
  cases hnameA.symm.trans hfc0
  obtain ⟨hg₁, hwarm₁, hready₁⟩ := State.classEntry (e := e) X.warmed hcl
  generalize T.vm.noted g.method.cls index (.cls cA) = vm₁ at hg₁ hwarm₁ hready₁
  have hal : s.vm.Alike vm₁ := hwarm₁.alike
  obtain ⟨kA₁, hkA₁, heA⟩ := hal.2.2 _ _ hkA
  obtain ⟨kB₁, hkB₁, heB⟩ := hal.2.2 _ _ hk2
  obtain ⟨kC₁, hkC₁, heC⟩ := hal.2.2 _ _ hk1
  have hkindA₁ : kA₁.kind = .array c2 (.array (.array .int)) := by rw [heA]; exact hkindA
  have hkindB₁ : kB₁.kind = .array c1 (.array .int) := by rw [heB]; exact hkind2
  have hkindC₁ : kC₁.kind = .array cc .int := by rw [heC]; exact hkind1
  have X₁ := X.noted hwarm₁
  obtain ⟨hr1, hr2⟩ := X.roomAbove hcells hslots
  refine ⟨vm₁, st_f3 X₁ cA c2 c1 _ _ _ _ _, fun target hrest => ?_⟩
  have hl1 : ¬ n.toNatClampNeg > e.platform.arrayLengthLimit := by rw [Launch.admits_arrayLengthLimit X.admits]; omega
  have hh1 : ¬ n.toNatClampNeg * componentBytes (.array (.array .int)) > e.platform.maxHeapBytes := by
    rw [Launch.admits_maxHeapBytes X.admits]; show ¬ n.toNatClampNeg * 4 > 536870912; omega
  have hl2 : ¬ k.toNatClampNeg > e.platform.arrayLengthLimit := by rw [Launch.admits_arrayLengthLimit X.admits]; omega
  have hh2 : ¬ k.toNatClampNeg * componentBytes (.array .int) > e.platform.maxHeapBytes := by rw [Launch.admits_maxHeapBytes X.admits]; show ¬ k.toNatClampNeg * 4 > 536870912; omega
  have hl3 : ¬ q.toNatClampNeg > e.platform.arrayLengthLimit := by rw [Launch.admits_arrayLengthLimit X.admits]; omega
  have hh3 : ¬ q.toNatClampNeg * componentBytes .int > e.platform.maxHeapBytes := by rw [Launch.admits_maxHeapBytes X.admits]; show ¬ q.toNatClampNeg * 4 > 536870912; omega
  jvm_step X.here [hexec, hdg]
  simp only [multianewarray.sem, wp_bind', W.resolveClassAt_links (State.method?_setTop g X.here.top) hg₁]
  rw [W.popN, if_neg (by decide)]
  refine ⟨g, State.topJava?_setTop' (s := T.setVm vm₁) g X.here.top, [.int n, .int k, .int q], rest, rfl, hstack, ?_⟩
  simp only [List.mapM_cons, List.mapM_nil, wp_bind', wp_pure']
  refine wp_make3 (k := kA₁) (k2 := kB₁) (k1 := kC₁) (c2 := c2) (c1 := c1) (cc := cc) (t0 := .array (.array .int)) (t1 := .array .int) (type := .int) hkA₁ hkindA₁ rfl hkB₁ hkindB₁ rfl hkC₁ hkindC₁ hn hk hq hl1 hh1 hl2 hh2 hl3 hh3 rfl rfl (by show T.heap.size + 1 + _ ≤ _; omega) (by show T.slotsUsed + _ + _ ≤ _; omega) (fun d' acts' => ?_)
  have XF := st_f3 X₁ cA c2 c1 n.toNatClampNeg k.toNatClampNeg q.toNatClampNeg (defaultValue .int) n.toNatClampNeg
  have eS : ((T.setTop g).setVm vm₁).setTop { g with stack := rest } = (T.setVm vm₁).setTop { g with stack := rest } := by
    show ((T.setVm vm₁).setTop g).setTop _ = _
    rw [State.setTop_setTop]
  rw [eS, f3_setTop]
  simp only [wp_bind', W.mark, W.pushRef, State.topJava?_setTop' _ XF.here.top, Option.some.injEq, exists_eq_left', State.setTop_setTop, State.heap_setTop]
  intro acts
  simp [jvm, XF.here.top]
  exact hrest
end MNA

