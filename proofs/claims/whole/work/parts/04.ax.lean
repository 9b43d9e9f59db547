/-! ===== the memory as functions of (cell, place); cells by their number since the law began ===== -/
/-- ints, references (0 null, n + 1 the n-th new cell), longs, shapes, how many cells are new -/
abbrev ax_M : Type := (Nat → Nat → Int32) × (Nat → Nat → Nat) × (Nat → Nat → Int64) × (Nat → Option ((Nat × Nat) ⊕ Nat)) × Nat
abbrev ax_V : Type := Int32 ⊕ (Int64 ⊕ (Nat ⊕ Nat))
abbrev av_i (x : Int32) : ax_V := .inl x
abbrev av_l (x : Int64) : ax_V := .inr (.inl x)
abbrev av_r (n : Nat) : ax_V := .inr (.inr (.inl n))
abbrev av_o (n : Nat) : ax_V := .inr (.inr (.inr n))
/-- first new address; classes and slots; array classes by kind; old addresses (texts, script) -/
abbrev ax_G : Type := Nat × va_G × (Nat → ClassId) × (Nat → Nat)
abbrev ax_K : Type := MethodName × ByteArray × Nat × Option FieldType
def ax_rf (G : ax_G) (n : Nat) : Value := match n with
  | 0 => .null
  | k + 1 => .ref (G.1 + k)
def ax_tv (G : ax_G) (v : ax_V) : Value := match v with
  | .inl x => .int x
  | .inr (.inl x) => .long x
  | .inr (.inr (.inl n)) => ax_rf G n
  | .inr (.inr (.inr j)) => .ref (G.2.2.2 j)
def ax_val (G : ax_G) (M : ax_M) (n kd k : Nat) : Value := match kd with
  | 0 => .int (M.1 n k)
  | 1 => .long (M.2.2.1 n k)
  | _ => ax_rf G (M.2.1 n k)
def ax_aty (kd : Nat) : FieldType := match kd with
  | 0 => .int
  | 1 => .long
  | 2 => .array .int
  | _ => .array (.array .int)
def ax_fk (ty : FieldType) : Nat := match ty with
  | .int => 0
  | .boolean => 0
  | .long => 1
  | _ => 2
def ax_ft (ci : Nat) : Nat → FieldType := match ci with
  | 0 => tyX0
  | 1 => tyX1
  | 2 => tyX2
  | 3 => tyX3
  | 4 => tyX4
  | 5 => tyX5
  | 6 => tyX6
  | 7 => tyX7
  | 8 => tyX8
  | 9 => tyX9
  | _ => tyX10
def ax_A (G : ax_G) : Nat → Prop := fun q => G.1 ≤ q
/-- one cell -/
def ax_cell (G : ax_G) (M : ax_M) (n : Nat) (x : (Nat × Nat) ⊕ Nat) (H : Heap) : Prop := match x with
  | .inl a => H[G.1 + n]? = some (arrV (G.2.2.1 a.1) a.2 (fun j => ax_val G M (n + 1) a.1 j))
  | .inr ci => ∃ r : vw_C, vwCl[ci]? = some r ∧ t_OB (G.1 + n) (G.2.1.1 ci) r.2.2 (G.2.1.2 ci) H (fun k => ax_val G M (n + 1) (ax_fk (ax_ft ci k)) k)
/-- the heap holds the memory -/
def ax_R (G : ax_G) (M : ax_M) (H : Heap) : Prop := H.size = G.1 + M.2.2.2.2 ∧ M.2.2.2.1 0 = none ∧ ∀ (n : Nat) (x : (Nat × Nat) ⊕ Nat), M.2.2.2.1 (n + 1) = some x → n < M.2.2.2.2 ∧ ax_cell G M n x H
def ax_nest : Cond → Bool
  | .fieldLinkNest .. => true
  | .methodLinkNest .. => true
  | _ => false
def ax_okw (w : Cond) : Bool := goodWord w || ax_nest w
def ax_tys (G : ax_G) : List (ClassId × FieldType) := [(G.2.2.1 0, ax_aty 0), (G.2.2.1 1, ax_aty 1), (G.2.2.1 2, ax_aty 2), (G.2.2.1 3, ax_aty 3)]
/-- text constants: class, entry, text, length, bytes -/
abbrev ax_T : Type := String × Nat × String × List Int32
def ax_txt (G : ax_G) (U : State) (H : Heap) (j : Nat) (t : ax_T) : Prop := vk_R t.1 t.2.1 t.2.2.1 (G.2.2.2 (2 * j)) U ∧ va_O "java/lang/String" (G.2.2.2 (2 * j)) (ax_A G) U H ∧ va_OF "java/lang/String" "coder" "B" (.int 0) (G.2.2.2 (2 * j)) (ax_A G) U H ∧ va_OF "java/lang/String" "value" "[B" (.ref (G.2.2.2 (2 * j + 1))) (G.2.2.2 (2 * j)) (ax_A G) U H ∧ va_T .byte (G.2.2.2 (2 * j + 1)) t.2.2.2.length (fun i => .int (t.2.2.2.getD i 0)) (ax_A G) U H

def ax_txts : List ax_T := [("DipLights", 420, "a number that is none such", [97, 32, 110, 117, 109, 98, 101, 114, 32, 116, 104, 97, 116, 32, 105, 115, 32, 110, 111, 110, 101, 32, 115, 117, 99, 104]), ("DipLights$Road", 94, "length", [108, 101, 110, 103, 116, 104]), ("DipLights$Road", 100, "bend", [98, 101, 110, 100]), ("DipLights$Road", 102, "wet", [119, 101, 116]), ("DipLights$Road", 103, "coat", [99, 111, 97, 116]), ("DipLights$Road", 105, "fog", [102, 111, 103]), ("DipLights$Road", 106, "blind", [98, 108, 105, 110, 100]), ("DipLights$Road", 107, "reach", [114, 101, 97, 99, 104]), ("DipLights$Road", 109, "car", [99, 97, 114]), ("DipLights$Formula", 75, "reach", [114, 101, 97, 99, 104]), ("DipLights$Formula", 77, "fog", [102, 111, 103]), ("DipLights$Formula", 79, "blind", [98, 108, 105, 110, 100]), ("DipLights$Formula", 81, "age", [97, 103, 101]), ("DipLights$Formula", 83, "wet", [119, 101, 116]), ("DipLights$Formula", 85, "tilt", [116, 105, 108, 116]), ("DipLights$Formula", 90, "pace", [112, 97, 99, 101]), ("DipLights$Formula", 92, "tenth", [116, 101, 110, 116, 104]), ("DipLights$Formula", 94, "far", [102, 97, 114]), ("DipLights$Formula", 96, "met", [109, 101, 116]), ("DipLights$Formula", 98, "other", [111, 116, 104, 101, 114]), ("DipLights$Formula", 100, "mine", [109, 105, 110, 101]), ("DipLights$Formula", 60, "least", [108, 101, 97, 115, 116]), ("DipLights$Formula", 66, "most", [109, 111, 115, 116]), ("DipLights", 413, "no such CAR or COAT", [110, 111, 32, 115, 117, 99, 104, 32, 67, 65, 82, 32, 111, 114, 32, 67, 79, 65, 84]), ("DipLights", 425, "there are not two CARS", [116, 104, 101, 114, 101, 32, 97, 114, 101, 32, 110, 111, 116, 32, 116, 119, 111, 32, 67, 65, 82, 83])]
def ax_X (G : ax_G) (U : State) (H : Heap) : Prop := vx_Zq Bundle.tN "UNASSIGNED_STACK" Bundle.steD (ax_A G) U H ∧ vx_Zq Bundle.tN "SUPPRESSED_SENTINEL" Bundle.listD (ax_A G) U H ∧ (va_Z "java/lang/String" "COMPACT_STRINGS" "Z" (.int 1) (ax_A G) U H ∧ (va_Z "jdk/internal/util/Preconditions" "SIOOBE_FORMATTER" "Ljava/util/function/BiFunction;" .null (ax_A G) U H ∨ va_Z "jdk/internal/util/Preconditions" "SIOOBE_FORMATTER" "Ljava/util/function/BiFunction;" (.ref (G.2.2.2 999)) (ax_A G) U H)) ∧ ∀ (j : Nat) (t : ax_T), ax_txts[j]? = some t → ax_txt G U H j t
def ax_C (G : ax_G) (U : State) : Prop := G.1 ≤ U.heap.size ∧ (∀ w ∈ lw_tbl, ax_okw w = true → w.before #[] U = true) ∧ va_K G.2.1 vwCl (ax_tys G) U ∧ ax_X G U U.heap
theorem ax_word {w : Cond} (hok : ax_okw w = true) {A A' : Array Value} {s U : State} (hW : s.WarmedH U.vm) (h : w.before A s = true) : w.before A' U = true := by
  cases hg : goodWord w with
  | true => exact word_at hW (good_of_word hg) h
  | false =>
    have hn : ax_nest w = true := by simpa [ax_okw, hg] using hok
    cases w with
    | fieldLinkNest a i b n d hh => exact va_Nw.use rfl (va_Nw.warmF hW (va_Nw.of rfl h))
    | methodLinkNest a i x hh => exact va_Nw.use rfl (va_Nw.warmM hW (va_Nw.of rfl h))
    | _ => simp [ax_nest] at hn
theorem ax_use {G : ax_G} {s : State} (hC : ax_C G s) {w : Cond} (hm : w ∈ lw_tbl) (hok : ax_okw w = true) {A : Array Value} : w.before A s = true := ax_word hok (State.WarmedH.refl s) (hC.2.1 w hm hok)
theorem ax_X_kept {G : ax_G} {s U : State} {H H1 : Heap} (hW : s.WarmedH U.vm) (hq : ∀ a : Nat, a < H.size → ¬ ax_A G a → H1[a]? = H[a]?) (h : ax_X G s H) : ax_X G U H1 := by
  obtain ⟨h1, h2, h3, h4⟩ := h
  refine ⟨vx_Zq.moved hW.alike (h1.kept hq), vx_Zq.moved hW.alike (h2.kept hq), ⟨va_Z.moved hW.alike (h3.1.kept hq), h3.2.elim (fun q => Or.inl (va_Z.moved hW.alike (q.kept hq))) (fun q => Or.inr (va_Z.moved hW.alike (q.kept hq)))⟩, fun j t ht => ?_⟩
  obtain ⟨a1, a2, a3, a4, a5⟩ := h4 j t ht
  exact ⟨vk_R.warm hW a1, va_O.moved hW.alike (a2.kept hq), va_OF.moved hW.alike (a3.kept hq), va_OF.moved hW.alike (a4.kept hq), va_T.moved hW.alike (a5.kept hq)⟩
theorem ax_C_kept {G : ax_G} {s U : State} (hC : ax_C G s) (hW : s.WarmedH U.vm) (hz : s.heap.size ≤ U.heap.size) (hq : ∀ a : Nat, a < s.heap.size → ¬ ax_A G a → U.heap[a]? = s.heap[a]?) : ax_C G U :=
  ⟨Nat.le_trans hC.1 hz, fun w hm hok => ax_word hok hW (hC.2.1 w hm hok), va_K.moved hW.alike hC.2.2.1, ax_X_kept hW hq hC.2.2.2⟩
/-! ===== locals ===== -/
def ax_ll (G : ax_G) (L : List (Option ax_V)) : List (Nat × Value) := (List.range L.length).filterMap (fun i => match L[i]? with
  | some (some v) => some (i, ax_tv G v)
  | _ => none)
theorem ax_ll_mem {G : ax_G} {L : List (Option ax_V)} {q : Nat × Value} : q ∈ ax_ll G L ↔ ∃ v, L[q.1]? = some (some v) ∧ q.2 = ax_tv G v := by
  unfold ax_ll
  rw [List.mem_filterMap]
  constructor
  · rintro ⟨i, hi, h⟩
    split at h
    · rename_i v hv
      cases h
      exact ⟨v, hv, rfl⟩
    · cases h
  · rintro ⟨v, h1, h2⟩
    have hlt : q.1 < L.length := (List.getElem?_eq_some_iff.mp h1).1
    refine ⟨q.1, List.mem_range.mpr hlt, ?_⟩
    rw [h1]
    show some (q.1, ax_tv G v) = some q
    rw [← h2]
def ax_lh (G : ax_G) (ls : Array Slot) (nL : Nat) (L : List (Option ax_V)) : Prop := lv_has ls nL (ax_ll G L)
theorem ax_lat {G : ax_G} {ls : Array Slot} {nL : Nat} {L : List (Option ax_V)} (h : ax_lh G ls nL L) {i : Nat} {v : ax_V} (hi : L[i]? = some (some v)) : ls[i]? = some (.val (ax_tv G v)) := h.2.2 (i, ax_tv G v) (ax_ll_mem.mpr ⟨v, hi, rfl⟩)
/-- no long right ahead of place i -/
def ax_ok1 (L : List (Option ax_V)) (i : Nat) : Bool := match i with
  | 0 => true
  | j + 1 => match L[j]? with
    | some (some (.inr (.inl _))) => false
    | _ => true
theorem ax_cat (G : ax_G) (v : ax_V) (h : (ax_tv G v).category = 2) : ∃ x, v = av_l x := by
  rcases v with x | x | n | j
  · cases h
  · exact ⟨x, rfl⟩
  · cases n <;> cases h
  · cases h
theorem ax_set1 {G : ax_G} {ls ls' : Array Slot} {nL i : Nat} {L : List (Option ax_V)} {v : ax_V} (hok : ax_ok1 L i = true) (h : lv_has ls' nL ((i, ax_tv G v) :: (ax_ll G L).filter (fun q => !(q.1 == i) && !(q.1 + 1 == i && q.2.category == 2)))) : ax_lh G ls' nL (L.set i (some v)) := by
  refine ⟨h.1, h.2.1, fun q hq => ?_⟩
  obtain ⟨w, h1, h2⟩ := ax_ll_mem.mp hq
  refine h.2.2 q ?_
  by_cases e : q.1 = i
  · rw [List.getElem?_set, if_pos e.symm] at h1
    split at h1
    · cases h1
      refine List.mem_cons.mpr (Or.inl ?_)
      rw [← e, ← h2]
    · cases h1
  · rw [List.getElem?_set_ne (fun z => e z.symm)] at h1
    refine List.mem_cons_of_mem _ (List.mem_filter.mpr ⟨ax_ll_mem.mpr ⟨w, h1, h2⟩, ?_⟩)
    by_cases e2 : q.1 + 1 = i
    · have hc : ¬ q.2.category = 2 := by
        rw [h2]
        intro hc
        obtain ⟨x, rfl⟩ := ax_cat G w hc
        rw [← e2] at hok
        simp [ax_ok1, h1] at hok
      simp [e, hc]
    · simp [e, e2]
theorem ax_set2 {G : ax_G} {ls ls' : Array Slot} {nL i : Nat} {L : List (Option ax_V)} {v : ax_V} (hok : ax_ok1 L i = true) (h : lv_has ls' nL ((i, ax_tv G v) :: (ax_ll G L).filter (fun q => !(q.1 == i) && (!(q.1 == i + 1) && !(q.1 + 1 == i && q.2.category == 2))))) : ax_lh G ls' nL ((L.set i (some v)).set (i + 1) none) := by
  refine ⟨h.1, h.2.1, fun q hq => ?_⟩
  obtain ⟨w, h1, h2⟩ := ax_ll_mem.mp hq
  refine h.2.2 q ?_
  by_cases e3 : q.1 = i + 1
  · rw [List.getElem?_set, if_pos e3.symm] at h1
    split at h1 <;> cases h1
  · rw [List.getElem?_set_ne (fun z => e3 z.symm)] at h1
    by_cases e : q.1 = i
    · rw [List.getElem?_set, if_pos e.symm] at h1
      split at h1
      · cases h1
        refine List.mem_cons.mpr (Or.inl ?_)
        rw [← e, ← h2]
      · cases h1
    · rw [List.getElem?_set_ne (fun z => e z.symm)] at h1
      refine List.mem_cons_of_mem _ (List.mem_filter.mpr ⟨ax_ll_mem.mpr ⟨w, h1, h2⟩, ?_⟩)
      by_cases e2 : q.1 + 1 = i
      · have hc : ¬ q.2.category = 2 := by
          rw [h2]
          intro hc
          obtain ⟨x, rfl⟩ := ax_cat G w hc
          rw [← e2] at hok
          simp [ax_ok1, h1] at hok
        simp [e, e3, hc]
      · simp [e, e2, e3]
/-! ===== the judgement ===== -/
abbrev ax_F : Type := Program → Env → Room → State → MethodId → Array Value → List Frame → Method → Code → (State → Prop) → Prop
def ax_B (G : ax_G) (k : ax_K) (p : Program) (s : State) (m : MethodId) (meth : Method) (cd : Code) : Prop := p.tables.exec = Jvm.exec ∧ cd.code = k.2.1 ∧ cd.maxLocals = k.2.2.1 ∧ s.vm.findClass k.1.cls = some m.cls ∧ meth.locks = false ∧ meth.sig.returnType = k.2.2.2 ∧ meth.name = k.1.name ∧ ax_C G s
def ax_H (G : ax_G) (k : ax_K) (F : ax_F) (d c n : Nat) (M : ax_M) (L : List (Option ax_V)) (p : Program) (e : Env) (R : Room) (s : State) (m : MethodId) (args : Array Value) (below : List Frame) (meth : Method) (cd : Code) (Z : State → Prop) (H : Heap) (locs : List Loc) (cells slots : Nat) (ls : Array Slot) : Prop :=
  ax_B G k p s m meth cd ∧ F p e R s m args below meth cd Z ∧ (d ≤ R.frames ∧ 80 * d ≤ R.locals ∧ cells + c ≤ R.cells ∧ slots + n ≤ R.slots) ∧ va_S (ax_A G) s.heap H locs ∧ ax_R G M H ∧ ax_lh G ls k.2.2.1 L
def ax_W (l : Launch) (G : ax_G) (k : ax_K) (F : ax_F) (d c n : Nat) (M : ax_M) (pc : Nat) (L : List (Option ax_V)) (S : List ax_V) : Prop :=
  ∀ (p : Program) (e : Env) (R : Room) (s : State) (m : MethodId) (args : Array Value) (below : List Frame) (meth : Method) (cd : Code) (Z : State → Prop) (H : Heap) (locs : List Loc) (cells slots : Nat) (ls : Array Slot),
    ax_H G k F d c n M L p e R s m args below meth cd Z H locs cells slots ls → W p l e R s m args below meth cd H locs cells slots Z (F0 m pc ls (S.map (ax_tv G)))
section AXR
variable {l : Launch} {G : ax_G} {k : ax_K} {F : ax_F} {d c n : Nat} {M : ax_M} {pc : Nat} {L : List (Option ax_V)} {S : List ax_V}

theorem ax_iadd {x y : Int32} (hd : decode k.2.1 pc = .ok (.iadd, 1)) (kk : ax_W l G k F d c n M (pc + 1) L (av_i (x + y) :: S)) : ax_W l G k F d c n M pc L (av_i y :: av_i x :: S) := by
  intro p e R s m args below meth cd Z H locs cells slots ls h
  exact lv_iadd h.1.1 h.1.2.1 hd (kk p e R s m args below meth cd Z H locs cells slots ls h)
theorem ax_isub {x y : Int32} (hd : decode k.2.1 pc = .ok (.isub, 1)) (kk : ax_W l G k F d c n M (pc + 1) L (av_i (x - y) :: S)) : ax_W l G k F d c n M pc L (av_i y :: av_i x :: S) := by
  intro p e R s m args below meth cd Z H locs cells slots ls h
  exact lv_isub h.1.1 h.1.2.1 hd (kk p e R s m args below meth cd Z H locs cells slots ls h)
theorem ax_imul {x y : Int32} (hd : decode k.2.1 pc = .ok (.imul, 1)) (kk : ax_W l G k F d c n M (pc + 1) L (av_i (x * y) :: S)) : ax_W l G k F d c n M pc L (av_i y :: av_i x :: S) := by
  intro p e R s m args below meth cd Z H locs cells slots ls h
  exact lv_imul h.1.1 h.1.2.1 hd (kk p e R s m args below meth cd Z H locs cells slots ls h)
theorem ax_iand {x y : Int32} (hd : decode k.2.1 pc = .ok (.iand, 1)) (kk : ax_W l G k F d c n M (pc + 1) L (av_i (x &&& y) :: S)) : ax_W l G k F d c n M pc L (av_i y :: av_i x :: S) := by
  intro p e R s m args below meth cd Z H locs cells slots ls h
  exact lv_iand h.1.1 h.1.2.1 hd (kk p e R s m args below meth cd Z H locs cells slots ls h)
theorem ax_ior {x y : Int32} (hd : decode k.2.1 pc = .ok (.ior, 1)) (kk : ax_W l G k F d c n M (pc + 1) L (av_i (x ||| y) :: S)) : ax_W l G k F d c n M pc L (av_i y :: av_i x :: S) := by
  intro p e R s m args below meth cd Z H locs cells slots ls h
  exact lv_ior h.1.1 h.1.2.1 hd (kk p e R s m args below meth cd Z H locs cells slots ls h)
theorem ax_ineg {x : Int32} (hd : decode k.2.1 pc = .ok (.ineg, 1)) (kk : ax_W l G k F d c n M (pc + 1) L (av_i (-x) :: S)) : ax_W l G k F d c n M pc L (av_i x :: S) := by
  intro p e R s m args below meth cd Z H locs cells slots ls h
  exact lv_ineg h.1.1 h.1.2.1 hd (kk p e R s m args below meth cd Z H locs cells slots ls h)
theorem ax_ishl {x y : Int32} (hd : decode k.2.1 pc = .ok (.ishl, 1)) (kk : ax_W l G k F d c n M (pc + 1) L (av_i (x <<< (y &&& 31)) :: S)) : ax_W l G k F d c n M pc L (av_i y :: av_i x :: S) := by
  intro p e R s m args below meth cd Z H locs cells slots ls h
  exact lv_ishl h.1.1 h.1.2.1 hd (kk p e R s m args below meth cd Z H locs cells slots ls h)
theorem ax_ishr {x y : Int32} (hd : decode k.2.1 pc = .ok (.ishr, 1)) (kk : ax_W l G k F d c n M (pc + 1) L (av_i (x >>> (y &&& 31)) :: S)) : ax_W l G k F d c n M pc L (av_i y :: av_i x :: S) := by
  intro p e R s m args below meth cd Z H locs cells slots ls h
  exact lv_ishr h.1.1 h.1.2.1 hd (kk p e R s m args below meth cd Z H locs cells slots ls h)
theorem ax_ladd {x y : Int64} (hd : decode k.2.1 pc = .ok (.ladd, 1)) (kk : ax_W l G k F d c n M (pc + 1) L (av_l (x + y) :: S)) : ax_W l G k F d c n M pc L (av_l y :: av_l x :: S) := by
  intro p e R s m args below meth cd Z H locs cells slots ls h
  exact lv_ladd h.1.1 h.1.2.1 hd (kk p e R s m args below meth cd Z H locs cells slots ls h)
theorem ax_lmul {x y : Int64} (hd : decode k.2.1 pc = .ok (.lmul, 1)) (kk : ax_W l G k F d c n M (pc + 1) L (av_l (x * y) :: S)) : ax_W l G k F d c n M pc L (av_l y :: av_l x :: S) := by
  intro p e R s m args below meth cd Z H locs cells slots ls h
  exact lv_lmul h.1.1 h.1.2.1 hd (kk p e R s m args below meth cd Z H locs cells slots ls h)
theorem ax_land {x y : Int64} (hd : decode k.2.1 pc = .ok (.land, 1)) (kk : ax_W l G k F d c n M (pc + 1) L (av_l (x &&& y) :: S)) : ax_W l G k F d c n M pc L (av_l y :: av_l x :: S) := by
  intro p e R s m args below meth cd Z H locs cells slots ls h
  exact lv_land h.1.1 h.1.2.1 hd (kk p e R s m args below meth cd Z H locs cells slots ls h)
theorem ax_lor {x y : Int64} (hd : decode k.2.1 pc = .ok (.lor, 1)) (kk : ax_W l G k F d c n M (pc + 1) L (av_l (x ||| y) :: S)) : ax_W l G k F d c n M pc L (av_l y :: av_l x :: S) := by
  intro p e R s m args below meth cd Z H locs cells slots ls h
  exact lv_lor h.1.1 h.1.2.1 hd (kk p e R s m args below meth cd Z H locs cells slots ls h)
theorem ax_idiv {x y : Int32} (hd : decode k.2.1 pc = .ok (.idiv, 1)) (hne : ¬ y = 0) (kk : ax_W l G k F d c n M (pc + 1) L (av_i (x / y) :: S)) : ax_W l G k F d c n M pc L (av_i y :: av_i x :: S) := by
  intro p e R s m args below meth cd Z H locs cells slots ls h
  exact lv_idiv h.1.1 h.1.2.1 hd hne (kk p e R s m args below meth cd Z H locs cells slots ls h)
theorem ax_irem {x y : Int32} (hd : decode k.2.1 pc = .ok (.irem, 1)) (hne : ¬ y = 0) (kk : ax_W l G k F d c n M (pc + 1) L (av_i (x - x / y * y) :: S)) : ax_W l G k F d c n M pc L (av_i y :: av_i x :: S) := by
  intro p e R s m args below meth cd Z H locs cells slots ls h
  exact lv_irem h.1.1 h.1.2.1 hd hne (kk p e R s m args below meth cd Z H locs cells slots ls h)
theorem ax_ldiv {x y : Int64} (hd : decode k.2.1 pc = .ok (.ldiv, 1)) (hne : ¬ y = 0) (kk : ax_W l G k F d c n M (pc + 1) L (av_l (x / y) :: S)) : ax_W l G k F d c n M pc L (av_l y :: av_l x :: S) := by
  intro p e R s m args below meth cd Z H locs cells slots ls h
  exact lv_ldiv h.1.1 h.1.2.1 hd hne (kk p e R s m args below meth cd Z H locs cells slots ls h)
theorem ax_lrem {x y : Int64} (hd : decode k.2.1 pc = .ok (.lrem, 1)) (hne : ¬ y = 0) (kk : ax_W l G k F d c n M (pc + 1) L (av_l (x - x / y * y) :: S)) : ax_W l G k F d c n M pc L (av_l y :: av_l x :: S) := by
  intro p e R s m args below meth cd Z H locs cells slots ls h
  exact lv_lrem h.1.1 h.1.2.1 hd hne (kk p e R s m args below meth cd Z H locs cells slots ls h)
theorem ax_iushr {x y : Int32} (hd : decode k.2.1 pc = .ok (.iushr, 1)) (kk : ax_W l G k F d c n M (pc + 1) L (av_i (x.toUInt32 >>> (y.toUInt32 &&& Int32.toUInt32 31)).toInt32 :: S)) : ax_W l G k F d c n M pc L (av_i y :: av_i x :: S) := by
  intro p e R s m args below meth cd Z H locs cells slots ls h
  exact lv_iushr h.1.1 h.1.2.1 hd rfl (kk p e R s m args below meth cd Z H locs cells slots ls h)
theorem ax_lushr {x : Int64} {y : Int32} (hd : decode k.2.1 pc = .ok (.lushr, 1)) (kk : ax_W l G k F d c n M (pc + 1) L (av_l (x.toUInt64 >>> (y.toInt64.toUInt64 &&& Int64.toUInt64 63)).toInt64 :: S)) : ax_W l G k F d c n M pc L (av_i y :: av_l x :: S) := by
  intro p e R s m args below meth cd Z H locs cells slots ls h
  exact lv_lushr h.1.1 h.1.2.1 hd rfl (kk p e R s m args below meth cd Z H locs cells slots ls h)
theorem ax_lshl {x : Int64} {y : Int32} (hd : decode k.2.1 pc = .ok (.lshl, 1)) (kk : ax_W l G k F d c n M (pc + 1) L (av_l (x <<< (y.toInt64 &&& 63)) :: S)) : ax_W l G k F d c n M pc L (av_i y :: av_l x :: S) := by
  intro p e R s m args below meth cd Z H locs cells slots ls h
  exact lv_lshl h.1.1 h.1.2.1 hd rfl (kk p e R s m args below meth cd Z H locs cells slots ls h)
theorem ax_lshr {x : Int64} {y : Int32} (hd : decode k.2.1 pc = .ok (.lshr, 1)) (kk : ax_W l G k F d c n M (pc + 1) L (av_l (x >>> (y.toInt64 &&& 63)) :: S)) : ax_W l G k F d c n M pc L (av_i y :: av_l x :: S) := by
  intro p e R s m args below meth cd Z H locs cells slots ls h
  exact lv_lshr h.1.1 h.1.2.1 hd rfl (kk p e R s m args below meth cd Z H locs cells slots ls h)
theorem ax_i2l {x : Int32} (hd : decode k.2.1 pc = .ok (.i2l, 1)) (kk : ax_W l G k F d c n M (pc + 1) L (av_l x.toInt64 :: S)) : ax_W l G k F d c n M pc L (av_i x :: S) := by
  intro p e R s m args below meth cd Z H locs cells slots ls h
  exact lv_i2l h.1.1 h.1.2.1 hd rfl (kk p e R s m args below meth cd Z H locs cells slots ls h)
theorem ax_i2c {x : Int32} (hd : decode k.2.1 pc = .ok (.i2c, 1)) (kk : ax_W l G k F d c n M (pc + 1) L (av_i (x.toUInt32 % 65536).toInt32 :: S)) : ax_W l G k F d c n M pc L (av_i x :: S) := by
  intro p e R s m args below meth cd Z H locs cells slots ls h
  exact lv_i2c h.1.1 h.1.2.1 hd rfl (kk p e R s m args below meth cd Z H locs cells slots ls h)
theorem ax_lcmp {x y : Int64} (hd : decode k.2.1 pc = .ok (.lcmp, 1)) (kk : ax_W l G k F d c n M (pc + 1) L (av_i (lg_cmp x y) :: S)) : ax_W l G k F d c n M pc L (av_l y :: av_l x :: S) := by
  intro p e R s m args below meth cd Z H locs cells slots ls h
  exact W.lcmp h.1.1 h.1.2.1 hd (kk p e R s m args below meth cd Z H locs cells slots ls h)
theorem ax_iconst {z : Int} {v : Int32} (hd : decode k.2.1 pc = .ok (.iconst z, 1)) (hv : Int32.ofInt z = v) (kk : ax_W l G k F d c n M (pc + 1) L (av_i v :: S)) : ax_W l G k F d c n M pc L (S) := by
  intro p e R s m args below meth cd Z H locs cells slots ls h
  exact lv_iconst h.1.1 h.1.2.1 hd hv (kk p e R s m args below meth cd Z H locs cells slots ls h)
theorem ax_bipush {z : Int} {v : Int32} (hd : decode k.2.1 pc = .ok (.bipush z, 2)) (hv : (Int8.ofInt z).toInt32 = v) (kk : ax_W l G k F d c n M (pc + 2) L (av_i v :: S)) : ax_W l G k F d c n M pc L (S) := by
  intro p e R s m args below meth cd Z H locs cells slots ls h
  exact lv_bipush h.1.1 h.1.2.1 hd hv (kk p e R s m args below meth cd Z H locs cells slots ls h)
theorem ax_sipush {z : Int} {v : Int32} (hd : decode k.2.1 pc = .ok (.sipush z, 3)) (hv : (Int16.ofInt z).toInt32 = v) (kk : ax_W l G k F d c n M (pc + 3) L (av_i v :: S)) : ax_W l G k F d c n M pc L (S) := by
  intro p e R s m args below meth cd Z H locs cells slots ls h
  exact lv_sipush h.1.1 h.1.2.1 hd hv (kk p e R s m args below meth cd Z H locs cells slots ls h)
theorem ax_lconst {z : Fin 2} {v : Int64} (hd : decode k.2.1 pc = .ok (.lconst z, 1)) (hv : Int64.ofNat (z : Nat) = v) (kk : ax_W l G k F d c n M (pc + 1) L (av_l v :: S)) : ax_W l G k F d c n M pc L (S) := by
  intro p e R s m args below meth cd Z H locs cells slots ls h
  exact lv_lconst h.1.1 h.1.2.1 hd hv (kk p e R s m args below meth cd Z H locs cells slots ls h)
theorem ax_ldc {ix : Nat} {v : Int32} (hd : decode k.2.1 pc = .ok (.ldc ix, 2)) (hm : Cond.constant k.1.cls ix v ∈ lw_tbl) (kk : ax_W l G k F d c n M (pc + 2) L (av_i v :: S)) : ax_W l G k F d c n M pc L (S) := by
  intro p e R s m args below meth cd Z H locs cells slots ls h
  exact lv_ldc h.1.1 h.1.2.1 h.1.2.2.2.1 (ax_use h.1.2.2.2.2.2.2.2 hm rfl) hd (kk p e R s m args below meth cd Z H locs cells slots ls h)
theorem ax_ldc_w {ix : Nat} {v : Int32} (hd : decode k.2.1 pc = .ok (.ldc_w ix, 3)) (hm : Cond.constant k.1.cls ix v ∈ lw_tbl) (kk : ax_W l G k F d c n M (pc + 3) L (av_i v :: S)) : ax_W l G k F d c n M pc L (S) := by
  intro p e R s m args below meth cd Z H locs cells slots ls h
  exact lv_ldcw h.1.1 h.1.2.1 h.1.2.2.2.1 (ax_use h.1.2.2.2.2.2.2.2 hm rfl) hd (kk p e R s m args below meth cd Z H locs cells slots ls h)
theorem ax_ldc2 {ix : Nat} {v : Int64} (hd : decode k.2.1 pc = .ok (.ldc2_w ix, 3)) (hm : Cond.constantLong k.1.cls ix v ∈ lw_tbl) (kk : ax_W l G k F d c n M (pc + 3) L (av_l v :: S)) : ax_W l G k F d c n M pc L (S) := by
  intro p e R s m args below meth cd Z H locs cells slots ls h
  exact lv_ldc2 h.1.1 h.1.2.1 h.1.2.2.2.1 (ax_use h.1.2.2.2.2.2.2.2 hm rfl) hd (kk p e R s m args below meth cd Z H locs cells slots ls h)
theorem ax_iload_n {q : Fin 4} {x : Int32} (hd : decode k.2.1 pc = .ok (.iload_n q, 1)) (hl : L[(q : Nat)]? = some (some (av_i x))) (kk : ax_W l G k F d c n M (pc + 1) L (av_i x :: S)) : ax_W l G k F d c n M pc L (S) := by
  intro p e R s m args below meth cd Z H locs cells slots ls h
  exact lv_iload_n h.1.1 h.1.2.1 hd rfl (ax_lat h.2.2.2.2.2 hl) (kk p e R s m args below meth cd Z H locs cells slots ls h)
theorem ax_iload {q : Nat} {x : Int32} (hd : decode k.2.1 pc = .ok (.iload q, 2)) (hl : L[q]? = some (some (av_i x))) (kk : ax_W l G k F d c n M (pc + 2) L (av_i x :: S)) : ax_W l G k F d c n M pc L (S) := by
  intro p e R s m args below meth cd Z H locs cells slots ls h
  exact lv_iload h.1.1 h.1.2.1 hd (ax_lat h.2.2.2.2.2 hl) (kk p e R s m args below meth cd Z H locs cells slots ls h)
theorem ax_lload_n {q : Fin 4} {x : Int64} (hd : decode k.2.1 pc = .ok (.lload_n q, 1)) (hl : L[(q : Nat)]? = some (some (av_l x))) (kk : ax_W l G k F d c n M (pc + 1) L (av_l x :: S)) : ax_W l G k F d c n M pc L (S) := by
  intro p e R s m args below meth cd Z H locs cells slots ls h
  exact lv_lload_n h.1.1 h.1.2.1 hd rfl (ax_lat h.2.2.2.2.2 hl) (kk p e R s m args below meth cd Z H locs cells slots ls h)
theorem ax_lload {q : Nat} {x : Int64} (hd : decode k.2.1 pc = .ok (.lload q, 2)) (hl : L[q]? = some (some (av_l x))) (kk : ax_W l G k F d c n M (pc + 2) L (av_l x :: S)) : ax_W l G k F d c n M pc L (S) := by
  intro p e R s m args below meth cd Z H locs cells slots ls h
  exact lv_lload h.1.1 h.1.2.1 hd (ax_lat h.2.2.2.2.2 hl) (kk p e R s m args below meth cd Z H locs cells slots ls h)
theorem ax_aload_n {q : Fin 4} {x : Nat ⊕ Nat} (hd : decode k.2.1 pc = .ok (.aload_n q, 1)) (hl : L[(q : Nat)]? = some (some (.inr (.inr x)))) (kk : ax_W l G k F d c n M (pc + 1) L (.inr (.inr x) :: S)) : ax_W l G k F d c n M pc L (S) := by
  intro p e R s m args below meth cd Z H locs cells slots ls h
  rcases x with x | x
  · cases x with
    | zero => exact lv_aload_nN h.1.1 h.1.2.1 hd rfl (ax_lat h.2.2.2.2.2 hl) (kk p e R s m args below meth cd Z H locs cells slots ls h)
    | succ x => exact lv_aload_n h.1.1 h.1.2.1 hd rfl (ax_lat h.2.2.2.2.2 hl) (kk p e R s m args below meth cd Z H locs cells slots ls h)
  · exact lv_aload_n h.1.1 h.1.2.1 hd rfl (ax_lat h.2.2.2.2.2 hl) (kk p e R s m args below meth cd Z H locs cells slots ls h)
theorem ax_aload {q : Nat} {x : Nat ⊕ Nat} (hd : decode k.2.1 pc = .ok (.aload q, 2)) (hl : L[q]? = some (some (.inr (.inr x)))) (kk : ax_W l G k F d c n M (pc + 2) L (.inr (.inr x) :: S)) : ax_W l G k F d c n M pc L (S) := by
  intro p e R s m args below meth cd Z H locs cells slots ls h
  rcases x with x | x
  · cases x with
    | zero => exact lv_aloadN h.1.1 h.1.2.1 hd (ax_lat h.2.2.2.2.2 hl) (kk p e R s m args below meth cd Z H locs cells slots ls h)
    | succ x => exact lv_aload h.1.1 h.1.2.1 hd (ax_lat h.2.2.2.2.2 hl) (kk p e R s m args below meth cd Z H locs cells slots ls h)
  · exact lv_aload h.1.1 h.1.2.1 hd (ax_lat h.2.2.2.2.2 hl) (kk p e R s m args below meth cd Z H locs cells slots ls h)
theorem ax_istore_n {q : Fin 4} {x : Int32} (hd : decode k.2.1 pc = .ok (.istore_n q, 1)) (hn : (q : Nat) < k.2.2.1) (hok : ax_ok1 L q = true) (kk : ax_W l G k F d c n M (pc + 1) (L.set (q : Nat) (some (av_i x))) (S)) : ax_W l G k F d c n M pc L (av_i x :: S) := by
  intro p e R s m args below meth cd Z H locs cells slots ls h
  exact lv_istore_n h.1.1 h.1.2.1 hd rfl h.2.2.2.2.2 hn rfl (fun ls2 h2 => kk p e R s m args below meth cd Z H locs cells slots ls2 ⟨h.1, h.2.1, h.2.2.1, h.2.2.2.1, h.2.2.2.2.1, ax_set1 (ls := ls) (v := av_i x) hok h2⟩)
theorem ax_istore {q : Nat} {x : Int32} (hd : decode k.2.1 pc = .ok (.istore q, 2)) (hn : q < k.2.2.1) (hok : ax_ok1 L q = true) (kk : ax_W l G k F d c n M (pc + 2) (L.set q (some (av_i x))) (S)) : ax_W l G k F d c n M pc L (av_i x :: S) := by
  intro p e R s m args below meth cd Z H locs cells slots ls h
  exact lv_istore h.1.1 h.1.2.1 hd h.2.2.2.2.2 hn rfl (fun ls2 h2 => kk p e R s m args below meth cd Z H locs cells slots ls2 ⟨h.1, h.2.1, h.2.2.1, h.2.2.2.1, h.2.2.2.2.1, ax_set1 (ls := ls) (v := av_i x) hok h2⟩)
theorem ax_lstore_n {q : Fin 4} {x : Int64} (hd : decode k.2.1 pc = .ok (.lstore_n q, 1)) (hn : (q : Nat) + 1 < k.2.2.1) (hok : ax_ok1 L q = true) (kk : ax_W l G k F d c n M (pc + 1) ((L.set (q : Nat) (some (av_l x))).set ((q : Nat) + 1) none) (S)) : ax_W l G k F d c n M pc L (av_l x :: S) := by
  intro p e R s m args below meth cd Z H locs cells slots ls h
  exact lv_lstore_n h.1.1 h.1.2.1 hd rfl h.2.2.2.2.2 hn rfl (fun ls2 h2 => kk p e R s m args below meth cd Z H locs cells slots ls2 ⟨h.1, h.2.1, h.2.2.1, h.2.2.2.1, h.2.2.2.2.1, ax_set2 (ls := ls) (v := av_l x) hok h2⟩)
theorem ax_lstore {q : Nat} {x : Int64} (hd : decode k.2.1 pc = .ok (.lstore q, 2)) (hn : q + 1 < k.2.2.1) (hok : ax_ok1 L q = true) (kk : ax_W l G k F d c n M (pc + 2) ((L.set q (some (av_l x))).set (q + 1) none) (S)) : ax_W l G k F d c n M pc L (av_l x :: S) := by
  intro p e R s m args below meth cd Z H locs cells slots ls h
  exact lv_lstore h.1.1 h.1.2.1 hd h.2.2.2.2.2 hn rfl (fun ls2 h2 => kk p e R s m args below meth cd Z H locs cells slots ls2 ⟨h.1, h.2.1, h.2.2.1, h.2.2.2.1, h.2.2.2.2.1, ax_set2 (ls := ls) (v := av_l x) hok h2⟩)
theorem ax_astore_n {q : Fin 4} {x : Nat ⊕ Nat} (hd : decode k.2.1 pc = .ok (.astore_n q, 1)) (hn : (q : Nat) < k.2.2.1) (hok : ax_ok1 L q = true) (kk : ax_W l G k F d c n M (pc + 1) (L.set (q : Nat) (some (.inr (.inr x)))) (S)) : ax_W l G k F d c n M pc L (.inr (.inr x) :: S) := by
  intro p e R s m args below meth cd Z H locs cells slots ls h
  rcases x with x | x
  · cases x with
    | zero => exact lv_astore_nN h.1.1 h.1.2.1 hd rfl h.2.2.2.2.2 hn rfl (fun ls2 h2 => kk p e R s m args below meth cd Z H locs cells slots ls2 ⟨h.1, h.2.1, h.2.2.1, h.2.2.2.1, h.2.2.2.2.1, ax_set1 (ls := ls) (v := av_r 0) hok h2⟩)
    | succ x => exact lv_astore_n h.1.1 h.1.2.1 hd rfl h.2.2.2.2.2 hn rfl (fun ls2 h2 => kk p e R s m args below meth cd Z H locs cells slots ls2 ⟨h.1, h.2.1, h.2.2.1, h.2.2.2.1, h.2.2.2.2.1, ax_set1 (ls := ls) (v := av_r (x + 1)) hok h2⟩)
  · exact lv_astore_n h.1.1 h.1.2.1 hd rfl h.2.2.2.2.2 hn rfl (fun ls2 h2 => kk p e R s m args below meth cd Z H locs cells slots ls2 ⟨h.1, h.2.1, h.2.2.1, h.2.2.2.1, h.2.2.2.2.1, ax_set1 (ls := ls) (v := av_o x) hok h2⟩)
theorem ax_astore {q : Nat} {x : Nat ⊕ Nat} (hd : decode k.2.1 pc = .ok (.astore q, 2)) (hn : q < k.2.2.1) (hok : ax_ok1 L q = true) (kk : ax_W l G k F d c n M (pc + 2) (L.set q (some (.inr (.inr x)))) (S)) : ax_W l G k F d c n M pc L (.inr (.inr x) :: S) := by
  intro p e R s m args below meth cd Z H locs cells slots ls h
  rcases x with x | x
  · cases x with
    | zero => exact lv_astoreN h.1.1 h.1.2.1 hd h.2.2.2.2.2 hn rfl (fun ls2 h2 => kk p e R s m args below meth cd Z H locs cells slots ls2 ⟨h.1, h.2.1, h.2.2.1, h.2.2.2.1, h.2.2.2.2.1, ax_set1 (ls := ls) (v := av_r 0) hok h2⟩)
    | succ x => exact lv_astore h.1.1 h.1.2.1 hd h.2.2.2.2.2 hn rfl (fun ls2 h2 => kk p e R s m args below meth cd Z H locs cells slots ls2 ⟨h.1, h.2.1, h.2.2.1, h.2.2.2.1, h.2.2.2.2.1, ax_set1 (ls := ls) (v := av_r (x + 1)) hok h2⟩)
  · exact lv_astore h.1.1 h.1.2.1 hd h.2.2.2.2.2 hn rfl (fun ls2 h2 => kk p e R s m args below meth cd Z H locs cells slots ls2 ⟨h.1, h.2.1, h.2.2.1, h.2.2.2.1, h.2.2.2.2.1, ax_set1 (ls := ls) (v := av_o x) hok h2⟩)
theorem ax_iinc {q : Nat} {z : Int} {x v : Int32} (hd : decode k.2.1 pc = .ok (.iinc q z, 3)) (hl : L[q]? = some (some (av_i x))) (hv : Int32.ofInt z = v) (hn : q < k.2.2.1) (hok : ax_ok1 L q = true) (kk : ax_W l G k F d c n M (pc + 3) (L.set q (some (av_i (x + v)))) (S)) : ax_W l G k F d c n M pc L (S) := by
  intro p e R s m args below meth cd Z H locs cells slots ls h
  subst hv
  obtain ⟨i, hi⟩ := List.getElem?_of_mem (ax_ll_mem (G := G) (q := (q, ax_tv G (av_i x))).mpr ⟨av_i x, hl, rfl⟩)
  exact lv_iinc h.1.1 h.1.2.1 hd h.2.2.2.2.2 hi rfl hn rfl (fun ls2 h2 => kk p e R s m args below meth cd Z H locs cells slots ls2 ⟨h.1, h.2.1, h.2.2.1, h.2.2.2.1, h.2.2.2.2.1, ax_set1 (ls := ls) (v := av_i (x + Int32.ofInt z)) hok h2⟩)
theorem ax_dup {v : ax_V} (hd : decode k.2.1 pc = .ok (.dup, 1)) (hv : (ax_tv G v).category = 1) (kk : ax_W l G k F d c n M (pc + 1) L (v :: v :: S)) : ax_W l G k F d c n M pc L (v :: S) := by
  intro p e R s m args below meth cd Z H locs cells slots ls h
  exact lv_dup h.1.1 h.1.2.1 hd hv (kk p e R s m args below meth cd Z H locs cells slots ls h)
theorem ax_pop {v : ax_V} (hd : decode k.2.1 pc = .ok (.pop, 1)) (hv : (ax_tv G v).category = 1) (kk : ax_W l G k F d c n M (pc + 1) L (S)) : ax_W l G k F d c n M pc L (v :: S) := by
  intro p e R s m args below meth cd Z H locs cells slots ls h
  exact lv_pop h.1.1 h.1.2.1 hd hv (kk p e R s m args below meth cd Z H locs cells slots ls h)
theorem ax_dup2 {v w : ax_V} (hd : decode k.2.1 pc = .ok (.dup2, 1)) (hv : (ax_tv G v).category = 1) (hw : (ax_tv G w).category = 1) (kk : ax_W l G k F d c n M (pc + 1) L (v :: w :: v :: w :: S)) : ax_W l G k F d c n M pc L (v :: w :: S) := by
  intro p e R s m args below meth cd Z H locs cells slots ls h
  exact lv_dup2_11 h.1.1 h.1.2.1 hd hv hw (kk p e R s m args below meth cd Z H locs cells slots ls h)
theorem ax_crf (n : Nat) : (ax_tv G (av_r n)).category = 1 := by cases n <;> rfl
theorem ax_if_eq {x : Int32} {off : Int} {tgt : Nat} (hd : decode k.2.1 pc = .ok (.ifCond .eq off, 3)) (ht : (pc : Int) + off = (tgt : Int)) (kt : x = 0 → ax_W l G k F d c n M tgt L (S)) (kf : ¬ x = 0 → ax_W l G k F d c n M (pc + 3) L (S)) : ax_W l G k F d c n M pc L (av_i x :: S) := by
  intro p e R s m args below meth cd Z H locs cells slots ls h
  exact lv_if_eq h.1.1 h.1.2.1 hd ht (fun hc => kt hc p e R s m args below meth cd Z H locs cells slots ls h) (fun hc => kf hc p e R s m args below meth cd Z H locs cells slots ls h)
theorem ax_icmp_eq {x y : Int32} {off : Int} {tgt : Nat} (hd : decode k.2.1 pc = .ok (.if_icmp .eq off, 3)) (ht : (pc : Int) + off = (tgt : Int)) (kt : x = y → ax_W l G k F d c n M tgt L (S)) (kf : ¬ x = y → ax_W l G k F d c n M (pc + 3) L (S)) : ax_W l G k F d c n M pc L (av_i y :: av_i x :: S) := by
  intro p e R s m args below meth cd Z H locs cells slots ls h
  exact lv_icmp_eq h.1.1 h.1.2.1 hd ht (fun hc => kt hc p e R s m args below meth cd Z H locs cells slots ls h) (fun hc => kf hc p e R s m args below meth cd Z H locs cells slots ls h)
theorem ax_if_ne {x : Int32} {off : Int} {tgt : Nat} (hd : decode k.2.1 pc = .ok (.ifCond .ne off, 3)) (ht : (pc : Int) + off = (tgt : Int)) (kt : ¬ x = 0 → ax_W l G k F d c n M tgt L (S)) (kf : x = 0 → ax_W l G k F d c n M (pc + 3) L (S)) : ax_W l G k F d c n M pc L (av_i x :: S) := by
  intro p e R s m args below meth cd Z H locs cells slots ls h
  exact lv_if_ne h.1.1 h.1.2.1 hd ht (fun hc => kt hc p e R s m args below meth cd Z H locs cells slots ls h) (fun hc => kf hc p e R s m args below meth cd Z H locs cells slots ls h)
theorem ax_icmp_ne {x y : Int32} {off : Int} {tgt : Nat} (hd : decode k.2.1 pc = .ok (.if_icmp .ne off, 3)) (ht : (pc : Int) + off = (tgt : Int)) (kt : ¬ x = y → ax_W l G k F d c n M tgt L (S)) (kf : x = y → ax_W l G k F d c n M (pc + 3) L (S)) : ax_W l G k F d c n M pc L (av_i y :: av_i x :: S) := by
  intro p e R s m args below meth cd Z H locs cells slots ls h
  exact lv_icmp_ne h.1.1 h.1.2.1 hd ht (fun hc => kt hc p e R s m args below meth cd Z H locs cells slots ls h) (fun hc => kf hc p e R s m args below meth cd Z H locs cells slots ls h)
theorem ax_if_lt {x : Int32} {off : Int} {tgt : Nat} (hd : decode k.2.1 pc = .ok (.ifCond .lt off, 3)) (ht : (pc : Int) + off = (tgt : Int)) (kt : x < 0 → ax_W l G k F d c n M tgt L (S)) (kf : ¬ x < 0 → ax_W l G k F d c n M (pc + 3) L (S)) : ax_W l G k F d c n M pc L (av_i x :: S) := by
  intro p e R s m args below meth cd Z H locs cells slots ls h
  exact lv_if_lt h.1.1 h.1.2.1 hd ht (fun hc => kt hc p e R s m args below meth cd Z H locs cells slots ls h) (fun hc => kf hc p e R s m args below meth cd Z H locs cells slots ls h)
theorem ax_icmp_lt {x y : Int32} {off : Int} {tgt : Nat} (hd : decode k.2.1 pc = .ok (.if_icmp .lt off, 3)) (ht : (pc : Int) + off = (tgt : Int)) (kt : x < y → ax_W l G k F d c n M tgt L (S)) (kf : ¬ x < y → ax_W l G k F d c n M (pc + 3) L (S)) : ax_W l G k F d c n M pc L (av_i y :: av_i x :: S) := by
  intro p e R s m args below meth cd Z H locs cells slots ls h
  exact lv_icmp_lt h.1.1 h.1.2.1 hd ht (fun hc => kt hc p e R s m args below meth cd Z H locs cells slots ls h) (fun hc => kf hc p e R s m args below meth cd Z H locs cells slots ls h)
theorem ax_if_ge {x : Int32} {off : Int} {tgt : Nat} (hd : decode k.2.1 pc = .ok (.ifCond .ge off, 3)) (ht : (pc : Int) + off = (tgt : Int)) (kt : 0 ≤ x → ax_W l G k F d c n M tgt L (S)) (kf : ¬ 0 ≤ x → ax_W l G k F d c n M (pc + 3) L (S)) : ax_W l G k F d c n M pc L (av_i x :: S) := by
  intro p e R s m args below meth cd Z H locs cells slots ls h
  exact lv_if_ge h.1.1 h.1.2.1 hd ht (fun hc => kt hc p e R s m args below meth cd Z H locs cells slots ls h) (fun hc => kf hc p e R s m args below meth cd Z H locs cells slots ls h)
theorem ax_icmp_ge {x y : Int32} {off : Int} {tgt : Nat} (hd : decode k.2.1 pc = .ok (.if_icmp .ge off, 3)) (ht : (pc : Int) + off = (tgt : Int)) (kt : y ≤ x → ax_W l G k F d c n M tgt L (S)) (kf : ¬ y ≤ x → ax_W l G k F d c n M (pc + 3) L (S)) : ax_W l G k F d c n M pc L (av_i y :: av_i x :: S) := by
  intro p e R s m args below meth cd Z H locs cells slots ls h
  exact lv_icmp_ge h.1.1 h.1.2.1 hd ht (fun hc => kt hc p e R s m args below meth cd Z H locs cells slots ls h) (fun hc => kf hc p e R s m args below meth cd Z H locs cells slots ls h)
theorem ax_if_gt {x : Int32} {off : Int} {tgt : Nat} (hd : decode k.2.1 pc = .ok (.ifCond .gt off, 3)) (ht : (pc : Int) + off = (tgt : Int)) (kt : 0 < x → ax_W l G k F d c n M tgt L (S)) (kf : ¬ 0 < x → ax_W l G k F d c n M (pc + 3) L (S)) : ax_W l G k F d c n M pc L (av_i x :: S) := by
  intro p e R s m args below meth cd Z H locs cells slots ls h
  exact lv_if_gt h.1.1 h.1.2.1 hd ht (fun hc => kt hc p e R s m args below meth cd Z H locs cells slots ls h) (fun hc => kf hc p e R s m args below meth cd Z H locs cells slots ls h)
theorem ax_icmp_gt {x y : Int32} {off : Int} {tgt : Nat} (hd : decode k.2.1 pc = .ok (.if_icmp .gt off, 3)) (ht : (pc : Int) + off = (tgt : Int)) (kt : y < x → ax_W l G k F d c n M tgt L (S)) (kf : ¬ y < x → ax_W l G k F d c n M (pc + 3) L (S)) : ax_W l G k F d c n M pc L (av_i y :: av_i x :: S) := by
  intro p e R s m args below meth cd Z H locs cells slots ls h
  exact lv_icmp_gt h.1.1 h.1.2.1 hd ht (fun hc => kt hc p e R s m args below meth cd Z H locs cells slots ls h) (fun hc => kf hc p e R s m args below meth cd Z H locs cells slots ls h)
theorem ax_if_le {x : Int32} {off : Int} {tgt : Nat} (hd : decode k.2.1 pc = .ok (.ifCond .le off, 3)) (ht : (pc : Int) + off = (tgt : Int)) (kt : x ≤ 0 → ax_W l G k F d c n M tgt L (S)) (kf : ¬ x ≤ 0 → ax_W l G k F d c n M (pc + 3) L (S)) : ax_W l G k F d c n M pc L (av_i x :: S) := by
  intro p e R s m args below meth cd Z H locs cells slots ls h
  exact lv_if_le h.1.1 h.1.2.1 hd ht (fun hc => kt hc p e R s m args below meth cd Z H locs cells slots ls h) (fun hc => kf hc p e R s m args below meth cd Z H locs cells slots ls h)
theorem ax_icmp_le {x y : Int32} {off : Int} {tgt : Nat} (hd : decode k.2.1 pc = .ok (.if_icmp .le off, 3)) (ht : (pc : Int) + off = (tgt : Int)) (kt : x ≤ y → ax_W l G k F d c n M tgt L (S)) (kf : ¬ x ≤ y → ax_W l G k F d c n M (pc + 3) L (S)) : ax_W l G k F d c n M pc L (av_i y :: av_i x :: S) := by
  intro p e R s m args below meth cd Z H locs cells slots ls h
  exact lv_icmp_le h.1.1 h.1.2.1 hd ht (fun hc => kt hc p e R s m args below meth cd Z H locs cells slots ls h) (fun hc => kf hc p e R s m args below meth cd Z H locs cells slots ls h)
theorem ax_tableIn {dflt lo hi : Int} {offs : Array Int} {len : Nat} {x : Int32} {off : Int} {tgt : Nat} (hd : decode k.2.1 pc = .ok (.tableswitch dflt lo hi offs, len)) (h1 : ¬ x.toInt < lo) (h2 : ¬ hi < x.toInt) (ho : offs[(x.toInt - lo).toNat]? = some off) (ht : (pc : Int) + off = (tgt : Int)) (kk : ax_W l G k F d c n M tgt L (S)) : ax_W l G k F d c n M pc L (av_i x :: S) := by
  intro p e R s m args below meth cd Z H locs cells slots ls h
  exact lv_tableIn h.1.1 h.1.2.1 hd h1 h2 ho ht (kk p e R s m args below meth cd Z H locs cells slots ls h)
theorem ax_tableOut {dflt lo hi : Int} {offs : Array Int} {len : Nat} {x : Int32} {tgt : Nat} (hd : decode k.2.1 pc = .ok (.tableswitch dflt lo hi offs, len)) (h1 : x.toInt < lo ∨ hi < x.toInt) (ht : (pc : Int) + dflt = (tgt : Int)) (kk : ax_W l G k F d c n M tgt L (S)) : ax_W l G k F d c n M pc L (av_i x :: S) := by
  intro p e R s m args below meth cd Z H locs cells slots ls h
  exact lv_tableOut h.1.1 h.1.2.1 hd h1 ht (kk p e R s m args below meth cd Z H locs cells slots ls h)
theorem ax_lookup {dflt : Int} {ps : Array (Int × Int)} {len : Nat} {x : Int32} {off : Int} {tgt : Nat} (hd : decode k.2.1 pc = .ok (.lookupswitch dflt ps, len)) (hp : (ps.toList.zip (ps.toList.drop 1)).all (fun (a, next) => a.1 < next.1) = true) (ho : Op.lookupswitch.offset ps.toList dflt x.toInt = off) (ht : (pc : Int) + off = (tgt : Int)) (kk : ax_W l G k F d c n M tgt L (S)) : ax_W l G k F d c n M pc L (av_i x :: S) := by
  intro p e R s m args below meth cd Z H locs cells slots ls h
  exact lv_lookup h.1.1 h.1.2.1 hd hp ho ht (kk p e R s m args below meth cd Z H locs cells slots ls h)
theorem ax_goto {off : Int} {tgt : Nat} (hd : decode k.2.1 pc = .ok (.goto off, 3)) (ht : (pc : Int) + off = (tgt : Int)) (kk : ax_W l G k F d c n M tgt L (S)) : ax_W l G k F d c n M pc L (S) := by
  intro p e R s m args below meth cd Z H locs cells slots ls h
  exact lv_goto h.1.1 h.1.2.1 hd ht (kk p e R s m args below meth cd Z H locs cells slots ls h)
theorem ax_weak {L2 : List (Option ax_V)} (hw : ∀ (i : Nat) (v : ax_V), L2[i]? = some (some v) → L[i]? = some (some v)) (kk : ax_W l G k F d c n M pc L2 (S)) : ax_W l G k F d c n M pc L (S) := by
  intro p e R s m args below meth cd Z H locs cells slots ls h
  refine kk p e R s m args below meth cd Z H locs cells slots ls ⟨h.1, h.2.1, h.2.2.1, h.2.2.2.1, h.2.2.2.2.1, h.2.2.2.2.2.1, h.2.2.2.2.2.2.1, fun q hq => ?_⟩
  obtain ⟨v, h1, h2⟩ := ax_ll_mem.mp hq
  exact h.2.2.2.2.2.2.2 q (ax_ll_mem.mpr ⟨v, hw _ _ h1, h2⟩)
end AXR
