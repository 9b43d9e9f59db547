/-! ===== what a constructor leaves ===== -/
def itv (w : List (Nat × Nat × Int32)) (i k : Nat) : Int32 := match w.find? (fun q => q.1 == i && q.2.1 == k) with
  | some q => q.2.2
  | none => 0
/-- cells from a on: shapes, references, ints; what lies before a as it was -/
def ic (M M2 : ax_M) (a : Nat) (sh : List ((Nat × Nat) ⊕ Nat)) (rf : List (Nat × Nat × Nat)) (w : List (Nat × Nat × Int32)) : Prop := M2.2.2.2.2 = a + sh.length ∧ (∀ b, b ≤ a → M2.2.2.2.1 b = M.2.2.2.1 b) ∧ (∀ b k, b < a → M2.1 b k = M.1 b k ∧ M2.2.1 b k = M.2.1 b k) ∧ (∀ i x, sh[i]? = some x → M2.2.2.2.1 (a + 1 + i) = some x) ∧ (∀ q ∈ rf, M2.2.1 (a + q.1) q.2.1 = a + q.2.2) ∧ ∀ i k, M2.1 (a + i) k = itv w i k
theorem itv_0 {w : List (Nat × Nat × Int32)} {m : Nat} (h : w.all (fun q => decide (q.1 < m)) = true) {j k : Nat} (hj : m ≤ j) : itv w j k = 0 := by
  unfold itv
  have : w.find? (fun q => q.1 == j && q.2.1 == k) = none := by
    rw [List.find?_eq_none]
    intro q hq
    have := List.all_eq_true.mp h q hq
    simp only [decide_eq_true_eq] at this
    simp only [Bool.and_eq_true, beq_iff_eq]
    omega
  rw [this]
theorem itv_c {w : List (Nat × Nat × Int32)} {i k j m : Nat} {v : Int32} : itv ((i, k, v) :: w) j m = if j = i ∧ m = k then v else itv w j m := by
  unfold itv
  rw [List.find?_cons]
  by_cases h : j = i ∧ m = k
  · obtain ⟨rfl, rfl⟩ := h
    simp
  · have : ((i, k, v).1 == j && (i, k, v).2.1 == m) = false := by
      simp only [Bool.and_eq_false_iff, beq_eq_false_iff_ne]
      omega
    rw [this, if_neg h]
theorem itv_app {w w2 : List (Nat × Nat × Int32)} {o : Nat} (h : w.all (fun q => decide (q.1 < o)) = true) {i k : Nat} : itv (w2.map (fun q => (o + q.1, q.2)) ++ w) i k = if o ≤ i then itv w2 (i - o) k else itv w i k := by
  induction w2 with
  | nil =>
    show itv w i k = _
    by_cases hi : o ≤ i
    · rw [if_pos hi, itv_0 h hi]; rfl
    · rw [if_neg hi]
  | cons q w2 ih =>
    obtain ⟨a, b, v⟩ := q
    show itv ((o + a, b, v) :: (w2.map (fun q => (o + q.1, q.2)) ++ w)) i k = _
    rw [itv_c, ih, itv_c]
    by_cases hi : o ≤ i
    · rw [if_pos hi, if_pos hi]
      by_cases hq : i = o + a ∧ k = b
      · rw [if_pos hq, if_pos ⟨by omega, hq.2⟩]
      · rw [if_neg hq, if_neg (by omega)]
    · rw [if_neg hi, if_neg hi, if_neg (by omega)]
section IC
variable {M A B : ax_M} {a : Nat} {sh : List ((Nat × Nat) ⊕ Nat)} {rf : List (Nat × Nat × Nat)} {w : List (Nat × Nat × Int32)}
theorem ic_0 (hn : M.2.2.2.2 = a) (hz : ∀ i k, M.1 (a + i) k = 0) : ic M M a [] [] [] := ⟨by rw [hn]; rfl, fun _ _ => rfl, fun _ _ _ => ⟨rfl, rfl⟩, fun i x h => by simp at h, fun q h => absurd h List.not_mem_nil, fun i k => hz i k⟩
theorem ic_z {m : Nat} (h : ic M A a sh rf w) (hw : w.all (fun q => decide (q.1 < m)) = true) (i k : Nat) : A.1 (a + m + i) k = 0 := by
  rw [show a + m + i = a + (m + i) by omega, h.2.2.2.2.2, itv_0 hw (by omega)]
theorem ic_new {x : (Nat × Nat) ⊕ Nat} (h : ic M A a sh rf w) (e : B = ax_new A x) (hw : w.all (fun q => decide (q.1 < sh.length + 1)) = true) (hr : rf.all (fun q => decide (q.1 < sh.length + 1)) = true) : ic M B a (sh ++ [x]) rf w := by
  subst e
  obtain ⟨h1, h2, h3, h4, h5, h6⟩ := h
  refine ⟨?_, fun b hb => ?_, fun b k hb => ⟨?_, ?_⟩, fun i y hi => ?_, fun q hq => ?_, fun i k => ?_⟩
  · show A.2.2.2.2 + 1 = _
    rw [h1, List.length_append]; rfl
  · show (if b = A.2.2.2.2 + 1 then some x else A.2.2.2.1 b) = _
    rw [if_neg (by omega)]; exact h2 b hb
  · show (if b = A.2.2.2.2 + 1 then 0 else A.1 b k) = _
    rw [if_neg (by omega)]; exact (h3 b k hb).1
  · show (if b = A.2.2.2.2 + 1 then 0 else A.2.1 b k) = _
    rw [if_neg (by omega)]; exact (h3 b k hb).2
  · show (if a + 1 + i = A.2.2.2.2 + 1 then some x else A.2.2.2.1 (a + 1 + i)) = _
    by_cases hi2 : i = sh.length
    · subst hi2
      rw [if_pos (by omega)]
      rw [List.getElem?_append_right (Nat.le_refl _), Nat.sub_self] at hi
      exact hi
    · have hl : i < (sh ++ [x]).length := by
        rcases Nat.lt_or_ge i (sh ++ [x]).length with z | z
        · exact z
        · rw [List.getElem?_eq_none z] at hi; cases hi
      rw [List.length_append] at hl
      have : [x].length = 1 := rfl
      rw [if_neg (by omega)]
      rw [List.getElem?_append_left (by omega)] at hi
      exact h4 i y hi
  · have := List.all_eq_true.mp hr q hq
    simp only [decide_eq_true_eq] at this
    show (if a + q.1 = A.2.2.2.2 + 1 then 0 else A.2.1 (a + q.1) q.2.1) = _
    rw [if_neg (by omega)]; exact h5 q hq
  · show (if a + i = A.2.2.2.2 + 1 then 0 else A.1 (a + i) k) = _
    by_cases hi : a + i = A.2.2.2.2 + 1
    · rw [if_pos hi, itv_0 hw (by omega)]
    · rw [if_neg hi]; exact h6 i k
theorem ic_putI {b i k : Nat} {v : Int32} (h : ic M A a sh rf w) (e : B = ax_pI A b k v) (hb : b = a + i) : ic M B a sh rf ((i, k, v) :: w) := by
  subst e hb
  obtain ⟨h1, h2, h3, h4, h5, h6⟩ := h
  refine ⟨h1, h2, fun b j hb => ⟨by rw [ax_pn (by omega)]; exact (h3 b j hb).1, (h3 b j hb).2⟩, h4, h5, fun j m => ?_⟩
  rw [itv_c]
  by_cases hq : j = i ∧ m = k
  · rw [if_pos hq, hq.1, hq.2, ax_pa]
  · rw [if_neg hq, ax_pn (by omega)]; exact h6 j m
theorem ic_putR {b i k v j : Nat} (h : ic M A a sh rf w) (e : B = ax_pR A b k v) (hb : b = a + i) (hv : v = a + j) (hr : rf.all (fun q => !(q.1 == i && q.2.1 == k)) = true) : ic M B a sh ((i, k, j) :: rf) w := by
  subst e hb hv
  obtain ⟨h1, h2, h3, h4, h5, h6⟩ := h
  refine ⟨h1, h2, fun b m hb => ⟨(h3 b m hb).1, by rw [ax_pRn (by omega)]; exact (h3 b m hb).2⟩, h4, fun q hq => ?_, h6⟩
  rcases List.mem_cons.mp hq with rfl | hq
  · exact ax_pRa
  · have := List.all_eq_true.mp hr q hq
    simp only [Bool.not_eq_true', Bool.and_eq_false_iff, beq_eq_false_iff_ne] at this
    rw [ax_pRn (by omega)]; exact h5 q hq
theorem ic_al {sh2 : List ((Nat × Nat) ⊕ Nat)} {rfn : Nat → Nat → Nat} {rf2 : List (Nat × Nat × Nat)} (h : ic M A a sh rf w) (e : B = ax_al A sh2 rfn) (hw : w.all (fun q => decide (q.1 < sh.length + 1)) = true) (hr : rf.all (fun q => decide (q.1 < sh.length + 1)) = true) (h2 : ∀ q ∈ rf2, sh.length < q.1 ∧ q.1 ≤ sh.length + sh2.length ∧ rfn (q.1 - sh.length) q.2.1 = a + q.2.2) : ic M B a (sh ++ sh2) (rf2 ++ rf) w := by
  subst e
  obtain ⟨h1, g2, h3, h4, h5, h6⟩ := h
  refine ⟨?_, fun b hb => ?_, fun b k hb => ⟨?_, ?_⟩, fun i y hi => ?_, fun q hq => ?_, fun i k => ?_⟩
  · show A.2.2.2.2 + sh2.length = _
    rw [h1, List.length_append]; omega
  · show (if A.2.2.2.2 < b ∧ b ≤ A.2.2.2.2 + sh2.length then sh2[b - A.2.2.2.2 - 1]? else A.2.2.2.1 b) = _
    rw [if_neg (by omega)]; exact g2 b hb
  · show (if A.2.2.2.2 < b ∧ b ≤ A.2.2.2.2 + sh2.length then 0 else A.1 b k) = _
    rw [if_neg (by omega)]; exact (h3 b k hb).1
  · show (if A.2.2.2.2 < b ∧ b ≤ A.2.2.2.2 + sh2.length then rfn (b - A.2.2.2.2) k else A.2.1 b k) = _
    rw [if_neg (by omega)]; exact (h3 b k hb).2
  · show (if A.2.2.2.2 < a + 1 + i ∧ a + 1 + i ≤ A.2.2.2.2 + sh2.length then sh2[a + 1 + i - A.2.2.2.2 - 1]? else A.2.2.2.1 (a + 1 + i)) = _
    by_cases hi2 : i < sh.length
    · rw [if_neg (by omega)]
      rw [List.getElem?_append_left hi2] at hi
      exact h4 i y hi
    · rw [List.getElem?_append_right (by omega)] at hi
      have hl : i - sh.length < sh2.length := by
        rcases Nat.lt_or_ge (i - sh.length) sh2.length with z | z
        · exact z
        · rw [List.getElem?_eq_none z] at hi; cases hi
      rw [if_pos (by omega), show a + 1 + i - A.2.2.2.2 - 1 = i - sh.length by omega]
      exact hi
  · show (if A.2.2.2.2 < a + q.1 ∧ a + q.1 ≤ A.2.2.2.2 + sh2.length then rfn (a + q.1 - A.2.2.2.2) q.2.1 else A.2.1 (a + q.1) q.2.1) = _
    rcases List.mem_append.mp hq with hq | hq
    · obtain ⟨c1, c2, c3⟩ := h2 q hq
      rw [if_pos (by omega), show a + q.1 - A.2.2.2.2 = q.1 - sh.length by omega]
      exact c3
    · have := List.all_eq_true.mp hr q hq
      simp only [decide_eq_true_eq] at this
      rw [if_neg (by omega)]; exact h5 q hq
  · show (if A.2.2.2.2 < a + i ∧ a + i ≤ A.2.2.2.2 + sh2.length then 0 else A.1 (a + i) k) = _
    by_cases hi : A.2.2.2.2 < a + i ∧ a + i ≤ A.2.2.2.2 + sh2.length
    · rw [if_pos hi, itv_0 hw (by omega)]
    · rw [if_neg hi]; exact h6 i k
theorem ic_child {c : Nat} {sh2 : List ((Nat × Nat) ⊕ Nat)} {rf2 : List (Nat × Nat × Nat)} {w2 : List (Nat × Nat × Int32)} (h : ic M A a sh rf w) (g : ic A B c sh2 rf2 w2) (hc : c = a + sh.length) (hw : w.all (fun q => decide (q.1 < sh.length)) = true) (hr : rf.all (fun q => decide (q.1 < sh.length)) = true) : ic M B a (sh ++ sh2) (rf2.map (fun q => (sh.length + q.1, q.2.1, sh.length + q.2.2)) ++ rf) (w2.map (fun q => (sh.length + q.1, q.2)) ++ w) := by
  subst hc
  obtain ⟨h1, h2, h3, h4, h5, h6⟩ := h
  obtain ⟨g1, g2, g3, g4, g5, g6⟩ := g
  refine ⟨?_, fun b hb => ?_, fun b k hb => ⟨?_, ?_⟩, fun i y hi => ?_, fun q hq => ?_, fun i k => ?_⟩
  · rw [g1, List.length_append]; omega
  · rw [g2 b (by omega)]; exact h2 b hb
  · rw [(g3 b k (by omega)).1]; exact (h3 b k hb).1
  · rw [(g3 b k (by omega)).2]; exact (h3 b k hb).2
  · by_cases hi2 : i < sh.length
    · rw [List.getElem?_append_left hi2] at hi
      rw [g2 _ (by omega)]; exact h4 i y hi
    · rw [List.getElem?_append_right (by omega)] at hi
      have := g4 _ _ hi
      rw [show a + sh.length + 1 + (i - sh.length) = a + 1 + i by omega] at this
      exact this
  · rcases List.mem_append.mp hq with hq | hq
    · obtain ⟨q0, hq0, rfl⟩ := List.mem_map.mp hq
      have := g5 q0 hq0
      show B.2.1 (a + (sh.length + q0.1)) q0.2.1 = a + (sh.length + q0.2.2)
      rw [show a + (sh.length + q0.1) = a + sh.length + q0.1 by omega, this]; omega
    · have := List.all_eq_true.mp hr q hq
      simp only [decide_eq_true_eq] at this
      rw [(g3 _ _ (by omega)).2]; exact h5 q hq
  · rw [itv_app hw]
    by_cases hi : sh.length ≤ i
    · rw [if_pos hi, ← g6 (i - sh.length) k, show a + sh.length + (i - sh.length) = a + i by omega]
    · rw [if_neg hi, (g3 _ _ (by omega)).1]; exact h6 i k
theorem ic_eq {sh2 : List ((Nat × Nat) ⊕ Nat)} {rf2 : List (Nat × Nat × Nat)} {w2 : List (Nat × Nat × Int32)} (h : ic M A a sh rf w) (e1 : sh = sh2) (e2 : rf = rf2) (e3 : w = w2) : ic M A a sh2 rf2 w2 := by subst e1 e2 e3; exact h
end IC

