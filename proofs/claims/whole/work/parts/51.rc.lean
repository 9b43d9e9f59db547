/-! ===== the road's clauses, as numbers ===== -/
def up (q : Nat → Int) (i : Nat) (v : Int) (j : Nat) : Int := if j = i then v else q j
theorem up_a {q : Nat → Int} {i : Nat} {v : Int} : up q i v i = v := if_pos rfl
theorem up_n {q : Nat → Int} {i j : Nat} {v : Int} (h : j ≠ i) : up q i v j = q j := if_neg h
def kd_ix (w : List Nat) : List (List Nat) → Nat → Nat
  | [], i => i
  | x :: r, i => if w = x then i else kd_ix w r (i + 1)
def kd (w : List Nat) : Nat := kd_ix w tx_kinds 0
theorem kd_ix_le (w : List Nat) : ∀ (ls : List (List Nat)) (i : Nat), i ≤ kd_ix w ls i ∧ kd_ix w ls i ≤ i + ls.length
  | [], i => ⟨Nat.le_refl _, Nat.le_refl _⟩
  | x :: r, i => by
    have := kd_ix_le w r (i + 1)
    unfold kd_ix
    rw [List.length_cons]
    split <;> omega
theorem kd_tx (w : List Nat) : ∀ (ls : List (List Nat)) (i : Nat), tx_ix w ls i = if kd_ix w ls i = i + ls.length then -1 else nI (kd_ix w ls i)
  | [], i => by simp [tx_ix, kd_ix]
  | x :: r, i => by
    unfold tx_ix kd_ix
    by_cases h : w = x
    · rw [if_pos h, if_pos h, if_neg (by rw [List.length_cons]; omega)]
    · rw [if_neg h, if_neg h, kd_tx w r (i + 1), List.length_cons, show i + 1 + r.length = i + (r.length + 1) by omega]
theorem kd_8 (w : List Nat) : kd w ≤ 8 := (kd_ix_le w tx_kinds 0).2
theorem kd_ix8 (w : List Nat) : tx_ix w tx_kinds 0 = if kd w = 8 then -1 else nI (kd w) := kd_tx w tx_kinds 0
/-- the numbers of a CLAUSE -/
def ca (B : Nat → Int32) (z : Nat) (q : Nat → Int) (k : Nat) (s : rk) : rk × (Nat → Int) :=
  if k = 0 then ((rk_num B z 10 60 s).1, if (rk_num B z 10 60 s).1.2 = none then up q 0 (rk_num B z 10 60 s).2 else q)
  else if k = 1 then ((rk_num B z 0 9 (rk_num B z 1 3 (rk_num B z 17 99 s).1).1).1, up (up (up q (40 + (q 1).toNat) (rk_num B z 17 99 s).2) (10 + 2 * (q 1).toNat) (rk_num B z 1 3 (rk_num B z 17 99 s).1).2) (11 + 2 * (q 1).toNat) (rk_num B z 0 9 (rk_num B z 1 3 (rk_num B z 17 99 s).1).1).2)
  else if k = 2 then ((rk_num B z 0 9 (rk_num B z 0 (iI (q 0 - 1)) s).1).1, up (up q (14 + 2 * (q 2).toNat) (rk_num B z 0 (iI (q 0 - 1)) s).2) (15 + 2 * (q 2).toNat) (rk_num B z 0 9 (rk_num B z 0 (iI (q 0 - 1)) s).1).2)
  else if k = 3 then ((rk_num B z 0 (iI (q 0 - 1)) s).1, up q (50 + (q 3).toNat) (rk_num B z 0 (iI (q 0 - 1)) s).2)
  else if k = 4 then ((rk_num B z (nI (rk_num B z 0 (iI (q 0 - 1)) s).2) (iI (q 0 - 1)) (rk_num B z 0 (iI (q 0 - 1)) s).1).1, up (up q (60 + 2 * (q 4).toNat) (rk_num B z 0 (iI (q 0 - 1)) s).2) (61 + 2 * (q 4).toNat) (rk_num B z (nI (rk_num B z 0 (iI (q 0 - 1)) s).2) (iI (q 0 - 1)) (rk_num B z 0 (iI (q 0 - 1)) s).1).2)
  else if k = 5 then ((rk_num B z 1 20 (rk_num B z 1 40 s).1).1, if (rk_num B z 1 20 (rk_num B z 1 40 s).1).1.2 = none then up (up q 5 (rk_num B z 1 40 s).2) 6 (rk_num B z 1 20 (rk_num B z 1 40 s).1).2 else q)
  else ((rk_num B z 0 9 s).1, if (rk_num B z 0 9 s).1.2 = none then up q (if k = 6 then 34 else 35) (rk_num B z 0 9 s).2 else q)
/-- one more of its kind -/
def cn (q : Nat → Int) (k : Nat) (s : rk) : Nat → Int := if 0 < k ∧ k < 5 then up q k (q k + (if s.2 = none then 1 else 0)) else q
abbrev fl_k (q : Nat → Int) (k : Nat) : Prop := (k = 1 ∧ q 1 = 2) ∨ (k = 2 ∧ q 2 = 10) ∨ (k = 3 ∧ q 3 = 6) ∨ (k = 4 ∧ q 4 = 4)
def cl (B : Nat → Int32) (z n : Nat) (q : Nat → Int) (a : Nat) : rk × (Nat → Int) :=
  if kd (tx_wd B z (tx_sk B z a)) = 8 then ((tx_sk B z a, some (1, tx_sk B z a)), q)
  else if n = 60 ∨ fl_k q (kd (tx_wd B z (tx_sk B z a))) then ((tx_sk B z a, some (3, tx_sk B z a)), q)
  else if kd (tx_wd B z (tx_sk B z a)) = 0 ∧ 0 < n then ((tx_sk B z a, some (4, tx_sk B z a)), q)
  else (rk_sign B z 59 (ca B z q (kd (tx_wd B z (tx_sk B z a))) (tx_sk B z a + (tx_wd B z (tx_sk B z a)).length, none)).1, cn (ca B z q (kd (tx_wd B z (tx_sk B z a))) (tx_sk B z a + (tx_wd B z (tx_sk B z a)).length, none)).2 (kd (tx_wd B z (tx_sk B z a))) (ca B z q (kd (tx_wd B z (tx_sk B z a))) (tx_sk B z a + (tx_wd B z (tx_sk B z a)).length, none)).1)
theorem rk_num_lo {B : Nat → Int32} {z : Nat} {lo hi : Int32} {s : rk} {m : Nat} (hl : lo = nI m) (hm : m < 2 ^ 31) (h : (rk_num B z lo hi s).1.2 = none) : m ≤ (rk_num B z lo hi s).2 := by
  obtain ⟨_, h2, h3⟩ := rk_num_n h
  have := tx_num_v h2
  rw [h3]
  subst hl
  exact (nI_leI hm (by omega)).mp this.1
theorem rk_num_up {B : Nat → Int32} {z : Nat} {lo hi : Int32} {s : rk} (h : (rk_num B z lo hi s).1.2 = none) : s.2 = none := (rk_num_n h).1
theorem rd_up {q q2 : Nat → Int} {k : Nat} {v : Int} (h : rd_ok q) (hk : (k = 0 ∧ 10 ≤ v ∧ v ≤ 60 ∧ q 1 = 0 ∧ q 2 = 0 ∧ q 3 = 0 ∧ q 4 = 0) ∨ (k = 5 ∧ 1 ≤ v ∧ v ≤ 40) ∨ (k = 6 ∧ 1 ≤ v ∧ v ≤ 20) ∨ ((k = 34 ∨ k = 35) ∧ 0 ≤ v ∧ v ≤ 9)) (e : q2 = up q k v) : rd_ok q2 := by
  subst e
  obtain ⟨h1, h2, h3, h4, h5⟩ := h
  have e0 : ∀ j, j ≠ k → up q k v j = q j := fun j hj => up_n hj
  refine ⟨?_, fun c hc => ?_, fun j hj => ?_, fun j hj => ?_, fun j hj => ?_⟩
  · rcases hk with ⟨rfl, hk⟩ | ⟨rfl, hk⟩ | ⟨rfl, hk⟩ | ⟨rfl | rfl, hk⟩ <;> simp (disch := omega) only [up_a, up_n] <;> omega
  · have := h2 c hc
    unfold rd_oc at this ⊢
    have e1 : (c : Int) < up q k v 1 ↔ (c : Int) < q 1 := by rw [up_n (by omega)]
    rw [e1, up_n (by omega), up_n (by omega), up_n (by omega)]
    exact this
  · have := h3 j hj
    by_cases z : k = 0
    · subst z; simp (disch := omega) only [up_a, up_n]; omega
    · simp (disch := omega) only [up_n]; omega
  · have := h4 j hj
    by_cases z : k = 0
    · subst z; simp (disch := omega) only [up_a, up_n]; omega
    · simp (disch := omega) only [up_n]; omega
  · have := h5 j hj
    by_cases z : k = 0
    · subst z; simp (disch := omega) only [up_a, up_n]; omega
    · simp (disch := omega) only [up_n]; omega
theorem rd_cn {q : Nat → Int} {k : Nat} {s : rk} (h : 0 < k ∧ k < 5) : cn q k s = up q k (q k + (if s.2 = none then 1 else 0)) := if_pos h
theorem rd_cn0 {q : Nat → Int} {k : Nat} {s : rk} (h : ¬ (0 < k ∧ k < 5)) : cn q k s = q := if_neg h
theorem ca_ok {B : Nat → Int32} {z : Nat} {q : Nat → Int} {k : Nat} {s : rk} (h : rd_ok q) (hf : ¬ fl_k q k) (hk : k < 8) (h0 : k = 0 → q 1 = 0 ∧ q 2 = 0 ∧ q 3 = 0 ∧ q 4 = 0) : rd_ok (cn (ca B z q k s).2 k (ca B z q k s).1) := by
  have ho := h.1
  have eN : iI (q 0 - 1) = nI (q 0 - 1).toNat := iI_tn (by omega)
  unfold ca
  rcases (show k = 0 ∨ k = 1 ∨ k = 2 ∨ k = 3 ∨ k = 4 ∨ k = 5 ∨ k = 6 ∨ k = 7 by omega) with rfl | rfl | rfl | rfl | rfl | rfl | rfl | rfl
  · simp only [if_true]
    rw [rd_cn0 (by omega)]
    split
    · rename_i c
      have a1 := rk_num_lo (lo := 10) (m := 10) rfl (by omega) c
      have a2 := rk_num_le (B := B) (z := z) (lo := 10) (hi := 60) (s := s) (m := 60) rfl (by omega)
      exact rd_up h (Or.inl ⟨rfl, by omega, by omega, h0 rfl⟩) rfl
    · exact h
  · simp only [if_neg (show ¬ 1 = 0 by decide), if_true]
    rw [rd_cn (by omega)]
    have a1 := rk_num_le (B := B) (z := z) (lo := 17) (hi := 99) (s := s) (m := 99) rfl (by omega)
    have a2 := rk_num_le (B := B) (z := z) (lo := 1) (hi := 3) (s := (rk_num B z 17 99 s).1) (m := 3) rfl (by omega)
    have a3 := rk_num_le (B := B) (z := z) (lo := 0) (hi := 9) (s := (rk_num B z 1 3 (rk_num B z 17 99 s).1).1) (m := 9) rfl (by omega)
    have b2 : (rk_num B z 0 9 (rk_num B z 1 3 (rk_num B z 17 99 s).1).1).1.2 = none → 1 ≤ (rk_num B z 1 3 (rk_num B z 17 99 s).1).2 ∧ 17 ≤ (rk_num B z 17 99 s).2 := fun c => ⟨rk_num_lo (lo := 1) (m := 1) rfl (by omega) (rk_num_up c), rk_num_lo (lo := 17) (m := 17) rfl (by omega) (rk_num_up (rk_num_up c))⟩
    generalize rk_num B z 17 99 s = x1 at *
    generalize rk_num B z 1 3 x1.1 = x2 at *
    generalize rk_num B z 0 9 x2.1 = x3 at *
    have hq1 : ¬ q 1 = 2 := fun z => hf (Or.inl ⟨rfl, z⟩)
    obtain ⟨h1, h2, h3, h4, h5⟩ := h
    have hd : (if x3.1.2 = none then (1 : Int) else 0) = 0 ∨ ((if x3.1.2 = none then (1 : Int) else 0) = 1 ∧ x3.1.2 = none) := by
      by_cases c : x3.1.2 = none
      · rw [if_pos c]; exact Or.inr ⟨rfl, c⟩
      · rw [if_neg c]; exact Or.inl rfl
    generalize (if x3.1.2 = none then (1 : Int) else 0) = w at *
    have e1 : (((q 1).toNat : Nat) : Int) = q 1 := by omega
    generalize hc0 : (q 1).toNat = c0 at *
    have hc1 : c0 < 2 := by omega
    refine ⟨?_, fun c hc => ?_, fun j hj => ?_, fun j hj => ?_, fun j hj => ?_⟩
    · simp (disch := omega) only [up_a, up_n]; omega
    · have := h2 c hc
      unfold rd_oc at this ⊢
      by_cases z : c = c0
      · subst z
        simp (disch := omega) only [up_a, up_n]
        refine ⟨by omega, by omega, by omega, by omega, by omega, by omega, fun q => ?_⟩
        rcases hd with hd | ⟨_, hd⟩
        · omega
        · have := b2 hd; omega
      · simp (disch := omega) only [up_a, up_n]
        refine ⟨this.1, this.2.1, this.2.2.1, this.2.2.2.1, this.2.2.2.2.1, this.2.2.2.2.2.1, fun q => this.2.2.2.2.2.2 (by omega)⟩
    · have := h3 j hj
      simp (disch := omega) only [up_a, up_n]; omega
    · have := h4 j hj
      simp (disch := omega) only [up_a, up_n]; omega
    · have := h5 j hj
      simp (disch := omega) only [up_a, up_n]; omega
  · simp only [if_neg (show ¬ 2 = 0 by decide), if_neg (show ¬ 2 = 1 by decide), if_true]
    rw [rd_cn (by omega), eN]
    have a1 := rk_num_le (B := B) (z := z) (lo := 0) (hi := nI (q 0 - 1).toNat) (s := s) (m := (q 0 - 1).toNat) rfl (by omega)
    have a2 := rk_num_le (B := B) (z := z) (lo := 0) (hi := 9) (s := (rk_num B z 0 (nI (q 0 - 1).toNat) s).1) (m := 9) rfl (by omega)
    generalize rk_num B z 0 (nI (q 0 - 1).toNat) s = x1 at *
    generalize rk_num B z 0 9 x1.1 = x2 at *
    have hq1 : ¬ q 2 = 10 := fun z => hf (Or.inr (Or.inl ⟨rfl, z⟩))
    obtain ⟨h1, h2, h3, h4, h5⟩ := h
    have hd : (if x2.1.2 = none then (1 : Int) else 0) = 0 ∨ (if x2.1.2 = none then (1 : Int) else 0) = 1 := by
      split
      · exact Or.inr rfl
      · exact Or.inl rfl
    generalize (if x2.1.2 = none then (1 : Int) else 0) = w at *
    have e1 : (((q 2).toNat : Nat) : Int) = q 2 := by omega
    generalize hc0 : (q 2).toNat = c0 at *
    have hc1 : c0 < 10 := by omega
    refine ⟨?_, fun c hc => ?_, fun j hj => ?_, fun j hj => ?_, fun j hj => ?_⟩
    · simp (disch := omega) only [up_a, up_n]; omega
    · have := h2 c hc
      unfold rd_oc at this ⊢
      simp (disch := omega) only [up_a, up_n]; exact this
    · have := h3 j hj
      by_cases z : j = c0
      · subst z; simp (disch := omega) only [up_a, up_n]; omega
      · simp (disch := omega) only [up_a, up_n]; omega
    · have := h4 j hj
      simp (disch := omega) only [up_a, up_n]; omega
    · have := h5 j hj
      simp (disch := omega) only [up_a, up_n]; omega
  · simp only [if_neg (show ¬ 3 = 0 by decide), if_neg (show ¬ 3 = 1 by decide), if_neg (show ¬ 3 = 2 by decide), if_true]
    rw [rd_cn (by omega), eN]
    have a1 := rk_num_le (B := B) (z := z) (lo := 0) (hi := nI (q 0 - 1).toNat) (s := s) (m := (q 0 - 1).toNat) rfl (by omega)
    generalize rk_num B z 0 (nI (q 0 - 1).toNat) s = x1 at *
    have hq1 : ¬ q 3 = 6 := fun z => hf (Or.inr (Or.inr (Or.inl ⟨rfl, z⟩)))
    obtain ⟨h1, h2, h3, h4, h5⟩ := h
    have hd : (if x1.1.2 = none then (1 : Int) else 0) = 0 ∨ (if x1.1.2 = none then (1 : Int) else 0) = 1 := by
      split
      · exact Or.inr rfl
      · exact Or.inl rfl
    generalize (if x1.1.2 = none then (1 : Int) else 0) = w at *
    have e1 : (((q 3).toNat : Nat) : Int) = q 3 := by omega
    generalize hc0 : (q 3).toNat = c0 at *
    have hc1 : c0 < 6 := by omega
    refine ⟨?_, fun c hc => ?_, fun j hj => ?_, fun j hj => ?_, fun j hj => ?_⟩
    · simp (disch := omega) only [up_a, up_n]; omega
    · have := h2 c hc
      unfold rd_oc at this ⊢
      simp (disch := omega) only [up_a, up_n]; exact this
    · have := h3 j hj
      simp (disch := omega) only [up_a, up_n]; omega
    · have := h4 j hj
      by_cases z : j = c0
      · subst z; simp (disch := omega) only [up_a, up_n]; omega
      · simp (disch := omega) only [up_a, up_n]; omega
    · have := h5 j hj
      simp (disch := omega) only [up_a, up_n]; omega
  · simp only [if_neg (show ¬ 4 = 0 by decide), if_neg (show ¬ 4 = 1 by decide), if_neg (show ¬ 4 = 2 by decide), if_neg (show ¬ 4 = 3 by decide), if_true]
    rw [rd_cn (by omega), eN]
    have a1 := rk_num_le (B := B) (z := z) (lo := 0) (hi := nI (q 0 - 1).toNat) (s := s) (m := (q 0 - 1).toNat) rfl (by omega)
    generalize rk_num B z 0 (nI (q 0 - 1).toNat) s = x1 at *
    have a2 := rk_num_le (B := B) (z := z) (lo := nI x1.2) (hi := nI (q 0 - 1).toNat) (s := x1.1) (m := (q 0 - 1).toNat) rfl (by omega)
    have b2 : (rk_num B z (nI x1.2) (nI (q 0 - 1).toNat) x1.1).1.2 = none → x1.2 ≤ (rk_num B z (nI x1.2) (nI (q 0 - 1).toNat) x1.1).2 := fun c => rk_num_lo (m := x1.2) rfl (by omega) c
    generalize rk_num B z (nI x1.2) (nI (q 0 - 1).toNat) x1.1 = x2 at *
    have hq1 : ¬ q 4 = 4 := fun z => hf (Or.inr (Or.inr (Or.inr ⟨rfl, z⟩)))
    obtain ⟨h1, h2, h3, h4, h5⟩ := h
    have hd : (if x2.1.2 = none then (1 : Int) else 0) = 0 ∨ ((if x2.1.2 = none then (1 : Int) else 0) = 1 ∧ x2.1.2 = none) := by
      by_cases c : x2.1.2 = none
      · rw [if_pos c]; exact Or.inr ⟨rfl, c⟩
      · rw [if_neg c]; exact Or.inl rfl
    generalize (if x2.1.2 = none then (1 : Int) else 0) = w at *
    have e1 : (((q 4).toNat : Nat) : Int) = q 4 := by omega
    generalize hc0 : (q 4).toNat = c0 at *
    have hc1 : c0 < 4 := by omega
    refine ⟨?_, fun c hc => ?_, fun j hj => ?_, fun j hj => ?_, fun j hj => ?_⟩
    · simp (disch := omega) only [up_a, up_n]; omega
    · have := h2 c hc
      unfold rd_oc at this ⊢
      simp (disch := omega) only [up_a, up_n]; exact this
    · have := h3 j hj
      simp (disch := omega) only [up_a, up_n]; omega
    · have := h4 j hj
      simp (disch := omega) only [up_a, up_n]; omega
    · have := h5 j hj
      by_cases z : j = c0
      · subst z; simp (disch := omega) only [up_a, up_n]
        refine ⟨by omega, by omega, by omega, by omega, fun q => ?_⟩
        rcases hd with hd | ⟨_, hd⟩
        · omega
        · have := b2 hd; omega
      · simp (disch := omega) only [up_a, up_n]; omega
  · simp only [if_neg (show ¬ 5 = 0 by decide), if_neg (show ¬ 5 = 1 by decide), if_neg (show ¬ 5 = 2 by decide), if_neg (show ¬ 5 = 3 by decide), if_neg (show ¬ 5 = 4 by decide), if_true]
    rw [rd_cn0 (by omega)]
    split
    · rename_i c
      have a1 := rk_num_le (B := B) (z := z) (lo := 1) (hi := 40) (s := s) (m := 40) rfl (by omega)
      have a2 := rk_num_le (B := B) (z := z) (lo := 1) (hi := 20) (s := (rk_num B z 1 40 s).1) (m := 20) rfl (by omega)
      have b1 := rk_num_lo (lo := 1) (m := 1) rfl (by omega) c
      have b2 := rk_num_lo (lo := 1) (m := 1) rfl (by omega) (rk_num_up c)
      exact rd_up (rd_up h (k := 5) (Or.inr (Or.inl ⟨rfl, by omega, by omega⟩)) rfl) (k := 6) (Or.inr (Or.inr (Or.inl ⟨rfl, by omega, by omega⟩))) rfl
    · exact h
  · simp only [if_neg (show ¬ 6 = 0 by decide), if_neg (show ¬ 6 = 1 by decide), if_neg (show ¬ 6 = 2 by decide), if_neg (show ¬ 6 = 3 by decide), if_neg (show ¬ 6 = 4 by decide), if_neg (show ¬ 6 = 5 by decide), if_true]
    rw [rd_cn0 (by omega)]
    split
    · have a1 := rk_num_le (B := B) (z := z) (lo := 0) (hi := 9) (s := s) (m := 9) rfl (by omega)
      exact rd_up h (Or.inr (Or.inr (Or.inr ⟨by omega, by omega, by omega⟩))) rfl
    · exact h
  · simp only [if_neg (show ¬ 7 = 0 by decide), if_neg (show ¬ 7 = 1 by decide), if_neg (show ¬ 7 = 2 by decide), if_neg (show ¬ 7 = 3 by decide), if_neg (show ¬ 7 = 4 by decide), if_neg (show ¬ 7 = 5 by decide), if_neg (show ¬ 7 = 6 by decide)]
    rw [rd_cn0 (by omega)]
    split
    · have a1 := rk_num_le (B := B) (z := z) (lo := 0) (hi := 9) (s := s) (m := 9) rfl (by omega)
      exact rd_up h (Or.inr (Or.inr (Or.inr ⟨by omega, by omega, by omega⟩))) rfl
    · exact h

