/-! ===== what the pure answers may be ===== -/
theorem qk_told (r : Nat → Int) (L : Int32) (x : Int32) : qk [(1, 1)] pI9 (qa_told r L x) := by
  unfold qa_told
  split
  · (show _ ∈ _; decide)
  · exact ⟨_, rfl⟩
theorem qk_car (r : Nat → Int) (x y : Int32) : qk [(0, 1), (1, 2)] pI9 (qa_car r x y) := by
  unfold qa_car
  split
  · (show _ ∈ _; decide)
  · split
    · (show _ ∈ _; decide)
    · exact ⟨_, rfl⟩
theorem qk_coat (r : Nat → Int) (x y : Int32) : qk [(0, 1), (1, 2)] pI9 (qa_coat r x y) := by
  unfold qa_coat
  split
  · (show _ ∈ _; decide)
  · split
    · (show _ ∈ _; decide)
    · exact ⟨_, rfl⟩
theorem qk_at (r : Nat → Int) (lw : mt_L) (x y z : Int32) : qk [(0, 1), (1, 2)] pI9 (qa_at r lw x y z) := by
  unfold qa_at
  split
  · (show _ ∈ _; decide)
  · split
    · (show _ ∈ _; decide)
    · exact ⟨_, rfl⟩
theorem qk_hits (r : Nat → Int) (lw : mt_L) (x : Int32) : qk [(0, 1)] pI9 (qa_hits r lw x) := by
  unfold qa_hits
  split
  · (show _ ∈ _; decide)
  · exact ⟨_, rfl⟩
theorem qk_sees (r : Nat → Int) (lw : mt_L) (x y : Int32) : qk [(0, 1)] pI9 (qa_sees r lw x y) := by
  unfold qa_sees
  split
  · (show _ ∈ _; decide)
  · exact ⟨_, rfl⟩
theorem qk_sums (r : Nat → Int) (lw : mt_L) (x y : Int32) : qk [(0, 1), (1, 2)] pI9 (qa_sums r lw x y) := by
  unfold qa_sums
  split
  · (show _ ∈ _; decide)
  · split
    · (show _ ∈ _; decide)
    · exact ⟨_, rfl⟩
theorem qk_would (r : Nat → Int) (lw : mt_L) (a b y w : Int32) : qk [(1, 1)] pI9 (qa_would r lw a b y w) := by
  unfold qa_would
  split
  · (show _ ∈ _; decide)
  · exact ⟨_, rfl⟩
theorem qk_cost (r : Nat → Int) (lw : mt_L) (x a b : Int32) : qk [(0, 1), (1, 2), (2, 3)] pI9 (qa_cost r lw x a b) := by
  unfold qa_cost
  split
  · (show _ ∈ _; decide)
  · split
    · (show _ ∈ _; decide)
    · split
      · (show _ ∈ _; decide)
      · exact ⟨_, rfl⟩
theorem qk_answer (r : Nat → Int) (lw : mt_L) (x n : Int32) : qk [(0, 1), (1, 2), (2, 3)] pI9 (qa_answer r lw x n) := by
  unfold qa_answer
  split
  · (show _ ∈ _; decide)
  · split
    · (show _ ∈ _; decide)
    · split
      · (show _ ∈ _; decide)
      · exact ⟨_, rfl⟩
theorem qk_habit (r : Nat → Int) (lw : mt_L) (x y : Int32) : qk [(1, 1), (2, 2)] pI9 (qa_habit r lw x y) := by
  unfold qa_habit
  split
  · (show _ ∈ _; decide)
  · split
    · (show _ ∈ _; decide)
    · exact ⟨_, rfl⟩
theorem qk_safe (r : Nat → Int) (lw : mt_L) (x f : Int32) : qk [(0, 1), (1, 2)] pI9 (qa_safe r lw x f) := by
  unfold qa_safe
  split
  · (show _ ∈ _; decide)
  · split
    · (show _ ∈ _; decide)
    · exact ⟨_, rfl⟩
theorem qk_blinds (r : Nat → Int) (y : Int32) : qk [(1, 1)] pI9 (qa_blinds r y) := by
  unfold qa_blinds
  split
  · (show _ ∈ _; decide)
  · exact ⟨_, rfl⟩
theorem qk_old (r : Nat → Int) (n : Int32) : qk [(1, 1)] pI9 (qa_old r n) := by
  unfold qa_old
  split
  · (show _ ∈ _; decide)
  · exact ⟨_, rfl⟩
theorem qk_between (r : Nat → Int) (y t : Int32) : qk [(1, 1)] pB9 (qa_between r y t) := by
  unfold qa_between
  split
  · (show _ ∈ _; decide)
  · (show pB9 _; split; exact Or.inl rfl; exact Or.inr rfl)
theorem qk_gets (a b : Int32) : qk [(1, 1)] pI9 (qa_gets a b) := by
  unfold qa_gets
  split
  · (show _ ∈ _; decide)
  · exact ⟨_, rfl⟩
theorem qk_duel (r : Nat → Int) (lw : mt_L) (x y : Int32) : qk [(1, 1), (2, 2)] pI9 (qa_duel r lw x y) := by
  unfold qa_duel
  split
  · (show _ ∈ _; decide)
  · split
    · (show _ ∈ _; decide)
    · exact ⟨_, rfl⟩
theorem qk_bulbs (x y : Int32) : qk [(1, 1)] pI9 (qa_bulbs x y) := by
  unfold qa_bulbs
  split
  · (show _ ∈ _; decide)
  · exact ⟨_, rfl⟩
theorem qk_loaded (f n k p : Int32) : qk [(1, 1)] pL9 (qa_loaded f n k p) := by
  unfold qa_loaded
  split
  · (show _ ∈ _; decide)
  · exact ⟨_, rfl⟩
theorem qk_right (r : Nat → Int) (lw : mt_L) (n : Nat) (bk : bk_T) : qk [(2, 1)] pI9 (qa_right r lw n bk) := by
  unfold qa_right
  split
  · (show _ ∈ _; decide)
  · exact ⟨_, rfl⟩
theorem qk_distances (r : Nat → Int) (lw : mt_L) (n : Nat) (bk : bk_T) : qk [(2, 1)] pL9 (qa_distances r lw n bk) := by
  unfold qa_distances
  split
  · (show _ ∈ _; decide)
  · exact ⟨_, rfl⟩
theorem qk_look (r : Nat → Int) (lw : mt_L) (n : Nat) (bk : bk_T) (x : Int32) : qk [(1, 1), (2, 2)] pI9 (qa_look r lw n bk x) := by
  unfold qa_look
  split
  · (show _ ∈ _; decide)
  · split
    · (show _ ∈ _; decide)
    · exact ⟨_, rfl⟩
theorem qk_darkest (r : Nat → Int) (lw : mt_L) (h : Int32) : qk [(1, 1)] pI9 (qa_darkest r lw h) := by
  unfold qa_darkest
  split
  · (show _ ∈ _; decide)
  · exact ⟨_, rfl⟩
theorem qk_dark (r : Nat → Int) (lw : mt_L) (x h : Int32) : qk [(0, 1), (1, 2)] pI9 (qa_dark r lw x h) := by
  unfold qa_dark
  split
  · (show _ ∈ _; decide)
  · split
    · (show _ ∈ _; decide)
    · exact ⟨_, rfl⟩
theorem qk_needs (r : Nat → Int) (lw : mt_L) (x : Int32) : qk [(1, 1)] pI9 (qa_needs r lw x) := by
  unfold qa_needs
  split
  · (show _ ∈ _; decide)
  · exact ⟨_, rfl⟩
theorem qk_dips (r : Nat → Int) (lw : mt_L) (x y : Int32) : qk [(0, 1), (1, 2)] pI9 (qa_dips r lw x y) := by
  unfold qa_dips
  split
  · (show _ ∈ _; decide)
  · split
    · (show _ ∈ _; decide)
    · exact ⟨_, rfl⟩
theorem qk_gap (r : Nat → Int) (lw : mt_L) (x y : Int32) : qk [(0, 1), (1, 2)] pI9 (qa_gap r lw x y) := by
  unfold qa_gap
  split
  · (show _ ∈ _; decide)
  · split
    · (show _ ∈ _; decide)
    · exact ⟨_, rfl⟩
theorem qk_clear (r : Nat → Int) (lw : mt_L) (x : Int32) : qk [(0, 1)] pI9 (qa_clear r lw x) := by
  unfold qa_clear
  split
  · (show _ ∈ _; decide)
  · exact ⟨_, rfl⟩
theorem qk_paces (r : Nat → Int) (lw : mt_L) (x : Int32) : qk [(1, 1), (2, 2)] pI9 (qa_paces r lw x) := by
  unfold qa_paces
  split
  · (show _ ∈ _; decide)
  · split
    · (show _ ∈ _; decide)
    · exact ⟨_, rfl⟩
theorem qk_finds (r : Nat → Int) (lw : mt_L) (x y : Int32) : qk [(0, 1), (1, 2)] pI9 (qa_finds r lw x y) := by
  unfold qa_finds
  split
  · (show _ ∈ _; decide)
  · split
    · (show _ ∈ _; decide)
    · exact ⟨_, rfl⟩
theorem qk_nights (r : Nat → Int) (lw : mt_L) (s x y : Int32) : qk [(1, 1)] pI9 (qa_nights r lw s x y) := by
  unfold qa_nights
  split
  · (show _ ∈ _; decide)
  · exact ⟨_, rfl⟩

