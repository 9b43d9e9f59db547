/-! ===== the road and its meetings, as numbers ===== -/
def rd_wt (r : Nat → Int) (x : Int) : Nat → Bool
  | 0 => false
  | n + 1 => rd_wt r x n || (decide (r (60 + 2 * n) ≤ x) && decide (x ≤ r (61 + 2 * n)))
def rd_hd (r : Nat → Int) (a b : Int) : Nat → Bool
  | 0 => false
  | n + 1 => rd_hd r a b n || (decide (min a b < r (50 + n)) && decide (r (50 + n) < max a b))
def rd_wet (r : Nat → Int) (x : Int) : Bool := rd_wt r x (r 4).toNat
def rd_hid (r : Nat → Int) (a b : Int) : Bool := rd_hd r a b (r 3).toNat
def rd_oc (r : Nat → Int) (c : Nat) : Prop := 0 ≤ r (10 + 2 * c) ∧ r (10 + 2 * c) ≤ 3 ∧ 0 ≤ r (11 + 2 * c) ∧ r (11 + 2 * c) ≤ 9 ∧ 0 ≤ r (40 + c) ∧ r (40 + c) ≤ 99 ∧ ((c : Int) < r 1 → 1 ≤ r (10 + 2 * c) ∧ 17 ≤ r (40 + c))
def rd_ok (r : Nat → Int) : Prop := (10 ≤ r 0 ∧ r 0 ≤ 60 ∧ 0 ≤ r 1 ∧ r 1 ≤ 2 ∧ 0 ≤ r 2 ∧ r 2 ≤ 10 ∧ 0 ≤ r 3 ∧ r 3 ≤ 6 ∧ 0 ≤ r 4 ∧ r 4 ≤ 4 ∧ 1 ≤ r 5 ∧ r 5 ≤ 40 ∧ 1 ≤ r 6 ∧ r 6 ≤ 20 ∧ 0 ≤ r 34 ∧ r 34 ≤ 9 ∧ 0 ≤ r 35 ∧ r 35 ≤ 9) ∧ (∀ c, c < 2 → rd_oc r c) ∧ (∀ k : Nat, k < 10 → 0 ≤ r (14 + 2 * k) ∧ r (14 + 2 * k) ≤ 59 ∧ 0 ≤ r (15 + 2 * k) ∧ r (15 + 2 * k) ≤ 9 ∧ ((k : Int) < r 2 → r (14 + 2 * k) < r 0)) ∧ (∀ k : Nat, k < 6 → 0 ≤ r (50 + k) ∧ r (50 + k) ≤ 59 ∧ ((k : Int) < r 3 → r (50 + k) < r 0)) ∧ (∀ k : Nat, k < 4 → 0 ≤ r (60 + 2 * k) ∧ r (60 + 2 * k) ≤ 59 ∧ 0 ≤ r (61 + 2 * k) ∧ r (61 + 2 * k) ≤ 59 ∧ ((k : Int) < r 4 → r (60 + 2 * k) ≤ r (61 + 2 * k) ∧ r (61 + 2 * k) < r 0))
def mt_pos (r : Nat → Int) (c t : Nat) : Int := if c = 0 then r 10 * t else r 0 - 1 - r 12 * t
def mt_on (r : Nat → Int) (c t : Nat) : Bool := decide ((c : Int) < r 1) && (decide (0 ≤ mt_pos r c t) && decide (mt_pos r c t < r 0))
def mt_met (r : Nat → Int) (t : Nat) : Bool := decide (r 1 = 2) && decide (mt_pos r 1 t ≤ mt_pos r 0 t)
def mt_far (r : Nat → Int) (t : Nat) : Int := mt_pos r 1 t - mt_pos r 0 t
def mt_view (r : Nat → Int) (t : Nat) : Bool := mt_on r 0 t && mt_on r 1 t && !mt_met r t && !rd_hid r (mt_pos r 0 t) (mt_pos r 1 t)
def mt_kn (r : Nat → Int) (c t : Nat) (b : Int) (f o : Int32) (k : Nat) : Int32 :=
  if k = 0 then iI (if f = 1 then r 5 else r 6) else if k = 1 then iI (r 34) else if k = 2 then iI b else if k = 3 then iI (r (40 + c)) else if k = 4 then (if rd_wet r (mt_pos r c t) = true then 1 else 0) else if k = 5 then iI (r (11 + 2 * c)) else if k = 6 then iI (r (10 + 2 * c)) else if k = 7 then nI t else if k = 8 then (if mt_view r t = true then iI (mt_far r t) else 99) else if k = 9 then (if mt_met r t = true then 1 else 0) else if k = 10 then (if mt_view r t = true then o else 0) else f
def mt_bf (r : Nat → Int) (c : Nat) : Int := r 35 + r (40 + c) / 20
abbrev mt_S : Type := (Nat → Int) × (Nat → Int32)
abbrev mt_L : Type := Nat → Option (List (Int32 × Int32))
def mt_F (r : Nat → Int) (lw : mt_L) (d : Nat → Int32) (t : Nat) (s : mt_S) (c : Nat) : Int32 := if mt_on r c t = true then ev_beam (d c) (lw (1 + c)) (mt_kn r c t (s.1 c) (s.2 c) (s.2 (1 - c))) else s.2 c
def mt_near (r : Nat → Int) (t : Nat) : Bool := mt_view r t && decide (mt_far r t ≤ 15)
def mt_dz (r : Nat → Int) (t : Nat) (f : Nat → Int32) (c : Nat) : Bool := mt_near r t && (decide (f (1 - c) = 1) || decide (5 ≤ r (11 + 2 * (1 - c))))
def mt_B (r : Nat → Int) (t : Nat) (s : mt_S) (f : Nat → Int32) (c : Nat) : Int := if mt_on r c t = true then (if mt_dz r t f c = true then max (s.1 c) (mt_bf r c) else max 0 (s.1 c - 1)) else s.1 c
def mt_s (r : Nat → Int) (lw : mt_L) (d : Nat → Int32) : Nat → mt_S
  | 0 => (fun _ => 0, fun _ => 1)
  | t + 1 => (fun c => mt_B r t (mt_s r lw d t) (mt_F r lw d t (mt_s r lw d t)) c, fun c => mt_F r lw d t (mt_s r lw d t) c)
def mt_b (r : Nat → Int) (lw : mt_L) (d : Nat → Int32) (c t : Nat) : Int := (mt_s r lw d (t + 1)).1 c
def mt_f (r : Nat → Int) (lw : mt_L) (d : Nat → Int32) (c t : Nat) : Int32 := (mt_s r lw d (t + 1)).2 c
def mt_si (r : Nat → Int) (lw : mt_L) (d : Nat → Int32) (c t : Nat) : Int := (ev_sight (lw 0) (mt_kn r c t (mt_b r lw d c t) (mt_f r lw d c t) (mt_f r lw d (1 - c) t))).toInt
def mt_stop (r : Nat → Int) (c t : Nat) : Int := r (10 + 2 * c) * (if rd_wet r (mt_pos r c t) = true then 4 else 2)
def mt_aw (r : Nat → Int) (c t : Nat) (x : Int) : Int := (x - mt_pos r c t) * (if c = 0 then 1 else -1)
def mt_sees (r : Nat → Int) (lw : mt_L) (d : Nat → Int32) (c : Nat) (x h : Int) (t : Nat) : Bool := !decide (mt_si r lw d c t = 0) && (decide (0 ≤ mt_aw r c t x) && (decide (mt_aw r c t x ≤ mt_si r lw d c t + h) && !rd_hid r (mt_pos r c t) x))
def mt_first (p : Nat → Bool) : Nat → Option Nat
  | 0 => none
  | t + 1 => match mt_first p t with
    | some u => some u
    | none => if p t = true then some t else none
def mt_seen (r : Nat → Int) (lw : mt_L) (d : Nat → Int32) (c : Nat) (x h : Int) (t : Nat) : Option Nat := mt_first (fun u => mt_on r c u && mt_sees r lw d c x h u) t
def mt_com (r : Nat → Int) (c t : Nat) (x : Int) : Bool := (decide (1 ≤ mt_aw r c t x) && decide (mt_aw r c t x ≤ r (10 + 2 * c))) || (decide (mt_aw r c t x = 0) && decide (t = 0))
/-- with what was SEEN till now (seenAt), does the one stand there too late? -/
def mt_late (r : Nat → Int) (c t : Nat) (x : Int) (s : Option Nat) : Bool := match s with
  | none => true
  | some u => decide (mt_aw r c u x < mt_stop r c t)
def mt_hits (r : Nat → Int) (lw : mt_L) (d : Nat → Int32) (c : Nat) (x h : Int) : Nat → Bool
  | 0 => false
  | t + 1 => mt_hits r lw d c x h t || (mt_on r c t && (mt_com r c t x && mt_late r c t x (mt_seen r lw d c x h (t + 1))))
def mt_bit (k : Nat) : Int32 := 1 <<< (nI k &&& 31)
def mt_or (p : Nat → Bool) : Nat → Int32
  | 0 => 0
  | k + 1 => mt_or p k ||| (if p k = true then mt_bit k else 0)
def mt_hit (r : Nat → Int) (lw : mt_L) (d : Nat → Int32) (c t : Nat) : Int32 := mt_or (fun k => decide ((k : Int) < r 2) && mt_hits r lw d c (r (14 + 2 * k)) (r (15 + 2 * k)) t) 10
def mt_cnt (p : Nat → Bool) : Nat → Nat
  | 0 => 0
  | t + 1 => mt_cnt p t + (if p t = true then 1 else 0)
def mt_gl (r : Nat → Int) (lw : mt_L) (d : Nat → Int32) (c t : Nat) : Nat := mt_cnt (fun u => mt_on r (1 - c) u && mt_dz r u (fun q => mt_f r lw d q u) (1 - c)) t
def mt_go (r : Nat → Int) (t : Nat) : Bool := mt_on r 0 t || mt_on r 1 t
def mt_T (r : Nat → Int) : Nat := (mt_first (fun t => !mt_go r t) 99).getD 99
def mt_ps (r : Nat → Int) (t : Nat) : Option Nat := mt_first (mt_met r) t
theorem mt_pos_s0 (r : Nat → Int) (t : Nat) : mt_pos r 0 (t + 1) = mt_pos r 0 t + r 10 := by
  unfold mt_pos; rw [if_pos rfl, if_pos rfl]; rw [Int.natCast_add, Int.mul_add]; simp
theorem mt_pos_s1 (r : Nat → Int) (t : Nat) : mt_pos r 1 (t + 1) = mt_pos r 1 t - r 12 := by
  unfold mt_pos; rw [if_neg (by decide), if_neg (by decide)]; rw [Int.natCast_add, Int.mul_add]; simp; omega
theorem mt_pos_z0 (r : Nat → Int) : mt_pos r 0 0 = 0 := by unfold mt_pos; simp
theorem mt_pos_z1 (r : Nat → Int) : mt_pos r 1 0 = r 0 - 1 := by unfold mt_pos; simp
theorem rd_p0 {r : Nat → Int} (h : rd_ok r) : 0 ≤ r 10 ∧ r 10 ≤ 3 ∧ (0 < r 1 → 1 ≤ r 10) := ⟨(h.2.1 0 (by decide)).1, (h.2.1 0 (by decide)).2.1, fun q => ((h.2.1 0 (by decide)).2.2.2.2.2.2 q).1⟩
theorem rd_p1 {r : Nat → Int} (h : rd_ok r) : 0 ≤ r 12 ∧ r 12 ≤ 3 ∧ (1 < r 1 → 1 ≤ r 12) := ⟨(h.2.1 1 (by decide)).1, (h.2.1 1 (by decide)).2.1, fun q => ((h.2.1 1 (by decide)).2.2.2.2.2.2 q).1⟩
theorem mt_pos_b0 {r : Nat → Int} (h : rd_ok r) (t : Nat) : 0 ≤ mt_pos r 0 t ∧ mt_pos r 0 t ≤ 3 * t := by
  have := rd_p0 h
  induction t with
  | zero => rw [mt_pos_z0]; omega
  | succ t ih => rw [mt_pos_s0]; omega
theorem mt_pos_b1 {r : Nat → Int} (h : rd_ok r) (t : Nat) : r 0 - 1 - 3 * t ≤ mt_pos r 1 t ∧ mt_pos r 1 t ≤ r 0 - 1 := by
  have := rd_p1 h
  induction t with
  | zero => rw [mt_pos_z1]; omega
  | succ t ih => rw [mt_pos_s1]; omega
theorem mt_on_iff {r : Nat → Int} {c t : Nat} : mt_on r c t = true ↔ (c : Int) < r 1 ∧ 0 ≤ mt_pos r c t ∧ mt_pos r c t < r 0 := by
  unfold mt_on; simp [Bool.and_eq_true, decide_eq_true_eq]
theorem mt_met_iff {r : Nat → Int} {t : Nat} : mt_met r t = true ↔ r 1 = 2 ∧ mt_pos r 1 t ≤ mt_pos r 0 t := by
  unfold mt_met; simp [Bool.and_eq_true, decide_eq_true_eq]
theorem mt_view_iff {r : Nat → Int} {t : Nat} : mt_view r t = true ↔ mt_on r 0 t = true ∧ mt_on r 1 t = true ∧ mt_met r t = false ∧ rd_hid r (mt_pos r 0 t) (mt_pos r 1 t) = false := by
  unfold mt_view; simp [Bool.and_eq_true, and_assoc]
theorem mt_view_lt {r : Nat → Int} {t : Nat} (hr : rd_ok r) (h : mt_view r t = true) : mt_pos r 0 t < mt_pos r 1 t := by
  have h2 := mt_view_iff.mp h
  have h3 := mt_on_iff.mp h2.2.1
  have h4 : ¬ mt_met r t = true := by rw [h2.2.2.1]; decide
  rw [mt_met_iff] at h4
  have := hr.1
  omega
/-- met stays -/
theorem mt_met_s {r : Nat → Int} (h : rd_ok r) {t : Nat} (hm : mt_met r t = true) : mt_met r (t + 1) = true := by
  have h0 := rd_p0 h
  have h1 := rd_p1 h
  rw [mt_met_iff] at hm ⊢
  rw [mt_pos_s0, mt_pos_s1]
  omega
theorem mt_first_some {p : Nat → Bool} : ∀ {t u : Nat}, mt_first p t = some u → u < t ∧ p u = true ∧ ∀ v, v < u → p v = false
  | 0, u, h => by cases h
  | t + 1, u, h => by
    unfold mt_first at h
    cases e : mt_first p t with
    | some w =>
      rw [e] at h
      have := mt_first_some e
      cases h
      exact ⟨by omega, this.2⟩
    | none =>
      rw [e] at h
      simp only at h
      by_cases q : p t = true
      · rw [if_pos q] at h; cases h
        exact ⟨by omega, q, fun v hv => by
          have := mt_first_none e v hv
          exact this⟩
      · rw [if_neg q] at h; cases h
where mt_first_none {p : Nat → Bool} : ∀ {t : Nat}, mt_first p t = none → ∀ v, v < t → p v = false
  | 0, _, v, hv => by omega
  | t + 1, h, v, hv => by
    unfold mt_first at h
    cases e : mt_first p t with
    | some w => rw [e] at h; cases h
    | none =>
      rw [e] at h
      simp only at h
      by_cases q : p t = true
      · rw [if_pos q] at h; cases h
      · by_cases hq : v = t
        · subst hq; exact Bool.eq_false_iff.mpr q
        · exact mt_first_none e v (by omega)
theorem mt_first_none {p : Nat → Bool} {t : Nat} (h : mt_first p t = none) : ∀ v, v < t → p v = false := mt_first_some.mt_first_none h
theorem mt_first_of {p : Nat → Bool} {u : Nat} (hu : p u = true) (hl : ∀ v, v < u → p v = false) : ∀ {t : Nat}, u < t → mt_first p t = some u := by
  intro t ht
  cases e : mt_first p t with
  | none => have := mt_first_none e u ht; rw [hu] at this; cases this
  | some w =>
    have h := mt_first_some e
    by_cases q : w = u
    · rw [q]
    · rcases Nat.lt_or_gt_of_ne q with q | q
      · have := hl w q; rw [h.2.1] at this; cases this
      · have := h.2.2 u q; rw [hu] at this; cases this
theorem mt_first_no {p : Nat → Bool} {t : Nat} (h : ∀ v, v < t → p v = false) : mt_first p t = none := by
  cases e : mt_first p t with
  | none => rfl
  | some w => have h2 := mt_first_some e; have := h w h2.1; rw [h2.2.1] at this; cases this
theorem mt_T_le (r : Nat → Int) : mt_T r ≤ 99 := by
  unfold mt_T
  cases e : mt_first (fun t => !mt_go r t) 99 with
  | none => exact Nat.le_refl _
  | some u => have := (mt_first_some e).1; show u ≤ 99; omega
theorem mt_T_lt {r : Nat → Int} {t : Nat} (h : t < mt_T r) : mt_go r t = true := by
  unfold mt_T at h
  cases e : mt_first (fun t => !mt_go r t) 99 with
  | none => rw [e] at h; have := mt_first_none e t h; simpa using this
  | some u => rw [e] at h; have := (mt_first_some e).2.2 t h; simpa using this
theorem mt_T_end {r : Nat → Int} (h : mt_T r < 99) : mt_go r (mt_T r) = false := by
  unfold mt_T at h ⊢
  cases e : mt_first (fun t => !mt_go r t) 99 with
  | none => rw [e] at h; exact absurd h (by decide)
  | some u => have := (mt_first_some e).2.1; simpa using this

