/-! ===== looking out: the reference ===== -/
theorem ev_st_cong {kn kn2 : Nat → Int32} (h : ∀ k, k < 12 → kn k = kn2 k) {q : Int32 × Int32} (hq : ev_v q) (st : List Int32) : ev_st kn st q = ev_st kn2 st q := by
  unfold ev_st
  rcases hq with e | ⟨e, j, hj, e2⟩ | ⟨j, h2, h7, e⟩
  · rw [if_pos e, if_pos e]
  · rw [if_neg (by rw [e]; decide), if_pos e, if_neg (by rw [e]; decide), if_pos e, e2, nI_clamp (by omega), h j hj]
  · have n0 : ¬ q.1 = 0 := by rw [e]; exact nI_ne0 (by omega) (by omega)
    have n1 : ¬ q.1 = 1 := by rw [e, nx_1]; intro z; have := (nI_eq (by omega) (by omega)).mp z; omega
    rw [if_neg n0, if_neg n1, if_neg n0, if_neg n1]
theorem ev_cong {kn kn2 : Nat → Int32} (h : ∀ k, k < 12 → kn k = kn2 k) : ∀ (cs : List (Int32 × Int32)) (st : List Int32), (∀ w ∈ cs, ev_v w) → cs.foldl (ev_st kn) st = cs.foldl (ev_st kn2) st
  | [], _, _ => rfl
  | q :: cs, st, hv => by
    rw [List.foldl_cons, List.foldl_cons, ev_st_cong h (hv q (List.mem_cons_self)), ev_cong h cs _ (fun w hw => hv w (List.mem_cons_of_mem _ hw))]
def ml_ev (lw : Option (List (Int32 × Int32))) : Prop := match lw with
  | none => True
  | some cs => ∀ w ∈ cs, ev_v w
theorem ml_law_ev {M : ax_M} {w : Nat} {lw : Option (List (Int32 × Int32))} (h : ml_law M w lw) : ml_ev lw := by
  cases lw with
  | none => trivial
  | some cs => exact h.1.1
theorem ev_sight_cong {kn kn2 : Nat → Int32} {lw : Option (List (Int32 × Int32))} (h : ∀ k, k < 12 → kn k = kn2 k) (hv : ml_ev lw) : ev_sight lw kn = ev_sight lw kn2 := by
  cases lw with
  | none => unfold ev_sight; simp only [h 0 (by decide), h 1 (by decide), h 2 (by decide)]
  | some cs => unfold ev_sight ev; simp only [ev_cong h cs [] hv]
theorem ev_beam_cong {kn kn2 : Nat → Int32} {f : Int32} {lw : Option (List (Int32 × Int32))} (h : ∀ k, k < 12 → kn k = kn2 k) (hv : ml_ev lw) : ev_beam f lw kn = ev_beam f lw kn2 := by
  cases lw with
  | none => unfold ev_beam ev_rule; simp only [h 8 (by decide)]
  | some cs => unfold ev_beam ev_rule ev; simp only [ev_cong h cs [] hv, h 8 (by decide)]
theorem ml_law_fr {M M2 : ax_M} {w : Nat} {lw : Option (List (Int32 × Int32))} (h : ml_law M w lw) (hf : ∀ n i, n = 111 ∨ n = 113 + w → M2.1 n i = M.1 n i) : ml_law M2 w lw := by
  cases lw with
  | none => exact (hf 111 w (Or.inl rfl)).trans h
  | some cs => exact ⟨h.1, (hf 111 w (Or.inl rfl)).trans h.2.1, fun j q e => ⟨(hf _ _ (Or.inr rfl)).trans (h.2.2 j q e).1, (hf _ _ (Or.inr rfl)).trans (h.2.2 j q e).2⟩⟩
theorem ev_clamp_b (v : Int32) : 0 ≤ (ev_clamp v).toInt ∧ (ev_clamp v).toInt ≤ 60 := by
  unfold ev_clamp
  by_cases h1 : 60 < v
  · simp only [if_pos h1]; decide
  · simp only [if_neg h1]
    rw [iv_lt] at h1
    have e60 : (60 : Int32).toInt = 60 := rfl
    by_cases h2 : v < 0
    · rw [if_pos h2]; decide
    · rw [if_neg h2]
      rw [iv_lt] at h2
      have e0 : (0 : Int32).toInt = 0 := rfl
      omega
theorem mt_si_b (r : Nat → Int) (lw : mt_L) (d : Nat → Int32) (c t : Nat) : 0 ≤ mt_si r lw d c t ∧ mt_si r lw d c t ≤ 60 := ev_clamp_b _
theorem mt_bf_b {r : Nat → Int} (h : rd_ok r) {c : Nat} (hc : c < 2) : 0 ≤ mt_bf r c ∧ mt_bf r c ≤ 13 := by
  have h1 := h.1; have h2 := h.2.1 c hc
  unfold rd_oc at h2; unfold mt_bf; omega
theorem mt_s_b {r : Nat → Int} (h : rd_ok r) (lw : mt_L) (d : Nat → Int32) {c : Nat} (hc : c < 2) : ∀ t, 0 ≤ (mt_s r lw d t).1 c ∧ (mt_s r lw d t).1 c ≤ 13
  | 0 => by show (0 : Int) ≤ 0 ∧ (0 : Int) ≤ 13; omega
  | t + 1 => by
    have ih := mt_s_b h lw d hc t
    have hb := mt_bf_b h hc
    show 0 ≤ mt_B r t (mt_s r lw d t) _ c ∧ mt_B r t (mt_s r lw d t) _ c ≤ 13
    unfold mt_B
    split
    · split <;> omega
    · exact ih
theorem mt_b_b {r : Nat → Int} (h : rd_ok r) (lw : mt_L) (d : Nat → Int32) {c : Nat} (hc : c < 2) (t : Nat) : 0 ≤ mt_b r lw d c t ∧ mt_b r lw d c t ≤ 13 := mt_s_b h lw d hc (t + 1)
def mt_sk (r : Nat → Int) (lw : mt_L) (d : Nat → Int32) (c k t : Nat) : Option Nat := if (k : Int) < r 2 then mt_seen r lw d c (r (14 + 2 * k)) (r (15 + 2 * k)) t else none
def mt_sa (r : Nat → Int) (c k : Nat) (s : Option Nat) : Int32 := match s with
  | none => -1
  | some u => iI (mt_aw r c u (r (14 + 2 * k)))
def mt_sb (s : Option Nat) : Int32 := match s with
  | none => -1
  | some u => nI u
def mt_sn (M : ax_M) (r : Nat → Int) (lw : mt_L) (d : Nat → Int32) (c i t : Nat) : Prop := ∀ k, k < 10 → M.1 (372 + c) k = mt_sa r c k (mt_sk r lw d c k (if k < i then t + 1 else t)) ∧ M.1 (375 + c) k = mt_sb (mt_sk r lw d c k (if k < i then t + 1 else t))
def mt_hv (r : Nat → Int) (lw : mt_L) (d : Nat → Int32) (c t i : Nat) : Int32 := mt_or (fun k => decide ((k : Int) < r 2) && mt_hits r lw d c (r (14 + 2 * k)) (r (15 + 2 * k)) (if k < i then t + 1 else t)) 10
theorem mt_or_cong {p q : Nat → Bool} : ∀ n, (∀ k, k < n → p k = q k) → mt_or p n = mt_or q n
  | 0, _ => rfl
  | n + 1, h => by
    show mt_or p n ||| _ = mt_or q n ||| _
    rw [mt_or_cong n (fun k hk => h k (by omega)), h n (by omega)]
theorem mt_or_set {p : Nat → Bool} {i : Nat} : ∀ n, i < n → mt_or p n ||| mt_bit i = mt_or (fun k => p k || k == i) n
  | 0, h => by omega
  | n + 1, h => by
    show mt_or p n ||| (if p n = true then mt_bit n else 0) ||| mt_bit i = mt_or _ n ||| _
    by_cases e : i = n
    · subst e
      rw [show mt_or (fun k => p k || k == i) i = mt_or p i from mt_or_cong i (fun k hk => by rw [show (k == i) = false by simp; omega, Bool.or_false])]
      simp only [beq_self_eq_true, Bool.or_true, if_true]
      by_cases q : p i = true
      · rw [if_pos q, Int32.or_assoc, Int32.or_self]
      · rw [if_neg q, Int32.or_zero]
    · rw [Int32.or_assoc, Int32.or_comm _ (mt_bit i), ← Int32.or_assoc, mt_or_set n (by omega)]
      simp only [show (n == i) = false by simp; omega, Bool.or_false]
theorem mt_seen_s (r : Nat → Int) (lw : mt_L) (d : Nat → Int32) (c : Nat) (x h : Int) (t : Nat) : mt_seen r lw d c x h (t + 1) = match mt_seen r lw d c x h t with
    | some u => some u
    | none => if (mt_on r c t && mt_sees r lw d c x h t) = true then some t else none := rfl
theorem mt_pos_b {r : Nat → Int} (ho : rd_ok r) {c t : Nat} (hc : c < 2) (ht : t ≤ 99) : -300 ≤ mt_pos r c t ∧ mt_pos r c t ≤ 300 := by
  have h0 := mt_pos_b0 ho t; have h1 := mt_pos_b1 ho t; have := ho.1
  rcases (show c = 0 ∨ c = 1 by omega) with rfl | rfl <;> omega
theorem mt_aw_b {r : Nat → Int} (ho : rd_ok r) {c t : Nat} (hc : c < 2) (ht : t ≤ 99) {x : Int} (h0 : 0 ≤ x) (h1 : x ≤ 60) : iI_b (mt_aw r c t x) := by
  have := mt_pos_b ho hc ht
  unfold mt_aw iI_b
  split <;> omega
theorem mt_stop_b {r : Nat → Int} (ho : rd_ok r) {c t : Nat} (hc : c < 2) : 0 ≤ mt_stop r c t ∧ mt_stop r c t ≤ 12 := by
  have h2 := ho.2.1 c hc
  unfold rd_oc at h2
  unfold mt_stop
  split <;> omega
def lk_row (M : ax_M) (r : Nat → Int) (lw : mt_L) (d : Nat → Int32) (c t : Nat) : Prop := M.1 (172 + 100 * c + t) 0 = iI (mt_pos r c t) ∧ M.1 (172 + 100 * c + t) 1 = mt_f r lw d c t ∧ M.1 (172 + 100 * c + t) 2 = iI (mt_b r lw d c t) ∧ M.1 (172 + 100 * c + t) 3 = iI (mt_si r lw d c t) ∧ M.1 (172 + 100 * c + t) 4 = (if mt_si r lw d c t < mt_stop r c t then 1 else 0) ∧ M.1 (172 + 100 * c + t) 5 = (if mt_view r t = true then 1 else 0)
def lk_fr (M M2 : ax_M) (c t : Nat) : Prop := M2.2 = M.2 ∧ ∀ n i, n ≠ 117 → n ≠ 118 → n ≠ 172 + 100 * c + t → n ≠ 372 + c → n ≠ 375 + c → ¬ (n = 377 ∧ i = c) → M2.1 n i = M.1 n i
def lk_o (M M2 : ax_M) (r : Nat → Int) (lw : mt_L) (d : Nat → Int32) (c t : Nat) : Prop := lk_fr M M2 c t ∧ lk_row M2 r lw d c t ∧ mt_sn M2 r lw d c 0 (t + 1) ∧ M2.1 377 c = mt_hit r lw d c (t + 1)
theorem lk_fr_tr {M M1 M2 : ax_M} {c t : Nat} (h1 : lk_fr M M1 c t) (h2 : lk_fr M1 M2 c t) : lk_fr M M2 c t := ⟨h2.1.trans h1.1, fun n i a b e f g h => (h2.2 n i a b e f g h).trans (h1.2 n i a b e f g h)⟩
theorem mt_sa_no {r : Nat → Int} {c k : Nat} {s : Option Nat} (h : ∀ u, s = some u → 0 ≤ mt_aw r c u (r (14 + 2 * k)) ∧ mt_aw r c u (r (14 + 2 * k)) ≤ 1000) : mt_sa r c k s = -1 ↔ s = none := by
  cases s with
  | none => exact ⟨fun _ => rfl, fun _ => rfl⟩
  | some u =>
    have := h u rfl
    constructor
    · intro e
      have e2 : iI (mt_aw r c u (r (14 + 2 * k))) = iI (-1) := e
      have := (iI_eq (by unfold iI_b; omega) (by unfold iI_b; omega)).mp e2
      omega
    · intro e; cases e
theorem mt_sk_b {r : Nat → Int} (ho : rd_ok r) (lw : mt_L) (d : Nat → Int32) {c k t u : Nat} (hc : c < 2) (hk : k < 10) (ht : t ≤ 99) (h : mt_sk r lw d c k t = some u) : u < t ∧ 0 ≤ mt_aw r c u (r (14 + 2 * k)) ∧ mt_aw r c u (r (14 + 2 * k)) ≤ 1000 := by
  unfold mt_sk at h
  split at h
  · have h2 := mt_first_some h
    have h3 := h2.2.1
    simp only [mt_sees, Bool.and_eq_true, decide_eq_true_eq] at h3
    have h4 := mt_si_b r lw d c u
    have h5 := ho.2.2.1 k hk
    exact ⟨h2.1, h3.2.2.1, by have := h3.2.2.2.1; omega⟩
  · cases h

