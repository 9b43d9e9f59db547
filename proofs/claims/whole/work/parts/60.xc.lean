/-! ===== the class reads a road's clauses ===== -/
def wf (S : Nat) (M M2 : ax_M) : Prop := M2.2 = M.2 ∧ ∀ n i, ¬ (n = 2 ∧ 3 ≤ i ∧ i ≤ 8) → ¬ (S ≤ n ∧ n ≤ S + 7) → M2.1 n i = M.1 n i
theorem wf_tr {S : Nat} {M M1 M2 : ax_M} (h1 : wf S M M1) (h2 : wf S M1 M2) : wf S M M2 := ⟨h2.1.trans h1.1, fun n i q1 q2 => (h2.2 n i q1 q2).trans (h1.2 n i q1 q2)⟩
theorem wf_af {S : Nat} {M M2 : ax_M} (h : af M M2) : wf S M M2 := ⟨h.1, fun n i q1 _ => h.2 n i q1⟩
theorem wf_0 (S : Nat) (M : ax_M) : wf S M M := ⟨rfl, fun _ _ _ _ => rfl⟩
theorem wf_p {S : Nat} {M : ax_M} {n i : Nat} {x : Int32} (h : S ≤ n ∧ n ≤ S + 7) : wf S M (ax_pI M n i x) := ⟨rfl, fun m j q1 q2 => ax_pn (by omega)⟩
theorem xr_af {S : Nat} {M M2 : ax_M} {q : Nat → Int} (hS : xh_R S) (h : xr M S q) (hf : af M M2) : xr M2 S q := xr_fr h (fun n i a b => hf.2 n i (by unfold xh_R at hS; omega))
theorem xg_p {S : Nat} {M M2 : ax_M} {z : Nat} {B : Nat → Int32} {s : rk} {n i : Nat} {x : Int32} (hS : xh_R S) (h : xg M z B s) (hn : S ≤ n ∧ n ≤ S + 7) (e : M2 = ax_pI M n i x) : xg M2 z B s := xg_fr h (by rw [e]; rfl) (fun m j hm => by rw [e, ax_pn (by unfold xh_R at hS; omega)])
theorem rk_e {s : rk} (h : s.2 = none) : s = (s.1, none) := Prod.ext rfl h
theorem rk_num_F {B : Nat → Int32} {z : Nat} {lo hi : Int32} {s : rk} (h : ¬ s.2 = none) : rk_num B z lo hi s = (s, 0) := by
  unfold rk_num
  cases e : s.2 with
  | none => exact absurd e h
  | some w => rfl
theorem rk_sign_F {B : Nat → Int32} {z : Nat} {c : Int32} {s : rk} (h : ¬ s.2 = none) : rk_sign B z c s = s := by
  unfold rk_sign
  cases e : s.2 with
  | none => exact absurd e h
  | some w => rfl
theorem rd_wt_up {q : Nat → Int} {j : Nat} {v : Int} {x : Int} : ∀ {n : Nat}, (j < 60 ∨ 60 + 2 * n ≤ j) → rd_wt (up q j v) x n = rd_wt q x n
  | 0, _ => rfl
  | n + 1, h => by
    show (rd_wt (up q j v) x n || _) = (rd_wt q x n || _)
    rw [rd_wt_up (by omega), up_n (by omega), up_n (by omega)]
theorem rd_wet_up {q : Nat → Int} {j : Nat} {v : Int} {x : Int} (hj : j < 60) (h4 : j ≠ 4) : rd_wet (up q j v) x = rd_wet q x := by
  unfold rd_wet
  rw [up_n (show 4 ≠ j by omega), rd_wt_up (Or.inl hj)]
/-- a number of the road that is no count -/
theorem xr_fld {M M2 : ax_M} {S j f : Nat} {q : Nat → Int} {v : Int} (h : xr M S q) (ho : rd_ok q) (hj : (j = 5 ∧ f = 11) ∨ (j = 6 ∧ f = 12) ∨ (j = 34 ∧ f = 9) ∨ (j = 35 ∧ f = 10)) (e : M2 = ax_pI M S f (iI v)) : xr M2 S (up q j v) := by
  subst e
  have h0 := ho.1
  obtain ⟨⟨a0, a1, a2, a3, a4, a5, a6, a7, a8⟩, h2, h3, h4, nb, bs, b1, b2, b3, b4, b5, b6⟩ := h
  have key : ∀ g p, M.1 S g = iI (q p) → (g = f ↔ p = j) → (ax_pI M S f (iI v)).1 S g = iI (up q j v p) := by
    intro g p e1 e2
    by_cases c : g = f
    · have := e2.mp c; subst this; subst c; rw [ax_pa, up_a]
    · rw [ax_pn (by omega), up_n (fun z => c (e2.mpr z)), e1]
  refine ⟨⟨key _ _ a0 (by omega), key _ _ a1 (by omega), key _ _ a2 (by omega), key _ _ a3 (by omega), key _ _ a4 (by omega), key _ _ a5 (by omega), key _ _ a6 (by omega), key _ _ a7 (by omega), key _ _ a8 (by omega)⟩, fun c hc => ?_, fun k hk => ?_, fun x hx => ?_, nb, bs, ?_, ?_, fun i hi => ?_, b4, fun i hi => ?_, fun k hk => ?_⟩
  · rw [up_n (by omega)] at hc
    simp (disch := omega) only [ax_pn, up_n]; exact h2 c hc
  · rw [up_n (by omega)] at hk
    simp (disch := omega) only [ax_pn, up_n]; exact h3 k hk
  · rw [ax_pn (by omega), rd_wet_up (by omega) (by omega)]; exact h4 x hx
  · rw [up_n (by omega)]; exact b1
  · rw [ax_pn (by omega)]; exact b2
  · rw [ax_pn (by omega), up_n (by omega)]; exact b3 i hi
  · obtain ⟨k, k1, k2⟩ := b5 i hi
    exact ⟨k, by rw [up_n (by omega)]; exact k1, by rw [up_n (by omega)]; exact k2⟩
  · rw [up_n (by omega)] at hk
    obtain ⟨i, i1, i2⟩ := b6 k hk
    exact ⟨i, i1, by rw [up_n (by omega)]; exact i2⟩
theorem xr_len {M M2 : ax_M} {S : Nat} {q : Nat → Int} {v : Int} (h : xr M S q) (hz : q 1 = 0 ∧ q 2 = 0 ∧ q 3 = 0 ∧ q 4 = 0) (e : M2 = ax_pI M S 0 (iI v)) : xr M2 S (up q 0 v) := by
  subst e
  obtain ⟨⟨a0, a1, a2, a3, a4, a5, a6, a7, a8⟩, h2, h3, h4, nb, bs, b1, b2, b3, b4, b5, b6⟩ := h
  have hnb : nb = 0 := by omega
  subst hnb
  refine ⟨?_, fun c hc => ?_, fun k hk => ?_, fun x hx => ?_, 0, bs, ?_, ?_, fun i hi => by omega, b4, fun i hi => by omega, fun k hk => ?_⟩
  · simp (disch := omega) only [ax_pn, up_n]
    exact ⟨by rw [ax_pa, up_a], a1, a2, a3, a4, a5, a6, a7, a8⟩
  · rw [up_n (by omega)] at hc; omega
  · rw [up_n (by omega)] at hk; omega
  · rw [ax_pn (by omega), rd_wet_up (by omega) (by omega)]; exact h4 x hx
  · rw [up_n (by omega)]; exact b1
  · rw [ax_pn (by omega)]; exact b2
  · rw [up_n (by omega)] at hk; omega
theorem xr_coat {M M2 : ax_M} {S c : Nat} {q : Nat → Int} {v1 v2 : Int} {x1 x2 : Int32} (h : xr M S q) (ho : rd_ok q) (hc : q 2 = c) (hc2 : c < 10) (h1 : x1 = iI v1) (h2 : x2 = iI v2) (e : M2 = ax_pI (ax_pI (ax_pI M (S + 3) c x1) (S + 4) c x2) S 8 (iI (q 2 + 1))) : xr M2 S (up (up (up q (14 + 2 * c) v1) (15 + 2 * c) v2) 2 (q 2 + 1)) := by
  subst e h1 h2
  have h0 := ho.1
  obtain ⟨⟨a0, a1, a2, a3, a4, a5, a6, a7, a8⟩, h2, h3, h4, nb, bs, b1, b2, b3, b4, b5, b6⟩ := h
  refine ⟨?_, fun i hi => ?_, fun k hk => ?_, fun x hx => ?_, nb, bs, ?_, ?_, fun i hi => ?_, b4, fun i hi => ?_, fun k hk => ?_⟩
  · simp (disch := omega) only [ax_pa, ax_pn, up_a, up_n]
    exact ⟨a0, a1, trivial, a3, a4, a5, a6, a7, a8⟩
  · simp (disch := omega) only [up_n] at hi
    simp (disch := omega) only [ax_pa, ax_pn, up_a, up_n]; exact h2 i hi
  · rw [up_a] at hk
    by_cases e : k = c
    · subst e; simp (disch := omega) only [ax_pa, ax_pn, up_a, up_n]; exact ⟨trivial, trivial⟩
    · simp (disch := omega) only [ax_pa, ax_pn, up_a, up_n]; exact h3 k (by omega)
  · rw [rd_wet_up (by omega) (by omega), rd_wet_up (by omega) (by omega), rd_wet_up (by omega) (by omega)]
    simp (disch := omega) only [ax_pn]; exact h4 x hx
  · simp (disch := omega) only [up_n]; exact b1
  · simp (disch := omega) only [ax_pn]; exact b2
  · simp (disch := omega) only [ax_pn, up_n]; exact b3 i hi
  · obtain ⟨k, k1, k2⟩ := b5 i hi
    exact ⟨k, by simp (disch := omega) only [up_n]; exact k1, by simp (disch := omega) only [up_n]; exact k2⟩
  · simp (disch := omega) only [up_n] at hk
    obtain ⟨i, i1, i2⟩ := b6 k hk
    exact ⟨i, i1, by simp (disch := omega) only [up_n]; exact i2⟩
theorem xr_car {M M2 : ax_M} {S c : Nat} {q : Nat → Int} {v1 v2 v3 : Int} {x1 x2 x3 : Int32} (h : xr M S q) (ho : rd_ok q) (hc : q 1 = c) (hc2 : c < 2) (h1 : x1 = iI v1) (h2 : x2 = iI v2) (h3 : x3 = iI v3) (e : M2 = ax_pI (ax_pI (ax_pI (ax_pI M (S + 5) c x1) (S + 6) c x2) (S + 7) c x3) S 16 (iI (q 1 + 1))) : xr M2 S (up (up (up (up q (40 + c) v1) (10 + 2 * c) v2) (11 + 2 * c) v3) 1 (q 1 + 1)) := by
  subst e h1 h2 h3
  have h0 := ho.1
  obtain ⟨⟨a0, a1, a2, a3, a4, a5, a6, a7, a8⟩, h2, h3, h4, nb, bs, b1, b2, b3, b4, b5, b6⟩ := h
  refine ⟨?_, fun i hi => ?_, fun k hk => ?_, fun x hx => ?_, nb, bs, ?_, ?_, fun i hi => ?_, b4, fun i hi => ?_, fun k hk => ?_⟩
  · simp (disch := omega) only [ax_pa, ax_pn, up_a, up_n]
    exact ⟨a0, trivial, a2, a3, a4, a5, a6, a7, a8⟩
  · rw [up_a] at hi
    by_cases e : i = c
    · subst e; simp (disch := omega) only [ax_pa, ax_pn, up_a, up_n]; exact ⟨trivial, trivial, trivial⟩
    · simp (disch := omega) only [ax_pa, ax_pn, up_a, up_n]; exact h2 i (by omega)
  · simp (disch := omega) only [up_n] at hk
    simp (disch := omega) only [ax_pa, ax_pn, up_a, up_n]; exact h3 k hk
  · rw [rd_wet_up (by omega) (by omega), rd_wet_up (by omega) (by omega), rd_wet_up (by omega) (by omega), rd_wet_up (by omega) (by omega)]
    simp (disch := omega) only [ax_pn]; exact h4 x hx
  · simp (disch := omega) only [up_n]; exact b1
  · simp (disch := omega) only [ax_pn]; exact b2
  · simp (disch := omega) only [ax_pn, up_n]; exact b3 i hi
  · obtain ⟨k, k1, k2⟩ := b5 i hi
    exact ⟨k, by simp (disch := omega) only [up_n]; exact k1, by simp (disch := omega) only [up_n]; exact k2⟩
  · simp (disch := omega) only [up_n] at hk
    obtain ⟨i, i1, i2⟩ := b6 k hk
    exact ⟨i, i1, by simp (disch := omega) only [up_n]; exact i2⟩
theorem rd_wet_new {q : Nat → Int} {c : Nat} {v1 v2 x : Int} (hc : q 4 = c) : rd_wet (up (up (up q (60 + 2 * c) v1) (61 + 2 * c) v2) 4 (q 4 + 1)) x = (rd_wet q x || (decide (v1 ≤ x) && decide (x ≤ v2))) := by
  unfold rd_wet
  rw [up_a, hc, show ((c : Int) + 1).toNat = c + 1 by omega, show ((c : Int)).toNat = c by omega]
  show (rd_wt _ x c || _) = _
  rw [rd_wt_up (by omega), rd_wt_up (by omega), rd_wt_up (by omega)]
  simp (disch := omega) only [up_a, up_n]
theorem xr_wet {M M2 : ax_M} {S c : Nat} {q : Nat → Int} {v1 v2 : Int} (h : xr M S q) (ho : rd_ok q) (hc : q 4 = c) (hc2 : c < 4) (e5 : M2.1 S 5 = iI (q 4 + 1)) (ew : ∀ x : Nat, x < 60 → M2.1 (S + 2) x = if v1 ≤ (x : Int) ∧ (x : Int) ≤ v2 then 1 else M.1 (S + 2) x) (hf : ∀ n i, ¬ (n = S ∧ i = 5) → n ≠ S + 2 → M2.1 n i = M.1 n i) : xr M2 S (up (up (up q (60 + 2 * c) v1) (61 + 2 * c) v2) 4 (q 4 + 1)) := by
  have h0 := ho.1
  obtain ⟨⟨a0, a1, a2, a3, a4, a5, a6, a7, a8⟩, h2, h3, h4, nb, bs, b1, b2, b3, b4, b5, b6⟩ := h
  refine ⟨?_, fun i hi => ?_, fun k hk => ?_, fun x hx => ?_, nb, bs, ?_, ?_, fun i hi => ?_, b4, fun i hi => ?_, fun k hk => ?_⟩
  · simp (disch := omega) only [hf, up_a, up_n]
    exact ⟨a0, a1, a2, a3, e5, a5, a6, a7, a8⟩
  · simp (disch := omega) only [up_n] at hi
    simp (disch := omega) only [hf, up_n]; exact h2 i hi
  · simp (disch := omega) only [up_n] at hk
    simp (disch := omega) only [hf, up_n]; exact h3 k hk
  · rw [ew x hx, rd_wet_new hc, h4 x hx]
    by_cases c1 : v1 ≤ (x : Int) ∧ (x : Int) ≤ v2
    · rw [if_pos c1]; simp [c1.1, c1.2]
    · rw [if_neg c1]
      have : (decide (v1 ≤ (x : Int)) && decide ((x : Int) ≤ v2)) = false := by
        rw [Bool.and_eq_false_iff, decide_eq_false_iff_not, decide_eq_false_iff_not]
        omega
      rw [this, Bool.or_false]
  · simp (disch := omega) only [up_n]; exact b1
  · simp (disch := omega) only [hf]; exact b2
  · simp (disch := omega) only [hf, up_n]; exact b3 i hi
  · obtain ⟨k, k1, k2⟩ := b5 i hi
    exact ⟨k, by simp (disch := omega) only [up_n]; exact k1, by simp (disch := omega) only [up_n]; exact k2⟩
  · simp (disch := omega) only [up_n] at hk
    obtain ⟨i, i1, i2⟩ := b6 k hk
    exact ⟨i, i1, by simp (disch := omega) only [up_n]; exact i2⟩
/-- a bend more: its CELL told before, or new -/
theorem xr_bend {M M2 : ax_M} {S c nb nb2 : Nat} {bs bs2 : Nat → Int} {q : Nat → Int} {v : Int} (h : xr M S q) (hb : xbd M S q nb bs) (ho : rd_ok q) (hc : q 3 = c) (hc2 : c < 6) (hv : 0 ≤ v ∧ v < q 0) (e3 : M2.1 S 3 = iI (q 3 + 1)) (hcase : (nb2 = nb ∧ bs2 = bs ∧ ∃ i, i < nb ∧ bs i = v) ∨ (nb2 = nb + 1 ∧ bs2 = (fun i => if i = nb then v else bs i) ∧ ∀ i, i < nb → bs i ≠ v)) (e2 : M2.1 S 2 = nI nb2) (e1 : ∀ i, i < nb2 → M2.1 (S + 1) i = iI (bs2 i)) (hf : ∀ n i, ¬ (n = S ∧ (i = 2 ∨ i = 3)) → n ≠ S + 1 → M2.1 n i = M.1 n i) : xr M2 S (up (up q (50 + c) v) 3 (q 3 + 1)) := by
  have h0 := ho.1
  obtain ⟨⟨a0, a1, a2, a3, a4, a5, a6, a7, a8⟩, h2, h3, h4, -⟩ := h
  obtain ⟨b1, b2, b3, b4, b5, b6⟩ := hb
  refine ⟨?_, fun i hi => ?_, fun k hk => ?_, fun x hx => ?_, nb2, bs2, ?_, e2, fun i hi => ?_, fun i j hij hj => ?_, fun i hi => ?_, fun k hk => ?_⟩
  · simp (disch := omega) only [hf, up_a, up_n]
    exact ⟨a0, a1, a2, e3, a4, a5, a6, a7, a8⟩
  · simp (disch := omega) only [up_n] at hi
    simp (disch := omega) only [hf, up_n]; exact h2 i hi
  · simp (disch := omega) only [up_n] at hk
    simp (disch := omega) only [hf, up_n]; exact h3 k hk
  · rw [rd_wet_up (by omega) (by omega), rd_wet_up (by omega) (by omega)]
    simp (disch := omega) only [hf]; exact h4 x hx
  · rw [up_a]; omega
  · simp (disch := omega) only [up_n]
    refine ⟨e1 i hi, ?_⟩
    rcases hcase with ⟨rfl, rfl, _⟩ | ⟨rfl, rfl, _⟩
    · exact (b3 i hi).2
    · show 0 ≤ (if i = nb then v else bs i) ∧ (if i = nb then v else bs i) < q 0
      by_cases e : i = nb
      · rw [if_pos e]; exact hv
      · rw [if_neg e]; exact (b3 i (by omega)).2
  · rcases hcase with ⟨rfl, rfl, _⟩ | ⟨rfl, rfl, hn⟩
    · exact b4 i j hij hj
    · show (if i = nb then v else bs i) ≠ (if j = nb then v else bs j)
      rw [if_neg (show ¬ i = nb by omega)]
      by_cases e : j = nb
      · rw [if_pos e]; exact hn i (by omega)
      · rw [if_neg e]; exact b4 i j hij (by omega)
  · have old : ∀ w, (∃ k : Nat, (k : Int) < q 3 ∧ w = q (50 + k)) → ∃ k : Nat, (k : Int) < up (up q (50 + c) v) 3 (q 3 + 1) 3 ∧ w = up (up q (50 + c) v) 3 (q 3 + 1) (50 + k) := by
      rintro w ⟨k, k1, k2⟩
      exact ⟨k, by rw [up_a]; omega, by simp (disch := omega) only [up_n]; exact k2⟩
    rcases hcase with ⟨rfl, rfl, _⟩ | ⟨rfl, rfl, _⟩
    · exact old _ (b5 i hi)
    · show ∃ k : Nat, _ ∧ (if i = nb then v else bs i) = _
      by_cases e : i = nb
      · rw [if_pos e]
        exact ⟨c, by rw [up_a]; omega, by rw [up_n (by omega), up_a]⟩
      · rw [if_neg e]; exact old _ (b5 i (by omega))
  · rw [up_a] at hk
    by_cases e : k = c
    · subst e
      rw [up_n (by omega), up_a]
      rcases hcase with ⟨rfl, rfl, h9⟩ | ⟨rfl, rfl, _⟩
      · exact h9
      · exact ⟨nb, by omega, if_pos rfl⟩
    · rw [up_n (by omega), up_n (by omega)]
      obtain ⟨i, i1, i2⟩ := b6 k (by omega)
      rcases hcase with ⟨rfl, rfl, _⟩ | ⟨rfl, rfl, _⟩
      · exact ⟨i, i1, i2⟩
      · exact ⟨i, by omega, by show (if i = nb then v else bs i) = _; rw [if_neg (by omega)]; exact i2⟩

