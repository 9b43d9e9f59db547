/-! ===== class and reference beside each other, between calls ===== -/
/-- a history of changes: the class's records, the reference's states before them -/
def ch_h (K W F S : Nat → Int32) (Z : Nat → Nat → Int32) (n : Nat) (r : Nat → Int) : Prop := n ≤ 20 ∧ ∃ T : Nat → Nat → Int, T n = r ∧ (∀ w, w ≤ n → rd_ok (T w)) ∧ ∀ w, w < n → (∀ j, j < 26 → Z w j = iI (T w (10 + j))) ∧ ∃ (k c : Nat) (a b : Int), K w = nI k ∧ W w = nI c ∧ F w = iI a ∧ S w = iI b ∧ ch_ok (T (w + 1)) k c ∧ T w = ru (T (w + 1)) k c a b
def im_h (M : ax_M) (u : Nat) (r : Nat → Int) : Prop := ∃ (n2 : Nat) (r2 : Nat → Int), (∀ j, j < 10 ∨ 36 ≤ j → r2 j = r j) ∧ ch_h (fun w => M.1 (85 + u) (24 + w)) (fun w => M.1 (85 + u) (44 + w)) (fun w => M.1 (85 + u) (64 + w)) (fun w => M.1 (85 + u) (84 + w)) (fun w j => M.1 (167 + u) (27 + 26 * w + j)) n2 r2 ∧ M.1 88 u = nI n2 ∧ M.1 (167 + u) 0 = nI n2 ∧ (∀ j, j < 26 → M.1 (167 + u) (1 + j) = iI (r2 (10 + j))) ∧ (∀ c : Nat, (c : Int) < r 1 → M.1 (85 + u) c = iI (r2 (10 + 2 * c)) ∧ M.1 (85 + u) (2 + c) = iI (r2 (11 + 2 * c))) ∧ (∀ k : Nat, (k : Int) < r 2 → M.1 (85 + u) (4 + k) = iI (r2 (14 + 2 * k)) ∧ M.1 (85 + u) (14 + k) = iI (r2 (15 + 2 * k))) ∧ M.1 (85 + u) 104 = iI (r2 34) ∧ M.1 (85 + u) 105 = iI (r2 35)
def jt (M : ax_M) (t : Nat) : Prop := M.1 2 1 = nI t ∧ M.1 90 1 = nI t ∧ t ≤ 600 ∧ ∀ i, i < t → M.1 3 i = M.1 91 i
def jc (M : ax_M) (r : Nat → Int) (n v : Nat) : Prop := (M.1 79 4 = nI n ∧ M.1 90 33 = nI n ∧ ch_h (M.1 80) (M.1 81) (M.1 82) (M.1 83) (fun w j => M.1 (146 + w) j) n r) ∧ (M.1 79 7 = nI v ∧ M.1 90 34 = nI v ∧ v ≤ 3 ∧ ∀ u, u < v → im_h M u r)
def jm (M : ax_M) (p : Nat → Nat) (r : Nat → Int) (lw : mt_L) (es : List (Nat × Nat)) (t n v : Nat) (q : Nat → Int) : Prop := xI M p r lw es ∧ rr M r ∧ (∀ w, w < 3 → ml_law M w (lw w)) ∧ mb M es.length (bkE es) ∧ jt M t ∧ M.1 2 8 = M.1 90 3 ∧ (rp M q ∧ rd_ok q) ∧ jc M r n v
def jf (M : ax_M) : Prop := ∀ i, i < 3 → M.1 89 i = M.1 92 i
def jj (M : ax_M) : Prop := ∃ p r lw es t n v q, jm M p r lw es t n v q ∧ jf M
def sm (M N : ax_M) : Prop := N.1 = M.1 ∧ N.2.1 = M.2.1 ∧ N.2.2.2.1 = M.2.2.2.1
theorem ch_fr {K W F S K2 W2 F2 S2 : Nat → Int32} {Z Z2 : Nat → Nat → Int32} {n : Nat} {r : Nat → Int} (h : ch_h K W F S Z n r) (h1 : ∀ w, w < n → K2 w = K w ∧ W2 w = W w ∧ F2 w = F w ∧ S2 w = S w) (h2 : ∀ w j, w < n → j < 26 → Z2 w j = Z w j) : ch_h K2 W2 F2 S2 Z2 n r := by
  obtain ⟨a, T, b, c, d⟩ := h
  refine ⟨a, T, b, c, fun w hw => ⟨fun j hj => (h2 w j hw hj).trans ((d w hw).1 j hj), ?_⟩⟩
  obtain ⟨k, cc, aa, bb, g1, g2, g3, g4, g5⟩ := (d w hw).2
  obtain ⟨e1, e2, e3, e4⟩ := h1 w hw
  exact ⟨k, cc, aa, bb, e1.trans g1, e2.trans g2, e3.trans g3, e4.trans g4, g5⟩
theorem im_fr {M N : ax_M} {u : Nat} {r : Nat → Int} (hu : u < 3) (h : im_h M u r) (hf : ∀ n i, (85 ≤ n ∧ n ≤ 88) ∨ (167 ≤ n ∧ n ≤ 169) → N.1 n i = M.1 n i) : im_h N u r := by
  obtain ⟨n2, r2, a, b, c, d, e, f, g, h1, h2⟩ := h
  refine ⟨n2, r2, a, ch_fr b (fun w _ => ⟨hf _ _ (by omega), hf _ _ (by omega), hf _ _ (by omega), hf _ _ (by omega)⟩) (fun w j _ _ => hf _ _ (by omega)), (hf _ _ (by omega)).trans c, (hf _ _ (by omega)).trans d, fun j hj => (hf _ _ (by omega)).trans (e j hj), fun k hk => ⟨(hf _ _ (by omega)).trans (f k hk).1, (hf _ _ (by omega)).trans (f k hk).2⟩, fun k hk => ⟨(hf _ _ (by omega)).trans (g k hk).1, (hf _ _ (by omega)).trans (g k hk).2⟩, (hf _ _ (by omega)).trans h1, (hf _ _ (by omega)).trans h2⟩
theorem jc_fr {M N : ax_M} {r : Nat → Int} {n v : Nat} (h : jc M r n v) (hf : ∀ m i, (m = 79 ∧ (i = 4 ∨ i = 7)) ∨ (80 ≤ m ∧ m ≤ 83) ∨ (85 ≤ m ∧ m ≤ 88) ∨ (m = 90 ∧ (i = 33 ∨ i = 34)) ∨ (146 ≤ m ∧ m ≤ 165) ∨ (167 ≤ m ∧ m ≤ 169) → N.1 m i = M.1 m i) : jc N r n v := by
  obtain ⟨⟨a, b, c⟩, d, e, f, g⟩ := h
  have c0 := c.1
  exact ⟨⟨(hf _ _ (by omega)).trans a, (hf _ _ (by omega)).trans b, ch_fr c (fun w _ => ⟨hf _ _ (by omega), hf _ _ (by omega), hf _ _ (by omega), hf _ _ (by omega)⟩) (fun w j hw _ => hf _ _ (by omega))⟩, (hf _ _ (by omega)).trans d, (hf _ _ (by omega)).trans e, f, fun u hu => im_fr (by omega) (g u hu) (fun n i z => hf n i (by omega))⟩
theorem xI_g {M C : ax_M} {p : Nat → Nat} {r : Nat → Int} {lw : mt_L} {es : List (Nat × Nat)} (h : xI M p r lw es) (e1 : C.2.1 = M.2.1) (e2 : C.2.2.2.1 = M.2.2.2.1) (hf : ∀ n i, n < 79 → C.1 n i = M.1 n i) : xI C p r lw es := by
  obtain ⟨⟨t1, t2, t3, t4, t5⟩, h2, h3, h4⟩ := h
  have hp := t1.2.1
  have p0 := hp.1
  have p6 := hp.2.1
  have hx : xk C.2 p := by
    obtain ⟨⟨l1, l2⟩, x2, x3⟩ := t1
    refine ⟨⟨fun n x hx => by rw [show C.2.2.2.1 = M.2.2.2.1 from e2]; exact l1 n x hx, fun q hq => by rw [show C.2.1 = M.2.1 from e1]; exact l2 q hq⟩, x2, ?_⟩
    rw [show C.2.1 = M.2.1 from e1]; exact x3
  refine ⟨⟨hx, xr_fr t2 (fun n i a b => hf n i (by omega)), t3, xlw_fr hp t4 (fun n i a _ _ => hf n i (by omega)), xbk_fr t5 (fun n i a => hf n i (by omega))⟩, ⟨xw_fr h2.1 (fun n i z => hf n i (by omega)), xw_fr h2.2 (fun n i z => hf n i (by omega))⟩, ?_, xD_fr h4 (hf _ _ (by omega)) (fun n i z => hf n i (by omega))⟩
  rcases h3 with h3 | ⟨h3, h5⟩
  · exact Or.inl ((hf 1 7 (by omega)).trans h3)
  · exact Or.inr ⟨(hf 1 7 (by omega)).trans h3, xmt_fr h5 (fun n i z => hf n i (by omega))⟩
section JJ
variable {M M0 M1 M2 N : ax_M} {p : Nat → Nat} {r : Nat → Int} {lw : mt_L} {es : List (Nat × Nat)} {t n v : Nat} {q : Nat → Int}
theorem jm_ok (h : jm M p r lw es t n v q) : lo_ok M.2 := h.1.1.1.1
theorem jm_x (h : jm M p r lw es t n v q) (hI : xI N p r lw es) (hf : ∀ m i, ¬ qs m i → ¬ rs m i → ¬ (m = 90 ∧ i = 0) → m ≠ 89 → m ≠ 92 → N.1 m i = M.1 m i) : jm N p r lw es t n v q := by
  obtain ⟨-, a, b, c, ⟨d1, d2, d3, d4⟩, e, ⟨f, f2⟩, g⟩ := h
  have g2 : ∀ m i, (m = 2 ∨ m = 3 ∨ (79 ≤ m ∧ m ≤ 88) ∨ (m = 90 ∧ 1 ≤ i ∧ i ≤ 34) ∨ m = 91 ∨ (93 ≤ m ∧ m ≤ 116) ∨ (119 ≤ m ∧ m ≤ 169)) → N.1 m i = M.1 m i := fun m i z => hf m i (by unfold qs fs; omega) (by unfold rs; omega) (by omega) (by omega) (by omega)
  refine ⟨hI, rr_fr a (fun m i z => g2 m i (by omega)), fun w hw => ml_law_fr (b w hw) (fun m i z => g2 m i (by omega)), mb_fr c (fun m i z => g2 m i (by omega)), ⟨(g2 _ _ (by omega)).trans d1, (g2 _ _ (by omega)).trans d2, d3, fun i hi => ?_⟩, ?_, ⟨rp_fr f (fun m i z => g2 m i (by omega)), f2⟩, jc_fr g (fun m i z => g2 m i (by omega))⟩
  · rw [g2 3 i (by omega), g2 91 i (by omega)]; exact d4 i hi
  · rw [g2 2 8 (by omega), g2 90 3 (by omega)]; exact e
theorem ask_1 (h : jm M p r lw es t n v q) (hr : jf M) (f : qf M M0) (hI : xI M0 p r lw es) (s : sm M0 M1) : jm M1 p r lw es t n v q ∧ jf M1 := by
  have e : ∀ m i, ¬ qs m i → M1.1 m i = M.1 m i := fun m i z => by rw [s.1]; exact f.2 m i z
  refine ⟨jm_x h (xI_g hI s.2.1 s.2.2 (fun m i _ => by rw [s.1])) (fun m i z1 _ _ _ _ => e m i z1), fun i hi => ?_⟩
  rw [e 89 i (by unfold qs fs; omega), e 92 i (by unfold qs fs; omega)]; exact hr i hi
theorem ask_1e {k : Nat} (h : jm M p r lw es t n v q) (hr : jf M) (x : xre M M1 k) : jm M1 p r lw es t n v q ∧ ∀ i, i < 3 → M1.1 89 i = if i = k then M1.1 92 i + 1 else M1.1 92 i := by
  obtain ⟨x1, x2, x3, x4, x5⟩ := x
  have e : ∀ m i, m ≠ 89 → M1.1 m i = M.1 m i := fun m i z => by rw [x1, if_neg (by omega)]
  refine ⟨jm_x h (xI_g h.1 x2 x4 (fun m i z => e m i (by omega))) (fun m i _ _ _ z _ => e m i z), fun i hi => ?_⟩
  rw [x1, e 92 i (by omega), ← hr i hi]
  by_cases z : i = k
  · subst z; rw [if_pos ⟨rfl, rfl⟩, if_pos rfl]
  · rw [if_neg (fun w => z w.2), if_neg z]
theorem jj_in (h : jm M p r lw es t n v q) (h2 : jf M) : jj M := ⟨p, r, lw, es, t, n, v, q, h, h2⟩
theorem rq_x {o : ax_O} {x : ax_V ⊕ (Nat × Nat)} (h : jm M p r lw es t n v q) (hq : rq M M2 o x) : jm M2 p r lw es t n v q := by
  obtain ⟨e, f, -⟩ := hq
  have g : ∀ m i, m < 90 → M2.1 m i = M.1 m i := fun m i z => f m i (by unfold rs; omega) (by omega) (by omega)
  exact jm_x h (xI_g h.1 (by rw [e]) (by rw [e]) (fun m i z => g m i (by omega))) (fun m i _ z2 z3 _ z5 => f m i z2 z3 z5)
theorem ask_2 {o : ax_O} {x : ax_V} (h : jm M p r lw es t n v q) (hr : jf M) (hq : rq M M2 o (.inl x)) : o = .inl (some x) ∧ M2.1 90 0 = 0 ∧ M2.2 = M.2 ∧ jj M2 := by
  have J := rq_x h hq
  obtain ⟨e, f, g1, g2, g3⟩ := hq
  refine ⟨g1, g2, e, jj_in J (fun i hi => ?_)⟩
  rw [f 89 i (by unfold rs; omega) (by omega) (by omega), g3 i]; exact hr i hi
theorem ask_2e {o : ax_O} {x : Nat × Nat} (h : jm M p r lw es t n v q) (hr : ∀ i, i < 3 → M.1 89 i = if i = x.2 then M.1 92 i + 1 else M.1 92 i) (hq : rq M M2 o (.inr x)) : (∃ u, o = .inl (some (av_i u))) ∧ M2.1 90 0 = nI x.1 ∧ M2.2 = M.2 ∧ jj M2 := by
  have J := rq_x h hq
  obtain ⟨e, f, g1, g2, g3⟩ := hq
  refine ⟨g1, g2, e, jj_in J (fun i hi => ?_)⟩
  rw [f 89 i (by unfold rs; omega) (by omega) (by omega), g3 i]; exact hr i hi
theorem rql_x {o : ax_O} {x : ax_V ⊕ (Nat × Nat)} (h : jm M p r lw es t n v q) (hq : rql M M2 o x) : jm M2 p r lw es t n v q := by
  obtain ⟨e, f, -⟩ := hq
  have g : ∀ m i, m < 90 → M2.1 m i = M.1 m i := fun m i z => f m i (by unfold rs; omega) (by omega) (by omega)
  exact jm_x h (xI_g h.1 (by rw [e]) (by rw [e]) (fun m i z => g m i (by omega))) (fun m i _ z2 z3 _ z5 => f m i z2 z3 z5)
theorem ask_2l {o : ax_O} {x : ax_V} (h : jm M p r lw es t n v q) (hr : jf M) (hq : rql M M2 o (.inl x)) : o = .inl (some x) ∧ M2.1 90 0 = 0 ∧ M2.2 = M.2 ∧ jj M2 := by
  have J := rql_x h hq
  obtain ⟨e, f, g1, g2, g3⟩ := hq
  refine ⟨g1, g2, e, jj_in J (fun i hi => ?_)⟩
  rw [f 89 i (by unfold rs; omega) (by omega) (by omega), g3 i]; exact hr i hi
theorem ask_2le {o : ax_O} {x : Nat × Nat} (h : jm M p r lw es t n v q) (hr : ∀ i, i < 3 → M.1 89 i = if i = x.2 then M.1 92 i + 1 else M.1 92 i) (hq : rql M M2 o (.inr x)) : (∃ u, o = .inl (some (av_l u))) ∧ M2.1 90 0 = nI x.1 ∧ M2.2 = M.2 ∧ jj M2 := by
  have J := rql_x h hq
  obtain ⟨e, f, g1, g2, g3⟩ := hq
  refine ⟨g1, g2, e, jj_in J (fun i hi => ?_)⟩
  rw [f 89 i (by unfold rs; omega) (by omega) (by omega), g3 i]; exact hr i hi
theorem pL_rd {a k : Nat} {x : Int64} : (ax_pL M a k x).2.2.1 a k = x := by
  show ax_u2 M.2.2.1 a k x a k = x
  unfold ax_u2
  rw [if_pos ⟨rfl, rfl⟩]
theorem sm_pL (a k : Nat) (x : Int64) : sm M (ax_pL M a k x) := ⟨rfl, rfl, rfl⟩
end JJ
/-- what a pure answer of an ask may be -/
def qk (tb : List (Nat × Nat)) (P : ax_V → Prop) (x : ax_V ⊕ (Nat × Nat)) : Prop := match x with
  | .inl v => P v
  | .inr q => (q.2, q.1) ∈ tb
def pI9 (v : ax_V) : Prop := ∃ z, v = av_i z
def pL9 (v : ax_V) : Prop := ∃ z, v = av_l z
def pB9 (v : ax_V) : Prop := v = av_i 0 ∨ v = av_i 1
def tbk (tb : List (Nat × Nat)) : Bool := tb.all (fun a => decide (a.1 < 3) && tb.all (fun b => !(a.1 == b.1) || a.2 == b.2))
theorem cz_inj {a b : Nat} (ha : a < 3) (hb : b < 3) (h : cz_n a = cz_n b) : a = b := by
  rcases (show a = 0 ∨ a = 1 ∨ a = 2 by omega) with rfl | rfl | rfl <;> rcases (show b = 0 ∨ b = 1 ∨ b = 2 by omega) with rfl | rfl | rfl <;> first | rfl | (exact absurd h (by decide))
theorem tbk_3 {tb : List (Nat × Nat)} (h : tbk tb = true) {k w : Nat} (hm : (k, w) ∈ tb) : k < 3 := by
  have := List.all_eq_true.mp h _ hm
  simp only [Bool.and_eq_true, decide_eq_true_eq] at this
  exact this.1
theorem tbk_f {tb : List (Nat × Nat)} (h : tbk tb = true) {k w w2 : Nat} (hm : (k, w) ∈ tb) (hm2 : (k, w2) ∈ tb) : w = w2 := by
  have := List.all_eq_true.mp h _ hm
  simp only [Bool.and_eq_true, decide_eq_true_eq] at this
  have := List.all_eq_true.mp this.2 _ hm2
  simpa using this
section QW
variable {p : Nat → Nat} {r : Nat → Int} {lw : mt_L} {es : List (Nat × Nat)} {M M1 : ax_M} {x : ax_V ⊕ (Nat × Nat)} {tb : List (Nat × Nat)} {P : ax_V → Prop}
theorem xA_hv (hq : qk tb P x) : ∀ r9 M1, xA p r lw es M x (.inl r9) M1 → (∃ v, r9 = some v ∧ P v) ∧ M1.2.2.2.1 432 = some (.inl (1, 1)) := by
  intro r9 M1 h
  cases x with
  | inl v => obtain ⟨h1, -, h3⟩ := h; exact ⟨⟨v, Sum.inl.inj h1, hq⟩, lo_s h3.1.1.1 432 rfl⟩
  | inr w => cases h.1
theorem xA_hI (hq : qk tb pI9 x) : ∀ r9 M1, xA p r lw es M x (.inl r9) M1 → (∃ z, r9 = some (av_i z)) ∧ M1.2.2.2.1 432 = some (.inl (1, 1)) := fun r9 M1 h => by
  obtain ⟨⟨v, h1, z, rfl⟩, h2⟩ := xA_hv hq r9 M1 h
  exact ⟨⟨z, h1⟩, h2⟩
theorem xA_hL (hq : qk tb pL9 x) : ∀ r9 M1, xA p r lw es M x (.inl r9) M1 → (∃ z, r9 = some (av_l z)) ∧ M1.2.2.2.1 432 = some (.inl (1, 1)) := fun r9 M1 h => by
  obtain ⟨⟨v, h1, z, rfl⟩, h2⟩ := xA_hv hq r9 M1 h
  exact ⟨⟨z, h1⟩, h2⟩
theorem xA_hB (hq : qk tb pB9 x) : ∀ r9 M1, xA p r lw es M x (.inl r9) M1 → (r9 = some (av_i 0) ∨ r9 = some (av_i 1)) ∧ M1.2.2.2.1 432 = some (.inl (1, 1)) := fun r9 M1 h => by
  obtain ⟨⟨v, h1, h3⟩, h2⟩ := xA_hv hq r9 M1 h
  rcases h3 with rfl | rfl
  · exact ⟨Or.inl h1, h2⟩
  · exact ⟨Or.inr h1, h2⟩
theorem xA_hx (hq : qk tb P x) : ∀ E M1, xA p r lw es M x (.inr E) M1 → ∃ k w, (k, w) ∈ tb ∧ E = cz_n k := by
  intro E M1 h
  cases x with
  | inl v => cases h.1
  | inr w => exact ⟨w.2, w.1, hq, Sum.inr.inj h.1⟩
theorem qw_v {v : ax_V} {r9 : Option ax_V} (h : qw tb (xA p r lw es M (.inl v)) (.inl r9) M1) : r9 = some (av_i 0) ∧ ∃ M0, M1 = ax_pL M0 432 0 (lv64 v) ∧ qf M M0 ∧ xI M0 p r lw es := by
  rcases h with ⟨v2, M0, h1, h2, h3⟩ | ⟨k, w, h1, h2, h3⟩
  · obtain ⟨g1, g2, g3⟩ := h1
    cases g1
    exact ⟨Sum.inl.inj h3, M0, h2, g2, g3⟩
  · cases h2.1
theorem qw_e {q : Nat × Nat} {r9 : Option ax_V} (htb : tbk tb = true) (hq : (q.2, q.1) ∈ tb) (h : qw tb (xA p r lw es M (.inr q)) (.inl r9) M1) : r9 = some (av_i (nI q.1)) ∧ xre M M1 q.2 := by
  rcases h with ⟨v2, M0, h1, h2, h3⟩ | ⟨k, w, h1, h2, h3⟩
  · cases h1.1
  · obtain ⟨g1, g2⟩ := h2
    have e := cz_inj (tbk_3 htb h1) (tbk_3 htb hq) (Sum.inr.inj g1)
    subst e
    have e2 := tbk_f htb h1 hq
    subst e2
    exact ⟨Sum.inl.inj h3, g2⟩
end QW

