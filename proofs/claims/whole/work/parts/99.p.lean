/-! ===== changes and images by both ===== -/
section JP
variable {M M0 M1 M2 : ax_M} {p : Nat → Nat} {r : Nat → Int} {lw : mt_L} {es : List (Nat × Nat)} {t n v : Nat} {q : Nat → Int}
theorem im_r {u : Nat} {r2 : Nat → Int} (h : im_h M u r) (e : ∀ j, j < 10 ∨ 36 ≤ j → r2 j = r j) : im_h M u r2 := by
  obtain ⟨n2, r3, a, b, c, d, f, g, h1, h2⟩ := h
  refine ⟨n2, r3, fun j hj => (a j hj).trans (e j hj).symm, b, c, d, f, ?_, ?_, h2⟩
  · rw [e 1 (by omega)]; exact g
  · rw [e 2 (by omega)]; exact h1
theorem cq_rd {R k c : Nat} (hx : xr M R r) (hk : ch_ok r k c) : M.1 (cq1 R k c).1 (cq1 R k c).2 = iI (r (10 + cpl k c)) ∧ M.1 (cq2 R k c).1 (cq2 R k c).2 = iI (r (11 + cpl k c)) := by
  obtain ⟨⟨-, -, -, -, -, -, -, a7, a8⟩, h2, h3, -⟩ := hx
  obtain ⟨k1, k2, k3⟩ := hk
  rcases (show k = 0 ∨ k = 1 ∨ k = 2 by omega) with rfl | rfl | rfl
  · exact (h2 c (k2 rfl)).2
  · have := h3 c (k3 rfl)
    refine ⟨?_, ?_⟩
    · rw [show 10 + cpl 1 c = 14 + 2 * c by show 10 + (4 + 2 * c) = _; omega]; exact this.1
    · rw [show 11 + cpl 1 c = 15 + 2 * c by show 11 + (4 + 2 * c) = _; omega]; exact this.2
  · exact ⟨a7, a8⟩
theorem ru_back {k c : Nat} {a b : Int} : r = ru (ru r k c a b) k c (r (10 + cpl k c)) (r (11 + cpl k c)) := by
  funext j
  rcases ru_or (ru r k c a b) k c (r (10 + cpl k c)) (r (11 + cpl k c)) j with h | h | h
  · rw [h.2, h.1]
  · rw [h.2, h.1]
  · rw [h.2.2, ru_2 h.1 h.2.1]
theorem ch_ok_ru {k c : Nat} {a b : Int} (ho : rd_ok r) (hk : ch_ok r k c) : ch_ok (ru r k c a b) k c := by
  unfold ch_ok
  rw [ru_out ho hk (by omega), ru_out ho hk (by omega)]
  exact hk
theorem ch_add {K W F S K2 W2 F2 S2 : Nat → Int32} {Z Z2 : Nat → Nat → Int32} {k c : Nat} {a b : Int} (h : ch_h K W F S Z n r) (hn : n < 20) (ho : rd_ok r) (hk : ch_ok r k c) (ho2 : rd_ok (ru r k c a b)) (h1 : ∀ w, w < n → K2 w = K w ∧ W2 w = W w ∧ F2 w = F w ∧ S2 w = S w) (h2 : ∀ w j, w < n → j < 26 → Z2 w j = Z w j) (g1 : K2 n = nI k) (g2 : W2 n = nI c) (g3 : F2 n = iI (r (10 + cpl k c))) (g4 : S2 n = iI (r (11 + cpl k c))) (g5 : ∀ j, j < 26 → Z2 n j = iI (r (10 + j))) : ch_h K2 W2 F2 S2 Z2 (n + 1) (ru r k c a b) := by
  obtain ⟨-, T, b1, c1, d1⟩ := ch_fr h h1 h2
  refine ⟨by omega, fun w => if w ≤ n then T w else ru r k c a b, ?_, fun w hw => ?_, fun w hw => ?_⟩
  · show (if n + 1 ≤ n then T (n + 1) else ru r k c a b) = _
    rw [if_neg (by omega)]
  · show rd_ok (if w ≤ n then T w else ru r k c a b)
    by_cases z : w ≤ n
    · rw [if_pos z]; exact c1 w z
    · rw [if_neg z]; exact ho2
  · show (∀ j, j < 26 → Z2 w j = iI ((if w ≤ n then T w else ru r k c a b) (10 + j))) ∧ ∃ (k9 c9 : Nat) (a9 b9 : Int), K2 w = nI k9 ∧ W2 w = nI c9 ∧ F2 w = iI a9 ∧ S2 w = iI b9 ∧ ch_ok (if w + 1 ≤ n then T (w + 1) else ru r k c a b) k9 c9 ∧ (if w ≤ n then T w else ru r k c a b) = ru (if w + 1 ≤ n then T (w + 1) else ru r k c a b) k9 c9 a9 b9
    rw [if_pos (show w ≤ n by omega)]
    by_cases z : w < n
    · rw [if_pos (show w + 1 ≤ n by omega)]; exact d1 w z
    · have e : w = n := by omega
      subst e
      rw [if_neg (show ¬ w + 1 ≤ w by omega), b1]
      exact ⟨g5, k, c, _, _, g1, g2, g3, g4, ch_ok_ru ho hk, ru_back⟩
theorem ch_last {K W F S : Nat → Int32} {Z : Nat → Nat → Int32} (h : ch_h K W F S Z n r) (hn : 0 < n) : ∃ (k c : Nat) (a b : Int), K (n - 1) = nI k ∧ W (n - 1) = nI c ∧ F (n - 1) = iI a ∧ S (n - 1) = iI b ∧ ch_ok r k c ∧ rd_ok (ru r k c a b) ∧ ch_h K W F S Z (n - 1) (ru r k c a b) ∧ ∀ j, j < 26 → Z (n - 1) j = iI (ru r k c a b (10 + j)) := by
  obtain ⟨h0, T, b1, c1, d1⟩ := h
  obtain ⟨e1, k, c, a, b, g1, g2, g3, g4, g5, g6⟩ := d1 (n - 1) (by omega)
  rw [show n - 1 + 1 = n by omega, b1] at g5 g6
  refine ⟨k, c, a, b, g1, g2, g3, g4, g5, by rw [← g6]; exact c1 _ (by omega), ⟨by omega, T, g6, fun w hw => c1 w (by omega), fun w hw => d1 w (by omega)⟩, fun j hj => by rw [← g6]; exact e1 j hj⟩
theorem rr_ru {k c : Nat} {a b : Int} (h : rr M r) (ho : rd_ok r) (hk : ch_ok r k c) (hf : ∀ m i, m = 94 ∨ m = 96 ∨ m = 98 ∨ (107 ≤ m ∧ m ≤ 110) → M2.1 m i = M.1 m i) (h1 : ∀ j, j < 26 → M2.1 100 j = iI (ru r k c a b (10 + j))) : rr M2 (ru r k c a b) := by
  obtain ⟨r1, r2, r3, r4, r5⟩ := h
  refine ⟨fun j hj => ?_, h1, fun j hj => ?_, fun j hj => ?_, fun j hj => ?_⟩
  · rw [hf 94 j (by omega), ru_out ho hk (by omega)]; exact r1 j hj
  · rw [hf 96 j (by omega), ru_out ho hk (by omega)]; exact r3 j hj
  · rw [hf 98 j (by omega), ru_out ho hk (by omega)]; exact r4 j hj
  · rw [hf _ 0 (by omega), hf _ 1 (by omega), ru_out ho hk (by omega), ru_out ho hk (by omega)]; exact r5 j hj
/-- the parts that no change touches -/
theorem jp_rest (h : jm M p r lw es t n v q) (hf : ∀ m i, m = 2 ∨ m = 3 ∨ (m = 90 ∧ (1 ≤ i ∧ i ≤ 32)) ∨ m = 91 ∨ m = 93 ∨ m = 95 ∨ m = 97 ∨ m = 99 ∨ (101 ≤ m ∧ m ≤ 105) ∨ (111 ≤ m ∧ m ≤ 115) ∨ (119 ≤ m ∧ m ≤ 131) → M2.1 m i = M.1 m i) : (∀ w, w < 3 → ml_law M2 w (lw w)) ∧ mb M2 es.length (bkE es) ∧ jt M2 t ∧ M2.1 2 8 = M2.1 90 3 ∧ (rp M2 q ∧ rd_ok q) := by
  obtain ⟨-, a, b, c, ⟨d1, d2, d3, d4⟩, e, ⟨f, f2⟩, g⟩ := h
  refine ⟨fun w hw => ml_law_fr (b w hw) (fun m i z => hf m i (by omega)), mb_fr c (fun m i z => hf m i (by omega)), ⟨(hf _ _ (by omega)).trans d1, (hf _ _ (by omega)).trans d2, d3, fun i hi => ?_⟩, ?_, rp_fr f (fun m i z => hf m i (by omega)), f2⟩
  · rw [hf 3 i (by omega), hf 91 i (by omega)]; exact d4 i hi
  · rw [hf 2 8 (by omega), hf 90 3 (by omega)]; exact e
theorem mk_chg_n {R j k c : Nat} {f s : Int32} {m i : Nat} (hR : xh_R R) (h : ¬ (m = 1 ∧ (i = 7 ∨ i = 10))) (h2 : ¬ (R ≤ m ∧ m ≤ R + 7)) (h3 : m < 79 ∨ 83 < m) : (mk_chg M R j k c f s).1 m i = M.1 m i := by
  unfold mk_chg
  rw [ax_pn (by omega), ax_pn (by omega), mk_put_n h2, mk_rec_n h3]
theorem mk_ch_n {m i : Nat} (h : m ≠ 146 + n) (h2 : ¬ (m = 90 ∧ i = 33)) : (mk_ch M n).1 m i = M.1 m i := by
  unfold mk_ch
  rw [ax_pn h2, ax_cp_n h]
theorem chg_v {k c : Nat} {a b : Int} {vv : ax_V} {o : ax_O} (h : jm M p r lw es t n v q) (hr : jf M) (hk : ch_ok r k c) (hx : xch M M0 p r lw es n k c a b (.inl (some vv))) (s : sm M0 M1) (h1 : n = 20 → o = .inl (some (av_i 0)) ∧ M2 = ax_pI M1 90 0 0) (h2 : n < 20 → o = .inl (some (av_i 1)) ∧ M2 = ax_pI (ax_pI (mk_ch (ax_pI M1 90 0 0) n) 100 (cpl k c) (iI a)) 100 (cpl k c + 1) (iI b)) : (∃ u, vv = av_i u ∧ o = .inl (some (av_i u))) ∧ M2.1 90 0 = 0 ∧ M2.2 = M1.2 ∧ jj M2 := by
  have ho := h.1.1.2.2.1
  rcases hx with ⟨x1, x2, x3⟩ | ⟨x1, x2, x3, x4⟩
  · obtain ⟨o1, o2⟩ := h1 x1
    cases x2
    have e : ∀ m i, ¬ (m = 90 ∧ i = 0) → M2.1 m i = M.1 m i := fun m i z => by rw [o2, ax_pn z, s.1, x3]
    refine ⟨⟨0, rfl, o1⟩, by rw [o2, ax_pa], by rw [o2]; rfl, jj_in (jm_x h (xI_g h.1 ?_ ?_ (fun m i z => e m i (by omega))) (fun m i _ _ z _ _ => e m i z)) (fun i hi => ?_)⟩
    · rw [o2]; show M1.2.1 = _; rw [s.2.1, x3]
    · rw [o2]; show M1.2.2.2.1 = _; rw [s.2.2, x3]
    · rw [e 89 i (by omega), e 92 i (by omega)]; exact hr i hi
  · obtain ⟨o1, o2⟩ := h2 x1
    cases x2
    have ho2 := x4.1.2.2.1
    have hR := xk_b0 h.1.1.1
    have cR : p 0 = 5 ∨ p 0 = 23 := hR
    have hc := (cpl_b ho hk).1
    have f1 : ∀ m i, ¬ (m = 1 ∧ (i = 7 ∨ i = 10)) → ¬ (p 0 ≤ m ∧ m ≤ p 0 + 7) → m < 79 ∨ 83 < m → M1.1 m i = M.1 m i := fun m i z1 z2 z3 => by rw [s.1, x3]; exact mk_chg_n hR z1 z2 z3
    have f2 : ∀ m i, m ≠ 100 → m ≠ 146 + n → ¬ (m = 90 ∧ (i = 0 ∨ i = 33)) → M2.1 m i = M1.1 m i := fun m i z1 z2 z3 => by rw [o2, ax_pn (by omega), ax_pn (by omega), mk_ch_n z2 (by omega), ax_pn (by omega)]
    have f3 : ∀ m i, 83 < m → m ≠ 100 → m ≠ 146 + n → ¬ (m = 90 ∧ (i = 0 ∨ i = 33)) → M2.1 m i = M.1 m i := fun m i z0 z1 z2 z3 => (f2 m i z1 z2 z3).trans (f1 m i (by omega) (by omega) (by omega))
    obtain ⟨c1, c2, c3, c4, c5⟩ := jp_rest (M2 := M2) h (fun m i z => (f2 m i (by omega) (by omega) (by omega)).trans (f1 m i (by omega) (by omega) (by omega)))
    obtain ⟨⟨j1, j2, j3⟩, j4, j5, j6, j7⟩ := h.2.2.2.2.2.2.2
    have k0 : ∀ m i, 79 ≤ m → m ≤ 83 → M2.1 m i = (mk_rec M (p 0) n k c).1 m i := fun m i z1 z2 => by
      rw [f2 m i (by omega) (by omega) (by omega), s.1, x3]
      unfold mk_chg
      rw [ax_pn (by omega), ax_pn (by omega), mk_put_n (by omega)]
    have hrd := cq_rd h.1.1.2.1 hk
    refine ⟨⟨1, rfl, o1⟩, ?_, by rw [o2]; rfl, jj_in (n := n + 1) (v := v) ⟨xI_g x4 (by rw [o2]; exact s.2.1) (by rw [o2]; exact s.2.2) (fun m i z => by rw [f2 m i (by omega) (by omega) (by omega), s.1]), rr_ru h.2.1 ho hk (fun m i z => f3 m i (by omega) (by omega) (by omega) (by omega)) (fun j hj => ?_), c1, c2, c3, c4, c5, ⟨⟨?_, ?_, ch_add j3 x1 ho hk ho2 (fun w hw => ⟨?_, ?_, ?_, ?_⟩) (fun w j hw hj => f3 _ _ (by omega) (by omega) (by omega) (by omega)) ?_ ?_ ?_ ?_ (fun j hj => ?_)⟩, ?_, ?_, j6, fun u hu => im_r (im_fr (by omega) (j7 u hu) (fun m i z => f3 m i (by omega) (by omega) (by omega) (by omega))) (fun j hj => ru_out ho hk hj)⟩⟩ (fun i hi => ?_)⟩
    · rw [o2, ax_pn (by omega), ax_pn (by omega), mk_ch_n (by omega) (by omega), ax_pa]
    · rcases ru_or r k c a b (10 + j) with z | z | z
      · rw [z.2, o2, ax_pn (by omega), show j = cpl k c by omega, ax_pa]
      · rw [z.2, o2, show j = cpl k c + 1 by omega, ax_pa]
      · rw [z.2.2, o2, ax_pn (by omega), ax_pn (by omega), mk_ch_n (by omega) (by omega), ax_pn (by omega), f1 100 j (by omega) (by omega) (by omega)]
        exact h.2.1.2.1 j hj
    · rw [k0 79 4 (by omega) (by omega)]; unfold mk_rec; rw [ax_pa]
    · rw [o2, ax_pn (by omega), ax_pn (by omega)]; unfold mk_ch; rw [ax_pa]
    · rw [k0 80 w (by omega) (by omega)]; unfold mk_rec; rw [ax_pn (by omega), ax_pn (by omega), ax_pn (by omega), ax_pn (by omega), ax_pn (by omega)]
    · rw [k0 81 w (by omega) (by omega)]; unfold mk_rec; rw [ax_pn (by omega), ax_pn (by omega), ax_pn (by omega), ax_pn (by omega), ax_pn (by omega)]
    · rw [k0 82 w (by omega) (by omega)]; unfold mk_rec; rw [ax_pn (by omega), ax_pn (by omega), ax_pn (by omega), ax_pn (by omega), ax_pn (by omega)]
    · rw [k0 83 w (by omega) (by omega)]; unfold mk_rec; rw [ax_pn (by omega), ax_pn (by omega), ax_pn (by omega), ax_pn (by omega), ax_pn (by omega)]
    · rw [k0 80 n (by omega) (by omega)]; unfold mk_rec; rw [ax_pn (by omega), ax_pn (by omega), ax_pn (by omega), ax_pn (by omega), ax_pa]
    · rw [k0 81 n (by omega) (by omega)]; unfold mk_rec; rw [ax_pn (by omega), ax_pn (by omega), ax_pn (by omega), ax_pa]
    · rw [k0 82 n (by omega) (by omega)]; unfold mk_rec; rw [ax_pn (by omega), ax_pn (by omega), ax_pa]; exact hrd.1
    · rw [k0 83 n (by omega) (by omega)]; unfold mk_rec; rw [ax_pn (by omega), ax_pa]; exact hrd.2
    · rw [o2, ax_pn (by omega), ax_pn (by omega)]
      unfold mk_ch
      rw [ax_pn (by omega), ax_cp_y hj, ax_pn (by omega), f1 100 j (by omega) (by omega) (by omega)]
      exact h.2.1.2.1 j hj
    · rw [k0 79 7 (by omega) (by omega)]; unfold mk_rec; rw [ax_pn (by omega), ax_pn (by omega), ax_pn (by omega), ax_pn (by omega), ax_pn (by omega)]; exact j4
    · rw [f3 90 34 (by omega) (by omega) (by omega) (by omega)]; exact j5
    · rw [f3 89 i (by omega) (by omega) (by omega) (by omega), f3 92 i (by omega) (by omega) (by omega) (by omega)]; exact hr i hi
theorem undo_v {k c : Nat} {a b : Int} (h : jm M p r lw es t n v q) (hr : jf M) (hn : 0 < n) (hk : ch_ok r k c) (hc : ch_h (M.1 80) (M.1 81) (M.1 82) (M.1 83) (fun w j => M.1 (146 + w) j) (n - 1) (ru r k c a b)) (hz : ∀ j, j < 26 → M.1 (146 + (n - 1)) j = iI (ru r k c a b (10 + j))) (x3 : M1 = mk_und M (p 0) n k c (iI a) (iI b)) (x4 : xI M1 p (ru r k c a b) lw es) (o2 : M2 = ax_cp (ax_pI (ax_pI M1 90 0 0) 90 33 (nI (n - 1))) 100 (145 + n) 26) : M2.2 = M.2 ∧ jj M2 := by
  have ho := h.1.1.2.2.1
  have hR := xk_b0 h.1.1.1
  have cR : p 0 = 5 ∨ p 0 = 23 := hR
  have hn2 := h.2.2.2.2.2.2.2.1.2.2.1
  have f1 : ∀ m i, ¬ (m = 1 ∧ (i = 7 ∨ i = 10)) → ¬ (p 0 ≤ m ∧ m ≤ p 0 + 7) → ¬ (m = 79 ∧ i = 4) → M1.1 m i = M.1 m i := fun m i z1 z2 z3 => by
    rw [x3]; unfold mk_und
    rw [ax_pn (by omega), ax_pn (by omega), mk_put_n z2, ax_pn (by omega)]
  have f2 : ∀ m i, m ≠ 100 → ¬ (m = 90 ∧ (i = 0 ∨ i = 33)) → M2.1 m i = M1.1 m i := fun m i z1 z3 => by rw [o2, ax_cp_n z1, ax_pn (by omega), ax_pn (by omega)]
  have f3 : ∀ m i, 79 < m → m ≠ 100 → ¬ (m = 90 ∧ (i = 0 ∨ i = 33)) → M2.1 m i = M.1 m i := fun m i z0 z1 z3 => (f2 m i z1 z3).trans (f1 m i (by omega) (by omega) (by omega))
  obtain ⟨c1, c2, c3, c4, c5⟩ := jp_rest (M2 := M2) h (fun m i z => (f2 m i (by omega) (by omega)).trans (f1 m i (by omega) (by omega) (by omega)))
  obtain ⟨⟨j1, j2, j3⟩, j4, j5, j6, j7⟩ := h.2.2.2.2.2.2.2
  have e2 : M2.2 = M.2 := by rw [o2]; show M1.2 = _; rw [x3]; rfl
  refine ⟨e2, jj_in (n := n - 1) (v := v) ⟨xI_g x4 (by rw [o2]; rfl) (by rw [o2]; rfl) (fun m i z => f2 m i (by omega) (by omega)), rr_ru h.2.1 ho hk (fun m i z => f3 m i (by omega) (by omega) (by omega)) (fun j hj => ?_), c1, c2, c3, c4, c5, ⟨⟨?_, ?_, ch_fr hc (fun w hw => ⟨f3 _ _ (by omega) (by omega) (by omega), f3 _ _ (by omega) (by omega) (by omega), f3 _ _ (by omega) (by omega) (by omega), f3 _ _ (by omega) (by omega) (by omega)⟩) (fun w j hw hj => f3 _ _ (by omega) (by omega) (by omega))⟩, ?_, ?_, j6, fun u hu => im_r (im_fr (by omega) (j7 u hu) (fun m i z => f3 m i (by omega) (by omega) (by omega))) (fun j hj => ru_out ho hk hj)⟩⟩ (fun i hi => ?_)⟩
  · rw [o2, ax_cp_y hj, ax_pn (by omega), ax_pn (by omega), f1 _ j (by omega) (by omega) (by omega), show 145 + n = 146 + (n - 1) by omega]
    exact hz j hj
  · rw [f2 79 4 (by omega) (by omega), x3]; unfold mk_und; rw [ax_pn (by omega), ax_pn (by omega), mk_put_n (by omega), ax_pa]
  · rw [o2, ax_cp_n (by omega), ax_pa]
  · rw [f2 79 7 (by omega) (by omega), f1 79 7 (by omega) (by omega) (by omega)]; exact j4
  · rw [f3 90 34 (by omega) (by omega) (by omega)]; exact j5
  · rw [f3 89 i (by omega) (by omega) (by omega), f3 92 i (by omega) (by omega) (by omega)]; exact hr i hi
theorem image_v {N : ax_M} (h : jm M p r lw es t n v q) (hr : jf M) (hv : v < 3) (x1 : M1.2 = M.2) (x2 : ∀ m i, m ≠ 85 + v → ¬ (m = 88 ∧ i = v) → ¬ (m = 79 ∧ i = 7) → M1.1 m i = M.1 m i) (x3 : im_eq M1 (85 + v) M (p 0)) (x4 : M1.1 88 v = M.1 79 4) (x5 : M1.1 79 7 = nI (v + 1)) (x6 : xI M1 p r lw es) (b1 : im_0 (ax_pI M1 90 0 0) N (167 + v) 547) (b2 : M2 = ax_pI N 90 34 (nI (v + 1))) : M2.2 = M.2 ∧ jj M2 := by
  have ho := h.1.1.2.2.1
  have h0 := ho.1
  have hR := xk_b0 h.1.1.1
  have cR : p 0 = 5 ∨ p 0 = 23 := hR
  obtain ⟨d1, d2, d3, d4⟩ := b1
  have e2 : M2.2 = M.2 := by rw [b2]; show N.2 = _; rw [d1]; exact x1
  have f2 : ∀ m i, m ≠ 167 + v → ¬ (m = 90 ∧ (i = 0 ∨ i = 34 ∨ i = 35)) → M2.1 m i = M1.1 m i := fun m i z1 z2 => by rw [b2, ax_pn (by omega), d3 m i z1 (by omega), ax_pn (by omega)]
  have f3 : ∀ m i, m ≠ 167 + v → ¬ (m = 90 ∧ (i = 0 ∨ i = 34 ∨ i = 35)) → m ≠ 85 + v → ¬ (m = 88 ∧ i = v) → ¬ (m = 79 ∧ i = 7) → M2.1 m i = M.1 m i := fun m i z1 z2 z3 z4 z5 => (f2 m i z1 z2).trans (x2 m i z3 z4 z5)
  obtain ⟨c1, c2, c3, c4, c5⟩ := jp_rest (M2 := M2) h (fun m i z => f3 m i (by omega) (by omega) (by omega) (by omega) (by omega))
  obtain ⟨⟨j1, j2, j3⟩, j4, j5, j6, j7⟩ := h.2.2.2.2.2.2.2
  obtain ⟨i1, i2, i3, i4, i5, i6, i7, i8, i9, i10⟩ := x3
  have n20 := j3.1
  have row : ∀ j, j < 547 → M2.1 (167 + v) j = lv (ax_pI M1 90 0 0) j := fun j hj => by rw [b2, ax_pn (by omega)]; exact d4 j hj
  have w85 : ∀ i, M2.1 (85 + v) i = M1.1 (85 + v) i := fun i => f2 _ _ (by omega) (by omega)
  obtain ⟨⟨-, -, -, -, -, -, -, a7, a8⟩, g2, g3, -⟩ := h.1.1.2.1
  refine ⟨e2, jj_in (n := n) (v := v + 1) ⟨xI_g x6 (by rw [e2, x1]) (by rw [e2, x1]) (fun m i z => f2 m i (by omega) (by omega)), rr_fr h.2.1 (fun m i z => f3 m i (by omega) (by omega) (by omega) (by omega) (by omega)), c1, c2, c3, c4, c5, ⟨⟨?_, ?_, ch_fr j3 (fun w hw => ⟨f3 _ _ (by omega) (by omega) (by omega) (by omega) (by omega), f3 _ _ (by omega) (by omega) (by omega) (by omega) (by omega), f3 _ _ (by omega) (by omega) (by omega) (by omega) (by omega), f3 _ _ (by omega) (by omega) (by omega) (by omega) (by omega)⟩) (fun w j hw hj => f3 _ _ (by omega) (by omega) (by omega) (by omega) (by omega))⟩, ?_, ?_, by omega, fun u hu => ?_⟩⟩ (fun i hi => ?_)⟩
  · rw [f3 79 4 (by omega) (by omega) (by omega) (by omega) (by omega)]; exact j1
  · rw [f3 90 33 (by omega) (by omega) (by omega) (by omega) (by omega)]; exact j2
  · rw [f2 79 7 (by omega) (by omega)]; exact x5
  · rw [b2, ax_pa]
  · by_cases hu2 : u = v
    · subst hu2
      refine ⟨n, r, fun _ _ => rfl, ch_fr j3 (fun w hw => ⟨?_, ?_, ?_, ?_⟩) (fun w j hw hj => ?_), ?_, ?_, fun j hj => ?_, fun c hc => ⟨?_, ?_⟩, fun k hk => ⟨?_, ?_⟩, ?_, ?_⟩
      · show M2.1 (85 + u) (24 + w) = _; rw [w85]; exact i5 w (by omega)
      · show M2.1 (85 + u) (44 + w) = _; rw [w85]; exact i6 w (by omega)
      · show M2.1 (85 + u) (64 + w) = _; rw [w85]; exact i7 w (by omega)
      · show M2.1 (85 + u) (84 + w) = _; rw [w85]; exact i8 w (by omega)
      · show M2.1 (167 + u) (27 + 26 * w + j) = _
        rw [row _ (by omega), lv_b _ w j hj, ax_pn (by omega)]; exact x2 _ _ (by omega) (by omega) (by omega)
      · rw [f2 88 u (by omega) (by omega), x4]; exact j1
      · rw [row 0 (by omega)]; show (ax_pI M1 90 0 0).1 90 33 = _; rw [ax_pn (by omega), x2 90 33 (by omega) (by omega) (by omega)]; exact j2
      · rw [row _ (by omega), lv_s _ j hj, ax_pn (by omega), x2 100 j (by omega) (by omega) (by omega)]; exact h.2.1.2.1 j hj
      · rw [w85]; have := i1 c (by omega); rw [Nat.zero_add] at this; rw [this]; exact (g2 c hc).2.1
      · rw [w85, i2 c (by omega)]; exact (g2 c hc).2.2
      · rw [w85, i3 k (by omega)]; exact (g3 k hk).1
      · rw [w85, i4 k (by omega)]; exact (g3 k hk).2
      · rw [w85, i9]; exact a7
      · rw [w85, i10]; exact a8
    · have hu3 : u < v := by omega
      obtain ⟨n2, r2, a, b, c, d, e, f, g, h1, h2⟩ := j7 u hu3
      have ff : ∀ m i, (m = 85 + u ∨ (m = 88 ∧ i = u) ∨ m = 167 + u) → M2.1 m i = M.1 m i := fun m i z => f3 m i (by omega) (by omega) (by omega) (by omega) (by omega)
      exact ⟨n2, r2, a, ch_fr b (fun w _ => ⟨ff _ _ (by omega), ff _ _ (by omega), ff _ _ (by omega), ff _ _ (by omega)⟩) (fun w j _ _ => ff _ _ (by omega)), (ff _ _ (by omega)).trans c, (ff _ _ (by omega)).trans d, fun j hj => (ff _ _ (by omega)).trans (e j hj), fun k hk => ⟨(ff _ _ (by omega)).trans (f k hk).1, (ff _ _ (by omega)).trans (f k hk).2⟩, fun k hk => ⟨(ff _ _ (by omega)).trans (g k hk).1, (ff _ _ (by omega)).trans (g k hk).2⟩, (ff _ _ (by omega)).trans h1, (ff _ _ (by omega)).trans h2⟩
  · rw [f3 89 i (by omega) (by omega) (by omega) (by omega) (by omega), f3 92 i (by omega) (by omega) (by omega) (by omega) (by omega)]; exact hr i hi
theorem restore_v {n2 : Nat} {r2 : Nat → Int} (h : jm M p r lw es t n v q) (hr : jf M) (hv : 0 < v) (a1 : ∀ j, j < 10 ∨ 36 ≤ j → r2 j = r j) (a2 : ch_h (fun w => M.1 (84 + v) (24 + w)) (fun w => M.1 (84 + v) (44 + w)) (fun w => M.1 (84 + v) (64 + w)) (fun w => M.1 (84 + v) (84 + w)) (fun w j => M.1 (166 + v) (27 + 26 * w + j)) n2 r2) (a3 : M.1 88 (v - 1) = nI n2) (a4 : M.1 (166 + v) 0 = nI n2) (a5 : ∀ j, j < 26 → M.1 (166 + v) (1 + j) = iI (r2 (10 + j))) (x1 : M1.2 = M.2) (x2 : ∀ m i, ¬ (m = 79 ∧ (i = 4 ∨ i = 7)) → ¬ (80 ≤ m ∧ m ≤ 83) → ¬ (p 0 ≤ m ∧ m ≤ p 0 + 7) → ¬ (m = 1 ∧ (i = 7 ∨ i = 10)) → M1.1 m i = M.1 m i) (x3 : im_eq M (84 + v) M1 (p 0)) (x4 : M1.1 79 4 = M.1 88 (v - 1)) (x5 : M1.1 79 7 = nI (v - 1)) (x6 : xI M1 p r2 lw es) (b1 : im_1 (ax_pI (ax_pI M1 90 0 0) 90 34 (nI (v - 1))) M2 (166 + v) 547) : M2.2 = M.2 ∧ jj M2 := by
  have hR := xk_b0 h.1.1.1
  have cR : p 0 = 5 ∨ p 0 = 23 := hR
  obtain ⟨d1, d2, d3, d4⟩ := b1
  have e2 : M2.2 = M.2 := by rw [d1]; exact x1
  have hv3 := h.2.2.2.2.2.2.2.2.2.2.1
  have f2 : ∀ m i, ¬ (m = 90 ∧ (i = 0 ∨ i = 33 ∨ i = 34 ∨ i = 35)) → m ≠ 100 → ¬ (146 ≤ m ∧ m ≤ 165) → M2.1 m i = M1.1 m i := fun m i z1 z2 z3 => by rw [d3 m i (by omega) (by omega) (by omega), ax_pn (by omega), ax_pn (by omega)]
  have f3 : ∀ m i, ¬ (m = 90 ∧ (i = 0 ∨ i = 33 ∨ i = 34 ∨ i = 35)) → m ≠ 100 → ¬ (146 ≤ m ∧ m ≤ 165) → 83 < m ∨ m = 2 ∨ m = 3 → M2.1 m i = M.1 m i := fun m i z1 z2 z3 z4 => (f2 m i z1 z2 z3).trans (x2 m i (by omega) (by omega) (by omega) (by omega))
  obtain ⟨c1, c2, c3, c4, c5⟩ := jp_rest (M2 := M2) h (fun m i z => f3 m i (by omega) (by omega) (by omega) (by omega))
  obtain ⟨⟨j1, j2, j3⟩, j4, j5, j6, j7⟩ := h.2.2.2.2.2.2.2
  obtain ⟨i1, i2, i3, i4, i5, i6, i7, i8, i9, i10⟩ := x3
  have n20 := a2.1
  have row : ∀ j, j < 547 → lv M2 j = M.1 (166 + v) j := fun j hj => by rw [d4 j hj, ax_pn (by omega), ax_pn (by omega)]; exact x2 _ _ (by omega) (by omega) (by omega) (by omega)
  obtain ⟨r1, r2', r3, r4, r5⟩ := h.2.1
  refine ⟨e2, jj_in (n := n2) (v := v - 1) ⟨xI_g x6 (by rw [e2, x1]) (by rw [e2, x1]) (fun m i z => f2 m i (by omega) (by omega) (by omega)), ⟨fun j hj => ?_, fun j hj => ?_, fun j hj => ?_, fun j hj => ?_, fun j hj => ?_⟩, c1, c2, c3, c4, c5, ⟨⟨?_, ?_, ch_fr a2 (fun w hw => ⟨?_, ?_, ?_, ?_⟩) (fun w j hw hj => ?_)⟩, ?_, ?_, by omega, fun u hu => im_r (im_fr (by omega) (j7 u (by omega)) (fun m i z => f3 m i (by omega) (by omega) (by omega) (by omega))) a1⟩⟩ (fun i hi => ?_)⟩
  · rw [f3 94 j (by omega) (by omega) (by omega) (by omega), a1 j (by omega)]; exact r1 j hj
  · have := row (1 + j) (by omega)
    rw [lv_s _ j hj] at this
    rw [this]; exact a5 j hj
  · rw [f3 96 j (by omega) (by omega) (by omega) (by omega), a1 (40 + j) (by omega)]; exact r3 j hj
  · rw [f3 98 j (by omega) (by omega) (by omega) (by omega), a1 (50 + j) (by omega)]; exact r4 j hj
  · rw [f3 _ 0 (by omega) (by omega) (by omega) (by omega), f3 _ 1 (by omega) (by omega) (by omega) (by omega), a1 (60 + 2 * j) (by omega), a1 (61 + 2 * j) (by omega)]; exact r5 j hj
  · rw [f2 79 4 (by omega) (by omega) (by omega), x4]; exact a3
  · have := row 0 (by omega)
    rw [a4] at this
    exact this
  · rw [f2 80 w (by omega) (by omega) (by omega)]; exact (i5 w (by omega)).symm
  · rw [f2 81 w (by omega) (by omega) (by omega)]; exact (i6 w (by omega)).symm
  · rw [f2 82 w (by omega) (by omega) (by omega)]; exact (i7 w (by omega)).symm
  · rw [f2 83 w (by omega) (by omega) (by omega)]; exact (i8 w (by omega)).symm
  · have := row (27 + 26 * w + j) (by omega)
    rw [lv_b _ w j hj] at this
    exact this
  · rw [f2 79 7 (by omega) (by omega) (by omega)]; exact x5
  · rw [d3 90 34 (by omega) (by omega) (by omega), ax_pa]
  · rw [f3 89 i (by omega) (by omega) (by omega) (by omega), f3 92 i (by omega) (by omega) (by omega) (by omega)]; exact hr i hi
end JP

