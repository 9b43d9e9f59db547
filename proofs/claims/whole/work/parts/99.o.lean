/-! ===== texts taken by both ===== -/
section JT
variable {M M0 M1 M2 : ax_M} {p : Nat → Nat} {r : Nat → Int} {lw : mt_L} {es : List (Nat × Nat)} {t n v : Nat} {q : Nat → Int}
theorem txB_j (h : jt M t) (x : Int32) : txB M (tx_tb M x.toNatClampNeg) t x := by
  intro z hx hz
  have h6 := h.2.2.1
  subst hx
  rw [nI_clamp (by omega)]
  refine ⟨tx_tb_ok (by omega), fun i hi => ?_⟩
  unfold tx_tb
  rw [if_pos ((nI_ltI (by omega) (by omega)).mpr hi)]
  exact h.2.2.2 i (by omega)
theorem tx_tb_eq {z : Nat} (h : ∀ i, M1.1 91 i = M.1 91 i) : tx_tb M1 z = tx_tb M z := by
  funext i
  unfold tx_tb
  rw [h i]
theorem ml_law_f1 {w : Nat} {c : Option (List (Int32 × Int32))} (h : ml_law M w c) (e1 : M2.1 111 w = M.1 111 w) (e2 : ∀ i, M2.1 (113 + w) i = M.1 (113 + w) i) : ml_law M2 w c := by
  cases c with
  | none => exact e1.trans h
  | some cs => exact ⟨h.1, e1.trans h.2.1, fun j q hj => ⟨(e2 _).trans (h.2.2 j q hj).1, (e2 _).trans (h.2.2 j q hj).2⟩⟩
/-- what no text but a road's touches -/
theorem jt_rest (h : jm M p r lw es t n v q) (hf : ∀ m i, (79 ≤ m ∧ m ≤ 88) ∨ (m = 90 ∧ (i = 33 ∨ i = 34)) ∨ (93 ≤ m ∧ m ≤ 110) ∨ (145 ≤ m ∧ m ≤ 169) → M2.1 m i = M.1 m i) : rr M2 r ∧ (rp M2 q ∧ rd_ok q) ∧ jc M2 r n v := ⟨rr_fr h.2.1 (fun m i z => hf m i (by omega)), ⟨rp_fr h.2.2.2.2.2.2.1.1 (fun m i z => hf m i (by omega)), h.2.2.2.2.2.2.1.2⟩, jc_fr h.2.2.2.2.2.2.2 (fun m i z => hf m i (by omega))⟩
theorem mb_es {es2 : List (Nat × Nat)} {K : Nat} {M9 : ax_M} (hx : xbk M9 K es2) (h1 : M2.1 90 32 = nI es2.length) (h2 : ∀ k q, es2[k]? = some q → M2.1 (120 + k) 0 = nI q.1 ∧ M2.1 (120 + k) 1 = nI q.2) : mb M2 es2.length (bkE es2) := by
  refine ⟨h1, hx.2.1, fun k hk => ?_⟩
  have e : es2[k]? = some es2[k] := List.getElem?_eq_getElem hk
  have e2 : es2.getD k (0, 0) = es2[k] := by rw [List.getD_eq_getElem?_getD, e]; rfl
  obtain ⟨a, b⟩ := h2 k _ e
  have c := (hx.2.2 k _ e).1
  unfold bkE
  rw [e2]
  exact ⟨a, c, b⟩
theorem book_v {z : Nat} {vv : ax_V} {o : ax_O} (h : jm M p r lw es t n v q) (hr : jf M) (hx : xbo M M0 (tx_tb M z) p r lw es z (.inl (some vv))) (s : sm M0 M1) (hb : bk_out (ax_pI M1 90 0 0) M2 o (bk_text (tx_tb M1 z) z)) : (∃ u, vv = av_i u ∧ o = .inl (some (av_i u))) ∧ M2.1 90 0 = 0 ∧ M2.2 = M1.2 ∧ jj M2 := by
  obtain ⟨x1, x2, x3, x4, x5⟩ := hx
  have e1 : ∀ m i, ¬ qs m i → m ≠ 2 → ¬ (34 ≤ m ∧ m ≤ 39) → M1.1 m i = M.1 m i := fun m i a b c => by rw [s.1]; exact x3 m i a b c
  rw [tx_tb_eq (fun i => e1 91 i (by unfold qs fs; omega) (by omega) (by omega))] at hb
  obtain ⟨b1, b2, b3, b4⟩ := hb
  have b12 : M2.2 = M1.2 := b1
  have e2 : ∀ m i, ¬ (m = 90 ∧ (i ≤ 8 ∨ i = 32)) → ¬ (120 ≤ m ∧ m ≤ 144) → M2.1 m i = M1.1 m i := fun m i a b => by rw [b3 m i (by omega) b, ax_pn (by omega)]
  have e0 : M2.1 90 0 = 0 := by rw [b3 90 0 (by omega) (by omega), ax_pa]
  have e3 : ∀ m i, (79 ≤ m ∧ m ≤ 89) ∨ (m = 90 ∧ (i = 33 ∨ i = 34)) ∨ (92 ≤ m ∧ m ≤ 115) ∨ (145 ≤ m ∧ m ≤ 169) → M2.1 m i = M.1 m i := fun m i z => (e2 m i (by omega) (by omega)).trans (e1 m i (by unfold qs fs; omega) (by omega) (by omega))
  obtain ⟨c1, c2, c3⟩ := jt_rest h (fun m i z => e3 m i (by omega))
  have cl : ∀ w, w < 3 → ml_law M2 w (lw w) := fun w hw => ml_law_fr (h.2.2.1 w hw) (fun m i z => e3 m i (by omega))
  have cf : jf M2 := fun i hi => by rw [e3 89 i (by omega), e3 92 i (by omega)]; exact hr i hi
  have ct : jt M2 0 := ⟨by rw [e2 2 1 (by omega) (by omega), s.1]; exact x1, b2, by omega, fun i hi => by omega⟩
  have xi2 : ∀ p2 es2, xI M0 p2 r lw es2 → xI M2 p2 r lw es2 := fun p2 es2 hI => xI_g hI (by rw [b12]; exact s.2.1) (by rw [b12]; exact s.2.2) (fun m i z => by rw [e2 m i (by omega) (by omega), s.1])
  have g28 : M2.1 2 8 = M0.1 2 8 := by rw [e2 2 8 (by omega) (by omega), s.1]
  have g := x2.2.2
  cases hy : (bk_text (tx_tb M z) z).1.2 with
  | none =>
    rw [if_pos hy] at x5
    rw [hy] at b4 g
    obtain ⟨d1, d2, d3, d4, d5⟩ := b4
    obtain ⟨y1, y2⟩ := x5
    cases y1
    exact ⟨⟨_, rfl, d1⟩, e0, b12, jj_in ⟨xi2 _ _ y2, c1, cl, mb_es y2.1.2.2.2.2 d4 d5, ct, by rw [g28, d2]; exact g.2.2, c2, c3⟩ cf⟩
  | some e =>
    rw [if_neg (by rw [hy]; exact fun z => by cases z)] at x5
    rw [hy] at b4 g
    obtain ⟨d1, d2, d3, d4⟩ := b4
    obtain ⟨y1, y2⟩ := x5
    cases y1
    have cm : mb M2 es.length (bkE es) := mb_fr h.2.2.2.1 (fun m i z => by
      by_cases hm : m = 90
      · rw [hm, show i = 32 by omega, d3, ax_pn (by omega)]; exact e1 90 32 (by unfold qs fs; omega) (by omega) (by omega)
      · rw [d4 m i (by omega) (by omega), ax_pn (by omega)]; exact e1 m i (by unfold qs fs; omega) (by omega) (by omega))
    exact ⟨⟨_, rfl, by rw [g.1]; exact d1⟩, e0, b12, jj_in ⟨xi2 _ _ y2, c1, cl, cm, ct, by rw [g28, d2]; exact g.2, c2, c3⟩ cf⟩
theorem law_v {z w : Nat} (hw : w < 3) (hz : z ≤ 150) {vv : ax_V} {o : ax_O} (h : jm M p r lw es t n v q) (hr : jf M) (hx : xlo M M0 (tx_tb M z) p r lw es z w (.inl (some vv))) (s : sm M0 M1) (hb : rd_out (ax_pI M1 90 0 0) M2 w o (ps_text (tx_tb M1 z) z)) : (∃ u, vv = av_i u ∧ o = .inl (some (av_i u))) ∧ M2.1 90 0 = 0 ∧ M2.2 = M1.2 ∧ jj M2 := by
  obtain ⟨x1, x3, x4, x5⟩ := hx
  have e1 : ∀ m i, ¬ qs m i → m ≠ 2 → ¬ (13 ≤ m ∧ m ≤ 33) → M1.1 m i = M.1 m i := fun m i a b c => by rw [s.1]; exact x3 m i a b c
  rw [tx_tb_eq (fun i => e1 91 i (by unfold qs fs; omega) (by omega) (by omega))] at hb
  obtain ⟨b1, b2, b3, b4⟩ := hb
  have b12 : M2.2 = M1.2 := b1
  have e2 : ∀ m i, ¬ (m = 90 ∧ (i ≤ 8 ∨ i = 23)) → m ≠ 116 → ¬ (m = 111 ∧ i = w) → m ≠ 113 + w → M2.1 m i = M1.1 m i := fun m i a b c d => by rw [b3 m i (by omega) b c d, ax_pn (by omega)]
  have e0 : M2.1 90 0 = 0 := by rw [b3 90 0 (by omega) (by omega) (by omega) (by omega), ax_pa]
  have e3 : ∀ m i, (79 ≤ m ∧ m ≤ 89) ∨ (m = 90 ∧ (i = 32 ∨ i = 33 ∨ i = 34)) ∨ (92 ≤ m ∧ m ≤ 110) ∨ (120 ≤ m ∧ m ≤ 169) → M2.1 m i = M.1 m i := fun m i z => (e2 m i (by omega) (by omega) (by omega) (by omega)).trans (e1 m i (by unfold qs fs; omega) (by omega) (by omega))
  obtain ⟨c1, c2, c3⟩ := jt_rest h (fun m i z => e3 m i (by omega))
  have cm : mb M2 es.length (bkE es) := mb_fr h.2.2.2.1 (fun m i z => e3 m i (by omega))
  have cf : jf M2 := fun i hi => by rw [e3 89 i (by omega), e3 92 i (by omega)]; exact hr i hi
  have ct : jt M2 0 := ⟨by rw [e2 2 1 (by omega) (by omega) (by omega) (by omega), s.1]; exact x1, b2, by omega, fun i hi => by omega⟩
  have xi2 : ∀ p2 lw2, xI M0 p2 r lw2 es → xI M2 p2 r lw2 es := fun p2 lw2 hI => xI_g hI (by rw [b12]; exact s.2.1) (by rw [b12]; exact s.2.2) (fun m i z => by rw [e2 m i (by omega) (by omega) (by omega) (by omega), s.1])
  have g28 : M2.1 2 8 = M0.1 2 8 := by rw [e2 2 8 (by omega) (by omega) (by omega) (by omega), s.1]
  have ot : ∀ w2, w2 < 3 → w2 ≠ w → ml_law M2 w2 (lw w2) := fun w2 h2 hne => ml_law_f1 (h.2.2.1 w2 h2) ((e2 _ _ (by omega) (by omega) (by omega) (by omega)).trans (e1 _ _ (by unfold qs fs; omega) (by omega) (by omega))) (fun i => (e2 _ _ (by omega) (by omega) (by omega) (by omega)).trans (e1 _ _ (by unfold qs fs; omega) (by omega) (by omega)))
  cases hy : ps_text (tx_tb M z) z with
  | inl e =>
    rw [hy] at x5 b4
    obtain ⟨y1, y2, y3⟩ := x5
    obtain ⟨d1, d2, d3, d4⟩ := b4
    cases y1
    refine ⟨⟨_, rfl, d1⟩, e0, b12, jj_in ⟨xi2 _ _ y3, c1, fun w2 h2 => ?_, cm, ct, by rw [g28, d2]; exact y2, c2, c3⟩ cf⟩
    by_cases hne : w2 = w
    · subst hne
      exact ml_law_f1 (h.2.2.1 w2 h2) (by rw [d3, ax_pn (by omega)]; exact e1 _ _ (by unfold qs fs; omega) (by omega) (by omega)) (fun i => by rw [d4 i, ax_pn (by omega)]; exact e1 _ _ (by unfold qs fs; omega) (by omega) (by omega))
    · exact ot w2 h2 hne
  | inr cs =>
    rw [hy] at x5 b4
    obtain ⟨y1, y2, y3⟩ := x5
    obtain ⟨d1, d2, d3, d4⟩ := b4
    cases y1
    refine ⟨⟨_, rfl, d1⟩, e0, b12, jj_in ⟨xi2 _ _ y3, c1, fun w2 h2 => ?_, cm, ct, by rw [g28, d2]; exact y2, c2, c3⟩ cf⟩
    unfold lwu
    by_cases hne : w2 = w
    · subst hne
      rw [if_pos rfl]
      exact ⟨ev_text (tx_tb_ok (by omega)) hz hy, d3, d4⟩
    · rw [if_neg hne]; exact ot w2 h2 hne
theorem road_v {z : Nat} {vv : ax_V} {o : ax_O} (h : jm M p r lw es t n v q) (hr : jf M) (hx : xro M M0 (tx_tb M z) p r lw es z q (.inl (some vv))) (s : sm M0 M1) (hb : ro_out (ax_pI M1 90 0 0) M2 o (rd_text (tx_tb M1 z) z (qt q))) : (∃ u, vv = av_i u ∧ o = .inl (some (av_i u))) ∧ M2.1 90 0 = 0 ∧ M2.2 = M1.2 ∧ jj M2 := by
  obtain ⟨x1, x4, x5⟩ := hx
  have e91 : ∀ m i, (85 ≤ m ∧ m ≤ 89) ∨ 90 ≤ m → M1.1 m i = M.1 m i := fun m i z => by
    rw [s.1]
    cases hy : (rd_text (tx_tb M _) _ (qt q)).1.2 with
    | none => rw [hy] at x5; exact x5.2.2.2.2.2 m i (by unfold qs fs; omega) (by omega) (by omega) (by omega)
    | some e => rw [hy] at x5; exact x5.2.2.2 m i (by omega) (by omega)
  rw [tx_tb_eq (fun i => e91 91 i (by omega))] at hb
  obtain ⟨b1, b2, ⟨q2, b5, b6⟩, b3, b4⟩ := hb
  have b12 : M2.2 = M1.2 := b1
  have e2 : ∀ m i, ¬ (m = 90 ∧ (i ≤ 8 ∨ i = 21 ∨ i = 32 ∨ i = 33 ∨ i = 34)) → ¬ (93 ≤ m ∧ m ≤ 111) → M2.1 m i = M1.1 m i := fun m i a b => by rw [b3 m i (by omega) b, ax_pn (by omega)]
  have e0 : M2.1 90 0 = 0 := by rw [b3 90 0 (by omega) (by omega), ax_pa]
  have e3 : ∀ m i, (85 ≤ m ∧ m ≤ 89) ∨ m = 92 ∨ (112 ≤ m ∧ m ≤ 169) → M2.1 m i = M.1 m i := fun m i z => (e2 m i (by omega) (by omega)).trans (e91 m i (by omega))
  have cf : jf M2 := fun i hi => by rw [e3 89 i (by omega), e3 92 i (by omega)]; exact hr i hi
  have ct : jt M2 0 := ⟨by rw [e2 2 1 (by omega) (by omega), s.1]; exact x1, b2, by omega, fun i hi => by omega⟩
  have xi2 : ∀ p2 r2 lw2 es2, xI M0 p2 r2 lw2 es2 → xI M2 p2 r2 lw2 es2 := fun p2 r2 lw2 es2 hI => xI_g hI (by rw [b12]; exact s.2.1) (by rw [b12]; exact s.2.2) (fun m i z => by rw [e2 m i (by omega) (by omega), s.1])
  have g28 : M2.1 2 8 = M0.1 2 8 := by rw [e2 2 8 (by omega) (by omega), s.1]
  cases hy : (rd_text (tx_tb M z) z (qt q)).1.2 with
  | none =>
    rw [hy] at x5 b4
    obtain ⟨y1, y2, y3, y4, y5, y6⟩ := x5
    obtain ⟨d1, d2, d3, d4, d5, d6, d7, d8⟩ := b4
    cases y1
    have ho := y3.1.2.2.1
    refine ⟨⟨_, rfl, d1⟩, e0, b12, jj_in (t := 0) (n := 0) (v := 0) ⟨xi2 _ _ _ _ y3, d3, fun w hw => d8 w hw, ⟨d5, Nat.zero_le _, fun k hk => by cases hk⟩, ct, by rw [g28, d2]; exact y2, ⟨b5, b6⟩, ⟨⟨?_, d6, Nat.zero_le _, fun _ => (rd_text (tx_tb M z) z (qt q)).2, rfl, fun w hw => ho, fun w hw => by omega⟩, ?_, d7, by omega, fun u hu => by omega⟩⟩ cf⟩
    · rw [e2 79 4 (by omega) (by omega), s.1]; exact y4
    · rw [e2 79 7 (by omega) (by omega), s.1]; exact y5
  | some e =>
    rw [hy] at x5 b4
    obtain ⟨y1, y2, y3, y4⟩ := x5
    obtain ⟨d1, d2, d3, d4⟩ := b4
    cases y1
    have f1 : ∀ m i, 34 ≤ m → M1.1 m i = M.1 m i := fun m i z => by rw [s.1]; exact y4 m i (by omega) (by omega)
    have f2 : ∀ m i, (79 ≤ m ∧ m ≤ 88) ∨ (m = 90 ∧ (i = 32 ∨ i = 33 ∨ i = 34)) ∨ m = 94 ∨ m = 96 ∨ m = 98 ∨ m = 100 ∨ (107 ≤ m ∧ m ≤ 169) → M2.1 m i = M.1 m i := fun m i z => by
      by_cases h1 : m = 90
      · rw [h1, d3 i (by omega) (by omega), ax_pn (by omega)]; exact f1 90 i (by omega)
      · by_cases h2 : 93 ≤ m ∧ m ≤ 111
        · rw [d4 m i (by omega), ax_pn (by omega)]; exact f1 m i (by omega)
        · rw [e2 m i (by omega) h2]; exact f1 m i (by omega)
    exact ⟨⟨_, rfl, d1⟩, e0, b12, jj_in ⟨xi2 _ _ _ _ y3, rr_fr h.2.1 (fun m i z => f2 m i (by omega)), fun w hw => ml_law_fr (h.2.2.1 w hw) (fun m i z => f2 m i (by omega)), mb_fr h.2.2.2.1 (fun m i z => f2 m i (by omega)), ct, by rw [g28, d2]; exact y2, ⟨b5, b6⟩, jc_fr h.2.2.2.2.2.2.2 (fun m i z => f2 m i (by omega))⟩ cf⟩
/-- a refusal beside mk_bad -/
theorem bad_v {w k : Nat} (hk : k < 3) (h : jm M p r lw es t n v q) (hr : jf M) (x : xre M M1 k) (hb : M2 = mk_bad (ax_pI M1 90 0 0) (nI w) k) : M2.1 90 0 = nI w ∧ M2.2 = M1.2 ∧ jj M2 := by
  obtain ⟨J, R⟩ := ask_1e h hr x
  have hq : rq M1 M2 (.inl (some (av_i 0))) (.inr (w, k)) := by rw [hb]; exact rq_bad rfl rfl rfl
  obtain ⟨-, e2, e3, J2⟩ := ask_2e J R hq
  exact ⟨e2, e3, J2⟩
theorem feed_v {f : Nat → Int32} (h : jm M p r lw es t n v q) (hr : jf M) (ht : t + 20 ≤ 600) (hx : xfd M M1 t 20 f) (hb : fd_o (ax_pI M1 90 0 0) M2 t 20 f) : M2.2 = M.2 ∧ jj M2 := by
  obtain ⟨x1, x2, x3, x4⟩ := hx
  obtain ⟨b1, b2, b3, b4⟩ := hb
  have b12 : M2.2 = M.2 := b1.trans x1
  have e : ∀ m i, ¬ (m = 2 ∧ i = 1) → m ≠ 3 → ¬ (m = 90 ∧ i ≤ 1) → m ≠ 91 → M2.1 m i = M.1 m i := fun m i a b c d => by rw [b4 m i (by omega) (by omega), ax_pn (by omega)]; exact x4 m i a (by omega)
  obtain ⟨h1, h2, h3, h4, ⟨d1, d2, d3, d4⟩, h6, h7, h8⟩ := h
  refine ⟨b12, jj_in (p := p) (t := t + 20) ⟨?_, rr_fr h2 (fun m i z => e m i (by omega) (by omega) (by omega) (by omega)), fun w hw => ml_law_fr (h3 w hw) (fun m i z => e m i (by omega) (by omega) (by omega) (by omega)), mb_fr h4 (fun m i z => e m i (by omega) (by omega) (by omega) (by omega)), ⟨?_, b2, ht, fun i hi => ?_⟩, ?_, ⟨rp_fr h7.1 (fun m i z => e m i (by omega) (by omega) (by omega) (by omega)), h7.2⟩, jc_fr h8 (fun m i z => e m i (by omega) (by omega) (by omega) (by omega))⟩ (fun i hi => ?_)⟩
  · obtain ⟨⟨t1, t2, t3, t4, t5⟩, g2, g3, g4⟩ := h1
    have hp := t1.2.1
    have p0 := hp.1
    have p6 := hp.2.1
    have f : ∀ m i, m ≠ 2 → m ≠ 3 → m < 79 → M2.1 m i = M.1 m i := fun m i a b c => e m i (by omega) b (by omega) (by omega)
    refine ⟨⟨by rw [b12]; exact t1, xr_fr t2 (fun m i a b => f m i (by omega) (by omega) (by omega)), t3, xlw_fr hp t4 (fun m i a _ _ => f m i (by omega) (by omega) (by omega)), xbk_fr t5 (fun m i a => f m i (by omega) (by omega) (by omega))⟩, ⟨xw_fr g2.1 (fun m i z => f m i (by omega) (by omega) (by omega)), xw_fr g2.2 (fun m i z => f m i (by omega) (by omega) (by omega))⟩, ?_, xD_fr g4 (f _ _ (by omega) (by omega) (by omega)) (fun m i z => f m i (by omega) (by omega) (by omega))⟩
    rcases g3 with g3 | ⟨g3, g5⟩
    · exact Or.inl ((f 1 7 (by omega) (by omega) (by omega)).trans g3)
    · exact Or.inr ⟨(f 1 7 (by omega) (by omega) (by omega)).trans g3, xmt_fr g5 (fun m i z => f m i (by omega) (by omega) (by omega))⟩
  · rw [b4 2 1 (by omega) (by omega), ax_pn (by omega)]; exact x2
  · by_cases hi2 : i < t
    · rw [b4 3 i (by omega) (by omega), ax_pn (by omega), x4 3 i (by omega) (by omega), b4 91 i (by omega) (by omega), ax_pn (by omega), x4 91 i (by omega) (by omega)]
      exact d4 i hi2
    · obtain ⟨k, rfl⟩ : ∃ k, i = t + k := ⟨i - t, by omega⟩
      rw [b4 3 _ (by omega) (by omega), ax_pn (by omega), x3 k (by omega), b3 k (by omega)]
  · rw [e 2 8 (by omega) (by omega) (by omega) (by omega), e 90 3 (by omega) (by omega) (by omega) (by omega)]; exact h6
  · rw [e 89 i (by omega) (by omega) (by omega) (by omega), e 92 i (by omega) (by omega) (by omega) (by omega)]; exact hr i hi
end JT

