/-! ===== what the other calls of the class leave, for the law ===== -/
section SS
variable {M M0 M1 M2 : ax_M} {B : Nat → Int32} {p : Nat → Nat} {r : Nat → Int} {lw : mt_L} {es : List (Nat × Nat)} {t n v z : Nat} {q : Nat → Int}
theorem xro_x {E : String} : ¬ xro M M1 B p r lw es z q (.inr E) := by
  rintro ⟨-, -, h⟩
  cases hy : (rd_text B z (qt q)).1.2 with
  | none => rw [hy] at h; cases h.1
  | some e => rw [hy] at h; cases h.1
theorem xro_i {r9 : Option ax_V} (h : xro M M1 B p r lw es z q (.inl r9)) : (∃ u, r9 = some (av_i u)) ∧ M1.2.2 = M.2.2 ∧ lo_ok M1.2 := by
  obtain ⟨-, h2, h⟩ := h
  cases hy : (rd_text B z (qt q)).1.2 with
  | none => rw [hy] at h; exact ⟨⟨_, Sum.inl.inj h.1⟩, h2, h.2.2.1.1.1.1⟩
  | some e => rw [hy] at h; exact ⟨⟨_, Sum.inl.inj h.1⟩, h2, h.2.2.1.1.1.1⟩
theorem xlo_x {w : Nat} {E : String} : ¬ xlo M M1 B p r lw es z w (.inr E) := by
  rintro ⟨-, -, -, h⟩
  cases hy : ps_text B z with
  | inl e => rw [hy] at h; cases h.1
  | inr e => rw [hy] at h; cases h.1
theorem xlo_i {w : Nat} {r9 : Option ax_V} (h : xlo M M1 B p r lw es z w (.inl r9)) : (∃ u, r9 = some (av_i u)) ∧ M1.2.2 = M.2.2 ∧ lo_ok M1.2 := by
  obtain ⟨-, -, h2, h⟩ := h
  cases hy : ps_text B z with
  | inl e => rw [hy] at h; exact ⟨⟨_, Sum.inl.inj h.1⟩, h2, h.2.2.1.1.1⟩
  | inr e => rw [hy] at h; exact ⟨⟨_, Sum.inl.inj h.1⟩, h2, h.2.2.1.1.1⟩
theorem xbo_x {E : String} : ¬ xbo M M1 B p r lw es z (.inr E) := by
  rintro ⟨-, -, -, -, h⟩
  by_cases hy : (bk_text B z).1.2 = none
  · rw [if_pos hy] at h; cases h.1
  · rw [if_neg hy] at h; cases h.1
theorem xbo_i {r9 : Option ax_V} (h : xbo M M1 B p r lw es z (.inl r9)) : (∃ u, r9 = some (av_i u)) ∧ M1.2.2 = M.2.2 ∧ lo_ok M1.2 := by
  obtain ⟨-, -, -, h2, h⟩ := h
  by_cases hy : (bk_text B z).1.2 = none
  · rw [if_pos hy] at h; exact ⟨⟨_, Sum.inl.inj h.1⟩, h2, h.2.1.1.1⟩
  · rw [if_neg hy] at h; exact ⟨⟨_, Sum.inl.inj h.1⟩, h2, h.2.1.1.1⟩
theorem xch_x {k c : Nat} {a b : Int} {E : String} : ¬ xch M M1 p r lw es n k c a b (.inr E) := by
  rintro (⟨-, h, -⟩ | ⟨-, h, -⟩) <;> cases h
theorem xch_i {k c : Nat} {a b : Int} {r9 : Option ax_V} (hI : xI M p r lw es) (h : xch M M1 p r lw es n k c a b (.inl r9)) : (∃ u, r9 = some (av_i u)) ∧ lo_ok M1.2 := by
  rcases h with ⟨-, h, e⟩ | ⟨-, h, -, e⟩
  · exact ⟨⟨_, Sum.inl.inj h⟩, by rw [e]; exact hI.1.1.1⟩
  · exact ⟨⟨_, Sum.inl.inj h⟩, e.1.1.1⟩
theorem lo_sm (h : lo_ok M0.2) (s : sm M0 M1) : lo_ok M1.2 := ⟨fun n x hx => by rw [show M1.2.2.2.1 = M0.2.2.2.1 from s.2.2]; exact h.1 n x hx, fun q hq => by rw [show M1.2.1 = M0.2.1 from s.2.1]; exact h.2 q hq⟩
theorem xro_r {r9 : Option ax_V} (h : jm M p r lw es t n v q) (hx : xro M M0 B p r lw es z q (.inl r9)) (s : sm M0 M1) : M1.1 90 1 = nI t ∧ rp M1 q := by
  obtain ⟨-, -, x5⟩ := hx
  have e91 : ∀ m i, (85 ≤ m ∧ m ≤ 89) ∨ 90 ≤ m → M1.1 m i = M.1 m i := fun m i z => by
    rw [s.1]
    cases hy : (rd_text B _ (qt q)).1.2 with
    | none => rw [hy] at x5; exact x5.2.2.2.2.2 m i (by unfold qs fs; omega) (by omega) (by omega) (by omega)
    | some e => rw [hy] at x5; exact x5.2.2.2 m i (by omega) (by omega)
  exact ⟨(e91 90 1 (by omega)).trans h.2.2.2.2.1.2.1, rp_fr h.2.2.2.2.2.2.1.1 (fun m i z => e91 m i (by omega))⟩
theorem xlo_r {w : Nat} {r9 : Option ax_V} (h : jm M p r lw es t n v q) (hx : xlo M M0 B p r lw es z w (.inl r9)) (s : sm M0 M1) : M1.1 90 1 = nI t := by
  rw [s.1, hx.2.1 90 1 (by unfold qs fs; omega) (by omega) (by omega)]; exact h.2.2.2.2.1.2.1
theorem xbo_r {r9 : Option ax_V} (h : jm M p r lw es t n v q) (hx : xbo M M0 B p r lw es z (.inl r9)) (s : sm M0 M1) : M1.1 90 1 = nI t := by
  rw [s.1, hx.2.2.1 90 1 (by unfold qs fs; omega) (by omega) (by omega)]; exact h.2.2.2.2.1.2.1
theorem nI_un {a b : Nat} (ha : a ≤ 100000) (hb : b ≤ 100000) (h : nI a = nI b) : a = b := (nI_eq (by omega) (by omega)).mp h
theorem jj_p0 (h : jm M p r lw es t n v q) (hr : jf M) : jj (ax_pI M 90 0 0) := by
  have e : ∀ m i, ¬ (m = 90 ∧ i = 0) → (ax_pI M 90 0 0).1 m i = M.1 m i := fun m i z => ax_pn z
  refine jj_in (jm_x h (xI_g h.1 rfl rfl (fun m i z => e m i (by omega))) (fun m i _ _ z _ _ => e m i z)) (fun i hi => ?_)
  rw [e 89 i (by omega), e 92 i (by omega)]; exact hr i hi
theorem rz_nx9 {E : String} {x : (ax_V × ax_M) ⊕ (Nat × Nat)} : ¬ rz M M2 (.inr E) x := by
  intro h
  cases x with
  | inl v => cases h.1
  | inr w => obtain ⟨⟨u, h⟩, -⟩ := h; cases h
/-- how a text's call ends: taken, or refused -/
def tq (g : Prop) (X : ax_O → ax_M → Prop) (M : ax_M) : ax_O → ax_M → Prop := fun o M2 => (g ∧ X o M2) ∨ (¬ g ∧ o = .inr (cz_n 1) ∧ xre M M2 1)
theorem qw_t {g : Prop} {X : ax_O → ax_M → Prop} {r9 : Option ax_V} (hX : ∀ E M2, ¬ X (.inr E) M2) (h : qw [(1, 1)] (tq g X M) (.inl r9) M1) : (g ∧ r9 = some (av_i 0) ∧ ∃ vv M0, X (.inl (some vv)) M0 ∧ M1 = ax_pL M0 432 0 (lv64 vv)) ∨ (¬ g ∧ r9 = some (av_i 1) ∧ xre M M1 1) := by
  rcases h with ⟨vv, M0, h1, h2, h3⟩ | ⟨k, w, h1, h2, h3⟩
  · rcases h1 with ⟨g1, g2⟩ | ⟨-, g2, -⟩
    · exact Or.inl ⟨g1, Sum.inl.inj h3, vv, M0, g2, h2⟩
    · cases g2
  · cases List.mem_singleton.mp h1
    rcases h2 with ⟨g1, g2⟩ | ⟨g1, g2, g3⟩
    · exact absurd g2 (hX _ _)
    · exact Or.inr ⟨g1, Sum.inl.inj h3, g3⟩
theorem tq_hv {g : Prop} {X : ax_O → ax_M → Prop} (hI : ∀ r9 M1, g → X (.inl r9) M1 → (∃ u, r9 = some (av_i u)) ∧ lo_ok M1.2) : ∀ r9 M1, tq g X M (.inl r9) M1 → (∃ u, r9 = some (av_i u)) ∧ M1.2.2.2.1 432 = some (.inl (1, 1)) := by
  intro r9 M1 h
  rcases h with ⟨g1, g2⟩ | ⟨-, g2, -⟩
  · obtain ⟨a, b⟩ := hI r9 M1 g1 g2
    exact ⟨a, lo_s b 432 rfl⟩
  · cases g2
theorem tq_hx {g : Prop} {X : ax_O → ax_M → Prop} (hX : ∀ E M2, ¬ X (.inr E) M2) : ∀ E M1, tq g X M (.inr E) M1 → ∃ k w, (k, w) ∈ ([(1, 1)] : List (Nat × Nat)) ∧ E = cz_n k := by
  intro E M1 h
  rcases h with ⟨-, g2⟩ | ⟨-, g2, -⟩
  · exact absurd g2 (hX _ _)
  · exact ⟨1, 1, by decide, Sum.inr.inj g2⟩
/-- refusals of two kinds -/
def tq2 (g1 g2 : Prop) (X : ax_O → ax_M → Prop) (M : ax_M) : ax_O → ax_M → Prop := fun o M2 => (g1 ∧ g2 ∧ X o M2) ∨ (¬ g1 ∧ o = .inr (cz_n 0) ∧ xre M M2 0) ∨ (g1 ∧ ¬ g2 ∧ o = .inr (cz_n 1) ∧ xre M M2 1)
theorem qw_t2 {g1 g2 : Prop} {X : ax_O → ax_M → Prop} {r9 : Option ax_V} (hX : ∀ E M2, ¬ X (.inr E) M2) (h : qw [(0, 1), (1, 2)] (tq2 g1 g2 X M) (.inl r9) M1) : (g1 ∧ g2 ∧ r9 = some (av_i 0) ∧ ∃ vv M0, X (.inl (some vv)) M0 ∧ M1 = ax_pL M0 432 0 (lv64 vv)) ∨ (¬ g1 ∧ r9 = some (av_i 1) ∧ xre M M1 0) ∨ (g1 ∧ ¬ g2 ∧ r9 = some (av_i 2) ∧ xre M M1 1) := by
  rcases h with ⟨vv, M0, h1, h2, h3⟩ | ⟨k, w, h1, h2, h3⟩
  · rcases h1 with ⟨a, b, c⟩ | ⟨-, c, -⟩ | ⟨-, -, c, -⟩
    · exact Or.inl ⟨a, b, Sum.inl.inj h3, vv, M0, c, h2⟩
    · cases c
    · cases c
  · have e : (k = 0 ∧ w = 1) ∨ (k = 1 ∧ w = 2) := by
      rcases List.mem_cons.mp h1 with h | h
      · cases h; exact Or.inl ⟨rfl, rfl⟩
      · cases List.mem_singleton.mp h; exact Or.inr ⟨rfl, rfl⟩
    rcases h2 with ⟨-, -, c⟩ | ⟨a, b, c⟩ | ⟨a, b, c, d⟩
    · exact absurd c (hX _ _)
    · rcases e with ⟨rfl, rfl⟩ | ⟨rfl, rfl⟩
      · exact Or.inr (Or.inl ⟨a, Sum.inl.inj h3, c⟩)
      · exact absurd (Sum.inr.inj b) (by decide)
    · rcases e with ⟨rfl, rfl⟩ | ⟨rfl, rfl⟩
      · exact absurd (Sum.inr.inj c) (by decide)
      · exact Or.inr (Or.inr ⟨a, b, Sum.inl.inj h3, d⟩)
theorem tq2_hv {g1 g2 : Prop} {X : ax_O → ax_M → Prop} (hI : ∀ r9 M1, X (.inl r9) M1 → (∃ u, r9 = some (av_i u)) ∧ lo_ok M1.2) : ∀ r9 M1, tq2 g1 g2 X M (.inl r9) M1 → (∃ u, r9 = some (av_i u)) ∧ M1.2.2.2.1 432 = some (.inl (1, 1)) := by
  intro r9 M1 h
  rcases h with ⟨-, -, c⟩ | ⟨-, c, -⟩ | ⟨-, -, c, -⟩
  · obtain ⟨a, b⟩ := hI r9 M1 c
    exact ⟨a, lo_s b 432 rfl⟩
  · cases c
  · cases c
theorem tq2_hx {g1 g2 : Prop} {X : ax_O → ax_M → Prop} (hX : ∀ E M2, ¬ X (.inr E) M2) : ∀ E M1, tq2 g1 g2 X M (.inr E) M1 → ∃ k w, (k, w) ∈ ([(0, 1), (1, 2)] : List (Nat × Nat)) ∧ E = cz_n k := by
  intro E M1 h
  rcases h with ⟨-, -, c⟩ | ⟨-, c, -⟩ | ⟨-, -, c, -⟩
  · exact absurd c (hX _ _)
  · exact ⟨0, 1, by decide, Sum.inr.inj c⟩
  · exact ⟨1, 2, by decide, Sum.inr.inj c⟩
end SS
section SX
variable {l : Launch} {G : ax_G} {M : ax_M} {p : Nat → Nat} {r : Nat → Int} {lw : mt_L} {es : List (Nat × Nat)} {t n v : Nat} {q : Nat → Int}
def gT (x : Int32) (t : Nat) : Prop := (0 ≤ x ∧ x ≤ nI t) ∧ x ≤ 150
theorem y_book (hl9 : l.stackTraces = false) (h : jm M p r lw es t n v q) (x : Int32) : ax_Met l G kX9_book 8 1 6 M [av_r 1, av_i x] (tq (gT x t) (fun o M2 => ∃ z, z ≤ 150 ∧ z ≤ t ∧ x = nI z ∧ xbo M M2 (tx_tb M z) p r lw es z o) M) := by
  have J := h.2.2.2.2.1
  refine ax_mono (x_book hl9 h.1 J.1 J.2.2.1 x (txB_j J x)) (fun o M2 h2 => ?_)
  rcases h2 with ⟨a, b, z, c, d, e, f⟩ | ⟨a, b⟩
  · refine Or.inl ⟨⟨a, b⟩, z, c, d, e, ?_⟩
    rw [e, nI_clamp (by omega)] at f
    exact f
  · exact Or.inr ⟨a, b⟩
theorem y_law (hl9 : l.stackTraces = false) (h : jm M p r lw es t n v q) (x : Int32) : ax_Met l G kX9_law 36 1 6 M [av_r 1, av_i x] (tq (gT x t) (fun o M2 => ∃ z, z ≤ 150 ∧ z ≤ t ∧ x = nI z ∧ xlo M M2 (tx_tb M z) p r lw es z 0 o) M) := by
  have J := h.2.2.2.2.1
  refine ax_mono (x_law hl9 h.1 J.1 J.2.2.1 x (txB_j J x)) (fun o M2 h2 => ?_)
  rcases h2 with ⟨a, b, z, c, d, e, f⟩ | ⟨a, b⟩
  · refine Or.inl ⟨⟨a, b⟩, z, c, d, e, ?_⟩
    rw [e, nI_clamp (by omega)] at f
    exact f
  · exact Or.inr ⟨a, b⟩
theorem y_rule (hl9 : l.stackTraces = false) (h : jm M p r lw es t n v q) (y x : Int32) : ax_Met l G kX9_rule 36 2 12 M [av_r 1, av_i y, av_i x] (tq2 (0 ≤ y ∧ y ≤ 1) (gT x t) (fun o M2 => ∃ z w, z ≤ 150 ∧ z ≤ t ∧ x = nI z ∧ w < 2 ∧ y = nI w ∧ xlo M M2 (tx_tb M z) p r lw es z (1 + w) o) M) := by
  have J := h.2.2.2.2.1
  refine ax_mono (x_rule hl9 h.1 J.1 J.2.2.1 y x (txB_j J x)) (fun o M2 h2 => ?_)
  rcases h2 with ⟨a, b, b2, z, w, c, d, e, f, g, i⟩ | h2 | ⟨a, b, c⟩
  · refine Or.inl ⟨a, ⟨b, b2⟩, z, w, c, d, e, f, g, ?_⟩
    rw [e, nI_clamp (by omega)] at i
    exact i
  · exact Or.inr (Or.inl h2)
  · exact Or.inr (Or.inr ⟨a, b, c⟩)
theorem y_road (hl9 : l.stackTraces = false) (h : jm M p r lw es t n v q) (x : Int32) : ax_Met l G kX9_road 8 1 6 M [av_r 1, av_i x] (tq (0 ≤ x ∧ x ≤ nI t) (fun o M2 => ∃ z, z ≤ t ∧ x = nI z ∧ xro M M2 (tx_tb M z) p r lw es z q o) M) := by
  have J := h.2.2.2.2.1
  have h6 := J.2.2.1
  refine ax_mono (x_road hl9 h.1 J.1 J.2.2.1 h.2.2.2.2.2.2.1.2 x (txB_j J x)) (fun o M2 h2 => ?_)
  rcases h2 with ⟨a, z, d, e, f⟩ | ⟨a, b⟩
  · refine Or.inl ⟨a, z, d, e, ?_⟩
    rw [e, nI_clamp (by omega)] at f
    exact f
  · exact Or.inr ⟨a, b⟩
theorem y_chg {k : ax_K} {d c n9 : Nat} {As : List ax_V} {g1 g2 : Prop} {kk : Nat} {x f s : Int32} (h : ax_Met l G k d c n9 M As (fun o M2 => xcg g1 g2 M M2 p r lw es n kk x f s o)) : ax_Met l G k d c n9 M As (tq2 g1 g2 (fun o M2 => ∃ (c : Nat) (a b : Int), x = nI c ∧ f = iI a ∧ s = iI b ∧ ch_ok r kk c ∧ ch_b r kk a b ∧ xch M M2 p r lw es n kk c a b o) M) := by
  refine ax_mono h (fun o M2 h2 => ?_)
  rcases h2 with h2 | ⟨a, b, c⟩ | ⟨a, b, c⟩
  · exact Or.inr (Or.inl h2)
  · exact Or.inr (Or.inr ⟨a, b, c⟩)
  · exact Or.inl ⟨a, b, c⟩
end SX
section SY
variable {l : Launch} {G : ax_G} {M M0 M1 M2 : ax_M} {p : Nat → Nat} {r : Nat → Int} {lw : mt_L} {es : List (Nat × Nat)} {t n v : Nat} {q : Nat → Int}
theorem ro_nx9 {E : String} {x : rk × (Nat → Int)} : ¬ ro_out M M2 (.inr E) x := by
  rintro ⟨-, -, -, -, h⟩
  cases e : x.1.2 with
  | none => rw [e] at h; cases h.1
  | some w => rw [e] at h; cases h.1
theorem y_weather (hl9 : l.stackTraces = false) (h : jm M p r lw es t n v q) (y z : Int32) : ax_Met l G kX9_weather 8 2 12 M [av_r 1, av_i y, av_i z] (tq ((0 ≤ y ∧ y ≤ 9) ∧ (0 ≤ z ∧ z ≤ 9)) (fun o M2 => ∃ (c : Nat) (a b : Int), y = iI a ∧ z = iI b ∧ ch_ok r 2 c ∧ xch M M2 p r lw es n 2 c a b o) M) := by
  have Jc := h.2.2.2.2.2.2.2.1
  refine ax_mono (x_weather hl9 h.1 Jc.1 Jc.2.2.1 y z) (fun o M2 h2 => ?_)
  rcases h2 with ⟨a, -⟩ | ⟨-, b, c⟩ | ⟨-, b, c, a1, b1, -, h3, h4, h5, -, h6⟩
  · exact absurd trivial a
  · exact Or.inr ⟨b, c⟩
  · exact Or.inl ⟨b, c, a1, b1, h3, h4, h5, h6⟩
theorem xch_r {k c : Nat} {a b : Int} {r9 : Option ax_V} (hI : xI M p r lw es) (h : xch M M0 p r lw es n k c a b (.inl r9)) (s : sm M0 M1) : ∀ m i, 83 < m → M1.1 m i = M.1 m i := by
  have hR := xk_b0 hI.1.1
  have cR : p 0 = 5 ∨ p 0 = 23 := hR
  intro m i hm
  rw [s.1]
  rcases h with ⟨-, -, e⟩ | ⟨-, -, e, -⟩
  · rw [e]
  · rw [e]; exact mk_chg_n hR (by omega) (by omega) (by omega)
theorem not_and9 {a b : Prop} [Decidable a] [Decidable b] (h : ¬ (a ∧ b)) : ¬ a ∨ ¬ b := by
  by_cases z : a
  · exact Or.inr (fun w => h ⟨z, w⟩)
  · exact Or.inl z
end SY

