/-! ===== laws and rules taken: the class ===== -/
def swp (a b : Nat) (p : Nat → Nat) (k : Nat) : Nat := if k = a then p b else if k = b then p a else p k
def lwu (lw : mt_L) (w : Nat) (cs : List (Int32 × Int32)) (k : Nat) : Option (List (Int32 × Int32)) := if k = w then some cs else lw k
/-- what a taken LAW or RULE leaves of the class -/
def xlo (M M2 : ax_M) (B : Nat → Int32) (p : Nat → Nat) (r : Nat → Int) (lw : mt_L) (es : List (Nat × Nat)) (z w : Nat) (o : ax_O) : Prop := M2.1 2 1 = 0 ∧ (∀ n i, ¬ qs n i → n ≠ 2 → ¬ (13 ≤ n ∧ n ≤ 33) → M2.1 n i = M.1 n i) ∧ M2.2.2 = M.2.2 ∧ match ps_text B z with
  | .inl e => o = .inl (some (av_i (nI e.1 - 10))) ∧ M2.1 2 8 = nI e.2 ∧ xI M2 p r lw es
  | .inr cs => o = .inl (some (av_i 1)) ∧ M2.1 2 8 = -1 ∧ xI M2 (swp (2 + w) 5 p) r (lwu lw w cs) es
theorem xh_F3 {a b : Nat} (ha : xh_F a) (hb : xh_F b) (h : a ≠ b) : a ≠ b + 1 ∧ a + 1 ≠ b ∧ a + 1 ≠ b + 1 := by unfold xh_F at ha hb; omega
theorem xI_spF {M C : ax_M} {p : Nat → Nat} {r : Nat → Int} {lw : mt_L} {es : List (Nat × Nat)} (h : xI M p r lw es) (e2 : C.2 = M.2) (hf : ∀ n i, n ≠ 2 → n ≠ p 5 → n ≠ p 5 + 1 → C.1 n i = M.1 n i) : xI C p r lw es := by
  obtain ⟨⟨t1, t2, t3, t4, t5⟩, h2, h3, h4⟩ := h
  have hp := t1.2.1
  have p0 := hp.1
  have p6 := hp.2.1
  obtain ⟨f2, f3, f4, f5⟩ := hp.2.2.1
  obtain ⟨-, -, n25, -, n35, n45⟩ := hp.2.2.2
  have q2 := xh_F3 f2 f5 n25
  have q3 := xh_F3 f3 f5 n35
  have q4 := xh_F3 f4 f5 n45
  have b2 := xh_F2 f2
  have b3 := xh_F2 f3
  have b4 := xh_F2 f4
  have b5 : p 5 = 13 ∨ p 5 = 16 ∨ p 5 = 19 ∨ p 5 = 31 := f5
  have g : ∀ n i, n ≠ 2 → n < 13 ∨ 32 < n ∨ 22 ≤ n ∧ n ≤ 30 → C.1 n i = M.1 n i := fun n i z1 z2 => hf n i z1 (by omega) (by omega)
  refine ⟨⟨by rw [e2]; exact t1, xr_fr t2 (fun n i a b => g n i (by omega) (by omega)), t3, ⟨xfm_fr t4.1 (fun n i z => hf n i (by omega) (by omega) (by omega)), xfm_fr t4.2.1 (fun n i z => hf n i (by omega) (by omega) (by omega)), xfm_fr t4.2.2 (fun n i z => hf n i (by omega) (by omega) (by omega))⟩, xbk_fr t5 (fun n i a => g n i (by omega) (by omega))⟩, ⟨xw_fr h2.1 (fun n i z => g n i (by omega) (by omega)), xw_fr h2.2 (fun n i z => g n i (by omega) (by omega))⟩, ?_, xD_fr h4 (g _ _ (by omega) (by omega)) (fun n i z => g n i (by omega) (by omega))⟩
  rcases h3 with h3 | ⟨h3, h5⟩
  · exact Or.inl ((g 1 7 (by omega) (by omega)).trans h3)
  · exact Or.inr ⟨(g 1 7 (by omega) (by omega)).trans h3, xmt_fr h5 (fun n i z => g n i (by omega) (by omega))⟩
theorem lo_n41 : ∀ q ∈ lo_rfl, ¬ (q.1 = 4 ∧ q.2.1 = 1) := by decide +kernel
theorem lo_n42 : ∀ q ∈ lo_rfl, ¬ (q.1 = 4 ∧ q.2.1 = 2) := by decide +kernel
theorem lo_n43 : ∀ q ∈ lo_rfl, ¬ (q.1 = 4 ∧ q.2.1 = 3) := by decide +kernel
theorem lo_n40 : ∀ q ∈ lo_rfl, ¬ (q.1 = 4 ∧ q.2.1 = 0) := by decide +kernel
theorem lo_n13 : ∀ q ∈ lo_rfl, ¬ (q.1 = 1 ∧ q.2.1 = 3) := by decide +kernel
theorem lo_n12 : ∀ q ∈ lo_rfl, ¬ (q.1 = 1 ∧ q.2.1 = 2) := by decide +kernel
theorem ax_pRn {M : ax_M} {a k v n i : Nat} (h : ¬ (n = a ∧ i = k)) : (ax_pR M a k v).2.1 n i = M.2.1 n i := by
  show ax_u2 M.2.1 a k v n i = _
  unfold ax_u2
  rw [if_neg h]
theorem ax_pRa {M : ax_M} {a k v : Nat} : (ax_pR M a k v).2.1 a k = v := by
  show ax_u2 M.2.1 a k v a k = _
  unfold ax_u2
  rw [if_pos ⟨rfl, rfl⟩]
/-- a formula and the spare one change places -/
theorem xk_swF {C D : ax_M} {p : Nat → Nat} (hx : xk C.2 p) {w : Nat} (hw : w < 3) (okD : lo_ok D.2) (d3 : ∀ n i, ¬ (n = 4 ∧ i = 1 + w) → ¬ (n = 1 ∧ i = 3) → D.2.1 n i = C.2.1 n i) (d4 : D.2.1 4 (1 + w) = p 5) (d5 : D.2.1 1 3 = p (2 + w)) : xk D.2 (swp (2 + w) 5 p) := by
  obtain ⟨-, ⟨x1, x2, ⟨f2, f3, f4, f5⟩, n1, n2, n3, n4, n5, n6⟩, y0, y1, y2, y3, y4, y5, y6, y7⟩ := hx
  have e0 := (d3 4 0 (by omega) (by omega)).trans y0
  have e1 := (d3 1 2 (by omega) (by omega)).trans y1
  have e6 := (d3 1 4 (by omega) (by omega)).trans y6
  have e7 := (d3 1 5 (by omega) (by omega)).trans y7
  rcases (show w = 0 ∨ w = 1 ∨ w = 2 by omega) with rfl | rfl | rfl
  · exact ⟨okD, ⟨x1, x2, ⟨f5, f3, f4, f2⟩, Ne.symm n5, Ne.symm n6, Ne.symm n3, n4, Ne.symm n1, Ne.symm n2⟩, e0, e1, d4, (d3 4 2 (by omega) (by omega)).trans y3, (d3 4 3 (by omega) (by omega)).trans y4, d5, e6, e7⟩
  · exact ⟨okD, ⟨x1, x2, ⟨f2, f5, f4, f3⟩, n3, n2, n1, Ne.symm n6, Ne.symm n5, Ne.symm n4⟩, e0, e1, (d3 4 1 (by omega) (by omega)).trans y2, d4, (d3 4 3 (by omega) (by omega)).trans y4, d5, e6, e7⟩
  · exact ⟨okD, ⟨x1, x2, ⟨f2, f3, f5, f4⟩, n1, n3, n2, n5, n4, Ne.symm n6⟩, e0, e1, (d3 4 1 (by omega) (by omega)).trans y2, (d3 4 2 (by omega) (by omega)).trans y3, d4, d5, e6, e7⟩
/-- the class behind a LAW or RULE that was read well -/
theorem xI_swF {C D : ax_M} {p : Nat → Nat} {r : Nat → Int} {lw : mt_L} {es : List (Nat × Nat)} (hI : xI C p r lw es) {w : Nat} (hw : w < 3) {cs : List (Int32 × Int32)} (hc : xfm C (p 5) cs) (hk : xk D.2 (swp (2 + w) 5 p)) (hf : ∀ n i, n ≠ 1 → D.1 n i = C.1 n i) (h7 : D.1 1 7 = 0) (h10 : D.1 1 10 = -1) : xI D (swp (2 + w) 5 p) r (lwu lw w cs) es := by
  obtain ⟨⟨t1, t2, t3, t4, t5⟩, h2, h3, h4⟩ := hI
  have hp := t1.2.1
  have p0 := hp.1
  have p6 := hp.2.1
  obtain ⟨f2, f3, f4, f5⟩ := hp.2.2.1
  have b2 := xh_F2 f2
  have b3 := xh_F2 f3
  have b4 := xh_F2 f4
  have b5 := xh_F2 f5
  have g2 := xfm_fr (M2 := D) t4.1 (fun n i z => hf n i (by omega))
  have g3 := xfm_fr (M2 := D) t4.2.1 (fun n i z => hf n i (by omega))
  have g4 := xfm_fr (M2 := D) t4.2.2 (fun n i z => hf n i (by omega))
  have g5 := xfm_fr (M2 := D) hc (fun n i z => hf n i (by omega))
  have e0 : swp (2 + w) 5 p 0 = p 0 := by unfold swp; rw [if_neg (by omega), if_neg (by omega)]
  have e6 : swp (2 + w) 5 p 6 = p 6 := by unfold swp; rw [if_neg (by omega), if_neg (by omega)]
  refine xI_new ⟨hk, ?_, t3, ?_, ?_⟩ (xw_fr h2.1 (fun n i z => hf n i (by omega))) (xw_fr h2.2 (fun n i z => hf n i (by omega))) h7 h10
  · rw [e0]; exact xr_fr t2 (fun n i a b => hf n i (by omega))
  · rcases (show w = 0 ∨ w = 1 ∨ w = 2 by omega) with rfl | rfl | rfl
    · exact ⟨g5, g3, g4⟩
    · exact ⟨g2, g5, g4⟩
    · exact ⟨g2, g3, g5⟩
  · rw [e6]; exact xbk_fr t5 (fun n i a => hf n i (by omega))
section X99a
variable {l : Launch} {G : ax_G} {M : ax_M} {B : Nat → Int32} {p : Nat → Nat} {r : Nat → Int} {lw : mt_L} {es : List (Nat × Nat)}
/-- behind the reading: what both kinds of text share -/
theorem xl_bad {A C : ax_M} (hI : xI M p r lw es) (fA : tf M A) (a1 : A.1 2 1 = 0) {z w : Nat} {e : Nat × Nat} (hy : ps_text B z = .inl e) (h8 : xv B (p 5) A C z e) : xlo M C B p r lw es z w (.inl (some (av_i (C.1 2 7 - 10)))) := by
  have f5 := xk_b5 hI.1.1
  have b5 : p 5 = 13 ∨ p 5 = 16 ∨ p 5 = 19 ∨ p 5 = 31 := f5
  have hf : ∀ n i, n ≠ 2 → n ≠ p 5 → n ≠ p 5 + 1 → C.1 n i = M.1 n i := fun n i z1 z2 z3 => (h8.1.2 n i (by omega) (by omega) z3).trans (fA.2 n i (by omega))
  have g := h8.2 0 (Nat.zero_le _)
  refine ⟨(h8.1.2 2 1 (by omega) (by omega) (by omega)).trans a1, fun n i _ z1 z2 => hf n i z1 (by omega) (by omega), by rw [h8.1.1, fA.1], ?_⟩
  rw [hy]
  exact ⟨by rw [g.2.2.1], g.2.2.2, xI_spF hI (h8.1.1.trans fA.1) hf⟩
theorem xl_good {A C D : ax_M} (hI : xI M p r lw es) (fA : tf M A) (a1 : A.1 2 1 = 0) {z w : Nat} (hw : w < 3) (hz : z ≤ 150) {cs : List (Int32 × Int32)} (hy : ps_text B z = .inr cs) (hB : ps_B B z) (fC : ff (p 5) A C) (hs : C.1 (p 5) 1 = nI cs.length) (hd : ∀ j w, cs[j]? = some w → C.1 (p 5 + 1) j = enc w) {a : Nat} (g : xg C z B (a, none)) (okD : lo_ok D.2) (d1 : D.1 = C.1) (d2 : D.2.2 = C.2.2) (d3 : ∀ n i, ¬ (n = 4 ∧ i = 1 + w) → ¬ (n = 1 ∧ i = 3) → D.2.1 n i = C.2.1 n i) (d4 : D.2.1 4 (1 + w) = p 5) (d5 : D.2.1 1 3 = p (2 + w)) : xlo M (ax_pI (ax_pI D 1 7 0) 1 10 (-1)) B p r lw es z w (.inl (some (av_i 1))) := by
  have f5 := xk_b5 hI.1.1
  have b5 : p 5 = 13 ∨ p 5 = 16 ∨ p 5 = 19 ∨ p 5 = 31 := f5
  have hf : ∀ n i, n ≠ 2 → n ≠ p 5 → n ≠ p 5 + 1 → C.1 n i = M.1 n i := fun n i z1 z2 z3 => (fC.2 n i (by omega) (by omega) z3).trans (fA.2 n i (by omega))
  have IC : xI C p r lw es := xI_spF hI (fC.1.trans fA.1) hf
  have e1 : ∀ n i, n ≠ 1 → (ax_pI (ax_pI D 1 7 0) 1 10 (-1)).1 n i = C.1 n i := fun n i z => by rw [ax_pn (by omega), ax_pn (by omega), d1]
  have e2 : ∀ n i, ¬ (n = 1 ∧ (i = 7 ∨ i = 10)) → (ax_pI (ax_pI D 1 7 0) 1 10 (-1)).1 n i = C.1 n i := fun n i z => by rw [ax_pn (by omega), ax_pn (by omega), d1]
  have hk := xk_swF (C := C) (D := D) IC.1.1 hw okD d3 d4 d5
  refine ⟨(e1 2 1 (by omega)).trans ((fC.2 2 1 (by omega) (by omega) (by omega)).trans a1), fun n i q z1 z2 => (e2 n i (fun z => q (by unfold qs; omega))).trans (hf n i z1 (by omega) (by omega)), ?_, ?_⟩
  · show D.2.2 = _
    rw [d2, fC.1, fA.1]
  · rw [hy]
    exact ⟨rfl, (e1 2 8 (by omega)).trans g.2.2.2.2, xI_swF IC hw ⟨ev_text hB hz hy, nu_text hy, hs, hd⟩ hk e1 (by rw [ax_pn (by omega), ax_pa]) (ax_pa _ _ _ _)⟩
theorem x_law (hl9 : l.stackTraces = false) (hI : xI M p r lw es) {t : Nat} (ht : M.1 2 1 = nI t) (ht2 : t ≤ 600) (x : Int32) (hB : txB M B t x) : ax_Met l G kX9_law 36 1 6 M [av_r 1, av_i x] (fun o M2 => ((0 ≤ x ∧ x ≤ nI t) ∧ x ≤ 150 ∧ ∃ z, z ≤ 150 ∧ z ≤ t ∧ x = nI z ∧ xlo M M2 B p r lw es z 0 o) ∨ (¬ ((0 ≤ x ∧ x ≤ nI t) ∧ x ≤ 150) ∧ o = .inr (cz_n 1) ∧ xre M M2 1)) := by
  have hx := hI.1.1
  have hok := hx.1
  refine ax_body (by decide) (Nat.le_of_ble_eq_true rfl) ?_
  refine ax_aload_n dX9_law_0 rfl ?_
  refine ax_iload_n dX9_law_1 rfl ?_
  refine ax_sipush (v := 150) dX9_law_2 (by decide) ?_
  refine ax_callVX (As := _) (d2 := _) (c1 := 0) (n1 := 0) (x_takeText (M := M) hl9 hok ht ht2 (m := 150) (by omega) x hB rfl) dX9_law_5 mX9_takeText wd_786 acl_9 (lo_s hok 1 rfl) rfl (by omega) (by omega) (by omega) rfl rfl (fun E M2 h => by rcases h with ⟨-, -, z, -, -, -, q, -⟩ | h; cases q; exact Or.inr h) ?_
  rintro v A h
  rcases h with ⟨h1, h2, z, hz1, hz2, rfl, q, fA, a1, g⟩ | ⟨-, q, -⟩
  rotate_left
  · cases q
  cases q
  have hx : xk A.2 p := by rw [fA.1]; exact hx
  have hok := hx.1
  refine ax_aload_n dX9_law_8 rfl ?_
  refine ax_getK (f := 3) (p 5) dX9_law_9 acl_9 wd_550 (by decide) rfl (lo_s hok 1 rfl) (xk_r5 hx) ?_
  refine ax_aload_n dX9_law_12 rfl ?_
  refine ax_getK (f := 0) 2 dX9_law_13 acl_9 wd_547 (by decide) rfl (lo_s hok 1 rfl) (lo_r hok 0 rfl) ?_
  refine ax_callVN (As := _) (d2 := _) (c1 := 0) (n1 := 0) (c_formulaFrom (M := A) (xk_b5 hx) g hz1) dX9_law_16 mX2_readFrom wd_1012 acl_2 (xs_F_0 (xk_b5 hx) hok) rfl (by omega) (by omega) (by omega) rfl rfl (fun E M9 h9 => by cases hx9 : ps_text B z <;> rw [hx9] at h9 <;> cases h9.1) ?_
  intro v C h
  cases hy : ps_text B z with
  | inl e =>
    rw [hy] at h
    obtain ⟨h7, h8⟩ := h
    cases h7
    have hx : xk C.2 p := by rw [h8.1.1]; exact hx
    have hok := hx.1
    refine ax_if_ne (tgt := 30) dX9_law_19 (by decide) (fun hc => ?_) (fun hc => ?_)
    · exact absurd rfl hc
    · refine ax_aload_n dX9_law_22 rfl ?_
      refine ax_getK (f := 0) 2 dX9_law_23 acl_9 wd_547 (by decide) rfl (lo_s hok 1 rfl) (lo_r hok 0 rfl) ?_
      refine ax_callVN (As := _) (d2 := _) (c1 := 0) (n1 := 0) (c_answerOfFault (d := 6) (M := C) hok) dX9_law_26 mX6_answerOfFault wd_996 acl_6 (lo_s hok 2 rfl) rfl (by omega) (by omega) (by omega) rfl rfl (fun _ _ h => by cases h.1) ?_
      rintro r M9 ⟨h1, h9⟩; cases h1; rw [h9]; clear h9 M9
      refine ax_iret dX9_law_29 rfl ?_
      exact Or.inl ⟨h1, h2, z, hz1, hz2, rfl, xl_bad hI fA a1 hy h8⟩
  | inr cs =>
    rw [hy] at h
    obtain ⟨h7, fC, hs, hd, a, gC⟩ := h
    cases h7
    have hx : xk C.2 p := by rw [fC.1]; exact hx
    have hok := hx.1
    refine ax_if_ne (tgt := 30) dX9_law_19 (by decide) (fun hc => ?_) (fun hc => ?_)
    · refine ax_aload_n dX9_law_30 rfl ?_
      refine ax_getK (f := 1) 4 dX9_law_31 acl_9 wd_548 (by decide) rfl (lo_s hok 1 rfl) (lo_r hok 1 rfl) ?_
      refine ax_getKN (f := 1) (p 2) dX9_law_34 acl_7 wd_369 (by decide) rfl (lo_s hok 4 rfl) (xk_r2 hx) ?_
      refine ax_astore_n dX9_law_37 (by decide) rfl ?_
      refine ax_aload_n dX9_law_38 rfl ?_
      refine ax_getK (f := 1) 4 dX9_law_39 acl_9 wd_548 (by decide) rfl (lo_s hok 1 rfl) (lo_r hok 1 rfl) ?_
      refine ax_aload_n dX9_law_42 rfl ?_
      refine ax_getK (f := 3) (p 5) dX9_law_43 acl_9 wd_550 (by decide) rfl (lo_s hok 1 rfl) (xk_r5 hx) ?_
      have okC := hok
      refine ax_putRN (f := 1) dX9_law_46 acl_7 wd_369 (by decide) rfl rfl (ax_nfR (Or.inl ⟨_, rfl⟩)) (lo_s hok 4 rfl) ?_
      have hok : lo_ok (ax_pR C 4 1 (p 5)).2 := lo_ok_pR okC lo_n41
      refine ax_aload_n dX9_law_49 rfl ?_
      refine ax_aload_n dX9_law_50 rfl ?_
      refine ax_putR (f := 3) dX9_law_51 acl_9 wd_550 (by decide) rfl rfl (ax_nfR (Or.inl ⟨_, rfl⟩)) (lo_s hok 1 rfl) ?_
      refine ax_gen (fun D hD => ?_)
      have okD : lo_ok D.2 := by rw [hD]; exact lo_ok_pR hok lo_n13
      have hok := okD
      refine ax_aload_n dX9_law_54 rfl ?_
      refine ax_callV (As := _) (d2 := _) (c1 := 0) (n1 := 0) (x_meetingChanged (d := 6) (M := D) hok) dX9_law_55 mX9_meetingChanged wd_741 acl_9 (lo_s hok 1 rfl) rfl (by omega) (by omega) (by omega) rfl rfl (fun _ _ h => by cases h.1) ?_
      rintro v D2 ⟨q, rfl⟩
      cases q
      refine ax_iconst (v := 1) dX9_law_58 (by decide) ?_
      refine ax_iret dX9_law_59 rfl ?_
      exact Or.inl ⟨h1, h2, z, hz1, hz2, rfl, xl_good hI fA a1 (w := 0) (by omega) hz1 hy (hB z rfl hz2).1 fC hs hd gC okD (by rw [hD]; rfl) (by rw [hD]; rfl) (fun n i q1 q2 => by rw [hD, ax_pRn q2, ax_pRn q1]) (by rw [hD, ax_pRn (by omega), ax_pRa]) (by rw [hD, ax_pRa])⟩
    · exact absurd hc (by decide)
theorem c_swapRule {d : Nat} (hx : xk M.2 p) {w : Nat} (hw : w < 2) {x : Int32} (hxx : x = nI w) (F : Nat) : ax_Met l G kX7_swapRule d 0 0 M [av_r 4, av_i x, av_r F] (fun o M2 => o = .inl (some (av_r (p (3 + w)))) ∧ M2 = ax_pR M 4 (2 + w) F) := by
  subst hxx
  have hok := hx.1
  refine ax_body (by decide) (Nat.le_of_ble_eq_true rfl) ?_
  refine ax_iload_n dX7_swapRule_0 rfl ?_
  rcases (show w = 0 ∨ w = 1 by omega) with rfl | rfl
  · refine ax_if_ne (tgt := 11) dX7_swapRule_1 (by decide) (fun hc => ?_) (fun hc => ?_)
    · exact absurd rfl hc
    · clear hc
      refine ax_aload_n dX7_swapRule_4 rfl ?_
      refine ax_getK (f := 2) (p 3) dX7_swapRule_5 acl_7 wd_370 (by decide) rfl (lo_s hok 4 rfl) (xk_r3 hx) ?_
      refine ax_goto (tgt := 15) dX7_swapRule_8 (by decide) ?_
      refine ax_astore_n dX7_swapRule_15 (by decide) rfl ?_
      refine ax_iload_n dX7_swapRule_16 rfl ?_
      refine ax_if_ne (tgt := 28) dX7_swapRule_17 (by decide) (fun hc => ?_) (fun hc => ?_)
      · exact absurd rfl hc
      · refine ax_aload_n dX7_swapRule_20 rfl ?_
        refine ax_aload_n dX7_swapRule_21 rfl ?_
        refine ax_putR (f := 2) dX7_swapRule_22 acl_7 wd_370 (by decide) rfl rfl (ax_nfR (Or.inl ⟨_, rfl⟩)) (lo_s hok 4 rfl) ?_
        refine ax_goto (tgt := 33) dX7_swapRule_25 (by decide) ?_
        refine ax_aload_n dX7_swapRule_33 rfl ?_
        refine ax_aret dX7_swapRule_34 rfl (Or.inl ⟨_, rfl⟩) ?_
        exact ⟨rfl, rfl⟩
  · refine ax_if_ne (tgt := 11) dX7_swapRule_1 (by decide) (fun hc => ?_) (fun hc => ?_)
    · clear hc
      refine ax_aload_n dX7_swapRule_11 rfl ?_
      refine ax_getK (f := 3) (p 4) dX7_swapRule_12 acl_7 wd_371 (by decide) rfl (lo_s hok 4 rfl) (xk_r4 hx) ?_
      refine ax_astore_n dX7_swapRule_15 (by decide) rfl ?_
      refine ax_iload_n dX7_swapRule_16 rfl ?_
      refine ax_if_ne (tgt := 28) dX7_swapRule_17 (by decide) (fun hc => ?_) (fun hc => ?_)
      · refine ax_aload_n dX7_swapRule_28 rfl ?_
        refine ax_aload_n dX7_swapRule_29 rfl ?_
        refine ax_putR (f := 3) dX7_swapRule_30 acl_7 wd_371 (by decide) rfl rfl (ax_nfR (Or.inl ⟨_, rfl⟩)) (lo_s hok 4 rfl) ?_
        refine ax_aload_n dX7_swapRule_33 rfl ?_
        refine ax_aret dX7_swapRule_34 rfl (Or.inl ⟨_, rfl⟩) ?_
        exact ⟨rfl, rfl⟩
      · exact absurd hc (by decide)
    · exact absurd hc (by decide)
theorem x_rule (hl9 : l.stackTraces = false) (hI : xI M p r lw es) {t : Nat} (ht : M.1 2 1 = nI t) (ht2 : t ≤ 600) (y x : Int32) (hB : txB M B t x) : ax_Met l G kX9_rule 36 2 12 M [av_r 1, av_i y, av_i x] (fun o M2 => ((0 ≤ y ∧ y ≤ 1) ∧ (0 ≤ x ∧ x ≤ nI t) ∧ x ≤ 150 ∧ ∃ z w, z ≤ 150 ∧ z ≤ t ∧ x = nI z ∧ w < 2 ∧ y = nI w ∧ xlo M M2 B p r lw es z (1 + w) o) ∨ (¬ (0 ≤ y ∧ y ≤ 1) ∧ o = .inr (cz_n 0) ∧ xre M M2 0) ∨ ((0 ≤ y ∧ y ≤ 1) ∧ ¬ ((0 ≤ x ∧ x ≤ nI t) ∧ x ≤ 150) ∧ o = .inr (cz_n 1) ∧ xre M M2 1)) := by
  have hx := hI.1.1
  have hok := hx.1
  have t0 : (0 : Int32).toInt = 0 := rfl
  have t1 : (1 : Int32).toInt = 1 := rfl
  have t2 : (2 : Int32).toInt = 2 := rfl
  have call : ∀ (b : Prop) [Decidable b] (w : Int32), (w = if b then 1 else 0) → (b ↔ (0 ≤ y ∧ y ≤ 1)) → ax_W l G kX9_rule (ax_FQ G (fun o M2 => ((0 ≤ y ∧ y ≤ 1) ∧ (0 ≤ x ∧ x ≤ nI t) ∧ x ≤ 150 ∧ ∃ z w, z ≤ 150 ∧ z ≤ t ∧ x = nI z ∧ w < 2 ∧ y = nI w ∧ xlo M M2 B p r lw es z (1 + w) o) ∨ (¬ (0 ≤ y ∧ y ≤ 1) ∧ o = .inr (cz_n 0) ∧ xre M M2 0) ∨ ((0 ≤ y ∧ y ≤ 1) ∧ ¬ ((0 ≤ x ∧ x ≤ nI t) ∧ x ≤ 150) ∧ o = .inr (cz_n 1) ∧ xre M M2 1))) 36 2 12 M 15 [some (av_r 1), some (av_i y), some (av_i x)] [av_i w, av_r 1] := by
    intro b _ v9 hw9 hbb
    refine ax_callVX (As := _) (d2 := _) (c1 := 1) (n1 := 6) (c_needElement (b := b) (M := M) hl9 hok hw9) dX9_rule_15 mX9_needElement wd_1066 acl_9 (lo_s hok 1 rfl) rfl (by omega) (by omega) (by omega) rfl rfl (fun E M2 h => by obtain ⟨h1, h2, h3⟩ := xN_ex h; exact Or.inr (Or.inl ⟨fun z => h1 (hbb.mpr z), by rw [h2], h3⟩)) ?_
    refine xN_k (fun hb1 => ?_)
    have hy1 := hbb.mp hb1
    obtain ⟨w, hw, rfl⟩ := in_nat hy1 (n := 1) rfl (by decide)
    refine ax_aload_n dX9_rule_18 rfl ?_
    refine ax_iload_n dX9_rule_19 rfl ?_
    refine ax_sipush (v := 150) dX9_rule_20 (by decide) ?_
    refine ax_callVX (As := _) (d2 := _) (c1 := 0) (n1 := 0) (x_takeText (M := M) hl9 hok ht ht2 (m := 150) (by omega) x hB rfl) dX9_rule_23 mX9_takeText wd_786 acl_9 (lo_s hok 1 rfl) rfl (by omega) (by omega) (by omega) rfl rfl (fun E M2 h => by rcases h with ⟨-, -, z, -, -, -, q, -⟩ | h; cases q; exact Or.inr (Or.inr ⟨hy1, h⟩)) ?_
    rintro v A h
    rcases h with ⟨h1, h2, z, hz1, hz2, rfl, q, fA, a1, g⟩ | ⟨-, q, -⟩
    rotate_left
    · cases q
    cases q
    have hx : xk A.2 p := by rw [fA.1]; exact hx
    have hok := hx.1
    refine ax_aload_n dX9_rule_26 rfl ?_
    refine ax_getK (f := 3) (p 5) dX9_rule_27 acl_9 wd_550 (by decide) rfl (lo_s hok 1 rfl) (xk_r5 hx) ?_
    refine ax_aload_n dX9_rule_30 rfl ?_
    refine ax_getK (f := 0) 2 dX9_rule_31 acl_9 wd_547 (by decide) rfl (lo_s hok 1 rfl) (lo_r hok 0 rfl) ?_
    refine ax_callVN (As := _) (d2 := _) (c1 := 0) (n1 := 0) (c_formulaFrom (M := A) (xk_b5 hx) g hz1) dX9_rule_34 mX2_readFrom wd_1012 acl_2 (xs_F_0 (xk_b5 hx) hok) rfl (by omega) (by omega) (by omega) rfl rfl (fun E M9 h9 => by cases hx9 : ps_text B z <;> rw [hx9] at h9 <;> cases h9.1) ?_
    intro v C h
    cases hy : ps_text B z with
    | inl e =>
      rw [hy] at h
      obtain ⟨h7, h8⟩ := h
      cases h7
      have hx : xk C.2 p := by rw [h8.1.1]; exact hx
      have hok := hx.1
      refine ax_if_ne (tgt := 48) dX9_rule_37 (by decide) (fun hc => ?_) (fun hc => ?_)
      · exact absurd rfl hc
      · refine ax_aload_n dX9_rule_40 rfl ?_
        refine ax_getK (f := 0) 2 dX9_rule_41 acl_9 wd_547 (by decide) rfl (lo_s hok 1 rfl) (lo_r hok 0 rfl) ?_
        refine ax_callVN (As := _) (d2 := _) (c1 := 0) (n1 := 0) (c_answerOfFault (d := 6) (M := C) hok) dX9_rule_44 mX6_answerOfFault wd_996 acl_6 (lo_s hok 2 rfl) rfl (by omega) (by omega) (by omega) rfl rfl (fun _ _ h => by cases h.1) ?_
        rintro r M9 ⟨h1, h9⟩; cases h1; rw [h9]; clear h9 M9
        refine ax_iret dX9_rule_47 rfl ?_
        exact Or.inl ⟨hy1, h1, h2, z, w, hz1, hz2, rfl, by omega, rfl, xl_bad hI fA a1 hy h8⟩
    | inr cs =>
      rw [hy] at h
      obtain ⟨h7, fC, hs, hd, a, gC⟩ := h
      cases h7
      have hx : xk C.2 p := by rw [fC.1]; exact hx
      have hok := hx.1
      refine ax_if_ne (tgt := 48) dX9_rule_37 (by decide) (fun hc => ?_) (fun hc => ?_)
      · refine ax_aload_n dX9_rule_48 rfl ?_
        refine ax_aload_n dX9_rule_49 rfl ?_
        refine ax_getK (f := 1) 4 dX9_rule_50 acl_9 wd_548 (by decide) rfl (lo_s hok 1 rfl) (lo_r hok 1 rfl) ?_
        refine ax_iload_n dX9_rule_53 rfl ?_
        refine ax_aload_n dX9_rule_54 rfl ?_
        refine ax_getK (f := 3) (p 5) dX9_rule_55 acl_9 wd_550 (by decide) rfl (lo_s hok 1 rfl) (xk_r5 hx) ?_
        refine ax_callVN (As := _) (d2 := _) (c1 := 0) (n1 := 0) (c_swapRule (d := 6) (M := C) hx (w := w) (by omega) rfl (p 5)) dX9_rule_58 mX7_swapRule wd_1086 acl_7 (lo_s hok 4 rfl) rfl (by omega) (by omega) (by omega) rfl rfl (fun _ _ h => by cases h.1) ?_
        rintro v D1 ⟨q, hD1⟩
        cases q
        have hok : lo_ok D1.2 := by
          rw [hD1]
          rcases (show w = 0 ∨ w = 1 by omega) with rfl | rfl
          · exact lo_ok_pR hok lo_n42
          · exact lo_ok_pR hok lo_n43
        refine ax_putR (f := 3) dX9_rule_61 acl_9 wd_550 (by decide) rfl rfl (ax_nfR (Or.inl ⟨_, rfl⟩)) (lo_s hok 1 rfl) ?_
        refine ax_gen (fun D hD => ?_)
        have okD : lo_ok D.2 := by rw [hD]; exact lo_ok_pR hok lo_n13
        have hok := okD
        refine ax_aload_n dX9_rule_64 rfl ?_
        refine ax_callV (As := _) (d2 := _) (c1 := 0) (n1 := 0) (x_meetingChanged (d := 6) (M := D) hok) dX9_rule_65 mX9_meetingChanged wd_741 acl_9 (lo_s hok 1 rfl) rfl (by omega) (by omega) (by omega) rfl rfl (fun _ _ h => by cases h.1) ?_
        rintro v D2 ⟨q, rfl⟩
        cases q
        refine ax_iconst (v := 1) dX9_rule_68 (by decide) ?_
        refine ax_iret dX9_rule_69 rfl ?_
        have e12 : 1 + (1 + w) = 2 + w := by omega
        have e23 : 2 + (1 + w) = 3 + w := by omega
        exact Or.inl ⟨hy1, h1, h2, z, w, hz1, hz2, rfl, by omega, rfl, xl_good hI fA a1 (w := 1 + w) (by omega) hz1 hy (hB z rfl hz2).1 fC hs hd gC okD (by rw [hD, hD1]; rfl) (by rw [hD, hD1]; rfl) (fun n i q1 q2 => by rw [hD, ax_pRn q2, hD1, ax_pRn (by omega)]) (by rw [hD, ax_pRn (by omega), hD1, e12, ax_pRa]) (by rw [hD, ax_pRa, e23])⟩
      · exact absurd hc (by decide)
  refine ax_body (by decide) (Nat.le_of_ble_eq_true rfl) ?_
  refine ax_aload_n dX9_rule_0 rfl ?_
  refine ax_iload_n dX9_rule_1 rfl ?_
  refine ax_if_lt (tgt := 14) dX9_rule_2 (by decide) (fun hc => ?_) (fun hc => ?_)
  · refine ax_iconst (v := 0) dX9_rule_14 (by decide) ?_
    exact call False _ rfl (iff_of_false id (fun z => absurd hc (by have := z.1; rw [iv_le] at this; rw [iv_lt]; omega)))
  have h0 := hc
  clear hc
  refine ax_iload_n dX9_rule_5 rfl ?_
  refine ax_iconst (v := 2) dX9_rule_6 (by decide) ?_
  refine ax_icmp_ge (tgt := 14) dX9_rule_7 (by decide) (fun hc => ?_) (fun hc => ?_)
  · refine ax_iconst (v := 0) dX9_rule_14 (by decide) ?_
    exact call False _ rfl (iff_of_false id (fun z => absurd hc (by have := z.2; rw [iv_le] at this; intro h9; have h8 : (2 : Int32) ≤ y := h9; rw [iv_le] at h8; omega)))
  · refine ax_iconst (v := 1) dX9_rule_10 (by decide) ?_
    refine ax_goto (tgt := 15) dX9_rule_11 (by decide) ?_
    have h9 : ¬ (2 : Int32) ≤ y := hc
    exact call True _ rfl (iff_of_true trivial ⟨by rw [iv_le]; rw [iv_lt] at h0; omega, by rw [iv_le]; rw [iv_le] at h9; omega⟩)
end X99a

