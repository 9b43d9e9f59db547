/-! ===== the book taken: the class ===== -/
def sw67 (p : Nat → Nat) (k : Nat) : Nat := if k = 6 then p 7 else if k = 7 then p 6 else p k
/-- what a taken text leaves of the class: the tape read, the rest as it was -/
def xbo (M M2 : ax_M) (B : Nat → Int32) (p : Nat → Nat) (r : Nat → Int) (lw : mt_L) (es : List (Nat × Nat)) (z : Nat) (o : ax_O) : Prop := M2.1 2 1 = 0 ∧ xg M2 z B (bk_text B z).1 ∧ (∀ n i, ¬ qs n i → n ≠ 2 → ¬ (34 ≤ n ∧ n ≤ 39) → M2.1 n i = M.1 n i) ∧ M2.2.2 = M.2.2 ∧ if (bk_text B z).1.2 = none then o = .inl (some (av_i (nI (bk_text B z).2.length))) ∧ xI M2 (sw67 p) r lw (bk_text B z).2 else o = .inl (some (av_i (M2.1 2 7 - 10))) ∧ xI M2 p r lw es
theorem xI_oth {M C : ax_M} {p : Nat → Nat} {r : Nat → Int} {lw : mt_L} {es : List (Nat × Nat)} (h : xI M p r lw es) (e2 : C.2 = M.2) (hf : ∀ n i, n ≠ 2 → ¬ (p 7 ≤ n ∧ n ≤ p 7 + 2) → C.1 n i = M.1 n i) : xI C p r lw es := by
  obtain ⟨⟨t1, t2, t3, t4, t5⟩, h2, h3, h4⟩ := h
  have hp := t1.2.1
  have p0 := hp.1
  have p6 := hp.2.1
  have g : ∀ n i, n ≠ 2 → n < 34 ∨ 39 < n → C.1 n i = M.1 n i := fun n i z1 z2 => hf n i z1 (by omega)
  refine ⟨⟨by rw [e2]; exact t1, xr_fr t2 (fun n i a b => g n i (by omega) (by omega)), t3, xlw_fr hp t4 (fun n i a _ _ => g n i (by omega) (by omega)), xbk_fr t5 (fun n i a => hf n i (by omega) (by omega))⟩, ⟨xw_fr h2.1 (fun n i z => g n i (by omega) (by omega)), xw_fr h2.2 (fun n i z => g n i (by omega) (by omega))⟩, ?_, xD_fr h4 (g _ _ (by omega) (by omega)) (fun n i z => g n i (by omega) (by omega))⟩
  rcases h3 with h3 | ⟨h3, h5⟩
  · exact Or.inl ((g 1 7 (by omega) (by omega)).trans h3)
  · exact Or.inr ⟨(g 1 7 (by omega) (by omega)).trans h3, xmt_fr h5 (fun n i z => g n i (by omega) (by omega))⟩
theorem lo_ok_pR {M : ax_M} (h : lo_ok M.2) {a k v : Nat} (hn : ∀ q ∈ lo_rfl, ¬ (q.1 = a ∧ q.2.1 = k)) : lo_ok (ax_pR M a k v).2 := ⟨h.1, fun q hq => by
  show ax_u2 M.2.1 a k v q.1 q.2.1 = _
  unfold ax_u2
  rw [if_neg (hn q hq)]
  exact h.2 q hq⟩
theorem xg_mv {C D : ax_M} {z : Nat} {B : Nat → Int32} {s : rk} (h : xg C z B s) (hok : lo_ok D.2) (e : ∀ n i, D.1 n i = C.1 n i) : xg D z B s := by
  have e9 : D.1 = C.1 := by funext n i; exact e n i
  obtain ⟨⟨-, a1, a2, a3, a4⟩, b, c⟩ := h
  refine ⟨⟨hok, ?_, a2, a3, ?_⟩, b, ?_⟩
  · rw [e9]; exact a1
  · rw [e9]; exact a4
  · unfold xt at c ⊢; rw [e9]; exact c
theorem lo_n14 : ∀ q ∈ lo_rfl, ¬ (q.1 = 1 ∧ q.2.1 = 4) := by decide +kernel
theorem lo_n15 : ∀ q ∈ lo_rfl, ¬ (q.1 = 1 ∧ q.2.1 = 5) := by decide +kernel
section X98
variable {l : Launch} {G : ax_G} {M : ax_M} {B : Nat → Int32} {p : Nat → Nat} {r : Nat → Int} {lw : mt_L} {es : List (Nat × Nat)}
theorem x_book (hl9 : l.stackTraces = false) (hI : xI M p r lw es) {t : Nat} (ht : M.1 2 1 = nI t) (ht2 : t ≤ 600) (x : Int32) (hB : txB M B t x) : ax_Met l G kX9_book 8 1 6 M [av_r 1, av_i x] (fun o M2 => ((0 ≤ x ∧ x ≤ nI t) ∧ x ≤ 150 ∧ ∃ z, z ≤ 150 ∧ z ≤ t ∧ x = nI z ∧ xbo M M2 B p r lw es z o) ∨ (¬ ((0 ≤ x ∧ x ≤ nI t) ∧ x ≤ 150) ∧ o = .inr (cz_n 1) ∧ xre M M2 1)) := by
  have hx := hI.1.1
  have hok := hx.1
  refine ax_body (by decide) (Nat.le_of_ble_eq_true rfl) ?_
  refine ax_aload_n dX9_book_0 rfl ?_
  refine ax_iload_n dX9_book_1 rfl ?_
  refine ax_sipush (v := 150) dX9_book_2 (by decide) ?_
  refine ax_callVX (As := _) (d2 := _) (c1 := 0) (n1 := 0) (x_takeText (M := M) hl9 hok ht ht2 (m := 150) (by omega) x hB rfl) dX9_book_5 mX9_takeText wd_786 acl_9 (lo_s hok 1 rfl) rfl (by omega) (by omega) (by omega) rfl rfl (fun E M2 h => by rcases h with ⟨-, -, z, -, -, -, q, -⟩ | h; cases q; exact Or.inr h) ?_
  rintro v A h
  rcases h with ⟨h1, h2, z, hz1, hz2, rfl, q, fA, a1, g⟩ | ⟨-, q, -⟩
  rotate_left
  · cases q
  cases q
  have hx : xk A.2 p := by rw [fA.1]; exact hx
  have hok := hx.1
  refine ax_aload_n dX9_book_8 rfl ?_
  refine ax_getK (f := 5) (p 7) dX9_book_9 acl_9 wd_552 (by decide) rfl (lo_s hok 1 rfl) (xk_r7 hx) ?_
  refine ax_aload_n dX9_book_12 rfl ?_
  refine ax_getK (f := 0) 2 dX9_book_13 acl_9 wd_547 (by decide) rfl (lo_s hok 1 rfl) (lo_r hok 0 rfl) ?_
  refine ax_callVN (As := _) (d2 := _) (c1 := 0) (n1 := 0) (c_bookFrom (M := A) (xk_b7 hx) g) dX9_book_16 mX0_readFrom wd_1097 acl_0 (xs_K_0 (xk_b7 hx) hok) rfl (by omega) (by omega) (by omega) rfl rfl (fun _ _ h => by cases h.1) ?_
  rintro _ C ⟨q, fC, gC, hC⟩
  cases q
  have hx : xk C.2 p := by rw [fC.1]; exact hx
  have hok := hx.1
  have p67 := hx.2.1.2.1
  have eC : ∀ n i, ¬ (n = 2 ∧ 1 ≤ i ∧ i ≤ 8) → ¬ (p 7 ≤ n ∧ n ≤ p 7 + 2) → C.1 n i = M.1 n i := fun n i z1 z2 => (fC.2 n i (by omega) z2).trans (fA.2 n i z1)
  have IC : xI C p r lw es := xI_oth hI (fC.1.trans fA.1) (fun n i z1 z2 => eC n i (by omega) z2)
  have c1 : C.1 2 1 = 0 := (fC.2 2 1 (by omega) (by omega)).trans a1
  refine ax_ifB_ne (tgt := 30) dX9_book_19 (by decide) (fun hc => ?_) (fun hc => ?_)
  · have hbk := hC hc
    refine ax_aload_n dX9_book_30 rfl ?_
    refine ax_getK (f := 4) (p 6) dX9_book_31 acl_9 wd_551 (by decide) rfl (lo_s hok 1 rfl) (xk_r6 hx) ?_
    refine ax_astore_n dX9_book_34 (by decide) rfl ?_
    refine ax_aload_n dX9_book_35 rfl ?_
    refine ax_aload_n dX9_book_36 rfl ?_
    refine ax_getK (f := 5) (p 7) dX9_book_37 acl_9 wd_552 (by decide) rfl (lo_s hok 1 rfl) (xk_r7 hx) ?_
    have okC := hok
    refine ax_putR (f := 4) dX9_book_40 acl_9 wd_551 (by decide) rfl rfl (ax_nfR (Or.inl ⟨_, rfl⟩)) (lo_s hok 1 rfl) ?_
    have hok : lo_ok (ax_pR C 1 4 (p 7)).2 := lo_ok_pR okC lo_n14
    refine ax_aload_n dX9_book_43 rfl ?_
    refine ax_aload_n dX9_book_44 rfl ?_
    refine ax_putR (f := 5) dX9_book_45 acl_9 wd_552 (by decide) rfl rfl (ax_nfR (Or.inl ⟨_, rfl⟩)) (lo_s hok 1 rfl) ?_
    refine ax_gen (fun D hD => ?_)
    have d1 : D.1 = C.1 := by rw [hD]; rfl
    have d2 : D.2.2 = C.2.2 := by rw [hD]; rfl
    have d3 : ∀ n i, ¬ (n = 1 ∧ (i = 4 ∨ i = 5)) → D.2.1 n i = C.2.1 n i := fun n i q => by
      rw [hD]
      show ax_u2 (ax_u2 C.2.1 1 4 (p 7)) 1 5 (p 6) n i = _
      unfold ax_u2
      rw [if_neg (by omega), if_neg (by omega)]
    have d4 : D.2.1 1 4 = p 7 := by rw [hD]; rfl
    have d5 : D.2.1 1 5 = p 6 := by rw [hD]; rfl
    have okD : lo_ok D.2 := by rw [hD]; exact lo_ok_pR hok lo_n15
    have hxD : xk D.2 (sw67 p) := by
      obtain ⟨-, ⟨x1, x2, x3⟩, y0, y1, y2, y3, y4, y5, y6, y7⟩ := hx
      refine ⟨okD, ⟨x1, ?_, x3⟩, ?_, ?_, ?_, ?_, ?_, ?_, d4, d5⟩
      · show p 7 = 34 ∧ p 6 = 37 ∨ p 7 = 37 ∧ p 6 = 34
        omega
      · exact (d3 4 0 (by omega)).trans y0
      · exact (d3 1 2 (by omega)).trans y1
      · exact (d3 4 1 (by omega)).trans y2
      · exact (d3 4 2 (by omega)).trans y3
      · exact (d3 4 3 (by omega)).trans y4
      · exact (d3 1 3 (by omega)).trans y5
    have e1 : ∀ n i, D.1 n i = C.1 n i := fun n i => by rw [d1]
    have hbD : xbk D (p 7) (bk_text B z).2 := xbk_fr hbk (fun n i _ => e1 n i)
    have ID : xI D (sw67 p) r lw (bk_text B z).2 := by
      obtain ⟨⟨t1, t2, t3, t4, t5⟩, h2, h3, h4⟩ := IC
      refine ⟨⟨hxD, xr_fr (R := p 0) t2 (fun n i _ _ => e1 n i), t3, xlw_fr (p := p) t1.2.1 t4 (fun n i _ _ _ => e1 n i), hbD⟩, ⟨xw_fr h2.1 (fun n i _ => e1 n i), xw_fr h2.2 (fun n i _ => e1 n i)⟩, ?_, xD_fr h4 (e1 _ _) (fun n i _ => e1 n i)⟩
      rcases h3 with h3 | ⟨h3, h5⟩
      · exact Or.inl ((e1 1 7).trans h3)
      · exact Or.inr ⟨(e1 1 7).trans h3, xmt_fr h5 (fun n i _ => e1 n i)⟩
    clear hD
    have hok := okD
    refine ax_aload_n dX9_book_48 rfl ?_
    refine ax_getK (f := 4) (p 7) dX9_book_49 acl_9 wd_551 (by decide) rfl (lo_s hok 1 rfl) d4 ?_
    refine ax_getIN (f := 2) dX9_book_52 acl_0 wd_400 (by decide) rfl (xs_K_0 (show xh_K (p 7) from xk_b7 hx) hok) ?_
    rw [hbD.1]
    refine ax_iret dX9_book_55 rfl ?_
    refine Or.inl ⟨h1, h2, z, hz1, hz2, rfl, by rw [e1]; exact c1, xg_mv gC okD e1, fun n i z1 z2 z3 => (e1 n i).trans (eC n i (by omega) (by omega)), by rw [d2, fC.1, fA.1], ?_⟩
    rw [if_pos hc]
    exact ⟨rfl, ID⟩
  · refine ax_aload_n dX9_book_22 rfl ?_
    refine ax_getK (f := 0) 2 dX9_book_23 acl_9 wd_547 (by decide) rfl (lo_s hok 1 rfl) (lo_r hok 0 rfl) ?_
    refine ax_callVN (As := _) (d2 := _) (c1 := 0) (n1 := 0) (c_answerOfFault (d := 6) (M := C) hok) dX9_book_26 mX6_answerOfFault wd_996 acl_6 (lo_s hok 2 rfl) rfl (by omega) (by omega) (by omega) rfl rfl (fun _ _ h => by cases h.1) ?_
    rintro r M9 ⟨h1, h9⟩; cases h1; rw [h9]; clear h9 M9
    refine ax_iret dX9_book_29 rfl ?_
    refine Or.inl ⟨h1, h2, z, hz1, hz2, rfl, c1, gC, fun n i z1 z2 z3 => eC n i (by omega) (by omega), by rw [fC.1, fA.1], ?_⟩
    rw [if_neg hc]
    exact ⟨rfl, IC⟩
end X98

