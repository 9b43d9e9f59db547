/-! ===== the reference reads formulas by that grammar ===== -/
theorem tx_sk_z {B : Nat → Int32} {z a : Nat} (ha : a ≤ z) : tx_sk B z a ≤ z := by
  have := tx_run_le tx_bl B (z - a) a
  unfold tx_sk
  omega
def ps_B (B : Nat → Int32) (z : Nat) : Prop := ∀ i, z ≤ i → i < 2 ^ 31 → B i = -1
theorem ps_in_z {B : Nat → Int32} {z i : Nat} (hB : ps_B B z) (hi : i < 2 ^ 31) (h : B i ≠ -1) : i < z := Nat.lt_of_not_le fun q => h (hB i q hi)
def ps_fr (M M2 : ax_M) : Prop := M2.2 = M.2 ∧ ∀ n i, ¬ (n = 90 ∧ (i = 4 ∨ i = 5 ∨ i = 6 ∨ i = 8 ∨ i = 23)) → n ≠ 116 → M2.1 n i = M.1 n i
theorem ps_fr_tr {M M1 M2 : ax_M} (h1 : ps_fr M M1) (h2 : ps_fr M1 M2) : ps_fr M M2 := ⟨h2.1.trans h1.1, fun n i q1 q2 => (h2.2 n i q1 q2).trans (h1.2 n i q1 q2)⟩
theorem ps_fr_p {M : ax_M} {n i : Nat} {x : Int32} (h : (n = 90 ∧ (i = 4 ∨ i = 5 ∨ i = 6 ∨ i = 8 ∨ i = 23)) ∨ n = 116) : ps_fr M (ax_pI M n i x) := ⟨rfl, fun q j h1 h2 => ax_pn (by rintro ⟨rfl, rfl⟩; rcases h with h | h; exact h1 h; exact h2 h)⟩
theorem ps_fr_B {M M2 : ax_M} (h : ps_fr M M2) : tx_B M2 = tx_B M := by
  funext i
  unfold tx_B
  rw [h.2 90 2 (by omega) (by decide), h.2 91 i (by omega) (by decide)]
theorem ps_fr_ok {M M2 : ax_M} {z : Nat} (h : ps_fr M M2) (hz : tx_ok M z) : tx_ok M2 z := ⟨(h.2 90 2 (by omega) (by decide)).trans hz.1, hz.2⟩
/-- the reader stands at a without FAULT, k steps noted, r may still open -/
def ps_i (B : Nat → Int32) (M : ax_M) (z a k r : Nat) : Prop := tx_st M z a ∧ tx_B M = B ∧ a ≤ z ∧ z ≤ 150 ∧ M.1 90 8 = nI (6 - r) ∧ r ≤ 6 ∧ M.1 90 23 = nI k ∧ k ≤ a
def ps_o (B : Nat → Int32) (M M2 : ax_M) (z k r : Nat) (x : ps_R) : Prop := ps_fr M M2 ∧ match x with
  | .inl e => M2.1 90 5 = nI e.1 ∧ M2.1 90 6 = nI e.2 ∧ ∃ q, q ≤ 600 ∧ M2.1 90 4 = nI q
  | .inr q => ps_i B M2 z q.1 (k + q.2.length) r ∧ (∀ j, j < 2 * k → M2.1 116 j = M.1 116 j) ∧ ∀ j w, q.2[j]? = some w → M2.1 116 (2 * (k + j)) = w.1 ∧ M2.1 116 (2 * (k + j) + 1) = w.2
theorem ps_o_0 {B : Nat → Int32} {M : ax_M} {z a k r : Nat} (h : ps_i B M z a k r) : ps_o B M M z k r (.inr (a, [])) := ⟨⟨rfl, fun _ _ _ _ => rfl⟩, h, fun _ _ => rfl, fun j w h => by simp at h⟩
/-- further on by a place alone -/
theorem ps_o_at {B : Nat → Int32} {M M1 M2 : ax_M} {z k r b c : Nat} {cs : List (Int32 × Int32)} (h : ps_o B M M1 z k r (.inr (b, cs))) (hc : c ≤ z) (hbc : b ≤ c) (h2 : M2 = ax_pI M1 90 4 (nI c)) : ps_o B M M2 z k r (.inr (c, cs)) := by
  subst h2
  obtain ⟨h1, ⟨⟨q1, q2, q3, q4, q5⟩, p2, p3, p4, p5, p6, p7, p8⟩, h3, h4⟩ := h
  refine ⟨ps_fr_tr h1 (ps_fr_p (by omega)), ⟨⟨q1, q2, ax_pa _ _ _ _, by have := q2.2; show c ≤ 600; omega, by rw [ax_pn (by decide)]; exact q5⟩, p2, hc, p4, by rw [ax_pn (by decide)]; exact p5, p6, by rw [ax_pn (by decide)]; exact p7, by show k + cs.length ≤ c; have : k + cs.length ≤ b := p8; omega⟩, fun j hj => by rw [ax_pn (by omega)]; exact h3 j hj, fun j w hw => by rw [ax_pn (by omega), ax_pn (by omega)]; exact h4 j w hw⟩
theorem ps_o_tr {B : Nat → Int32} {M M1 M2 : ax_M} {z k r b : Nat} {cs : List (Int32 × Int32)} {x : ps_R} (h : ps_o B M M1 z k r (.inr (b, cs))) (h2 : ps_o B M1 M2 z (k + cs.length) r x) : ps_o B M M2 z k r (ps_th x (fun b ds => .inr (b, cs ++ ds))) := by
  refine ⟨ps_fr_tr h.1 h2.1, ?_⟩
  cases x with
  | inl e => exact h2.2
  | inr q =>
    obtain ⟨-, i1, i2, i3⟩ := h
    obtain ⟨-, j1, j2, j3⟩ := h2
    refine ⟨by rw [show k + (cs ++ q.2).length = k + cs.length + q.2.length by rw [List.length_append]; omega]; exact j1, fun j hj => (j2 j (by omega)).trans (i2 j hj), fun j w hw => ?_⟩
    have hw2 : (cs ++ q.2)[j]? = some w := hw
    by_cases hlt : j < cs.length
    · rw [List.getElem?_append_left hlt] at hw2
      have := i3 j w hw2
      rw [j2 _ (by omega), j2 _ (by omega)]
      exact this
    · rw [List.getElem?_append_right (by omega)] at hw2
      have := j3 (j - cs.length) w hw2
      rw [show k + j = k + cs.length + (j - cs.length) by omega]
      exact this
theorem ps_th_l {e : Nat × Nat} {f : Nat → List (Int32 × Int32) → ps_R} : ps_th (.inl e) f = .inl e := rfl
theorem ps_th_r {b : Nat} {cs : List (Int32 × Int32)} {f : Nat → List (Int32 × Int32) → ps_R} : ps_th (.inr (b, cs)) f = f b cs := rfl
section PS
variable {l : Launch} {G : ax_G} {d : Nat} {M : ax_M}
theorem c_X10_notesF (hok : lo_ok M.2) (hf : ¬ M.1 90 5 = 0) (w v : Int32) : ax_Met l G kX10_notes d 0 0 M [av_r 90, av_i w, av_i v] (fun o M2 => o = .inl none ∧ M2 = M) := by
  refine ax_body (by decide) (Nat.le_of_ble_eq_true rfl) ?_
  refine ax_aload_n dX10_notes_0 rfl ?_
  refine ax_getI (f := 5) dX10_notes_1 acl_10 wd_1605 (by decide) rfl (lo_s hok 90 rfl) ?_
  refine ax_if_eq (tgt := 8) dX10_notes_4 (by decide) (fun h4 => ?_) (fun h4 => ?_)
  · exact absurd h4 hf
  · refine ax_vret dX10_notes_7 rfl ?_
    exact ⟨rfl, rfl⟩
theorem c_X10_notes (hok : lo_ok M.2) (hf : M.1 90 5 = 0) {k : Nat} (hk : M.1 90 23 = nI k) (hk2 : k ≤ 150) (w v : Int32) : ax_Met l G kX10_notes d 0 0 M [av_r 90, av_i w, av_i v] (fun o M2 => o = .inl none ∧ M2 = ax_pI (ax_pI (ax_pI M 116 (2 * k) w) 116 (2 * k + 1) v) 90 23 (nI (k + 1))) := by
  have e1 : (2 : Int32) * M.1 90 23 = nI (2 * k) := by rw [hk, show (2 : Int32) = nI 2 from rfl, pk_mul]
  refine ax_body (by decide) (Nat.le_of_ble_eq_true rfl) ?_
  refine ax_aload_n dX10_notes_0 rfl ?_
  refine ax_getI (f := 5) dX10_notes_1 acl_10 wd_1605 (by decide) rfl (lo_s hok 90 rfl) ?_
  refine ax_if_eq (tgt := 8) dX10_notes_4 (by decide) (fun hc => ?_) (fun hc => ?_)
  · refine ax_aload_n dX10_notes_8 rfl ?_
    refine ax_getK (f := 25) 116 dX10_notes_9 acl_10 wd_1625 (by decide) rfl (lo_s hok 90 rfl) (lo_r hok 94 rfl) ?_
    refine ax_iconst (v := 2) dX10_notes_12 (by decide) ?_
    refine ax_aload_n dX10_notes_13 rfl ?_
    refine ax_getI (f := 23) dX10_notes_14 acl_10 wd_1623 (by decide) rfl (lo_s hok 90 rfl) ?_
    refine ax_imul dX10_notes_17 ?_
    refine ax_iload_n dX10_notes_18 rfl ?_
    rw [e1]
    refine ax_iast dX10_notes_19 (lo_s hok 116 rfl) (vp_in_nI (by omega) (by decide)) ?_
    refine ax_aload_n dX10_notes_20 rfl ?_
    refine ax_getK (f := 25) 116 dX10_notes_21 acl_10 wd_1625 (by decide) rfl (lo_s hok 90 rfl) (lo_r hok 94 rfl) ?_
    refine ax_iconst (v := 2) dX10_notes_24 (by decide) ?_
    refine ax_aload_n dX10_notes_25 rfl ?_
    refine ax_getI (f := 23) dX10_notes_26 acl_10 wd_1623 (by decide) rfl (lo_s hok 90 rfl) ?_
    refine ax_imul dX10_notes_29 ?_
    rw [nI_clamp (by omega), ax_pn (by omega), e1]
    refine ax_iconst (v := 1) dX10_notes_30 (by decide) ?_
    refine ax_iadd dX10_notes_31 ?_
    refine ax_iload_n dX10_notes_32 rfl ?_
    rw [nI_1]
    refine ax_iast dX10_notes_33 (lo_s hok 116 rfl) (vp_in_nI (by omega) (by decide)) ?_
    refine ax_aload_n dX10_notes_34 rfl ?_
    refine ax_dup dX10_notes_35 (by first | rfl | exact ax_crf _) ?_
    refine ax_getI (f := 23) dX10_notes_36 acl_10 wd_1623 (by decide) rfl (lo_s hok 90 rfl) ?_
    refine ax_iconst (v := 1) dX10_notes_39 (by decide) ?_
    refine ax_iadd dX10_notes_40 ?_
    refine ax_putI (f := 23) dX10_notes_41 acl_10 wd_1623 (by decide) rfl rfl (ax_nfI rfl) (lo_s hok 90 rfl) ?_
    refine ax_vret dX10_notes_44 rfl ?_
    rw [nI_clamp (by omega), ax_pn (by omega), ax_pn (by omega), hk, nI_1]
    exact ⟨rfl, rfl⟩
  · exact absurd hf hc
theorem ps_note {B : Nat → Int32} {M M2 : ax_M} {z a k r : Nat} {w v : Int32} (h : ps_i B M z a k r) (hka : k + 1 ≤ a) (h2 : M2 = ax_pI (ax_pI (ax_pI M 116 (2 * k) w) 116 (2 * k + 1) v) 90 23 (nI (k + 1))) : ps_o B M M2 z k r (.inr (a, [(w, v)])) := by
  subst h2
  obtain ⟨⟨q1, q2, q3, q4, q5⟩, p2, p3, p4, p5, p6, p7, p8⟩ := h
  refine ⟨ps_fr_tr (ps_fr_tr (ps_fr_p (Or.inr rfl)) (ps_fr_p (Or.inr rfl))) (ps_fr_p (by omega)), ⟨⟨q1, q2, ?_, q4, ?_⟩, p2, p3, p4, ?_, p6, ax_pa _ _ _ _, hka⟩, fun j hj => ?_, fun j w2 hw => ?_⟩
  · rw [ax_pn (by decide), ax_pn (by omega), ax_pn (by omega)]; exact q3
  · rw [ax_pn (by decide), ax_pn (by omega), ax_pn (by omega)]; exact q5
  · rw [ax_pn (by decide), ax_pn (by omega), ax_pn (by omega)]; exact p5
  · rw [ax_pn (by omega), ax_pn (by omega), ax_pn (by omega)]
  · cases j with
    | succ j => simp at hw
    | zero =>
      have e : (w, v) = w2 := by simpa using hw
      subst e
      refine ⟨?_, ?_⟩
      · rw [ax_pn (by omega), ax_pn (by omega)]; exact ax_pa _ _ _ _
      · rw [ax_pn (by omega)]; exact ax_pa _ _ _ _
theorem c_X10_oneF (hok : lo_ok M.2) (hf : ¬ M.1 90 5 = 0) : ax_Met l G kX10_one d 0 0 M [av_r 90] (fun o M2 => o = .inl none ∧ M2 = M) := by
  refine ax_body (by decide) (Nat.le_of_ble_eq_true rfl) ?_
  refine ax_aload_n dX10_one_0 rfl ?_
  refine ax_getI (f := 5) dX10_one_1 acl_10 wd_1605 (by decide) rfl (lo_s hok 90 rfl) ?_
  refine ax_if_eq (tgt := 8) dX10_one_4 (by decide) (fun h4 => ?_) (fun h4 => ?_)
  · exact absurd h4 hf
  · refine ax_vret dX10_one_7 rfl ?_
    exact ⟨rfl, rfl⟩
theorem c_X10_productF (hok : lo_ok M.2) (hf : ¬ M.1 90 5 = 0) : ax_Met l G kX10_product 2 0 0 M [av_r 90] (fun o M2 => o = .inl none ∧ M2 = M) := by
  refine ax_body (by decide) (Nat.le_of_ble_eq_true rfl) ?_
  refine ax_aload_n dX10_product_0 rfl ?_
  refine ax_callV (As := _) (d2 := _) (c1 := 0) (n1 := 0) (c_X10_oneF (d := 1) (M := M) hok hf) dX10_product_1 mX10_one wd_1861 acl_10 (lo_s hok 90 rfl) rfl (by omega) (by omega) (by omega) rfl rfl (fun _ _ h => by cases h.1) ?_
  rintro r M9 ⟨h1, h9⟩; cases h1; rw [h9]; clear h9 M9
  refine ax_aload_n dX10_product_4 rfl ?_
  refine ax_getI (f := 5) dX10_product_5 acl_10 wd_1605 (by decide) rfl (lo_s hok 90 rfl) ?_
  refine ax_if_ne (tgt := 58) dX10_product_8 (by decide) (fun hc => ?_) (fun hc => ?_)
  · refine ax_vret dX10_product_58 rfl ?_
    exact ⟨rfl, rfl⟩
  · exact absurd hc hf
set_option maxHeartbeats 2000000 in
theorem c_X10_product {B : Nat → Int32} {z r D : Nat} {u : Nat → ps_R} (hB : ps_B B z) (hu : ps_gd z u) (hC : ∀ (M : ax_M) (a k : Nat), ps_i B M z a k r → ax_Met l G kX10_one (D + 5) 0 0 M [av_r 90] (fun o M2 => o = .inl none ∧ ps_o B M M2 z k r (u a))) {a k : Nat} (hi : ps_i B M z a k r) : ax_Met l G kX10_product (D + 6) 0 0 M [av_r 90] (fun o M2 => o = .inl none ∧ ps_o B M M2 z k r (ps_th (u a) (fun b cs => ps_many B z u 42 47 4 5 ps_fu b cs))) := by
  have hok := hi.1.1
  refine ax_body (by decide) (Nat.le_of_ble_eq_true rfl) ?_
  generalize hQ : (fun (o : ax_O) (M2 : ax_M) => o = .inl none ∧ ps_o B M M2 z k r (ps_th (u a) (fun b cs => ps_many B z u 42 47 4 5 ps_fu b cs))) = Q
  have done : ∀ (M2 : ax_M) (x : ps_R), ps_o B M M2 z k r x → x = ps_th (u a) (fun b cs => ps_many B z u 42 47 4 5 ps_fu b cs) → Q (.inl none) M2 := by
    intro M2 x h1 h2
    rw [← hQ]
    exact ⟨rfl, h2 ▸ h1⟩
  have hua := hu a hi.2.2.1
  have loop : ∀ (n b : Nat) (cs : List (Int32 × Int32)) (M1 : ax_M) (y : Option ax_V), z < n + b → ps_o B M M1 z k r (.inr (b, cs)) → ps_many B z u 42 47 4 5 n b cs = ps_th (u a) (fun b cs => ps_many B z u 42 47 4 5 ps_fu b cs) → ax_W l G kX10_product (ax_FQ G Q) (D + 6) 0 0 M1 4 [some (av_r 90), y] [] := by
    intro n
    induction n with
    | zero =>
      intro b cs M1 y hn h1 h2
      exact absurd h1.2.1.2.2.1 (by show ¬ b ≤ z; omega)
    | succ n ih =>
      intro b cs M1 y hn h1 hm
      have hi1 := h1.2.1
      have hs1 := hi1.1
      have hok := hs1.1
      have eB := hi1.2.1
      have hbz : b ≤ z := hi1.2.2.1
      have hz150 := hi1.2.2.2.1
      have hsz := tx_sk_z (B := B) hbz
      have hsb : b ≤ tx_sk B z b := tx_sk_ge
      have hkb : k + cs.length ≤ b := hi1.2.2.2.2.2.2.2
      -- one more
      have more : ∀ (h : Int32) (M2 : ax_M), B (tx_sk B z b) ≠ -1 → ps_o B M M2 z k r (.inr (tx_sk B z b + 1, cs)) → ps_th (u (tx_sk B z b + 1)) (fun b ds => ps_many B z u 42 47 4 5 n b (cs ++ ds ++ [(h, 0)])) = ps_th (u a) (fun b cs => ps_many B z u 42 47 4 5 ps_fu b cs) → ax_W l G kX10_product (ax_FQ G Q) (D + 6) 0 0 M2 45 [some (av_r 90), some (av_i h)] [] := by
        intro h M2 hne h2 hm2
        have hok := h2.2.1.1.1
        have hlt := ps_in_z hB (by omega) hne
        have hg := hu (tx_sk B z b + 1) (by omega)
        refine ax_aload_n dX10_product_45 rfl ?_
        refine ax_callV (As := _) (d2 := _) (c1 := 0) (n1 := 0) (hC M2 (tx_sk B z b + 1) (k + cs.length) h2.2.1) dX10_product_46 mX10_one wd_1861 acl_10 (lo_s hok 90 rfl) rfl (by omega) (by omega) (by omega) rfl rfl (fun _ _ h => by cases h.1) ?_
        rintro q M3 ⟨h3, h4⟩; cases h3
        have h5 := ps_o_tr h2 h4
        have hok3 : lo_ok M3.2 := by rw [h4.1.1]; exact hok
        have hok := hok3
        cases hx : u (tx_sk B z b + 1) with
        | inl e =>
          rw [hx] at h5 hm2 h4 hg
          have hf : ¬ M3.1 90 5 = 0 := by rw [h4.2.1]; exact nI_ne0 (by have := hg.1; omega) (by have := hg.2.1; omega)
          refine ax_aload_n dX10_product_49 rfl ?_
          refine ax_iload_n dX10_product_50 rfl ?_
          refine ax_iconst (v := 0) dX10_product_51 (by decide) ?_
          refine ax_callV (As := _) (d2 := _) (c1 := 0) (n1 := 0) (c_X10_notesF (d := 0) (M := M3) hok hf _ _) dX10_product_52 mX10_notes wd_1869 acl_10 (lo_s hok 90 rfl) rfl (by omega) (by omega) (by omega) rfl rfl (fun _ _ h => by cases h.1) ?_
          rintro r M9 ⟨h1, h9⟩; cases h1; rw [h9]; clear h9 M9
          refine ax_goto (tgt := 4) dX10_product_55 (by decide) ?_
          refine ax_aload_n dX10_product_4 rfl ?_
          refine ax_getI (f := 5) dX10_product_5 acl_10 wd_1605 (by decide) rfl (lo_s hok 90 rfl) ?_
          refine ax_if_ne (tgt := 58) dX10_product_8 (by decide) (fun hc => ?_) (fun hc => ?_)
          · refine ax_vret dX10_product_58 rfl ?_
            exact done M3 _ h5 hm2
          · exact absurd hc hf
        | inr q =>
          obtain ⟨b2, ds⟩ := q
          rw [hx] at h5 hm2 h4 hg
          have hg1 : tx_sk B z b + 1 + ds.length ≤ b2 ∧ b2 ≤ z ∧ tx_sk B z b + 1 < b2 := hg
          have hi5 : ps_i B M3 z b2 (k + (cs ++ ds).length) r := h5.2.1
          have e23 := hi5.2.2.2.2.2.2.1
          refine ax_aload_n dX10_product_49 rfl ?_
          refine ax_iload_n dX10_product_50 rfl ?_
          refine ax_iconst (v := 0) dX10_product_51 (by decide) ?_
          refine ax_callV (As := _) (d2 := _) (c1 := 0) (n1 := 0) (c_X10_notes (d := 0) (M := M3) hok hi5.1.2.2.2.2 (k := k + (cs ++ ds).length) e23 (by rw [List.length_append]; omega) _ _) dX10_product_52 mX10_notes wd_1869 acl_10 (lo_s hok 90 rfl) rfl (by omega) (by omega) (by omega) rfl rfl (fun _ _ h => by cases h.1) ?_
          rintro q M4 ⟨h6, h7⟩; cases h6
          have h8 := ps_o_tr h5 (ps_note hi5 (by rw [List.length_append]; omega) h7)
          refine ax_goto (tgt := 4) dX10_product_55 (by decide) ?_
          exact ih b2 _ M4 _ (by omega) h8 hm2
      have hf0 := hs1.2.2.2.2
      refine ax_aload_n dX10_product_4 rfl ?_
      refine ax_getI (f := 5) dX10_product_5 acl_10 wd_1605 (by decide) rfl (lo_s hok 90 rfl) ?_
      refine ax_if_ne (tgt := 58) dX10_product_8 (by decide) (fun hc => ?_) (fun hc => ?_)
      · exact absurd hf0 hc
      · refine ax_aload_n dX10_product_11 rfl ?_
        refine ax_bipush (v := 42) dX10_product_12 (by decide) ?_
        refine ax_callV (As := _) (d2 := _) (c1 := 0) (n1 := 0) (c_X10_takesSign (M := M1) hs1 _) dX10_product_14 mX10_takesSign wd_1881 acl_10 (lo_s hok 90 rfl) rfl (by omega) (by omega) (by omega) rfl rfl (fun _ _ h => by cases h.1) ?_
        rintro q M2 ⟨h3, h4⟩; cases h3
        rw [eB] at h4
        rw [eB]
        have hok2 : lo_ok M2.2 := by rw [h4]; exact hok
        have hok := hok2
        refine ax_if_eq (tgt := 24) dX10_product_17 (by decide) (fun hc => ?_) (fun hc => ?_)
        · have hn1 : ¬ B (tx_sk B z b) = 42 := by
            intro q
            rw [if_pos q] at hc; exact absurd hc (by decide)
          rw [if_neg hn1] at h4
          have h5 := ps_o_at h1 hsz hsb h4
          have hs2 := h5.2.1.1
          have eB2 := h5.2.1.2.1
          refine ax_aload_n dX10_product_24 rfl ?_
          refine ax_bipush (v := 47) dX10_product_25 (by decide) ?_
          refine ax_callV (As := _) (d2 := _) (c1 := 0) (n1 := 0) (c_X10_takesSign (M := M2) hs2 _) dX10_product_27 mX10_takesSign wd_1881 acl_10 (lo_s hok 90 rfl) rfl (by omega) (by omega) (by omega) rfl rfl (fun _ _ h => by cases h.1) ?_
          rintro q M3 ⟨h6, h7⟩; cases h6
          rw [eB2, tx_sk_sk] at h7
          rw [eB2, tx_sk_sk]
          have hok3 : lo_ok M3.2 := by rw [h7]; exact hok
          have hok := hok3
          refine ax_if_eq (tgt := 37) dX10_product_30 (by decide) (fun hc => ?_) (fun hc => ?_)
          · have hn2 : ¬ B (tx_sk B z b) = 47 := by
              intro q
              rw [if_pos q] at hc; exact absurd hc (by decide)
            rw [if_neg hn2] at h7
            refine ax_iconst (v := (-1)) dX10_product_37 (by decide) ?_
            refine ax_istore_n dX10_product_38 (by decide) rfl ?_
            refine ax_iload_n dX10_product_39 rfl ?_
            refine ax_iconst (v := (-1)) dX10_product_40 (by decide) ?_
            refine ax_icmp_ne (tgt := 45) dX10_product_41 (by decide) (fun hc => ?_) (fun hc => ?_)
            · exact absurd rfl hc
            · refine ax_vret dX10_product_44 rfl ?_
              refine done M3 _ (ps_o_at h5 hsz (Nat.le_refl _) h7) ?_
              rw [← hm]
              show _ = if _ then _ else if _ then _ else _
              rw [if_neg hn1, if_neg hn2]
          · have hy2 : B (tx_sk B z b) = 47 := by
              by_cases q : B (tx_sk B z b) = 47
              · exact q
              · rw [if_neg q] at hc; exact absurd rfl hc
            rw [if_pos hy2] at h7
            refine ax_iconst (v := 5) dX10_product_33 (by decide) ?_
            refine ax_goto (tgt := 38) dX10_product_34 (by decide) ?_
            refine ax_istore_n dX10_product_38 (by decide) rfl ?_
            refine ax_iload_n dX10_product_39 rfl ?_
            refine ax_iconst (v := (-1)) dX10_product_40 (by decide) ?_
            refine ax_icmp_ne (tgt := 45) dX10_product_41 (by decide) (fun hc => ?_) (fun hc => ?_)
            · refine more 5 M3 (by rw [hy2]; decide) (ps_o_at h5 (ps_in_z hB (by omega) (by rw [hy2]; decide)) (by omega) h7) ?_
              rw [← hm]
              show _ = if _ then _ else if _ then _ else _
              rw [if_neg hn1, if_pos hy2]
            · exact absurd hc (by decide)
        · have hy1 : B (tx_sk B z b) = 42 := by
            by_cases q : B (tx_sk B z b) = 42
            · exact q
            · rw [if_neg q] at hc; exact absurd rfl hc
          rw [if_pos hy1] at h4
          refine ax_iconst (v := 4) dX10_product_20 (by decide) ?_
          refine ax_goto (tgt := 38) dX10_product_21 (by decide) ?_
          refine ax_istore_n dX10_product_38 (by decide) rfl ?_
          refine ax_iload_n dX10_product_39 rfl ?_
          refine ax_iconst (v := (-1)) dX10_product_40 (by decide) ?_
          refine ax_icmp_ne (tgt := 45) dX10_product_41 (by decide) (fun hc => ?_) (fun hc => ?_)
          · refine more 4 M2 (by rw [hy1]; decide) (ps_o_at h1 (ps_in_z hB (by omega) (by rw [hy1]; decide)) (by omega) h4) ?_
            rw [← hm]
            show _ = if _ then _ else _
            rw [if_pos hy1]
          · exact absurd hc (by decide)
  refine ax_aload_n dX10_product_0 rfl ?_
  refine ax_callV (As := _) (d2 := _) (c1 := 0) (n1 := 0) (hC M a k hi) dX10_product_1 mX10_one wd_1861 acl_10 (lo_s hok 90 rfl) rfl (by omega) (by omega) (by omega) rfl rfl (fun _ _ h => by cases h.1) ?_
  rintro q M3 ⟨h3, h4⟩; cases h3
  have hok3 : lo_ok M3.2 := by rw [h4.1.1]; exact hok
  have hok := hok3
  cases hx : u a with
  | inl e =>
    rw [hx] at h4 hua
    have hf : ¬ M3.1 90 5 = 0 := by rw [h4.2.1]; exact nI_ne0 (by have := hua.1; omega) (by have := hua.2.1; omega)
    refine ax_aload_n dX10_product_4 rfl ?_
    refine ax_getI (f := 5) dX10_product_5 acl_10 wd_1605 (by decide) rfl (lo_s hok 90 rfl) ?_
    refine ax_if_ne (tgt := 58) dX10_product_8 (by decide) (fun hc => ?_) (fun hc => ?_)
    · refine ax_vret dX10_product_58 rfl ?_
      exact done M3 _ h4 (by rw [hx, ps_th_l])
    · exact absurd hc hf
  | inr q =>
    obtain ⟨b2, ds⟩ := q
    rw [hx] at h4 hua
    have hb2 : b2 ≤ z := hua.2.1
    have h150 := hi.2.2.2.1
    exact loop ps_fu b2 ds M3 none (by rw [ps_fu_eq]; omega) h4 (by rw [hx, ps_th_r])
theorem c_X10_sumF (hok : lo_ok M.2) (hf : ¬ M.1 90 5 = 0) : ax_Met l G kX10_sum 3 0 0 M [av_r 90] (fun o M2 => o = .inl none ∧ M2 = M) := by
  refine ax_body (by decide) (Nat.le_of_ble_eq_true rfl) ?_
  refine ax_aload_n dX10_sum_0 rfl ?_
  refine ax_callV (As := _) (d2 := _) (c1 := 0) (n1 := 0) (c_X10_productF (M := M) hok hf) dX10_sum_1 mX10_product wd_1857 acl_10 (lo_s hok 90 rfl) rfl (by omega) (by omega) (by omega) rfl rfl (fun _ _ h => by cases h.1) ?_
  rintro r M9 ⟨h1, h9⟩; cases h1; rw [h9]; clear h9 M9
  refine ax_aload_n dX10_sum_4 rfl ?_
  refine ax_getI (f := 5) dX10_sum_5 acl_10 wd_1605 (by decide) rfl (lo_s hok 90 rfl) ?_
  refine ax_if_ne (tgt := 58) dX10_sum_8 (by decide) (fun hc => ?_) (fun hc => ?_)
  · refine ax_vret dX10_sum_58 rfl ?_
    exact ⟨rfl, rfl⟩
  · exact absurd hc hf
set_option maxHeartbeats 2000000 in
theorem c_X10_sum {B : Nat → Int32} {z r D : Nat} {u : Nat → ps_R} (hB : ps_B B z) (hu : ps_gd z u) (hC : ∀ (M : ax_M) (a k : Nat), ps_i B M z a k r → ax_Met l G kX10_product (D + 5) 0 0 M [av_r 90] (fun o M2 => o = .inl none ∧ ps_o B M M2 z k r (u a))) {a k : Nat} (hi : ps_i B M z a k r) : ax_Met l G kX10_sum (D + 6) 0 0 M [av_r 90] (fun o M2 => o = .inl none ∧ ps_o B M M2 z k r (ps_th (u a) (fun b cs => ps_many B z u 43 45 2 3 ps_fu b cs))) := by
  have hok := hi.1.1
  refine ax_body (by decide) (Nat.le_of_ble_eq_true rfl) ?_
  generalize hQ : (fun (o : ax_O) (M2 : ax_M) => o = .inl none ∧ ps_o B M M2 z k r (ps_th (u a) (fun b cs => ps_many B z u 43 45 2 3 ps_fu b cs))) = Q
  have done : ∀ (M2 : ax_M) (x : ps_R), ps_o B M M2 z k r x → x = ps_th (u a) (fun b cs => ps_many B z u 43 45 2 3 ps_fu b cs) → Q (.inl none) M2 := by
    intro M2 x h1 h2
    rw [← hQ]
    exact ⟨rfl, h2 ▸ h1⟩
  have hua := hu a hi.2.2.1
  have loop : ∀ (n b : Nat) (cs : List (Int32 × Int32)) (M1 : ax_M) (y : Option ax_V), z < n + b → ps_o B M M1 z k r (.inr (b, cs)) → ps_many B z u 43 45 2 3 n b cs = ps_th (u a) (fun b cs => ps_many B z u 43 45 2 3 ps_fu b cs) → ax_W l G kX10_sum (ax_FQ G Q) (D + 6) 0 0 M1 4 [some (av_r 90), y] [] := by
    intro n
    induction n with
    | zero =>
      intro b cs M1 y hn h1 h2
      exact absurd h1.2.1.2.2.1 (by show ¬ b ≤ z; omega)
    | succ n ih =>
      intro b cs M1 y hn h1 hm
      have hi1 := h1.2.1
      have hs1 := hi1.1
      have hok := hs1.1
      have eB := hi1.2.1
      have hbz : b ≤ z := hi1.2.2.1
      have hz150 := hi1.2.2.2.1
      have hsz := tx_sk_z (B := B) hbz
      have hsb : b ≤ tx_sk B z b := tx_sk_ge
      have hkb : k + cs.length ≤ b := hi1.2.2.2.2.2.2.2
      -- one more
      have more : ∀ (h : Int32) (M2 : ax_M), B (tx_sk B z b) ≠ -1 → ps_o B M M2 z k r (.inr (tx_sk B z b + 1, cs)) → ps_th (u (tx_sk B z b + 1)) (fun b ds => ps_many B z u 43 45 2 3 n b (cs ++ ds ++ [(h, 0)])) = ps_th (u a) (fun b cs => ps_many B z u 43 45 2 3 ps_fu b cs) → ax_W l G kX10_sum (ax_FQ G Q) (D + 6) 0 0 M2 45 [some (av_r 90), some (av_i h)] [] := by
        intro h M2 hne h2 hm2
        have hok := h2.2.1.1.1
        have hlt := ps_in_z hB (by omega) hne
        have hg := hu (tx_sk B z b + 1) (by omega)
        refine ax_aload_n dX10_sum_45 rfl ?_
        refine ax_callV (As := _) (d2 := _) (c1 := 0) (n1 := 0) (hC M2 (tx_sk B z b + 1) (k + cs.length) h2.2.1) dX10_sum_46 mX10_product wd_1857 acl_10 (lo_s hok 90 rfl) rfl (by omega) (by omega) (by omega) rfl rfl (fun _ _ h => by cases h.1) ?_
        rintro q M3 ⟨h3, h4⟩; cases h3
        have h5 := ps_o_tr h2 h4
        have hok3 : lo_ok M3.2 := by rw [h4.1.1]; exact hok
        have hok := hok3
        cases hx : u (tx_sk B z b + 1) with
        | inl e =>
          rw [hx] at h5 hm2 h4 hg
          have hf : ¬ M3.1 90 5 = 0 := by rw [h4.2.1]; exact nI_ne0 (by have := hg.1; omega) (by have := hg.2.1; omega)
          refine ax_aload_n dX10_sum_49 rfl ?_
          refine ax_iload_n dX10_sum_50 rfl ?_
          refine ax_iconst (v := 0) dX10_sum_51 (by decide) ?_
          refine ax_callV (As := _) (d2 := _) (c1 := 0) (n1 := 0) (c_X10_notesF (d := 0) (M := M3) hok hf _ _) dX10_sum_52 mX10_notes wd_1869 acl_10 (lo_s hok 90 rfl) rfl (by omega) (by omega) (by omega) rfl rfl (fun _ _ h => by cases h.1) ?_
          rintro r M9 ⟨h1, h9⟩; cases h1; rw [h9]; clear h9 M9
          refine ax_goto (tgt := 4) dX10_sum_55 (by decide) ?_
          refine ax_aload_n dX10_sum_4 rfl ?_
          refine ax_getI (f := 5) dX10_sum_5 acl_10 wd_1605 (by decide) rfl (lo_s hok 90 rfl) ?_
          refine ax_if_ne (tgt := 58) dX10_sum_8 (by decide) (fun hc => ?_) (fun hc => ?_)
          · refine ax_vret dX10_sum_58 rfl ?_
            exact done M3 _ h5 hm2
          · exact absurd hc hf
        | inr q =>
          obtain ⟨b2, ds⟩ := q
          rw [hx] at h5 hm2 h4 hg
          have hg1 : tx_sk B z b + 1 + ds.length ≤ b2 ∧ b2 ≤ z ∧ tx_sk B z b + 1 < b2 := hg
          have hi5 : ps_i B M3 z b2 (k + (cs ++ ds).length) r := h5.2.1
          have e23 := hi5.2.2.2.2.2.2.1
          refine ax_aload_n dX10_sum_49 rfl ?_
          refine ax_iload_n dX10_sum_50 rfl ?_
          refine ax_iconst (v := 0) dX10_sum_51 (by decide) ?_
          refine ax_callV (As := _) (d2 := _) (c1 := 0) (n1 := 0) (c_X10_notes (d := 0) (M := M3) hok hi5.1.2.2.2.2 (k := k + (cs ++ ds).length) e23 (by rw [List.length_append]; omega) _ _) dX10_sum_52 mX10_notes wd_1869 acl_10 (lo_s hok 90 rfl) rfl (by omega) (by omega) (by omega) rfl rfl (fun _ _ h => by cases h.1) ?_
          rintro q M4 ⟨h6, h7⟩; cases h6
          have h8 := ps_o_tr h5 (ps_note hi5 (by rw [List.length_append]; omega) h7)
          refine ax_goto (tgt := 4) dX10_sum_55 (by decide) ?_
          exact ih b2 _ M4 _ (by omega) h8 hm2
      have hf0 := hs1.2.2.2.2
      refine ax_aload_n dX10_sum_4 rfl ?_
      refine ax_getI (f := 5) dX10_sum_5 acl_10 wd_1605 (by decide) rfl (lo_s hok 90 rfl) ?_
      refine ax_if_ne (tgt := 58) dX10_sum_8 (by decide) (fun hc => ?_) (fun hc => ?_)
      · exact absurd hf0 hc
      · refine ax_aload_n dX10_sum_11 rfl ?_
        refine ax_bipush (v := 43) dX10_sum_12 (by decide) ?_
        refine ax_callV (As := _) (d2 := _) (c1 := 0) (n1 := 0) (c_X10_takesSign (M := M1) hs1 _) dX10_sum_14 mX10_takesSign wd_1881 acl_10 (lo_s hok 90 rfl) rfl (by omega) (by omega) (by omega) rfl rfl (fun _ _ h => by cases h.1) ?_
        rintro q M2 ⟨h3, h4⟩; cases h3
        rw [eB] at h4
        rw [eB]
        have hok2 : lo_ok M2.2 := by rw [h4]; exact hok
        have hok := hok2
        refine ax_if_eq (tgt := 24) dX10_sum_17 (by decide) (fun hc => ?_) (fun hc => ?_)
        · have hn1 : ¬ B (tx_sk B z b) = 43 := by
            intro q
            rw [if_pos q] at hc; exact absurd hc (by decide)
          rw [if_neg hn1] at h4
          have h5 := ps_o_at h1 hsz hsb h4
          have hs2 := h5.2.1.1
          have eB2 := h5.2.1.2.1
          refine ax_aload_n dX10_sum_24 rfl ?_
          refine ax_bipush (v := 45) dX10_sum_25 (by decide) ?_
          refine ax_callV (As := _) (d2 := _) (c1 := 0) (n1 := 0) (c_X10_takesSign (M := M2) hs2 _) dX10_sum_27 mX10_takesSign wd_1881 acl_10 (lo_s hok 90 rfl) rfl (by omega) (by omega) (by omega) rfl rfl (fun _ _ h => by cases h.1) ?_
          rintro q M3 ⟨h6, h7⟩; cases h6
          rw [eB2, tx_sk_sk] at h7
          rw [eB2, tx_sk_sk]
          have hok3 : lo_ok M3.2 := by rw [h7]; exact hok
          have hok := hok3
          refine ax_if_eq (tgt := 37) dX10_sum_30 (by decide) (fun hc => ?_) (fun hc => ?_)
          · have hn2 : ¬ B (tx_sk B z b) = 45 := by
              intro q
              rw [if_pos q] at hc; exact absurd hc (by decide)
            rw [if_neg hn2] at h7
            refine ax_iconst (v := (-1)) dX10_sum_37 (by decide) ?_
            refine ax_istore_n dX10_sum_38 (by decide) rfl ?_
            refine ax_iload_n dX10_sum_39 rfl ?_
            refine ax_iconst (v := (-1)) dX10_sum_40 (by decide) ?_
            refine ax_icmp_ne (tgt := 45) dX10_sum_41 (by decide) (fun hc => ?_) (fun hc => ?_)
            · exact absurd rfl hc
            · refine ax_vret dX10_sum_44 rfl ?_
              refine done M3 _ (ps_o_at h5 hsz (Nat.le_refl _) h7) ?_
              rw [← hm]
              show _ = if _ then _ else if _ then _ else _
              rw [if_neg hn1, if_neg hn2]
          · have hy2 : B (tx_sk B z b) = 45 := by
              by_cases q : B (tx_sk B z b) = 45
              · exact q
              · rw [if_neg q] at hc; exact absurd rfl hc
            rw [if_pos hy2] at h7
            refine ax_iconst (v := 3) dX10_sum_33 (by decide) ?_
            refine ax_goto (tgt := 38) dX10_sum_34 (by decide) ?_
            refine ax_istore_n dX10_sum_38 (by decide) rfl ?_
            refine ax_iload_n dX10_sum_39 rfl ?_
            refine ax_iconst (v := (-1)) dX10_sum_40 (by decide) ?_
            refine ax_icmp_ne (tgt := 45) dX10_sum_41 (by decide) (fun hc => ?_) (fun hc => ?_)
            · refine more 3 M3 (by rw [hy2]; decide) (ps_o_at h5 (ps_in_z hB (by omega) (by rw [hy2]; decide)) (by omega) h7) ?_
              rw [← hm]
              show _ = if _ then _ else if _ then _ else _
              rw [if_neg hn1, if_pos hy2]
            · exact absurd hc (by decide)
        · have hy1 : B (tx_sk B z b) = 43 := by
            by_cases q : B (tx_sk B z b) = 43
            · exact q
            · rw [if_neg q] at hc; exact absurd rfl hc
          rw [if_pos hy1] at h4
          refine ax_iconst (v := 2) dX10_sum_20 (by decide) ?_
          refine ax_goto (tgt := 38) dX10_sum_21 (by decide) ?_
          refine ax_istore_n dX10_sum_38 (by decide) rfl ?_
          refine ax_iload_n dX10_sum_39 rfl ?_
          refine ax_iconst (v := (-1)) dX10_sum_40 (by decide) ?_
          refine ax_icmp_ne (tgt := 45) dX10_sum_41 (by decide) (fun hc => ?_) (fun hc => ?_)
          · refine more 2 M2 (by rw [hy1]; decide) (ps_o_at h1 (ps_in_z hB (by omega) (by rw [hy1]; decide)) (by omega) h4) ?_
            rw [← hm]
            show _ = if _ then _ else _
            rw [if_pos hy1]
          · exact absurd hc (by decide)
  refine ax_aload_n dX10_sum_0 rfl ?_
  refine ax_callV (As := _) (d2 := _) (c1 := 0) (n1 := 0) (hC M a k hi) dX10_sum_1 mX10_product wd_1857 acl_10 (lo_s hok 90 rfl) rfl (by omega) (by omega) (by omega) rfl rfl (fun _ _ h => by cases h.1) ?_
  rintro q M3 ⟨h3, h4⟩; cases h3
  have hok3 : lo_ok M3.2 := by rw [h4.1.1]; exact hok
  have hok := hok3
  cases hx : u a with
  | inl e =>
    rw [hx] at h4 hua
    have hf : ¬ M3.1 90 5 = 0 := by rw [h4.2.1]; exact nI_ne0 (by have := hua.1; omega) (by have := hua.2.1; omega)
    refine ax_aload_n dX10_sum_4 rfl ?_
    refine ax_getI (f := 5) dX10_sum_5 acl_10 wd_1605 (by decide) rfl (lo_s hok 90 rfl) ?_
    refine ax_if_ne (tgt := 58) dX10_sum_8 (by decide) (fun hc => ?_) (fun hc => ?_)
    · refine ax_vret dX10_sum_58 rfl ?_
      exact done M3 _ h4 (by rw [hx, ps_th_l])
    · exact absurd hc hf
  | inr q =>
    obtain ⟨b2, ds⟩ := q
    rw [hx] at h4 hua
    have hb2 : b2 ≤ z := hua.2.1
    have h150 := hi.2.2.2.1
    exact loop ps_fu b2 ds M3 none (by rw [ps_fu_eq]; omega) h4 (by rw [hx, ps_th_r])
end PS

