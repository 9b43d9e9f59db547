/-! ===== words, signs: the reference's readers ===== -/
def tx_wd (B : Nat → Int32) (z a : Nat) : List Nat := tx_w B (z - a) a
def tx_sk (B : Nat → Int32) (z a : Nat) : Nat := tx_run tx_bl B (z - a) a
theorem tx_sk_le {B : Nat → Int32} {z a : Nat} (hz : z ≤ 600) (ha : a ≤ 600) : tx_sk B z a ≤ 600 := by
  have := tx_run_le tx_bl B (z - a) a
  unfold tx_sk
  omega
theorem tx_sk_ge {B : Nat → Int32} {z a : Nat} : a ≤ tx_sk B z a := (tx_run_le tx_bl B (z - a) a).1
theorem tx_sk_sk (B : Nat → Int32) (z a : Nat) : tx_sk B z (tx_sk B z a) = tx_sk B z a := by
  unfold tx_sk
  have h1 := tx_run_le tx_bl B (z - a) a
  have h2 := tx_run_stop tx_bl B (z - a) a
  generalize tx_run tx_bl B (z - a) a = b at *
  cases hn : z - b with
  | zero => rfl
  | succ n =>
    rw [tx_run_s, if_neg]
    rw [h2 (by omega)]
    decide
def tx_ltr (ws : List Nat) : Prop := ws.length ≤ 6 ∧ ∀ x ∈ ws, 1 ≤ x ∧ x ≤ 26
theorem tx_c6 {ws : List Nat} (h : tx_ltr ws) : tx_code ws < 2 ^ 31 := by
  have h1 := tx_code_lt ws.length ws rfl (fun x hx => (h.2 x hx).2)
  have h2 : 27 ^ ws.length ≤ 27 ^ 6 := Nat.pow_le_pow_right (by decide) h.1
  have h3 : 27 ^ 6 < 2 ^ 31 := by decide
  omega
theorem tx_wh_eq {B : Nat → Int32} {n a : Nat} {ws : List Nat} (h : tx_ltr ws) : tx_wh (tx_w B n a) = nI (tx_code ws) ↔ tx_w B n a = ws := by
  have hi := tx_w_in B n a
  generalize tx_w B n a = wl at *
  unfold tx_wh
  split
  · rename_i h6
    constructor
    · intro e
      have := nI_toInt (tx_c6 h)
      rw [← e] at this
      have h1 : (-1 : Int32).toInt = -1 := rfl
      omega
    · intro e
      have := h.1
      rw [← e] at this
      omega
  · rename_i h6
    rw [nI_eq (tx_c6 ⟨by omega, hi⟩) (tx_c6 h)]
    exact ⟨fun e => tx_code_inj wl.length wl ws (Nat.le_refl _) hi h.2 e, fun e => by rw [e]⟩
/-- the six numbers of a word -/
def tx_six (a b c e f g : Int32) (ws : List Nat) : Prop := tx_ltr ws ∧ (if g = 0 then (if f = 0 then (if e = 0 then 27 * (27 * a + b) + c else 27 * (27 * (27 * a + b) + c) + e) else 27 * (if e = 0 then 27 * (27 * a + b) + c else 27 * (27 * (27 * a + b) + c) + e) + f) else 27 * (if f = 0 then (if e = 0 then 27 * (27 * a + b) + c else 27 * (27 * (27 * a + b) + c) + e) else 27 * (if e = 0 then 27 * (27 * a + b) + c else 27 * (27 * (27 * a + b) + c) + e) + f) + g) = nI (tx_code ws)
/-- what a sign's reading gives: place, FAULT, its place -/
def tx_sg (B : Nat → Int32) (z : Nat) (c : Int32) (a : Nat) : Nat × Nat × Nat := if B (tx_sk B z a) = c then (tx_sk B z a + 1, 0, 0) else (tx_sk B z a, 1, tx_sk B z a)
/-- the reader stands at a, in a text of z bytes, without FAULT -/
def tx_st (M : ax_M) (z a : Nat) : Prop := lo_ok M.2 ∧ tx_ok M z ∧ M.1 90 4 = nI a ∧ a ≤ 600 ∧ M.1 90 5 = 0
theorem tx_st_to {M M2 : ax_M} {z a b : Nat} (h : tx_st M z a) (hb : b ≤ 600) (h2 : M2 = ax_pI M 90 4 (nI b)) : tx_st M2 z b ∧ tx_B M2 = tx_B M := by
  subst h2
  exact ⟨⟨h.1, h.2.1, ax_pa _ _ _ _, hb, by rw [ax_pn (by decide)]; exact h.2.2.2.2⟩, rfl⟩
section MX
variable {l : Launch} {G : ax_G} {d : Nat} {M : ax_M}
theorem c_X10_isWord {z a : Nat} (hs : tx_st M z a) {q b c e f g : Int32} (ws : List Nat) (h6 : tx_six q b c e f g ws) : ax_Met l G kX10_isWord 3 0 0 M [av_r 90, av_i q, av_i b, av_i c, av_i e, av_i f, av_i g] (fun o M2 => o = .inl (some (av_i (if tx_wd (tx_B M) z (tx_sk (tx_B M) z a) = ws then 1 else 0))) ∧ M2 = ax_pI M 90 4 (nI (tx_sk (tx_B M) z a))) := by
  have hok := hs.1
  refine ax_body (by decide) (Nat.le_of_ble_eq_true rfl) ?_
  refine ax_aload_n dX10_isWord_0 rfl ?_
  refine ax_getI (f := 5) dX10_isWord_1 acl_10 wd_1605 (by decide) rfl (lo_s hok 90 rfl) ?_
  refine ax_if_ne (tgt := 30) dX10_isWord_4 (by decide) (fun hc => ?_) (fun hc => ?_)
  · exact absurd hs.2.2.2.2 hc
  · refine ax_aload_n dX10_isWord_7 rfl ?_
    refine ax_callV (As := _) (d2 := _) (c1 := 0) (n1 := 0) (c_X10_wordHere (M := M) hok hs.2.1 hs.2.2.1 hs.2.2.2.1) dX10_isWord_8 mX10_wordHere wd_1803 acl_10 (lo_s hok 90 rfl) rfl (by omega) (by omega) (by omega) rfl rfl (fun _ _ h => by cases h.1) ?_
    rintro r M1 ⟨h1, hM1⟩; cases h1
    have hok : lo_ok M1.2 := by rw [hM1]; exact hok
    refine ax_iload_n dX10_isWord_11 rfl ?_
    refine ax_iload_n dX10_isWord_12 rfl ?_
    refine ax_iload_n dX10_isWord_13 rfl ?_
    refine ax_iload dX10_isWord_14 rfl ?_
    refine ax_iload dX10_isWord_16 rfl ?_
    refine ax_iload dX10_isWord_18 rfl ?_
    refine ax_callS (As := _) (c1 := 0) (n1 := 0) (c_X10_six (d := 0) (M := M1) ws h6.2) dX10_isWord_20 mX10_six wd_1810 rfl (by omega) (by omega) (by omega) rfl rfl (fun _ _ h => by cases h.1) ?_
    rintro r M9 ⟨h1, h9⟩; cases h1; rw [h9]; clear h9 M9
    refine ax_icmp_ne (tgt := 30) dX10_isWord_23 (by decide) (fun hc => ?_) (fun hc => ?_)
    · refine ax_iconst (v := 0) dX10_isWord_30 (by decide) ?_
      refine ax_zret dX10_isWord_31 rfl ?_ ?_
      · exact Or.inl rfl
      · refine ⟨?_, hM1⟩
        rw [if_neg]
        exact fun q9 => hc ((tx_wh_eq h6.1).mpr q9)
    · refine ax_iconst (v := 1) dX10_isWord_26 (by decide) ?_
      refine ax_goto (tgt := 31) dX10_isWord_27 (by decide) ?_
      refine ax_zret dX10_isWord_31 rfl ?_ ?_
      · exact Or.inr rfl
      · refine ⟨?_, hM1⟩
        rw [if_pos]
        exact (tx_wh_eq h6.1).mp hc
theorem c_X10_skipWord (hok : lo_ok M.2) {z a : Nat} (hz : tx_ok M z) (ha : M.1 90 4 = nI a) (ha2 : a ≤ 600) : ax_Met l G kX10_skipWord 1 0 0 M [av_r 90] (fun o M2 => o = .inl none ∧ M2 = ax_pI M 90 4 (nI (a + (tx_wd (tx_B M) z a).length))) := by
  rw [show a + (tx_wd (tx_B M) z a).length = tx_run tx_sm (tx_B M) (z - a) a from tx_w_len _ _ _]
  refine ax_body (by decide) (Nat.le_of_ble_eq_true rfl) ?_
  have loop : ∀ (n b : Nat) (M1 : ax_M), M1 = ax_pI M 90 4 (nI b) → z - b = n → b ≤ 600 → tx_run tx_sm (tx_B M) n b = tx_run tx_sm (tx_B M) (z - a) a → ax_W l G kX10_skipWord (ax_FQ G (fun o M2 => o = .inl none ∧ M2 = ax_pI M 90 4 (nI (tx_run tx_sm (tx_B M) (z - a) a)))) 1 0 0 M1 0 [some (av_r 90)] [] := by
    intro n
    induction n with
    | zero =>
      intro b M1 hM1 hb hb6 hf
      have hok : lo_ok M1.2 := by rw [hM1]; exact hok
      have hz1 : tx_ok M1 z := by rw [hM1]; exact hz
      have e1 : M1.1 90 4 = nI b := by rw [hM1]; exact ax_pa _ _ _ _
      refine ax_aload_n dX10_skipWord_0 rfl ?_
      refine ax_aload_n dX10_skipWord_1 rfl ?_
      refine ax_getI (f := 4) dX10_skipWord_2 acl_10 wd_1604 (by decide) rfl (lo_s hok 90 rfl) ?_
      refine ax_callV (As := _) (d2 := _) (c1 := 0) (n1 := 0) (c_X10_byteAt (d := 0) (M := M1) hok (z := z) (i := b) hz1 (by omega) e1) dX10_skipWord_5 mX10_byteAt wd_1787 acl_10 (lo_s hok 90 rfl) rfl (by omega) (by omega) (by omega) rfl rfl (fun _ _ h => by cases h.1) ?_
      rintro r M9 ⟨h1, h9⟩; cases h1; rw [h9]; clear h9 M9
      refine ax_callS (As := _) (c1 := 0) (n1 := 0) (c_X10_isSmall (d := 0) (M := M1) _) dX10_skipWord_8 mX10_isSmall wd_1807 rfl (by omega) (by omega) (by omega) rfl rfl (fun _ _ h => by cases h.1) ?_
      rintro r M9 ⟨h1, h9⟩; cases h1; rw [h9]; clear h9 M9
      refine ax_if_eq (tgt := 27) dX10_skipWord_11 (by decide) (fun h11 => ?_) (fun h11 => ?_)
      · refine ax_vret dX10_skipWord_27 rfl ?_
        exact ⟨rfl, by rw [← hf]; exact hM1⟩
      · exact absurd (by rw [tx_end hz1 (by omega) (by omega)]; decide) h11
    | succ n ih =>
      intro b M1 hM1 hb hb6 hf
      have hok : lo_ok M1.2 := by rw [hM1]; exact hok
      have hz1 : tx_ok M1 z := by rw [hM1]; exact hz
      have e1 : M1.1 90 4 = nI b := by rw [hM1]; exact ax_pa _ _ _ _
      have e : tx_B M1 b = tx_B M b := by rw [hM1]; rfl
      refine ax_aload_n dX10_skipWord_0 rfl ?_
      refine ax_aload_n dX10_skipWord_1 rfl ?_
      refine ax_getI (f := 4) dX10_skipWord_2 acl_10 wd_1604 (by decide) rfl (lo_s hok 90 rfl) ?_
      refine ax_callV (As := _) (d2 := _) (c1 := 0) (n1 := 0) (c_X10_byteAt (d := 0) (M := M1) hok (z := z) (i := b) hz1 (by omega) e1) dX10_skipWord_5 mX10_byteAt wd_1787 acl_10 (lo_s hok 90 rfl) rfl (by omega) (by omega) (by omega) rfl rfl (fun _ _ h => by cases h.1) ?_
      rintro r M9 ⟨h1, h9⟩; cases h1; rw [h9]; clear h9 M9
      refine ax_callS (As := _) (c1 := 0) (n1 := 0) (c_X10_isSmall (d := 0) (M := M1) _) dX10_skipWord_8 mX10_isSmall wd_1807 rfl (by omega) (by omega) (by omega) rfl rfl (fun _ _ h => by cases h.1) ?_
      rintro r M9 ⟨h1, h9⟩; cases h1; rw [h9]; clear h9 M9
      refine ax_if_eq (tgt := 27) dX10_skipWord_11 (by decide) (fun h11 => ?_) (fun h11 => ?_)
      · refine ax_vret dX10_skipWord_27 rfl ?_
        exact ⟨rfl, by rw [← hf, hM1, tx_run_s, if_neg (by intro q; rw [e, if_pos q] at h11; exact absurd h11 (by decide))]⟩
      · refine ax_aload_n dX10_skipWord_14 rfl ?_
        refine ax_dup dX10_skipWord_15 (by first | rfl | exact ax_crf _) ?_
        refine ax_getI (f := 4) dX10_skipWord_16 acl_10 wd_1604 (by decide) rfl (lo_s hok 90 rfl) ?_
        refine ax_iconst (v := 1) dX10_skipWord_19 (by decide) ?_
        refine ax_iadd dX10_skipWord_20 ?_
        refine ax_putI (f := 4) dX10_skipWord_21 acl_10 wd_1604 (by decide) rfl rfl (ax_nfI rfl) (lo_s hok 90 rfl) ?_
        refine ax_goto (tgt := 0) dX10_skipWord_24 (by decide) ?_
        exact ih (b + 1) _ (by rw [e1, hM1, ax_pp, nI_1]) (by omega) (by have := hz.2; omega) (by rw [← hf, tx_run_s, if_pos (by rw [e] at h11; by_cases q : tx_sm (tx_B M b) = true; exact q; rw [if_neg q] at h11; exact absurd rfl h11)])
  exact loop (z - a) a M (ax_pid ha).symm rfl ha2 rfl
theorem c_X10_takes {z a : Nat} (hs : tx_st M z a) {q b c e f g : Int32} (ws : List Nat) (h6 : tx_six q b c e f g ws) : ax_Met l G kX10_takes 4 0 0 M [av_r 90, av_i q, av_i b, av_i c, av_i e, av_i f, av_i g] (fun o M2 => o = .inl (some (av_i (if tx_wd (tx_B M) z (tx_sk (tx_B M) z a) = ws then 1 else 0))) ∧ M2 = ax_pI M 90 4 (nI (if tx_wd (tx_B M) z (tx_sk (tx_B M) z a) = ws then tx_sk (tx_B M) z a + ws.length else tx_sk (tx_B M) z a))) := by
  have hok := hs.1
  have h600 := tx_sk_le (B := tx_B M) hs.2.1.2 hs.2.2.2.1
  refine ax_body (by decide) (Nat.le_of_ble_eq_true rfl) ?_
  refine ax_aload_n dX10_takes_0 rfl ?_
  refine ax_iload_n dX10_takes_1 rfl ?_
  refine ax_iload_n dX10_takes_2 rfl ?_
  refine ax_iload_n dX10_takes_3 rfl ?_
  refine ax_iload dX10_takes_4 rfl ?_
  refine ax_iload dX10_takes_6 rfl ?_
  refine ax_iload dX10_takes_8 rfl ?_
  refine ax_callV (As := _) (d2 := _) (c1 := 0) (n1 := 0) (c_X10_isWord (M := M) hs ws h6) dX10_takes_10 mX10_isWord wd_1799 acl_10 (lo_s hok 90 rfl) rfl (by omega) (by omega) (by omega) rfl rfl (fun _ _ h => by cases h.1) ?_
  rintro r M1 ⟨h1, hM1⟩; cases h1
  obtain ⟨hs1, eB⟩ := tx_st_to hs h600 hM1
  have hok := hs1.1
  refine ax_istore dX10_takes_13 (by decide) rfl ?_
  refine ax_iload dX10_takes_15 rfl ?_
  refine ax_if_eq (tgt := 24) dX10_takes_17 (by decide) (fun hc => ?_) (fun hc => ?_)
  · have hn : ¬ tx_wd (tx_B M) z (tx_sk (tx_B M) z a) = ws := by
      intro q9
      rw [if_pos q9] at hc; exact absurd hc (by decide)
    refine ax_iload dX10_takes_24 rfl ?_
    refine ax_zret dX10_takes_26 rfl ?_ ?_
    · rw [if_neg hn]; exact Or.inl rfl
    · rw [if_neg hn, if_neg hn]; exact ⟨rfl, hM1⟩
  · have hy : tx_wd (tx_B M) z (tx_sk (tx_B M) z a) = ws := by
      by_cases q9 : tx_wd (tx_B M) z (tx_sk (tx_B M) z a) = ws
      · exact q9
      · rw [if_neg q9] at hc; exact absurd rfl hc
    refine ax_aload_n dX10_takes_20 rfl ?_
    refine ax_callV (As := _) (d2 := _) (c1 := 0) (n1 := 0) (c_X10_skipWord (M := M1) hok hs1.2.1 hs1.2.2.1 hs1.2.2.2.1) dX10_takes_21 mX10_skipWord wd_1821 acl_10 (lo_s hok 90 rfl) rfl (by omega) (by omega) (by omega) rfl rfl (fun _ _ h => by cases h.1) ?_
    rintro r M3 ⟨h1, hM3⟩; cases h1
    have hok : lo_ok M3.2 := by rw [hM3]; exact hok
    rw [eB, hy, hM1, ax_pp] at hM3
    refine ax_iload dX10_takes_24 rfl ?_
    refine ax_zret dX10_takes_26 rfl ?_ ?_
    · rw [if_pos hy]; exact Or.inr rfl
    · rw [if_pos hy, if_pos hy]; exact ⟨rfl, hM3⟩
theorem c_X10_signF (hok : lo_ok M.2) (hf : ¬ M.1 90 5 = 0) (c : Int32) : ax_Met l G kX10_sign 2 0 0 M [av_r 90, av_i c] (fun o M2 => o = .inl none ∧ M2 = M) := by
  refine ax_body (by decide) (Nat.le_of_ble_eq_true rfl) ?_
  refine ax_aload_n dX10_sign_0 rfl ?_
  refine ax_getI (f := 5) dX10_sign_1 acl_10 wd_1605 (by decide) rfl (lo_s hok 90 rfl) ?_
  refine ax_if_eq (tgt := 8) dX10_sign_4 (by decide) (fun h4 => ?_) (fun h4 => ?_)
  · exact absurd h4 hf
  · refine ax_vret dX10_sign_7 rfl ?_
    exact ⟨rfl, rfl⟩
theorem c_X10_sign {z a : Nat} (hs : tx_st M z a) (c : Int32) (hc0 : c ≠ -1) : ax_Met l G kX10_sign 2 0 0 M [av_r 90, av_i c] (fun o M2 => o = .inl none ∧ M2 = tx_put M (tx_sg (tx_B M) z c a).1 (tx_sg (tx_B M) z c a).2.1 (tx_sg (tx_B M) z c a).2.2) := by
  have hok := hs.1
  have h600 := tx_sk_le (B := tx_B M) hs.2.1.2 hs.2.2.2.1
  refine ax_body (by decide) (Nat.le_of_ble_eq_true rfl) ?_
  refine ax_aload_n dX10_sign_0 rfl ?_
  refine ax_getI (f := 5) dX10_sign_1 acl_10 wd_1605 (by decide) rfl (lo_s hok 90 rfl) ?_
  refine ax_if_eq (tgt := 8) dX10_sign_4 (by decide) (fun hc => ?_) (fun hc => ?_)
  · refine ax_aload_n dX10_sign_8 rfl ?_
    refine ax_callV (As := _) (d2 := _) (c1 := 0) (n1 := 0) (c_X10_blanks (M := M) hok hs.2.1 hs.2.2.1 hs.2.2.2.1) dX10_sign_9 mX10_blanks wd_1783 acl_10 (lo_s hok 90 rfl) rfl (by omega) (by omega) (by omega) rfl rfl (fun _ _ h => by cases h.1) ?_
    rintro r M1 ⟨h1, hM1⟩; cases h1
    obtain ⟨hs1, eB⟩ := tx_st_to hs h600 hM1
    have hok := hs1.1
    refine ax_aload_n dX10_sign_12 rfl ?_
    refine ax_aload_n dX10_sign_13 rfl ?_
    refine ax_getI (f := 4) dX10_sign_14 acl_10 wd_1604 (by decide) rfl (lo_s hok 90 rfl) ?_
    refine ax_callV (As := _) (d2 := _) (c1 := 0) (n1 := 0) (c_X10_byteAt (d := 0) (M := M1) hok hs1.2.1 (by omega) hs1.2.2.1) dX10_sign_17 mX10_byteAt wd_1787 acl_10 (lo_s hok 90 rfl) rfl (by omega) (by omega) (by omega) rfl rfl (fun _ _ h => by cases h.1) ?_
    rintro r M9 ⟨h1, h9⟩; cases h1; rw [h9]; clear h9 M9
    rw [eB]
    refine ax_iload_n dX10_sign_20 rfl ?_
    refine ax_icmp_ne (tgt := 37) dX10_sign_21 (by decide) (fun hc => ?_) (fun hc => ?_)
    · refine ax_aload_n dX10_sign_37 rfl ?_
      refine ax_iconst (v := 1) dX10_sign_38 (by decide) ?_
      refine ax_aload_n dX10_sign_39 rfl ?_
      refine ax_getI (f := 4) dX10_sign_40 acl_10 wd_1604 (by decide) rfl (lo_s hok 90 rfl) ?_
      refine ax_callV (As := _) (d2 := _) (c1 := 0) (n1 := 0) (c_X10_wrong (d := 0) (M := M1) hok _ _) dX10_sign_43 mX10_wrong wd_1813 acl_10 (lo_s hok 90 rfl) rfl (by omega) (by omega) (by omega) rfl rfl (fun _ _ h => by cases h.1) ?_
      rintro r M3 ⟨h1, hM3⟩; cases h1
      have hok : lo_ok M3.2 := by rw [hM3]; split <;> exact hok
      refine ax_vret dX10_sign_46 rfl ?_
      refine ⟨rfl, ?_⟩
      rw [hM3, if_pos hs1.2.2.2.2, hs1.2.2.1, tx_sg, if_neg hc, hM1]
      rfl
    · refine ax_aload_n dX10_sign_24 rfl ?_
      refine ax_dup dX10_sign_25 (by first | rfl | exact ax_crf _) ?_
      refine ax_getI (f := 4) dX10_sign_26 acl_10 wd_1604 (by decide) rfl (lo_s hok 90 rfl) ?_
      refine ax_iconst (v := 1) dX10_sign_29 (by decide) ?_
      refine ax_iadd dX10_sign_30 ?_
      refine ax_putI (f := 4) dX10_sign_31 acl_10 wd_1604 (by decide) rfl rfl (ax_nfI rfl) (lo_s hok 90 rfl) ?_
      refine ax_goto (tgt := 46) dX10_sign_34 (by decide) ?_
      refine ax_vret dX10_sign_46 rfl ?_
      refine ⟨rfl, ?_⟩
      rw [hs1.2.2.1, tx_sg, if_pos hc, hM1, ax_pp, nI_1]
      rfl
  · exact absurd hs.2.2.2.2 hc
theorem c_X10_takesSignF (hok : lo_ok M.2) (hf : ¬ M.1 90 5 = 0) (c : Int32) : ax_Met l G kX10_takesSign 2 0 0 M [av_r 90, av_i c] (ax_p (av_i 0) M) := by
  refine ax_body (by decide) (Nat.le_of_ble_eq_true rfl) ?_
  refine ax_aload_n dX10_takesSign_0 rfl ?_
  refine ax_getI (f := 5) dX10_takesSign_1 acl_10 wd_1605 (by decide) rfl (lo_s hok 90 rfl) ?_
  refine ax_if_eq (tgt := 9) dX10_takesSign_4 (by decide) (fun h4 => ?_) (fun h4 => ?_)
  · exact absurd h4 hf
  · refine ax_iconst (v := 0) dX10_takesSign_7 (by decide) ?_
    refine ax_zret dX10_takesSign_8 rfl ?_ ?_
    · first | exact Or.inl rfl | exact Or.inr rfl
    · exact ⟨rfl, rfl⟩
theorem c_X10_takesSign {z a : Nat} (hs : tx_st M z a) (c : Int32) : ax_Met l G kX10_takesSign 2 0 0 M [av_r 90, av_i c] (fun o M2 => o = .inl (some (av_i (if tx_B M (tx_sk (tx_B M) z a) = c then 1 else 0))) ∧ M2 = ax_pI M 90 4 (nI (if tx_B M (tx_sk (tx_B M) z a) = c then tx_sk (tx_B M) z a + 1 else tx_sk (tx_B M) z a))) := by
  have hok := hs.1
  have h600 := tx_sk_le (B := tx_B M) hs.2.1.2 hs.2.2.2.1
  refine ax_body (by decide) (Nat.le_of_ble_eq_true rfl) ?_
  refine ax_aload_n dX10_takesSign_0 rfl ?_
  refine ax_getI (f := 5) dX10_takesSign_1 acl_10 wd_1605 (by decide) rfl (lo_s hok 90 rfl) ?_
  refine ax_if_eq (tgt := 9) dX10_takesSign_4 (by decide) (fun hc => ?_) (fun hc => ?_)
  · refine ax_aload_n dX10_takesSign_9 rfl ?_
    refine ax_callV (As := _) (d2 := _) (c1 := 0) (n1 := 0) (c_X10_blanks (M := M) hok hs.2.1 hs.2.2.1 hs.2.2.2.1) dX10_takesSign_10 mX10_blanks wd_1783 acl_10 (lo_s hok 90 rfl) rfl (by omega) (by omega) (by omega) rfl rfl (fun _ _ h => by cases h.1) ?_
    rintro r M1 ⟨h1, hM1⟩; cases h1
    obtain ⟨hs1, eB⟩ := tx_st_to hs h600 hM1
    have hok := hs1.1
    refine ax_aload_n dX10_takesSign_13 rfl ?_
    refine ax_aload_n dX10_takesSign_14 rfl ?_
    refine ax_getI (f := 4) dX10_takesSign_15 acl_10 wd_1604 (by decide) rfl (lo_s hok 90 rfl) ?_
    refine ax_callV (As := _) (d2 := _) (c1 := 0) (n1 := 0) (c_X10_byteAt (d := 0) (M := M1) hok hs1.2.1 (by omega) hs1.2.2.1) dX10_takesSign_18 mX10_byteAt wd_1787 acl_10 (lo_s hok 90 rfl) rfl (by omega) (by omega) (by omega) rfl rfl (fun _ _ h => by cases h.1) ?_
    rintro r M9 ⟨h1, h9⟩; cases h1; rw [h9]; clear h9 M9
    rw [eB]
    refine ax_iload_n dX10_takesSign_21 rfl ?_
    refine ax_icmp_ne (tgt := 29) dX10_takesSign_22 (by decide) (fun hc => ?_) (fun hc => ?_)
    · have hc1 := hc
      refine ax_iconst (v := 0) dX10_takesSign_29 (by decide) ?_
      refine ax_istore_n dX10_takesSign_30 (by decide) rfl ?_
      refine ax_iload_n dX10_takesSign_31 rfl ?_
      refine ax_if_eq (tgt := 45) dX10_takesSign_32 (by decide) (fun hc => ?_) (fun hc => ?_)
      · refine ax_iload_n dX10_takesSign_45 rfl ?_
        refine ax_zret dX10_takesSign_46 rfl ?_ ?_
        · exact Or.inl rfl
        · rw [if_neg hc1, if_neg hc1]; exact ⟨rfl, hM1⟩
      · exact absurd rfl hc
    · have hc1 := hc
      refine ax_iconst (v := 1) dX10_takesSign_25 (by decide) ?_
      refine ax_goto (tgt := 30) dX10_takesSign_26 (by decide) ?_
      refine ax_istore_n dX10_takesSign_30 (by decide) rfl ?_
      refine ax_iload_n dX10_takesSign_31 rfl ?_
      refine ax_if_eq (tgt := 45) dX10_takesSign_32 (by decide) (fun hc => ?_) (fun hc => ?_)
      · exact absurd hc (by decide)
      · refine ax_aload_n dX10_takesSign_35 rfl ?_
        refine ax_dup dX10_takesSign_36 (by first | rfl | exact ax_crf _) ?_
        refine ax_getI (f := 4) dX10_takesSign_37 acl_10 wd_1604 (by decide) rfl (lo_s hok 90 rfl) ?_
        refine ax_iconst (v := 1) dX10_takesSign_40 (by decide) ?_
        refine ax_iadd dX10_takesSign_41 ?_
        refine ax_putI (f := 4) dX10_takesSign_42 acl_10 wd_1604 (by decide) rfl rfl (ax_nfI rfl) (lo_s hok 90 rfl) ?_
        refine ax_iload_n dX10_takesSign_45 rfl ?_
        refine ax_zret dX10_takesSign_46 rfl ?_ ?_
        · exact Or.inr rfl
        · rw [if_pos hc1, if_pos hc1]
          refine ⟨rfl, ?_⟩
          rw [hs1.2.2.1, hM1, ax_pp, nI_1]
  · exact absurd hs.2.2.2.2 hc
theorem c_X10_ends (hok : lo_ok M.2) : ax_Met l G kX10_ends d 0 0 M [av_r 90] (fun o M2 => o = .inl (some (av_i (M.1 90 5 - 10))) ∧ M2 = ax_pI M 90 3 (M.1 90 6)) := by
  refine ax_body (by decide) (Nat.le_of_ble_eq_true rfl) ?_
  refine ax_aload_n dX10_ends_0 rfl ?_
  refine ax_aload_n dX10_ends_1 rfl ?_
  refine ax_getI (f := 6) dX10_ends_2 acl_10 wd_1606 (by decide) rfl (lo_s hok 90 rfl) ?_
  refine ax_putI (f := 3) dX10_ends_5 acl_10 wd_1603 (by decide) rfl rfl (ax_nfI rfl) (lo_s hok 90 rfl) ?_
  refine ax_aload_n dX10_ends_8 rfl ?_
  refine ax_getI (f := 5) dX10_ends_9 acl_10 wd_1605 (by decide) rfl (lo_s hok 90 rfl) ?_
  refine ax_bipush (v := 10) dX10_ends_12 (by decide) ?_
  refine ax_isub dX10_ends_14 ?_
  refine ax_iret dX10_ends_15 rfl ?_
  exact ⟨by rw [ax_pn (by decide)], rfl⟩
theorem c_X10_isFull (hok : lo_ok M.2) (k : Int32) : ax_Met l G kX10_isFull d 0 0 M [av_r 90, av_i k] (ax_p (av_i (if (k = 1 ∧ M.1 93 1 = 2) ∨ (k = 2 ∧ M.1 93 2 = 10) ∨ (k = 3 ∧ M.1 93 3 = 6) ∨ (k = 4 ∧ M.1 93 4 = 4) then 1 else 0)) M) := by
  refine ax_body (by decide) (Nat.le_of_ble_eq_true rfl) ?_
  refine ax_iload_n dX10_isFull_0 rfl ?_
  refine ax_iconst (v := 1) dX10_isFull_1 (by decide) ?_
  refine ax_icmp_ne (tgt := 15) dX10_isFull_2 (by decide) (fun h2 => ?_) (fun h2 => ?_)
  · refine ax_iload_n dX10_isFull_15 rfl ?_
    refine ax_iconst (v := 2) dX10_isFull_16 (by decide) ?_
    refine ax_icmp_ne (tgt := 31) dX10_isFull_17 (by decide) (fun h17 => ?_) (fun h17 => ?_)
    · refine ax_iload_n dX10_isFull_31 rfl ?_
      refine ax_iconst (v := 3) dX10_isFull_32 (by decide) ?_
      refine ax_icmp_ne (tgt := 47) dX10_isFull_33 (by decide) (fun h33 => ?_) (fun h33 => ?_)
      · refine ax_iload_n dX10_isFull_47 rfl ?_
        refine ax_iconst (v := 4) dX10_isFull_48 (by decide) ?_
        refine ax_icmp_ne (tgt := 66) dX10_isFull_49 (by decide) (fun h49 => ?_) (fun h49 => ?_)
        · refine ax_iconst (v := 0) dX10_isFull_66 (by decide) ?_
          refine ax_zret dX10_isFull_67 rfl ?_ ?_
          · first | exact Or.inl rfl | exact Or.inr rfl
          · refine ⟨?_, rfl⟩; first | (rw [if_pos]; simp_all; done) | (rw [if_neg]; simp_all; done) | (rw [if_neg]; intro q; simp_all; done)
        · refine ax_aload_n dX10_isFull_52 rfl ?_
          refine ax_getK (f := 11) 93 dX10_isFull_53 acl_10 wd_1611 (by decide) rfl (lo_s hok 90 rfl) (lo_r hok 82 rfl) ?_
          refine ax_iconst (v := 4) dX10_isFull_56 (by decide) ?_
          refine ax_iald dX10_isFull_57 (lo_s hok 93 rfl) (by unfold vp_in; decide) ?_
          refine ax_iconst (v := 4) dX10_isFull_58 (by decide) ?_
          refine ax_icmp_ne (tgt := 66) dX10_isFull_59 (by decide) (fun h59 => ?_) (fun h59 => ?_)
          · refine ax_iconst (v := 0) dX10_isFull_66 (by decide) ?_
            refine ax_zret dX10_isFull_67 rfl ?_ ?_
            · first | exact Or.inl rfl | exact Or.inr rfl
            · refine ⟨?_, rfl⟩; first | (rw [if_pos]; simp_all; done) | (rw [if_neg]; simp_all; done) | (rw [if_neg]; intro q; simp_all; done)
          · refine ax_iconst (v := 1) dX10_isFull_62 (by decide) ?_
            refine ax_goto (tgt := 67) dX10_isFull_63 (by decide) ?_
            refine ax_zret dX10_isFull_67 rfl ?_ ?_
            · first | exact Or.inl rfl | exact Or.inr rfl
            · refine ⟨?_, rfl⟩; first | (rw [if_pos]; simp_all; done) | (rw [if_neg]; simp_all; done) | (rw [if_neg]; intro q; simp_all; done)
      · refine ax_aload_n dX10_isFull_36 rfl ?_
        refine ax_getK (f := 11) 93 dX10_isFull_37 acl_10 wd_1611 (by decide) rfl (lo_s hok 90 rfl) (lo_r hok 82 rfl) ?_
        refine ax_iconst (v := 3) dX10_isFull_40 (by decide) ?_
        refine ax_iald dX10_isFull_41 (lo_s hok 93 rfl) (by unfold vp_in; decide) ?_
        refine ax_bipush (v := 6) dX10_isFull_42 (by decide) ?_
        refine ax_icmp_eq (tgt := 62) dX10_isFull_44 (by decide) (fun h44 => ?_) (fun h44 => ?_)
        · refine ax_iconst (v := 1) dX10_isFull_62 (by decide) ?_
          refine ax_goto (tgt := 67) dX10_isFull_63 (by decide) ?_
          refine ax_zret dX10_isFull_67 rfl ?_ ?_
          · first | exact Or.inl rfl | exact Or.inr rfl
          · refine ⟨?_, rfl⟩; first | (rw [if_pos]; simp_all; done) | (rw [if_neg]; simp_all; done) | (rw [if_neg]; intro q; simp_all; done)
        · refine ax_iload_n dX10_isFull_47 rfl ?_
          refine ax_iconst (v := 4) dX10_isFull_48 (by decide) ?_
          refine ax_icmp_ne (tgt := 66) dX10_isFull_49 (by decide) (fun h49 => ?_) (fun h49 => ?_)
          · refine ax_iconst (v := 0) dX10_isFull_66 (by decide) ?_
            refine ax_zret dX10_isFull_67 rfl ?_ ?_
            · first | exact Or.inl rfl | exact Or.inr rfl
            · refine ⟨?_, rfl⟩; first | (rw [if_pos]; simp_all; done) | (rw [if_neg]; simp_all; done) | (rw [if_neg]; intro q; simp_all; done)
          · refine ax_aload_n dX10_isFull_52 rfl ?_
            refine ax_getK (f := 11) 93 dX10_isFull_53 acl_10 wd_1611 (by decide) rfl (lo_s hok 90 rfl) (lo_r hok 82 rfl) ?_
            refine ax_iconst (v := 4) dX10_isFull_56 (by decide) ?_
            refine ax_iald dX10_isFull_57 (lo_s hok 93 rfl) (by unfold vp_in; decide) ?_
            refine ax_iconst (v := 4) dX10_isFull_58 (by decide) ?_
            refine ax_icmp_ne (tgt := 66) dX10_isFull_59 (by decide) (fun h59 => ?_) (fun h59 => ?_)
            · refine ax_iconst (v := 0) dX10_isFull_66 (by decide) ?_
              refine ax_zret dX10_isFull_67 rfl ?_ ?_
              · first | exact Or.inl rfl | exact Or.inr rfl
              · refine ⟨?_, rfl⟩; first | (rw [if_pos]; simp_all; done) | (rw [if_neg]; simp_all; done) | (rw [if_neg]; intro q; simp_all; done)
            · refine ax_iconst (v := 1) dX10_isFull_62 (by decide) ?_
              refine ax_goto (tgt := 67) dX10_isFull_63 (by decide) ?_
              refine ax_zret dX10_isFull_67 rfl ?_ ?_
              · first | exact Or.inl rfl | exact Or.inr rfl
              · refine ⟨?_, rfl⟩; first | (rw [if_pos]; simp_all; done) | (rw [if_neg]; simp_all; done) | (rw [if_neg]; intro q; simp_all; done)
    · refine ax_aload_n dX10_isFull_20 rfl ?_
      refine ax_getK (f := 11) 93 dX10_isFull_21 acl_10 wd_1611 (by decide) rfl (lo_s hok 90 rfl) (lo_r hok 82 rfl) ?_
      refine ax_iconst (v := 2) dX10_isFull_24 (by decide) ?_
      refine ax_iald dX10_isFull_25 (lo_s hok 93 rfl) (by unfold vp_in; decide) ?_
      refine ax_bipush (v := 10) dX10_isFull_26 (by decide) ?_
      refine ax_icmp_eq (tgt := 62) dX10_isFull_28 (by decide) (fun h28 => ?_) (fun h28 => ?_)
      · refine ax_iconst (v := 1) dX10_isFull_62 (by decide) ?_
        refine ax_goto (tgt := 67) dX10_isFull_63 (by decide) ?_
        refine ax_zret dX10_isFull_67 rfl ?_ ?_
        · first | exact Or.inl rfl | exact Or.inr rfl
        · refine ⟨?_, rfl⟩; first | (rw [if_pos]; simp_all; done) | (rw [if_neg]; simp_all; done) | (rw [if_neg]; intro q; simp_all; done)
      · refine ax_iload_n dX10_isFull_31 rfl ?_
        refine ax_iconst (v := 3) dX10_isFull_32 (by decide) ?_
        refine ax_icmp_ne (tgt := 47) dX10_isFull_33 (by decide) (fun h33 => ?_) (fun h33 => ?_)
        · refine ax_iload_n dX10_isFull_47 rfl ?_
          refine ax_iconst (v := 4) dX10_isFull_48 (by decide) ?_
          refine ax_icmp_ne (tgt := 66) dX10_isFull_49 (by decide) (fun h49 => ?_) (fun h49 => ?_)
          · refine ax_iconst (v := 0) dX10_isFull_66 (by decide) ?_
            refine ax_zret dX10_isFull_67 rfl ?_ ?_
            · first | exact Or.inl rfl | exact Or.inr rfl
            · refine ⟨?_, rfl⟩; first | (rw [if_pos]; simp_all; done) | (rw [if_neg]; simp_all; done) | (rw [if_neg]; intro q; simp_all; done)
          · refine ax_aload_n dX10_isFull_52 rfl ?_
            refine ax_getK (f := 11) 93 dX10_isFull_53 acl_10 wd_1611 (by decide) rfl (lo_s hok 90 rfl) (lo_r hok 82 rfl) ?_
            refine ax_iconst (v := 4) dX10_isFull_56 (by decide) ?_
            refine ax_iald dX10_isFull_57 (lo_s hok 93 rfl) (by unfold vp_in; decide) ?_
            refine ax_iconst (v := 4) dX10_isFull_58 (by decide) ?_
            refine ax_icmp_ne (tgt := 66) dX10_isFull_59 (by decide) (fun h59 => ?_) (fun h59 => ?_)
            · refine ax_iconst (v := 0) dX10_isFull_66 (by decide) ?_
              refine ax_zret dX10_isFull_67 rfl ?_ ?_
              · first | exact Or.inl rfl | exact Or.inr rfl
              · refine ⟨?_, rfl⟩; first | (rw [if_pos]; simp_all; done) | (rw [if_neg]; simp_all; done) | (rw [if_neg]; intro q; simp_all; done)
            · refine ax_iconst (v := 1) dX10_isFull_62 (by decide) ?_
              refine ax_goto (tgt := 67) dX10_isFull_63 (by decide) ?_
              refine ax_zret dX10_isFull_67 rfl ?_ ?_
              · first | exact Or.inl rfl | exact Or.inr rfl
              · refine ⟨?_, rfl⟩; first | (rw [if_pos]; simp_all; done) | (rw [if_neg]; simp_all; done) | (rw [if_neg]; intro q; simp_all; done)
        · refine ax_aload_n dX10_isFull_36 rfl ?_
          refine ax_getK (f := 11) 93 dX10_isFull_37 acl_10 wd_1611 (by decide) rfl (lo_s hok 90 rfl) (lo_r hok 82 rfl) ?_
          refine ax_iconst (v := 3) dX10_isFull_40 (by decide) ?_
          refine ax_iald dX10_isFull_41 (lo_s hok 93 rfl) (by unfold vp_in; decide) ?_
          refine ax_bipush (v := 6) dX10_isFull_42 (by decide) ?_
          refine ax_icmp_eq (tgt := 62) dX10_isFull_44 (by decide) (fun h44 => ?_) (fun h44 => ?_)
          · refine ax_iconst (v := 1) dX10_isFull_62 (by decide) ?_
            refine ax_goto (tgt := 67) dX10_isFull_63 (by decide) ?_
            refine ax_zret dX10_isFull_67 rfl ?_ ?_
            · first | exact Or.inl rfl | exact Or.inr rfl
            · refine ⟨?_, rfl⟩; first | (rw [if_pos]; simp_all; done) | (rw [if_neg]; simp_all; done) | (rw [if_neg]; intro q; simp_all; done)
          · refine ax_iload_n dX10_isFull_47 rfl ?_
            refine ax_iconst (v := 4) dX10_isFull_48 (by decide) ?_
            refine ax_icmp_ne (tgt := 66) dX10_isFull_49 (by decide) (fun h49 => ?_) (fun h49 => ?_)
            · refine ax_iconst (v := 0) dX10_isFull_66 (by decide) ?_
              refine ax_zret dX10_isFull_67 rfl ?_ ?_
              · first | exact Or.inl rfl | exact Or.inr rfl
              · refine ⟨?_, rfl⟩; first | (rw [if_pos]; simp_all; done) | (rw [if_neg]; simp_all; done) | (rw [if_neg]; intro q; simp_all; done)
            · refine ax_aload_n dX10_isFull_52 rfl ?_
              refine ax_getK (f := 11) 93 dX10_isFull_53 acl_10 wd_1611 (by decide) rfl (lo_s hok 90 rfl) (lo_r hok 82 rfl) ?_
              refine ax_iconst (v := 4) dX10_isFull_56 (by decide) ?_
              refine ax_iald dX10_isFull_57 (lo_s hok 93 rfl) (by unfold vp_in; decide) ?_
              refine ax_iconst (v := 4) dX10_isFull_58 (by decide) ?_
              refine ax_icmp_ne (tgt := 66) dX10_isFull_59 (by decide) (fun h59 => ?_) (fun h59 => ?_)
              · refine ax_iconst (v := 0) dX10_isFull_66 (by decide) ?_
                refine ax_zret dX10_isFull_67 rfl ?_ ?_
                · first | exact Or.inl rfl | exact Or.inr rfl
                · refine ⟨?_, rfl⟩; first | (rw [if_pos]; simp_all; done) | (rw [if_neg]; simp_all; done) | (rw [if_neg]; intro q; simp_all; done)
              · refine ax_iconst (v := 1) dX10_isFull_62 (by decide) ?_
                refine ax_goto (tgt := 67) dX10_isFull_63 (by decide) ?_
                refine ax_zret dX10_isFull_67 rfl ?_ ?_
                · first | exact Or.inl rfl | exact Or.inr rfl
                · refine ⟨?_, rfl⟩; first | (rw [if_pos]; simp_all; done) | (rw [if_neg]; simp_all; done) | (rw [if_neg]; intro q; simp_all; done)
  · refine ax_aload_n dX10_isFull_5 rfl ?_
    refine ax_getK (f := 11) 93 dX10_isFull_6 acl_10 wd_1611 (by decide) rfl (lo_s hok 90 rfl) (lo_r hok 82 rfl) ?_
    refine ax_iconst (v := 1) dX10_isFull_9 (by decide) ?_
    refine ax_iald dX10_isFull_10 (lo_s hok 93 rfl) (by unfold vp_in; decide) ?_
    refine ax_iconst (v := 2) dX10_isFull_11 (by decide) ?_
    refine ax_icmp_eq (tgt := 62) dX10_isFull_12 (by decide) (fun h12 => ?_) (fun h12 => ?_)
    · refine ax_iconst (v := 1) dX10_isFull_62 (by decide) ?_
      refine ax_goto (tgt := 67) dX10_isFull_63 (by decide) ?_
      refine ax_zret dX10_isFull_67 rfl ?_ ?_
      · first | exact Or.inl rfl | exact Or.inr rfl
      · refine ⟨?_, rfl⟩; first | (rw [if_pos]; simp_all; done) | (rw [if_neg]; simp_all; done) | (rw [if_neg]; intro q; simp_all; done)
    · refine ax_iload_n dX10_isFull_15 rfl ?_
      refine ax_iconst (v := 2) dX10_isFull_16 (by decide) ?_
      refine ax_icmp_ne (tgt := 31) dX10_isFull_17 (by decide) (fun h17 => ?_) (fun h17 => ?_)
      · refine ax_iload_n dX10_isFull_31 rfl ?_
        refine ax_iconst (v := 3) dX10_isFull_32 (by decide) ?_
        refine ax_icmp_ne (tgt := 47) dX10_isFull_33 (by decide) (fun h33 => ?_) (fun h33 => ?_)
        · refine ax_iload_n dX10_isFull_47 rfl ?_
          refine ax_iconst (v := 4) dX10_isFull_48 (by decide) ?_
          refine ax_icmp_ne (tgt := 66) dX10_isFull_49 (by decide) (fun h49 => ?_) (fun h49 => ?_)
          · refine ax_iconst (v := 0) dX10_isFull_66 (by decide) ?_
            refine ax_zret dX10_isFull_67 rfl ?_ ?_
            · first | exact Or.inl rfl | exact Or.inr rfl
            · refine ⟨?_, rfl⟩; first | (rw [if_pos]; simp_all; done) | (rw [if_neg]; simp_all; done) | (rw [if_neg]; intro q; simp_all; done)
          · refine ax_aload_n dX10_isFull_52 rfl ?_
            refine ax_getK (f := 11) 93 dX10_isFull_53 acl_10 wd_1611 (by decide) rfl (lo_s hok 90 rfl) (lo_r hok 82 rfl) ?_
            refine ax_iconst (v := 4) dX10_isFull_56 (by decide) ?_
            refine ax_iald dX10_isFull_57 (lo_s hok 93 rfl) (by unfold vp_in; decide) ?_
            refine ax_iconst (v := 4) dX10_isFull_58 (by decide) ?_
            refine ax_icmp_ne (tgt := 66) dX10_isFull_59 (by decide) (fun h59 => ?_) (fun h59 => ?_)
            · refine ax_iconst (v := 0) dX10_isFull_66 (by decide) ?_
              refine ax_zret dX10_isFull_67 rfl ?_ ?_
              · first | exact Or.inl rfl | exact Or.inr rfl
              · refine ⟨?_, rfl⟩; first | (rw [if_pos]; simp_all; done) | (rw [if_neg]; simp_all; done) | (rw [if_neg]; intro q; simp_all; done)
            · refine ax_iconst (v := 1) dX10_isFull_62 (by decide) ?_
              refine ax_goto (tgt := 67) dX10_isFull_63 (by decide) ?_
              refine ax_zret dX10_isFull_67 rfl ?_ ?_
              · first | exact Or.inl rfl | exact Or.inr rfl
              · refine ⟨?_, rfl⟩; first | (rw [if_pos]; simp_all; done) | (rw [if_neg]; simp_all; done) | (rw [if_neg]; intro q; simp_all; done)
        · refine ax_aload_n dX10_isFull_36 rfl ?_
          refine ax_getK (f := 11) 93 dX10_isFull_37 acl_10 wd_1611 (by decide) rfl (lo_s hok 90 rfl) (lo_r hok 82 rfl) ?_
          refine ax_iconst (v := 3) dX10_isFull_40 (by decide) ?_
          refine ax_iald dX10_isFull_41 (lo_s hok 93 rfl) (by unfold vp_in; decide) ?_
          refine ax_bipush (v := 6) dX10_isFull_42 (by decide) ?_
          refine ax_icmp_eq (tgt := 62) dX10_isFull_44 (by decide) (fun h44 => ?_) (fun h44 => ?_)
          · refine ax_iconst (v := 1) dX10_isFull_62 (by decide) ?_
            refine ax_goto (tgt := 67) dX10_isFull_63 (by decide) ?_
            refine ax_zret dX10_isFull_67 rfl ?_ ?_
            · first | exact Or.inl rfl | exact Or.inr rfl
            · refine ⟨?_, rfl⟩; first | (rw [if_pos]; simp_all; done) | (rw [if_neg]; simp_all; done) | (rw [if_neg]; intro q; simp_all; done)
          · refine ax_iload_n dX10_isFull_47 rfl ?_
            refine ax_iconst (v := 4) dX10_isFull_48 (by decide) ?_
            refine ax_icmp_ne (tgt := 66) dX10_isFull_49 (by decide) (fun h49 => ?_) (fun h49 => ?_)
            · refine ax_iconst (v := 0) dX10_isFull_66 (by decide) ?_
              refine ax_zret dX10_isFull_67 rfl ?_ ?_
              · first | exact Or.inl rfl | exact Or.inr rfl
              · refine ⟨?_, rfl⟩; first | (rw [if_pos]; simp_all; done) | (rw [if_neg]; simp_all; done) | (rw [if_neg]; intro q; simp_all; done)
            · refine ax_aload_n dX10_isFull_52 rfl ?_
              refine ax_getK (f := 11) 93 dX10_isFull_53 acl_10 wd_1611 (by decide) rfl (lo_s hok 90 rfl) (lo_r hok 82 rfl) ?_
              refine ax_iconst (v := 4) dX10_isFull_56 (by decide) ?_
              refine ax_iald dX10_isFull_57 (lo_s hok 93 rfl) (by unfold vp_in; decide) ?_
              refine ax_iconst (v := 4) dX10_isFull_58 (by decide) ?_
              refine ax_icmp_ne (tgt := 66) dX10_isFull_59 (by decide) (fun h59 => ?_) (fun h59 => ?_)
              · refine ax_iconst (v := 0) dX10_isFull_66 (by decide) ?_
                refine ax_zret dX10_isFull_67 rfl ?_ ?_
                · first | exact Or.inl rfl | exact Or.inr rfl
                · refine ⟨?_, rfl⟩; first | (rw [if_pos]; simp_all; done) | (rw [if_neg]; simp_all; done) | (rw [if_neg]; intro q; simp_all; done)
              · refine ax_iconst (v := 1) dX10_isFull_62 (by decide) ?_
                refine ax_goto (tgt := 67) dX10_isFull_63 (by decide) ?_
                refine ax_zret dX10_isFull_67 rfl ?_ ?_
                · first | exact Or.inl rfl | exact Or.inr rfl
                · refine ⟨?_, rfl⟩; first | (rw [if_pos]; simp_all; done) | (rw [if_neg]; simp_all; done) | (rw [if_neg]; intro q; simp_all; done)
      · refine ax_aload_n dX10_isFull_20 rfl ?_
        refine ax_getK (f := 11) 93 dX10_isFull_21 acl_10 wd_1611 (by decide) rfl (lo_s hok 90 rfl) (lo_r hok 82 rfl) ?_
        refine ax_iconst (v := 2) dX10_isFull_24 (by decide) ?_
        refine ax_iald dX10_isFull_25 (lo_s hok 93 rfl) (by unfold vp_in; decide) ?_
        refine ax_bipush (v := 10) dX10_isFull_26 (by decide) ?_
        refine ax_icmp_eq (tgt := 62) dX10_isFull_28 (by decide) (fun h28 => ?_) (fun h28 => ?_)
        · refine ax_iconst (v := 1) dX10_isFull_62 (by decide) ?_
          refine ax_goto (tgt := 67) dX10_isFull_63 (by decide) ?_
          refine ax_zret dX10_isFull_67 rfl ?_ ?_
          · first | exact Or.inl rfl | exact Or.inr rfl
          · refine ⟨?_, rfl⟩; first | (rw [if_pos]; simp_all; done) | (rw [if_neg]; simp_all; done) | (rw [if_neg]; intro q; simp_all; done)
        · refine ax_iload_n dX10_isFull_31 rfl ?_
          refine ax_iconst (v := 3) dX10_isFull_32 (by decide) ?_
          refine ax_icmp_ne (tgt := 47) dX10_isFull_33 (by decide) (fun h33 => ?_) (fun h33 => ?_)
          · refine ax_iload_n dX10_isFull_47 rfl ?_
            refine ax_iconst (v := 4) dX10_isFull_48 (by decide) ?_
            refine ax_icmp_ne (tgt := 66) dX10_isFull_49 (by decide) (fun h49 => ?_) (fun h49 => ?_)
            · refine ax_iconst (v := 0) dX10_isFull_66 (by decide) ?_
              refine ax_zret dX10_isFull_67 rfl ?_ ?_
              · first | exact Or.inl rfl | exact Or.inr rfl
              · refine ⟨?_, rfl⟩; first | (rw [if_pos]; simp_all; done) | (rw [if_neg]; simp_all; done) | (rw [if_neg]; intro q; simp_all; done)
            · refine ax_aload_n dX10_isFull_52 rfl ?_
              refine ax_getK (f := 11) 93 dX10_isFull_53 acl_10 wd_1611 (by decide) rfl (lo_s hok 90 rfl) (lo_r hok 82 rfl) ?_
              refine ax_iconst (v := 4) dX10_isFull_56 (by decide) ?_
              refine ax_iald dX10_isFull_57 (lo_s hok 93 rfl) (by unfold vp_in; decide) ?_
              refine ax_iconst (v := 4) dX10_isFull_58 (by decide) ?_
              refine ax_icmp_ne (tgt := 66) dX10_isFull_59 (by decide) (fun h59 => ?_) (fun h59 => ?_)
              · refine ax_iconst (v := 0) dX10_isFull_66 (by decide) ?_
                refine ax_zret dX10_isFull_67 rfl ?_ ?_
                · first | exact Or.inl rfl | exact Or.inr rfl
                · refine ⟨?_, rfl⟩; first | (rw [if_pos]; simp_all; done) | (rw [if_neg]; simp_all; done) | (rw [if_neg]; intro q; simp_all; done)
              · refine ax_iconst (v := 1) dX10_isFull_62 (by decide) ?_
                refine ax_goto (tgt := 67) dX10_isFull_63 (by decide) ?_
                refine ax_zret dX10_isFull_67 rfl ?_ ?_
                · first | exact Or.inl rfl | exact Or.inr rfl
                · refine ⟨?_, rfl⟩; first | (rw [if_pos]; simp_all; done) | (rw [if_neg]; simp_all; done) | (rw [if_neg]; intro q; simp_all; done)
          · refine ax_aload_n dX10_isFull_36 rfl ?_
            refine ax_getK (f := 11) 93 dX10_isFull_37 acl_10 wd_1611 (by decide) rfl (lo_s hok 90 rfl) (lo_r hok 82 rfl) ?_
            refine ax_iconst (v := 3) dX10_isFull_40 (by decide) ?_
            refine ax_iald dX10_isFull_41 (lo_s hok 93 rfl) (by unfold vp_in; decide) ?_
            refine ax_bipush (v := 6) dX10_isFull_42 (by decide) ?_
            refine ax_icmp_eq (tgt := 62) dX10_isFull_44 (by decide) (fun h44 => ?_) (fun h44 => ?_)
            · refine ax_iconst (v := 1) dX10_isFull_62 (by decide) ?_
              refine ax_goto (tgt := 67) dX10_isFull_63 (by decide) ?_
              refine ax_zret dX10_isFull_67 rfl ?_ ?_
              · first | exact Or.inl rfl | exact Or.inr rfl
              · refine ⟨?_, rfl⟩; first | (rw [if_pos]; simp_all; done) | (rw [if_neg]; simp_all; done) | (rw [if_neg]; intro q; simp_all; done)
            · refine ax_iload_n dX10_isFull_47 rfl ?_
              refine ax_iconst (v := 4) dX10_isFull_48 (by decide) ?_
              refine ax_icmp_ne (tgt := 66) dX10_isFull_49 (by decide) (fun h49 => ?_) (fun h49 => ?_)
              · refine ax_iconst (v := 0) dX10_isFull_66 (by decide) ?_
                refine ax_zret dX10_isFull_67 rfl ?_ ?_
                · first | exact Or.inl rfl | exact Or.inr rfl
                · refine ⟨?_, rfl⟩; first | (rw [if_pos]; simp_all; done) | (rw [if_neg]; simp_all; done) | (rw [if_neg]; intro q; simp_all; done)
              · refine ax_aload_n dX10_isFull_52 rfl ?_
                refine ax_getK (f := 11) 93 dX10_isFull_53 acl_10 wd_1611 (by decide) rfl (lo_s hok 90 rfl) (lo_r hok 82 rfl) ?_
                refine ax_iconst (v := 4) dX10_isFull_56 (by decide) ?_
                refine ax_iald dX10_isFull_57 (lo_s hok 93 rfl) (by unfold vp_in; decide) ?_
                refine ax_iconst (v := 4) dX10_isFull_58 (by decide) ?_
                refine ax_icmp_ne (tgt := 66) dX10_isFull_59 (by decide) (fun h59 => ?_) (fun h59 => ?_)
                · refine ax_iconst (v := 0) dX10_isFull_66 (by decide) ?_
                  refine ax_zret dX10_isFull_67 rfl ?_ ?_
                  · first | exact Or.inl rfl | exact Or.inr rfl
                  · refine ⟨?_, rfl⟩; first | (rw [if_pos]; simp_all; done) | (rw [if_neg]; simp_all; done) | (rw [if_neg]; intro q; simp_all; done)
                · refine ax_iconst (v := 1) dX10_isFull_62 (by decide) ?_
                  refine ax_goto (tgt := 67) dX10_isFull_63 (by decide) ?_
                  refine ax_zret dX10_isFull_67 rfl ?_ ?_
                  · first | exact Or.inl rfl | exact Or.inr rfl
                  · refine ⟨?_, rfl⟩; first | (rw [if_pos]; simp_all; done) | (rw [if_neg]; simp_all; done) | (rw [if_neg]; intro q; simp_all; done)
theorem c_X10_starts (hok : lo_ok M.2) {z : Nat} (hz : z ≤ 600) : ax_Met l G kX10_starts 2 0 0 M [av_r 90, av_i (nI z)] (fun o M2 => o = .inl none ∧ ∃ M1 : ax_M, M1 = ax_pI (ax_pI (ax_pI (ax_pI (ax_pI (ax_pI (ax_pI M 90 1 0) 90 2 (nI z)) 90 4 0) 90 5 0) 90 6 (-1)) 90 7 0) 90 8 0 ∧ M2 = ax_pI M1 90 4 (nI (tx_sk (tx_B M1) z 0))) := by
  refine ax_body (by decide) (Nat.le_of_ble_eq_true rfl) ?_
  refine ax_aload_n dX10_starts_0 rfl ?_
  refine ax_iconst (v := 0) dX10_starts_1 (by decide) ?_
  refine ax_putI (f := 1) dX10_starts_2 acl_10 wd_1601 (by decide) rfl rfl (ax_nfI rfl) (lo_s hok 90 rfl) ?_
  refine ax_aload_n dX10_starts_5 rfl ?_
  refine ax_iload_n dX10_starts_6 rfl ?_
  refine ax_putI (f := 2) dX10_starts_7 acl_10 wd_1602 (by decide) rfl rfl (ax_nfI rfl) (lo_s hok 90 rfl) ?_
  refine ax_aload_n dX10_starts_10 rfl ?_
  refine ax_iconst (v := 0) dX10_starts_11 (by decide) ?_
  refine ax_putI (f := 4) dX10_starts_12 acl_10 wd_1604 (by decide) rfl rfl (ax_nfI rfl) (lo_s hok 90 rfl) ?_
  refine ax_aload_n dX10_starts_15 rfl ?_
  refine ax_iconst (v := 0) dX10_starts_16 (by decide) ?_
  refine ax_putI (f := 5) dX10_starts_17 acl_10 wd_1605 (by decide) rfl rfl (ax_nfI rfl) (lo_s hok 90 rfl) ?_
  refine ax_aload_n dX10_starts_20 rfl ?_
  refine ax_iconst (v := (-1)) dX10_starts_21 (by decide) ?_
  refine ax_putI (f := 6) dX10_starts_22 acl_10 wd_1606 (by decide) rfl rfl (ax_nfI rfl) (lo_s hok 90 rfl) ?_
  refine ax_aload_n dX10_starts_25 rfl ?_
  refine ax_iconst (v := 0) dX10_starts_26 (by decide) ?_
  refine ax_putI (f := 7) dX10_starts_27 acl_10 wd_1607 (by decide) rfl rfl (ax_nfI rfl) (lo_s hok 90 rfl) ?_
  refine ax_aload_n dX10_starts_30 rfl ?_
  refine ax_iconst (v := 0) dX10_starts_31 (by decide) ?_
  refine ax_putI (f := 8) dX10_starts_32 acl_10 wd_1608 (by decide) rfl rfl (ax_nfI rfl) (lo_s hok 90 rfl) ?_
  refine ax_aload_n dX10_starts_35 rfl ?_
  refine ax_gen (fun M1 hM1 => ?_)
  have hok : lo_ok M1.2 := by rw [hM1]; exact hok
  refine ax_callV (As := _) (d2 := _) (c1 := 0) (n1 := 0) (c_X10_blanks (M := M1) hok (z := z) (a := 0) ⟨by rw [hM1]; rfl, hz⟩ (by rw [hM1]; rfl) (by omega)) dX10_starts_36 mX10_blanks wd_1783 acl_10 (lo_s hok 90 rfl) rfl (by omega) (by omega) (by omega) rfl rfl (fun _ _ h => by cases h.1) ?_
  rintro r M3 ⟨h1, hM3⟩; cases h1
  have hok : lo_ok M3.2 := by rw [hM3]; exact hok
  refine ax_vret dX10_starts_39 rfl ?_
  exact ⟨rfl, M1, hM1, hM3⟩
end MX

