/-! ===== numbers ===== -/
theorem iv_le {x y : Int32} : x ≤ y ↔ x.toInt ≤ y.toInt := Int32.le_iff_toInt_le
theorem iv_lt {x y : Int32} : x < y ↔ x.toInt < y.toInt := Int32.lt_iff_toInt_lt
theorem iv_eq {x y : Int32} : x = y ↔ x.toInt = y.toInt := Int32.toInt_inj.symm
/-! ===== the text that is read: B by place, -1 behind its end ===== -/
def tx_B (M : ax_M) (i : Nat) : Int32 := if nI i < M.1 90 2 then M.1 91 i else -1
/-- from a on, while p, n places at the most -/
def tx_run (p : Int32 → Bool) (B : Nat → Int32) : Nat → Nat → Nat
  | 0, a => a
  | n + 1, a => if p (B a) = true then tx_run p B n (a + 1) else a
def tx_bl (c : Int32) : Bool := c == 32
def tx_dg (c : Int32) : Bool := decide (48 ≤ c) && decide (c ≤ 57)
def tx_sm (c : Int32) : Bool := decide (97 ≤ c) && decide (c ≤ 122)
/-- the text's length z at most 600 -/
def tx_ok (M : ax_M) (z : Nat) : Prop := M.1 90 2 = nI z ∧ z ≤ 600
theorem tx_end {M : ax_M} {z i : Nat} (h : tx_ok M z) (hi : z ≤ i) (h2 : i < 2 ^ 31) : tx_B M i = -1 := by
  unfold tx_B
  rw [h.1, if_neg]
  intro h3
  have := (nI_ltI (by omega) (by have := h.2; omega)).mp h3
  omega
theorem ax_pp (M : ax_M) (a k : Nat) (x y : Int32) : ax_pI (ax_pI M a k x) a k y = ax_pI M a k y := by
  unfold ax_pI
  congr 1
  funext b j
  simp only [ax_u2]
  split <;> rfl
theorem ax_pa (M : ax_M) (a k : Nat) (x : Int32) : (ax_pI M a k x).1 a k = x := by
  simp [ax_pI, ax_u2]
theorem ax_pn {M : ax_M} {a k b j : Nat} {x : Int32} (h : ¬ (b = a ∧ j = k)) : (ax_pI M a k x).1 b j = M.1 b j := by
  simp only [ax_pI, ax_u2, if_neg h]
theorem ax_pid {M : ax_M} {a k : Nat} {x : Int32} (h : M.1 a k = x) : ax_pI M a k x = M := by
  subst h
  show (ax_u2 M.1 a k (M.1 a k), M.2) = M
  have e : ax_u2 M.1 a k (M.1 a k) = M.1 := by
    funext b j
    simp only [ax_u2]
    split
    · rename_i h; rw [h.1, h.2]
    · rfl
  rw [e]
theorem ax_gen {l : Launch} {G : ax_G} {k : ax_K} {F : ax_F} {d c n : Nat} {M : ax_M} {pc : Nat} {L : List (Option ax_V)} {S : List ax_V} (h : ∀ M2, M2 = M → ax_W l G k F d c n M2 pc L S) : ax_W l G k F d c n M pc L S := h M rfl
section MR
variable {l : Launch} {G : ax_G} {d : Nat} {M : ax_M}
theorem c_X10_thrown (hok : lo_ok M.2) : ax_Met l G kX10_thrown d 0 0 M [av_r 90] (ax_p (av_i (M.1 90 0)) M) := by
  refine ax_body (by decide) (Nat.le_of_ble_eq_true rfl) ?_
  refine ax_aload_n dX10_thrown_0 rfl ?_
  refine ax_getI (f := 0) dX10_thrown_1 acl_10 wd_1600 (by decide) rfl (lo_s hok 90 rfl) ?_
  refine ax_iret dX10_thrown_4 rfl ?_
  exact ⟨rfl, rfl⟩
theorem c_X10_isDigit (a : Int32) : ax_Met l G kX10_isDigit d 0 0 M [av_i a] (ax_p (av_i (if tx_dg a = true then 1 else 0)) M) := by
  refine ax_body (by decide) (Nat.le_of_ble_eq_true rfl) ?_
  refine ax_iload_n dX10_isDigit_0 rfl ?_
  refine ax_bipush (v := 48) dX10_isDigit_1 (by decide) ?_
  refine ax_icmp_lt (tgt := 16) dX10_isDigit_3 (by decide) (fun h3 => ?_) (fun h3 => ?_)
  · refine ax_iconst (v := 0) dX10_isDigit_16 (by decide) ?_
    refine ax_zret dX10_isDigit_17 rfl ?_ ?_
    · first | exact Or.inl rfl | exact Or.inr rfl
    · refine ⟨?_, rfl⟩; simp_all [tx_dg, iv_le, iv_lt]; try omega
  · refine ax_iload_n dX10_isDigit_6 rfl ?_
    refine ax_bipush (v := 57) dX10_isDigit_7 (by decide) ?_
    refine ax_icmp_gt (tgt := 16) dX10_isDigit_9 (by decide) (fun h9 => ?_) (fun h9 => ?_)
    · refine ax_iconst (v := 0) dX10_isDigit_16 (by decide) ?_
      refine ax_zret dX10_isDigit_17 rfl ?_ ?_
      · first | exact Or.inl rfl | exact Or.inr rfl
      · refine ⟨?_, rfl⟩; simp_all [tx_dg, iv_le, iv_lt]; try omega
    · refine ax_iconst (v := 1) dX10_isDigit_12 (by decide) ?_
      refine ax_goto (tgt := 17) dX10_isDigit_13 (by decide) ?_
      refine ax_zret dX10_isDigit_17 rfl ?_ ?_
      · first | exact Or.inl rfl | exact Or.inr rfl
      · refine ⟨?_, rfl⟩; simp_all [tx_dg, iv_le, iv_lt]; try omega
theorem c_X10_isSmall (a : Int32) : ax_Met l G kX10_isSmall d 0 0 M [av_i a] (ax_p (av_i (if tx_sm a = true then 1 else 0)) M) := by
  refine ax_body (by decide) (Nat.le_of_ble_eq_true rfl) ?_
  refine ax_iload_n dX10_isSmall_0 rfl ?_
  refine ax_bipush (v := 97) dX10_isSmall_1 (by decide) ?_
  refine ax_icmp_lt (tgt := 16) dX10_isSmall_3 (by decide) (fun h3 => ?_) (fun h3 => ?_)
  · refine ax_iconst (v := 0) dX10_isSmall_16 (by decide) ?_
    refine ax_zret dX10_isSmall_17 rfl ?_ ?_
    · first | exact Or.inl rfl | exact Or.inr rfl
    · refine ⟨?_, rfl⟩; simp_all [tx_sm, iv_le, iv_lt]; try omega
  · refine ax_iload_n dX10_isSmall_6 rfl ?_
    refine ax_bipush (v := 122) dX10_isSmall_7 (by decide) ?_
    refine ax_icmp_gt (tgt := 16) dX10_isSmall_9 (by decide) (fun h9 => ?_) (fun h9 => ?_)
    · refine ax_iconst (v := 0) dX10_isSmall_16 (by decide) ?_
      refine ax_zret dX10_isSmall_17 rfl ?_ ?_
      · first | exact Or.inl rfl | exact Or.inr rfl
      · refine ⟨?_, rfl⟩; simp_all [tx_sm, iv_le, iv_lt]; try omega
    · refine ax_iconst (v := 1) dX10_isSmall_12 (by decide) ?_
      refine ax_goto (tgt := 17) dX10_isSmall_13 (by decide) ?_
      refine ax_zret dX10_isSmall_17 rfl ?_ ?_
      · first | exact Or.inl rfl | exact Or.inr rfl
      · refine ⟨?_, rfl⟩; simp_all [tx_sm, iv_le, iv_lt]; try omega
theorem c_X10_byteAt (hok : lo_ok M.2) {z i : Nat} (hz : tx_ok M z) (hi : i < 2 ^ 31) {x : Int32} (hx : x = nI i) : ax_Met l G kX10_byteAt d 0 0 M [av_r 90, av_i x] (ax_p (av_i (tx_B M i)) M) := by
  subst hx
  refine ax_body (by decide) (Nat.le_of_ble_eq_true rfl) ?_
  refine ax_iload_n dX10_byteAt_0 rfl ?_
  refine ax_aload_n dX10_byteAt_1 rfl ?_
  refine ax_getI (f := 2) dX10_byteAt_2 acl_10 wd_1602 (by decide) rfl (lo_s hok 90 rfl) ?_
  refine ax_icmp_lt (tgt := 12) dX10_byteAt_5 (by decide) (fun h5 => ?_) (fun h5 => ?_)
  · refine ax_aload_n dX10_byteAt_12 rfl ?_
    refine ax_getK (f := 9) 91 dX10_byteAt_13 acl_10 wd_1609 (by decide) rfl (lo_s hok 90 rfl) (lo_r hok 80 rfl) ?_
    refine ax_iload_n dX10_byteAt_16 rfl ?_
    refine ax_iald dX10_byteAt_17 (lo_s hok 91 rfl) (by have h9 := h5; rw [hz.1] at h9; have := (nI_ltI hi (by have := hz.2; omega)).mp h9; exact vp_in_nI (by have := hz.2; omega) (by decide)) ?_
    refine ax_iret dX10_byteAt_18 rfl ?_
    refine ⟨?_, rfl⟩; unfold tx_B; first | rw [if_pos h5, nI_clamp hi] | rw [if_neg h5]
  · refine ax_iconst (v := (-1)) dX10_byteAt_8 (by decide) ?_
    refine ax_goto (tgt := 18) dX10_byteAt_9 (by decide) ?_
    refine ax_iret dX10_byteAt_18 rfl ?_
    refine ⟨?_, rfl⟩; unfold tx_B; first | rw [if_pos h5, nI_clamp hi] | rw [if_neg h5]
theorem c_X10_wrong (hok : lo_ok M.2) (w p : Int32) : ax_Met l G kX10_wrong d 0 0 M [av_r 90, av_i w, av_i p] (fun o M2 => o = .inl none ∧ M2 = if M.1 90 5 = 0 then ax_pI (ax_pI M 90 5 w) 90 6 p else M) := by
  refine ax_body (by decide) (Nat.le_of_ble_eq_true rfl) ?_
  refine ax_aload_n dX10_wrong_0 rfl ?_
  refine ax_getI (f := 5) dX10_wrong_1 acl_10 wd_1605 (by decide) rfl (lo_s hok 90 rfl) ?_
  refine ax_if_ne (tgt := 17) dX10_wrong_4 (by decide) (fun h4 => ?_) (fun h4 => ?_)
  · refine ax_vret dX10_wrong_17 rfl ?_
    refine ⟨rfl, ?_⟩; simp_all
  · refine ax_aload_n dX10_wrong_7 rfl ?_
    refine ax_iload_n dX10_wrong_8 rfl ?_
    refine ax_putI (f := 5) dX10_wrong_9 acl_10 wd_1605 (by decide) rfl rfl (ax_nfI rfl) (lo_s hok 90 rfl) ?_
    refine ax_aload_n dX10_wrong_12 rfl ?_
    refine ax_iload_n dX10_wrong_13 rfl ?_
    refine ax_putI (f := 6) dX10_wrong_14 acl_10 wd_1606 (by decide) rfl rfl (ax_nfI rfl) (lo_s hok 90 rfl) ?_
    refine ax_vret dX10_wrong_17 rfl ?_
    refine ⟨rfl, ?_⟩; simp_all
theorem c_X10_bad (hok : lo_ok M.2) (b w : Int32) {r : Nat} (hr : r < 3) : ax_Met l G kX10_bad d 0 0 M [av_r 90, av_i b, av_i w, av_i (nI r)] (fun o M2 => M2 = (if ¬ b = 0 ∧ M.1 90 0 = 0 then ax_pI (ax_pI M 90 0 w) 92 r (M.1 92 r + 1) else M) ∧ o = .inl (some (av_i (if M2.1 90 0 = 0 then 0 else 1)))) := by
  refine ax_body (by decide) (Nat.le_of_ble_eq_true rfl) ?_
  refine ax_iload_n dX10_bad_0 rfl ?_
  refine ax_if_eq (tgt := 26) dX10_bad_1 (by decide) (fun h1 => ?_) (fun h1 => ?_)
  · refine ax_aload_n dX10_bad_26 rfl ?_
    refine ax_getI (f := 0) dX10_bad_27 acl_10 wd_1600 (by decide) rfl (lo_s hok 90 rfl) ?_
    refine ax_if_eq (tgt := 37) dX10_bad_30 (by decide) (fun h30 => ?_) (fun h30 => ?_)
    · refine ax_iconst (v := 0) dX10_bad_37 (by decide) ?_
      refine ax_zret dX10_bad_38 rfl ?_ ?_
      · first | exact Or.inl rfl | exact Or.inr rfl
      · simp_all [ax_pI, ax_u2, nI_clamp (show r < 2 ^ 31 by omega)]
    · refine ax_iconst (v := 1) dX10_bad_33 (by decide) ?_
      refine ax_goto (tgt := 38) dX10_bad_34 (by decide) ?_
      refine ax_zret dX10_bad_38 rfl ?_ ?_
      · first | exact Or.inl rfl | exact Or.inr rfl
      · simp_all [ax_pI, ax_u2, nI_clamp (show r < 2 ^ 31 by omega)]
  · refine ax_aload_n dX10_bad_4 rfl ?_
    refine ax_getI (f := 0) dX10_bad_5 acl_10 wd_1600 (by decide) rfl (lo_s hok 90 rfl) ?_
    refine ax_if_ne (tgt := 26) dX10_bad_8 (by decide) (fun h8 => ?_) (fun h8 => ?_)
    · refine ax_aload_n dX10_bad_26 rfl ?_
      refine ax_getI (f := 0) dX10_bad_27 acl_10 wd_1600 (by decide) rfl (lo_s hok 90 rfl) ?_
      refine ax_if_eq (tgt := 37) dX10_bad_30 (by decide) (fun h30 => ?_) (fun h30 => ?_)
      · refine ax_iconst (v := 0) dX10_bad_37 (by decide) ?_
        refine ax_zret dX10_bad_38 rfl ?_ ?_
        · first | exact Or.inl rfl | exact Or.inr rfl
        · simp_all [ax_pI, ax_u2, nI_clamp (show r < 2 ^ 31 by omega)]
      · refine ax_iconst (v := 1) dX10_bad_33 (by decide) ?_
        refine ax_goto (tgt := 38) dX10_bad_34 (by decide) ?_
        refine ax_zret dX10_bad_38 rfl ?_ ?_
        · first | exact Or.inl rfl | exact Or.inr rfl
        · simp_all [ax_pI, ax_u2, nI_clamp (show r < 2 ^ 31 by omega)]
    · refine ax_aload_n dX10_bad_11 rfl ?_
      refine ax_iload_n dX10_bad_12 rfl ?_
      refine ax_putI (f := 0) dX10_bad_13 acl_10 wd_1600 (by decide) rfl rfl (ax_nfI rfl) (lo_s hok 90 rfl) ?_
      refine ax_aload_n dX10_bad_16 rfl ?_
      refine ax_getK (f := 10) 92 dX10_bad_17 acl_10 wd_1610 (by decide) rfl (lo_s hok 90 rfl) (lo_r hok 81 rfl) ?_
      refine ax_iload_n dX10_bad_20 rfl ?_
      refine ax_dup2 dX10_bad_21 (by first | rfl | exact ax_crf _) (by first | rfl | exact ax_crf _) ?_
      refine ax_iald dX10_bad_22 (lo_s hok 92 rfl) (vp_in_nI hr (by decide)) ?_
      refine ax_iconst (v := 1) dX10_bad_23 (by decide) ?_
      refine ax_iadd dX10_bad_24 ?_
      refine ax_iast dX10_bad_25 (lo_s hok 92 rfl) (vp_in_nI hr (by decide)) ?_
      refine ax_aload_n dX10_bad_26 rfl ?_
      refine ax_getI (f := 0) dX10_bad_27 acl_10 wd_1600 (by decide) rfl (lo_s hok 90 rfl) ?_
      refine ax_if_eq (tgt := 37) dX10_bad_30 (by decide) (fun h30 => ?_) (fun h30 => ?_)
      · refine ax_iconst (v := 0) dX10_bad_37 (by decide) ?_
        refine ax_zret dX10_bad_38 rfl ?_ ?_
        · first | exact Or.inl rfl | exact Or.inr rfl
        · simp_all [ax_pI, ax_u2, nI_clamp (show r < 2 ^ 31 by omega)]
      · refine ax_iconst (v := 1) dX10_bad_33 (by decide) ?_
        refine ax_goto (tgt := 38) dX10_bad_34 (by decide) ?_
        refine ax_zret dX10_bad_38 rfl ?_ ?_
        · first | exact Or.inl rfl | exact Or.inr rfl
        · simp_all [ax_pI, ax_u2, nI_clamp (show r < 2 ^ 31 by omega)]
theorem c_X10_blanks (hok : lo_ok M.2) {z a : Nat} (hz : tx_ok M z) (ha : M.1 90 4 = nI a) (ha2 : a ≤ 600) : ax_Met l G kX10_blanks 1 0 0 M [av_r 90] (fun o M2 => o = .inl none ∧ M2 = ax_pI M 90 4 (nI (tx_run tx_bl (tx_B M) (z - a) a))) := by
  refine ax_body (by decide) (Nat.le_of_ble_eq_true rfl) ?_
  have loop : ∀ (n b : Nat) (M1 : ax_M), M1 = ax_pI M 90 4 (nI b) → z - b = n → b ≤ 600 → tx_run tx_bl (tx_B M) n b = tx_run tx_bl (tx_B M) (z - a) a → ax_W l G kX10_blanks (ax_FQ G (fun o M2 => o = .inl none ∧ M2 = ax_pI M 90 4 (nI (tx_run tx_bl (tx_B M) (z - a) a)))) 1 0 0 M1 0 [some (av_r 90)] [] := by
    intro n
    induction n with
    | zero =>
      intro b M1 hM1 hb hb6 hf
      have hok : lo_ok M1.2 := by rw [hM1]; exact hok
      have hz1 : tx_ok M1 z := by rw [hM1]; exact hz
      have e1 : M1.1 90 4 = nI b := by rw [hM1]; exact ax_pa _ _ _ _
      refine ax_aload_n dX10_blanks_0 rfl ?_
      refine ax_aload_n dX10_blanks_1 rfl ?_
      refine ax_getI (f := 4) dX10_blanks_2 acl_10 wd_1604 (by decide) rfl (lo_s hok 90 rfl) ?_
      refine ax_callV (As := _) (d2 := _) (c1 := 0) (n1 := 0) (c_X10_byteAt (d := 0) (M := M1) hok (z := z) (i := b) hz1 (by omega) e1) dX10_blanks_5 mX10_byteAt wd_1787 acl_10 (lo_s hok 90 rfl) rfl (by omega) (by omega) (by omega) rfl rfl (fun _ _ h => by cases h.1) ?_
      rintro r M9 ⟨h1, h9⟩; cases h1; rw [h9]; clear h9 M9
      refine ax_bipush (v := 32) dX10_blanks_8 (by decide) ?_
      refine ax_icmp_ne (tgt := 26) dX10_blanks_10 (by decide) (fun h10 => ?_) (fun h10 => ?_)
      · refine ax_vret dX10_blanks_26 rfl ?_
        exact ⟨rfl, by rw [← hf]; exact hM1⟩
      · exact absurd h10 (by rw [tx_end hz1 (by omega) (by omega)]; decide)
    | succ n ih =>
      intro b M1 hM1 hb hb6 hf
      have hok : lo_ok M1.2 := by rw [hM1]; exact hok
      have hz1 : tx_ok M1 z := by rw [hM1]; exact hz
      have e1 : M1.1 90 4 = nI b := by rw [hM1]; exact ax_pa _ _ _ _
      have e : tx_B M1 b = tx_B M b := by rw [hM1]; rfl
      refine ax_aload_n dX10_blanks_0 rfl ?_
      refine ax_aload_n dX10_blanks_1 rfl ?_
      refine ax_getI (f := 4) dX10_blanks_2 acl_10 wd_1604 (by decide) rfl (lo_s hok 90 rfl) ?_
      refine ax_callV (As := _) (d2 := _) (c1 := 0) (n1 := 0) (c_X10_byteAt (d := 0) (M := M1) hok (z := z) (i := b) hz1 (by omega) e1) dX10_blanks_5 mX10_byteAt wd_1787 acl_10 (lo_s hok 90 rfl) rfl (by omega) (by omega) (by omega) rfl rfl (fun _ _ h => by cases h.1) ?_
      rintro r M9 ⟨h1, h9⟩; cases h1; rw [h9]; clear h9 M9
      refine ax_bipush (v := 32) dX10_blanks_8 (by decide) ?_
      refine ax_icmp_ne (tgt := 26) dX10_blanks_10 (by decide) (fun h10 => ?_) (fun h10 => ?_)
      · refine ax_vret dX10_blanks_26 rfl ?_
        exact ⟨rfl, by rw [← hf, hM1]; unfold tx_run; rw [if_neg (by rw [e] at h10; simpa [tx_bl] using h10)]⟩
      · refine ax_aload_n dX10_blanks_13 rfl ?_
        refine ax_dup dX10_blanks_14 (by first | rfl | exact ax_crf _) ?_
        refine ax_getI (f := 4) dX10_blanks_15 acl_10 wd_1604 (by decide) rfl (lo_s hok 90 rfl) ?_
        refine ax_iconst (v := 1) dX10_blanks_18 (by decide) ?_
        refine ax_iadd dX10_blanks_19 ?_
        refine ax_putI (f := 4) dX10_blanks_20 acl_10 wd_1604 (by decide) rfl rfl (ax_nfI rfl) (lo_s hok 90 rfl) ?_
        refine ax_goto (tgt := 0) dX10_blanks_23 (by decide) ?_
        exact ih (b + 1) _ (by rw [e1, hM1, ax_pp, nI_1]) (by omega) (by have := hz.2; omega) (by rw [← hf]; show _ = if _ then _ else _; rw [if_pos (by rw [e] at h10; simpa [tx_bl] using h10)])
  exact loop (z - a) a M (ax_pid ha).symm rfl ha2 rfl
end MR

