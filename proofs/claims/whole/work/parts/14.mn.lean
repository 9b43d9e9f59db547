/-! ===== numbers in the text ===== -/
def tx_d (c : Int32) : Nat := (c.toInt - 48).toNat
def tx_nv (B : Nat → Int32) : Nat → Nat → Nat → Nat
  | 0, _, v => v
  | n + 1, a, v => if tx_dg (B a) = true then tx_nv B n (a + 1) (if 100000 < 10 * v + tx_d (B a) then 100000 else 10 * v + tx_d (B a)) else v
theorem tx_dgn {c : Int32} (h : tx_dg c = true) : c = nI (48 + tx_d c) ∧ tx_d c ≤ 9 := by
  simp only [tx_dg, Bool.and_eq_true, decide_eq_true_eq, iv_le] at h
  have h1 : (48 : Int32).toInt = 48 := rfl
  have h2 : (57 : Int32).toInt = 57 := rfl
  rw [h1, h2] at h
  unfold tx_d
  refine ⟨?_, by omega⟩
  rw [iv_eq, nI_toInt (by omega)]
  omega
theorem tx_stepv {c : Int32} (h : tx_dg c = true) (v : Nat) : 10 * nI v + c - 48 = nI (10 * v + tx_d c) := by
  obtain ⟨h1, h2⟩ := tx_dgn h
  rw [h1, show (10 : Int32) = nI 10 from rfl, pk_mul, nI_add, show (48 : Int32) = nI 48 from rfl, pk_sub (by omega)]
  have e : tx_d (nI (48 + tx_d c)) = tx_d c := by rw [← h1]
  rw [e]
  congr 1
  omega
theorem tx_run_s (p : Int32 → Bool) (B : Nat → Int32) (n a : Nat) : tx_run p B (n + 1) a = if p (B a) = true then tx_run p B n (a + 1) else a := rfl
theorem tx_nv_s (B : Nat → Int32) (n a v : Nat) : tx_nv B (n + 1) a v = if tx_dg (B a) = true then tx_nv B n (a + 1) (if 100000 < 10 * v + tx_d (B a) then 100000 else 10 * v + tx_d (B a)) else v := rfl
theorem tx_run_le (p : Int32 → Bool) (B : Nat → Int32) : ∀ n a, a ≤ tx_run p B n a ∧ tx_run p B n a ≤ a + n
  | 0, a => ⟨Nat.le_refl _, Nat.le_refl _⟩
  | n + 1, a => by
    unfold tx_run
    split
    · have := tx_run_le p B n (a + 1); omega
    · omega
theorem tx_run_stop (p : Int32 → Bool) (B : Nat → Int32) : ∀ n a, tx_run p B n a < a + n → p (B (tx_run p B n a)) = false
  | 0, a, h => by simp [tx_run] at h
  | n + 1, a, h => by
    unfold tx_run at h ⊢
    split
    · rename_i h1
      rw [if_pos h1] at h
      exact tx_run_stop p B n (a + 1) (by omega)
    · rename_i h1
      simpa using h1
theorem tx_nv_le (B : Nat → Int32) : ∀ n a v, v ≤ 100000 → tx_nv B n a v ≤ 100000
  | 0, _, v, h => h
  | n + 1, a, v, h => by
    unfold tx_nv
    split
    · exact tx_nv_le B n (a + 1) _ (by split <;> omega)
    · exact h
/-- where reading a number stops; FAULT, its place; the number -/
def tx_num (B : Nat → Int32) (z : Nat) (lo hi : Int32) (a : Nat) : Nat × Nat × Nat × Nat :=
  let a1 := tx_run tx_bl B (z - a) a
  if tx_dg (B a1) = true then
    let b := tx_run tx_dg B (z - a1) a1
    let v := tx_nv B (z - a1) a1 0
    if lo ≤ nI v ∧ nI v ≤ hi then (b, 0, 0, v) else (b, 2, a1, 0)
  else (a1, 1, a1, 0)
/-- the reader's place and FAULT behind it -/
def tx_put (M : ax_M) (a f p : Nat) : ax_M := if f = 0 then ax_pI M 90 4 (nI a) else ax_pI (ax_pI (ax_pI M 90 4 (nI a)) 90 5 (nI f)) 90 6 (nI p)
section MN
variable {l : Launch} {G : ax_G} {d : Nat} {M : ax_M}
theorem c_X10_numberF (hok : lo_ok M.2) (hf : ¬ M.1 90 5 = 0) (lo hi : Int32) : ax_Met l G kX10_number 2 0 0 M [av_r 90, av_i lo, av_i hi] (ax_p (av_i 0) M) := by
  refine ax_body (by decide) (Nat.le_of_ble_eq_true rfl) ?_
  refine ax_aload_n dX10_number_0 rfl ?_
  refine ax_getI (f := 5) dX10_number_1 acl_10 wd_1605 (by decide) rfl (lo_s hok 90 rfl) ?_
  refine ax_if_eq (tgt := 9) dX10_number_4 (by decide) (fun h4 => ?_) (fun h4 => ?_)
  · exact absurd h4 hf
  · refine ax_iconst (v := 0) dX10_number_7 (by decide) ?_
    refine ax_iret dX10_number_8 rfl ?_
    exact ⟨rfl, rfl⟩
set_option maxHeartbeats 1000000 in
theorem c_X10_number (hok : lo_ok M.2) {z a : Nat} (hz : tx_ok M z) (ha : M.1 90 4 = nI a) (ha2 : a ≤ 600) (hf : M.1 90 5 = 0) (lo hi : Int32) : ax_Met l G kX10_number 2 0 0 M [av_r 90, av_i lo, av_i hi] (fun o M2 => o = .inl (some (av_i (nI (tx_num (tx_B M) z lo hi a).2.2.2))) ∧ M2 = tx_put M (tx_num (tx_B M) z lo hi a).1 (tx_num (tx_B M) z lo hi a).2.1 (tx_num (tx_B M) z lo hi a).2.2.1) := by
  refine ax_body (by decide) (Nat.le_of_ble_eq_true rfl) ?_
  generalize hQ : (fun (o : ax_O) (M2 : ax_M) => o = .inl (some (av_i (nI (tx_num (tx_B M) z lo hi a).2.2.2))) ∧ M2 = tx_put M (tx_num (tx_B M) z lo hi a).1 (tx_num (tx_B M) z lo hi a).2.1 (tx_num (tx_B M) z lo hi a).2.2.1) = Q
  have hok0 := hok
  obtain ⟨a1, ea1⟩ : ∃ q, q = tx_run tx_bl (tx_B M) (z - a) a := ⟨_, rfl⟩
  have ha1 : a1 ≤ 600 := by have := tx_run_le tx_bl (tx_B M) (z - a) a; have := hz.2; omega
  refine ax_aload_n dX10_number_0 rfl ?_
  refine ax_getI (f := 5) dX10_number_1 acl_10 wd_1605 (by decide) rfl (lo_s hok 90 rfl) ?_
  refine ax_if_eq (tgt := 9) dX10_number_4 (by decide) (fun hc => ?_) (fun hc => ?_)
  · refine ax_aload_n dX10_number_9 rfl ?_
    refine ax_callV (As := _) (d2 := _) (c1 := 0) (n1 := 0) (c_X10_blanks (M := M) hok hz ha ha2) dX10_number_10 mX10_blanks wd_1783 acl_10 (lo_s hok 90 rfl) rfl (by omega) (by omega) (by omega) rfl rfl (fun _ _ h => by cases h.1) ?_
    rintro r M1 ⟨h1, hM1⟩; cases h1
    rw [← ea1] at hM1
    have hok : lo_ok M1.2 := by rw [hM1]; exact hok
    have hz1 : tx_ok M1 z := by rw [hM1]; exact hz
    have e1 : M1.1 90 4 = nI a1 := by rw [hM1]; exact ax_pa _ _ _ _
    have eB : tx_B M1 = tx_B M := by rw [hM1]; rfl
    refine ax_aload_n dX10_number_13 rfl ?_
    refine ax_getI (f := 4) dX10_number_14 acl_10 wd_1604 (by decide) rfl (lo_s hok 90 rfl) ?_
    refine ax_istore_n dX10_number_17 (by decide) rfl ?_
    refine ax_iconst (v := 0) dX10_number_18 (by decide) ?_
    refine ax_istore dX10_number_19 (by decide) rfl ?_
    refine ax_aload_n dX10_number_21 rfl ?_
    refine ax_aload_n dX10_number_22 rfl ?_
    refine ax_getI (f := 4) dX10_number_23 acl_10 wd_1604 (by decide) rfl (lo_s hok 90 rfl) ?_
    refine ax_callV (As := _) (d2 := _) (c1 := 0) (n1 := 0) (c_X10_byteAt (d := 0) (M := M1) hok (z := z) (i := a1) hz1 (by omega) e1) dX10_number_26 mX10_byteAt wd_1787 acl_10 (lo_s hok 90 rfl) rfl (by omega) (by omega) (by omega) rfl rfl (fun _ _ h => by cases h.1) ?_
    rintro r M9 ⟨h1, h9⟩; cases h1; rw [h9]; clear h9 M9
    refine ax_callS (As := _) (c1 := 0) (n1 := 0) (c_X10_isDigit (d := 0) (M := M1) _) dX10_number_29 mX10_isDigit wd_1829 rfl (by omega) (by omega) (by omega) rfl rfl (fun _ _ h => by cases h.1) ?_
    rintro r M9 ⟨h1, h9⟩; cases h1; rw [h9]; clear h9 M9
    refine ax_if_ne (tgt := 44) dX10_number_32 (by decide) (fun hc => ?_) (fun hc => ?_)
    · have hdg : tx_dg (tx_B M a1) = true := by
        rw [eB] at hc
        by_cases q : tx_dg (tx_B M a1) = true
        · exact q
        · rw [if_neg q] at hc; exact absurd rfl hc
      have loop : ∀ (n b v : Nat) (M2 : ax_M), M2 = ax_pI M 90 4 (nI b) → z - b = n → b ≤ 600 → v ≤ 100000 → tx_run tx_dg (tx_B M) n b = tx_run tx_dg (tx_B M) (z - a1) a1 → tx_nv (tx_B M) n b v = tx_nv (tx_B M) (z - a1) a1 0 → ax_W l G kX10_number (ax_FQ G Q) 2 0 0 M2 44 [some (av_r 90), some (av_i lo), some (av_i hi), some (av_i (nI a1)), some (av_i (nI v))] [] := by
        have tail : ∀ (M2 : ax_M), M2 = ax_pI M 90 4 (nI (tx_run tx_dg (tx_B M) (z - a1) a1)) → ax_W l G kX10_number (ax_FQ G Q) 2 0 0 M2 106 [some (av_r 90), some (av_i lo), some (av_i hi), some (av_i (nI a1)), some (av_i (nI (tx_nv (tx_B M) (z - a1) a1 0)))] [] := by
          intro M2 hM2
          have hok : lo_ok M2.2 := by rw [hM2]; exact hok0
          have e5 : M2.1 90 5 = 0 := by rw [hM2, ax_pn (by decide)]; exact hf
          refine ax_iload dX10_number_106 rfl ?_
          refine ax_iload_n dX10_number_108 rfl ?_
          refine ax_iload_n dX10_number_109 rfl ?_
          refine ax_callS (As := _) (c1 := 0) (n1 := 0) (c_X10_in (d := 0) (M := M2) _ _ _) dX10_number_110 mX10_in wd_1772 rfl (by omega) (by omega) (by omega) rfl rfl (fun _ _ h => by cases h.1) ?_
          rintro r M9 ⟨h1, h9⟩; cases h1; rw [h9]; clear h9 M9
          refine ax_if_ne (tgt := 122) dX10_number_113 (by decide) (fun hc => ?_) (fun hc => ?_)
          · have hin : lo ≤ nI (tx_nv (tx_B M) (z - a1) a1 0) ∧ nI (tx_nv (tx_B M) (z - a1) a1 0) ≤ hi := by
              by_cases q : lo ≤ nI (tx_nv (tx_B M) (z - a1) a1 0) ∧ nI (tx_nv (tx_B M) (z - a1) a1 0) ≤ hi
              · exact q
              · rw [if_neg q] at hc; exact absurd rfl hc
            refine ax_aload_n dX10_number_122 rfl ?_
            refine ax_getI (f := 5) dX10_number_123 acl_10 wd_1605 (by decide) rfl (lo_s hok 90 rfl) ?_
            refine ax_if_ne (tgt := 134) dX10_number_126 (by decide) (fun hc => ?_) (fun hc => ?_)
            · exact absurd e5 hc
            · refine ax_iload dX10_number_129 rfl ?_
              refine ax_goto (tgt := 135) dX10_number_131 (by decide) ?_
              refine ax_iret dX10_number_135 rfl ?_
              rw [← hQ]
              have e : tx_num (tx_B M) z lo hi a = (tx_run tx_dg (tx_B M) (z - a1) a1, 0, 0, tx_nv (tx_B M) (z - a1) a1 0) := by
                unfold tx_num
                rw [← ea1]
                simp only [hdg, if_true]
                rw [if_pos hin]
              rw [e]
              exact ⟨rfl, hM2⟩
          · have hin : ¬ (lo ≤ nI (tx_nv (tx_B M) (z - a1) a1 0) ∧ nI (tx_nv (tx_B M) (z - a1) a1 0) ≤ hi) := by
              intro q
              rw [if_pos q] at hc; exact absurd hc (by decide)
            refine ax_aload_n dX10_number_116 rfl ?_
            refine ax_iconst (v := 2) dX10_number_117 (by decide) ?_
            refine ax_iload_n dX10_number_118 rfl ?_
            refine ax_callV (As := _) (d2 := _) (c1 := 0) (n1 := 0) (c_X10_wrong (d := 0) (M := M2) hok _ _) dX10_number_119 mX10_wrong wd_1813 acl_10 (lo_s hok 90 rfl) rfl (by omega) (by omega) (by omega) rfl rfl (fun _ _ h => by cases h.1) ?_
            rintro r M3 ⟨h1, hM3⟩; cases h1
            rw [if_pos e5] at hM3
            have hok : lo_ok M3.2 := by rw [hM3]; exact hok
            have e6 : M3.1 90 5 = 2 := by rw [hM3, ax_pn (by decide)]; exact ax_pa _ _ _ _
            refine ax_aload_n dX10_number_122 rfl ?_
            refine ax_getI (f := 5) dX10_number_123 acl_10 wd_1605 (by decide) rfl (lo_s hok 90 rfl) ?_
            refine ax_if_ne (tgt := 134) dX10_number_126 (by decide) (fun hc => ?_) (fun hc => ?_)
            · refine ax_iconst (v := 0) dX10_number_134 (by decide) ?_
              refine ax_iret dX10_number_135 rfl ?_
              rw [← hQ]
              have e : tx_num (tx_B M) z lo hi a = (tx_run tx_dg (tx_B M) (z - a1) a1, 2, a1, 0) := by
                unfold tx_num
                rw [← ea1]
                simp only [hdg, if_true]
                rw [if_neg hin]
              rw [e]
              exact ⟨rfl, by rw [hM3, hM2]; rfl⟩
            · rw [e6] at hc; exact absurd hc (by decide)
        intro n
        induction n with
        | zero =>
          intro b v M2 hM2 hb hb6 hv h1 h2
          have hok : lo_ok M2.2 := by rw [hM2]; exact hok0
          have hz2 : tx_ok M2 z := by rw [hM2]; exact hz
          have e2 : M2.1 90 4 = nI b := by rw [hM2]; exact ax_pa _ _ _ _
          refine ax_aload_n dX10_number_44 rfl ?_
          refine ax_aload_n dX10_number_45 rfl ?_
          refine ax_getI (f := 4) dX10_number_46 acl_10 wd_1604 (by decide) rfl (lo_s hok 90 rfl) ?_
          refine ax_callV (As := _) (d2 := _) (c1 := 0) (n1 := 0) (c_X10_byteAt (d := 0) (M := M2) hok (z := z) (i := b) hz2 (by omega) e2) dX10_number_49 mX10_byteAt wd_1787 acl_10 (lo_s hok 90 rfl) rfl (by omega) (by omega) (by omega) rfl rfl (fun _ _ h => by cases h.1) ?_
          rintro r M9 ⟨h1, h9⟩; cases h1; rw [h9]; clear h9 M9
          refine ax_callS (As := _) (c1 := 0) (n1 := 0) (c_X10_isDigit (d := 0) (M := M2) _) dX10_number_52 mX10_isDigit wd_1829 rfl (by omega) (by omega) (by omega) rfl rfl (fun _ _ h => by cases h.1) ?_
          rintro r M9 ⟨h1, h9⟩; cases h1; rw [h9]; clear h9 M9
          refine ax_if_eq (tgt := 106) dX10_number_55 (by decide) (fun hc => ?_) (fun hc => ?_)
          · have t := tail M2 (by rw [hM2, ← h1]; rfl)
            rw [← h2] at t
            exact t
          · rw [tx_end hz2 (by omega) (by omega)] at hc
            exact absurd (by decide) hc
        | succ n ih =>
          intro b v M2 hM2 hb hb6 hv h1 h2
          have hok : lo_ok M2.2 := by rw [hM2]; exact hok0
          have hz2 : tx_ok M2 z := by rw [hM2]; exact hz
          have e2 : M2.1 90 4 = nI b := by rw [hM2]; exact ax_pa _ _ _ _
          have eB2 : tx_B M2 = tx_B M := by rw [hM2]; rfl
          refine ax_aload_n dX10_number_44 rfl ?_
          refine ax_aload_n dX10_number_45 rfl ?_
          refine ax_getI (f := 4) dX10_number_46 acl_10 wd_1604 (by decide) rfl (lo_s hok 90 rfl) ?_
          refine ax_callV (As := _) (d2 := _) (c1 := 0) (n1 := 0) (c_X10_byteAt (d := 0) (M := M2) hok (z := z) (i := b) hz2 (by omega) e2) dX10_number_49 mX10_byteAt wd_1787 acl_10 (lo_s hok 90 rfl) rfl (by omega) (by omega) (by omega) rfl rfl (fun _ _ h => by cases h.1) ?_
          rintro r M9 ⟨h1, h9⟩; cases h1; rw [h9]; clear h9 M9
          refine ax_callS (As := _) (c1 := 0) (n1 := 0) (c_X10_isDigit (d := 0) (M := M2) _) dX10_number_52 mX10_isDigit wd_1829 rfl (by omega) (by omega) (by omega) rfl rfl (fun _ _ h => by cases h.1) ?_
          rintro r M9 ⟨h1, h9⟩; cases h1; rw [h9]; clear h9 M9
          refine ax_if_eq (tgt := 106) dX10_number_55 (by decide) (fun hc => ?_) (fun hc => ?_)
          · have hn : ¬ tx_dg (tx_B M b) = true := by
              intro q
              rw [eB2, if_pos q] at hc
              exact absurd hc (by decide)
            have t := tail M2 (by rw [hM2, ← h1, tx_run_s, if_neg hn])
            rw [← h2] at t
            rw [tx_nv_s, if_neg hn] at t
            exact t
          · have hy : tx_dg (tx_B M b) = true := by
              by_cases q : tx_dg (tx_B M b) = true
              · exact q
              · rw [eB2, if_neg q] at hc; exact absurd rfl hc
            refine ax_bipush (v := 10) dX10_number_58 (by decide) ?_
            refine ax_iload dX10_number_60 rfl ?_
            refine ax_imul dX10_number_62 ?_
            refine ax_aload_n dX10_number_63 rfl ?_
            refine ax_aload_n dX10_number_64 rfl ?_
            refine ax_getI (f := 4) dX10_number_65 acl_10 wd_1604 (by decide) rfl (lo_s hok 90 rfl) ?_
            refine ax_callV (As := _) (d2 := _) (c1 := 0) (n1 := 0) (c_X10_byteAt (d := 0) (M := M2) hok (z := z) (i := b) hz2 (by omega) e2) dX10_number_68 mX10_byteAt wd_1787 acl_10 (lo_s hok 90 rfl) rfl (by omega) (by omega) (by omega) rfl rfl (fun _ _ h => by cases h.1) ?_
            rintro r M9 ⟨h1, h9⟩; cases h1; rw [h9]; clear h9 M9
            refine ax_iadd dX10_number_71 ?_
            refine ax_bipush (v := 48) dX10_number_72 (by decide) ?_
            refine ax_isub dX10_number_74 ?_
            refine ax_istore dX10_number_75 (by decide) rfl ?_
            refine ax_iload dX10_number_77 rfl ?_
            refine ax_ldc dX10_number_79 wd_1832 ?_
            rw [eB2, tx_stepv hy]
            have hd9 := (tx_dgn hy).2
            rw [tx_run_s, if_pos hy] at h1
            rw [tx_nv_s, if_pos hy] at h2
            have h2z := hz.2
            refine ax_icmp_le (tgt := 89) dX10_number_81 (by decide) (fun hc => ?_) (fun hc => ?_)
            · have hle : 10 * v + tx_d (tx_B M b) ≤ 100000 := (nI_leI (by omega) (by omega)).mp hc
              rw [if_neg (by omega)] at h2
              refine ax_iload dX10_number_89 rfl ?_
              refine ax_istore dX10_number_91 (by decide) rfl ?_
              refine ax_aload_n dX10_number_93 rfl ?_
              refine ax_dup dX10_number_94 (by first | rfl | exact ax_crf _) ?_
              refine ax_getI (f := 4) dX10_number_95 acl_10 wd_1604 (by decide) rfl (lo_s hok 90 rfl) ?_
              refine ax_iconst (v := 1) dX10_number_98 (by decide) ?_
              refine ax_iadd dX10_number_99 ?_
              refine ax_putI (f := 4) dX10_number_100 acl_10 wd_1604 (by decide) rfl rfl (ax_nfI rfl) (lo_s hok 90 rfl) ?_
              refine ax_goto (tgt := 44) dX10_number_103 (by decide) ?_
              exact ih (b + 1) _ _ (by rw [e2, hM2, ax_pp, nI_1]) (by omega) (by omega) hle h1 h2
            · have hle : ¬ 10 * v + tx_d (tx_B M b) ≤ 100000 := fun q => hc ((nI_leI (b := 100000) (by omega) (by omega)).mpr q)
              rw [if_pos (by omega)] at h2
              refine ax_ldc dX10_number_84 wd_1832 ?_
              refine ax_goto (tgt := 91) dX10_number_86 (by decide) ?_
              refine ax_istore dX10_number_91 (by decide) rfl ?_
              refine ax_aload_n dX10_number_93 rfl ?_
              refine ax_dup dX10_number_94 (by first | rfl | exact ax_crf _) ?_
              refine ax_getI (f := 4) dX10_number_95 acl_10 wd_1604 (by decide) rfl (lo_s hok 90 rfl) ?_
              refine ax_iconst (v := 1) dX10_number_98 (by decide) ?_
              refine ax_iadd dX10_number_99 ?_
              refine ax_putI (f := 4) dX10_number_100 acl_10 wd_1604 (by decide) rfl rfl (ax_nfI rfl) (lo_s hok 90 rfl) ?_
              refine ax_goto (tgt := 44) dX10_number_103 (by decide) ?_
              exact ih (b + 1) 100000 _ (by rw [e2, hM2, ax_pp, nI_1]) (by omega) (by omega) (by omega) h1 h2
      have t := loop (z - a1) a1 0 M1 hM1 rfl ha1 (by omega) rfl rfl
      rw [← e1] at t
      exact t
    · have hdg : ¬ tx_dg (tx_B M a1) = true := by
        intro q
        rw [eB, if_pos q] at hc; exact absurd hc (by decide)
      have e5 : M1.1 90 5 = 0 := by rw [hM1, ax_pn (by decide)]; exact hf
      refine ax_aload_n dX10_number_35 rfl ?_
      refine ax_iconst (v := 1) dX10_number_36 (by decide) ?_
      refine ax_aload_n dX10_number_37 rfl ?_
      refine ax_getI (f := 4) dX10_number_38 acl_10 wd_1604 (by decide) rfl (lo_s hok 90 rfl) ?_
      refine ax_callV (As := _) (d2 := _) (c1 := 0) (n1 := 0) (c_X10_wrong (d := 0) (M := M1) hok _ _) dX10_number_41 mX10_wrong wd_1813 acl_10 (lo_s hok 90 rfl) rfl (by omega) (by omega) (by omega) rfl rfl (fun _ _ h => by cases h.1) ?_
      rintro r M3 ⟨h1, hM3⟩; cases h1
      rw [if_pos e5, e1] at hM3
      have hok : lo_ok M3.2 := by rw [hM3]; exact hok
      have hz3 : tx_ok M3 z := by rw [hM3]; exact hz1
      have e4 : M3.1 90 4 = nI a1 := by rw [hM3, ax_pn (by decide), ax_pn (by decide)]; exact e1
      have e6 : M3.1 90 5 = 1 := by rw [hM3, ax_pn (by decide)]; exact ax_pa _ _ _ _
      have eB3 : tx_B M3 a1 = tx_B M a1 := by rw [hM3, ← eB]; rfl
      refine ax_aload_n dX10_number_44 rfl ?_
      refine ax_aload_n dX10_number_45 rfl ?_
      refine ax_getI (f := 4) dX10_number_46 acl_10 wd_1604 (by decide) rfl (lo_s hok 90 rfl) ?_
      refine ax_callV (As := _) (d2 := _) (c1 := 0) (n1 := 0) (c_X10_byteAt (d := 0) (M := M3) hok (z := z) (i := a1) hz3 (by omega) e4) dX10_number_49 mX10_byteAt wd_1787 acl_10 (lo_s hok 90 rfl) rfl (by omega) (by omega) (by omega) rfl rfl (fun _ _ h => by cases h.1) ?_
      rintro r M9 ⟨h1, h9⟩; cases h1; rw [h9]; clear h9 M9
      refine ax_callS (As := _) (c1 := 0) (n1 := 0) (c_X10_isDigit (d := 0) (M := M3) _) dX10_number_52 mX10_isDigit wd_1829 rfl (by omega) (by omega) (by omega) rfl rfl (fun _ _ h => by cases h.1) ?_
      rintro r M9 ⟨h1, h9⟩; cases h1; rw [h9]; clear h9 M9
      have fin : ∀ M4 : ax_M, M4 = M3 → Q (.inl (some (av_i 0))) M4 := by
        intro M4 h4
        rw [← hQ]
        have e : tx_num (tx_B M) z lo hi a = (a1, 1, a1, 0) := by
          unfold tx_num
          rw [← ea1]
          simp only [hdg]
          rfl
        rw [e]
        exact ⟨rfl, by rw [h4, hM3, hM1]; rfl⟩
      refine ax_if_eq (tgt := 106) dX10_number_55 (by decide) (fun hc => ?_) (fun hc => ?_)
      · refine ax_iload dX10_number_106 rfl ?_
        refine ax_iload_n dX10_number_108 rfl ?_
        refine ax_iload_n dX10_number_109 rfl ?_
        refine ax_callS (As := _) (c1 := 0) (n1 := 0) (c_X10_in (d := 0) (M := M3) _ _ _) dX10_number_110 mX10_in wd_1772 rfl (by omega) (by omega) (by omega) rfl rfl (fun _ _ h => by cases h.1) ?_
        rintro r M9 ⟨h1, h9⟩; cases h1; rw [h9]; clear h9 M9
        refine ax_if_ne (tgt := 122) dX10_number_113 (by decide) (fun hc => ?_) (fun hc => ?_)
        · refine ax_aload_n dX10_number_122 rfl ?_
          refine ax_getI (f := 5) dX10_number_123 acl_10 wd_1605 (by decide) rfl (lo_s hok 90 rfl) ?_
          refine ax_if_ne (tgt := 134) dX10_number_126 (by decide) (fun hc => ?_) (fun hc => ?_)
          · refine ax_iconst (v := 0) dX10_number_134 (by decide) ?_
            refine ax_iret dX10_number_135 rfl ?_
            exact fin _ rfl
          · rw [e6] at hc; exact absurd hc (by decide)
        · refine ax_aload_n dX10_number_116 rfl ?_
          refine ax_iconst (v := 2) dX10_number_117 (by decide) ?_
          refine ax_iload_n dX10_number_118 rfl ?_
          refine ax_callV (As := _) (d2 := _) (c1 := 0) (n1 := 0) (c_X10_wrong (d := 0) (M := M3) hok _ _) dX10_number_119 mX10_wrong wd_1813 acl_10 (lo_s hok 90 rfl) rfl (by omega) (by omega) (by omega) rfl rfl (fun _ _ h => by cases h.1) ?_
          rintro r M5 ⟨h1, hM5⟩; cases h1
          rw [if_neg (by rw [e6]; decide)] at hM5
          have hok : lo_ok M5.2 := by rw [hM5]; exact hok
          refine ax_aload_n dX10_number_122 rfl ?_
          refine ax_getI (f := 5) dX10_number_123 acl_10 wd_1605 (by decide) rfl (lo_s hok 90 rfl) ?_
          refine ax_if_ne (tgt := 134) dX10_number_126 (by decide) (fun hc => ?_) (fun hc => ?_)
          · refine ax_iconst (v := 0) dX10_number_134 (by decide) ?_
            refine ax_iret dX10_number_135 rfl ?_
            exact fin _ hM5
          · rw [hM5, e6] at hc; exact absurd hc (by decide)
      · rw [eB3, if_neg hdg] at hc
        exact absurd rfl hc
  · exact absurd hf hc
end MN

