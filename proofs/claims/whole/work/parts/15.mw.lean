/-! ===== words in the text ===== -/
def tx_l (c : Int32) : Nat := (c.toInt - 96).toNat
def tx_w (B : Nat → Int32) : Nat → Nat → List Nat
  | 0, _ => []
  | n + 1, a => if tx_sm (B a) = true then tx_l (B a) :: tx_w B n (a + 1) else []
theorem tx_w_s (B : Nat → Int32) (n a : Nat) : tx_w B (n + 1) a = if tx_sm (B a) = true then tx_l (B a) :: tx_w B n (a + 1) else [] := rfl
def tx_code (ls : List Nat) : Nat := ls.foldl (fun v x => 27 * v + x) 0
theorem tx_code_snoc (ls : List Nat) (x : Nat) : tx_code (ls ++ [x]) = 27 * tx_code ls + x := by
  unfold tx_code
  rw [List.foldl_append]
  rfl
theorem tx_sml {c : Int32} (h : tx_sm c = true) : c = nI (96 + tx_l c) ∧ 1 ≤ tx_l c ∧ tx_l c ≤ 26 := by
  simp only [tx_sm, Bool.and_eq_true, decide_eq_true_eq, iv_le] at h
  have h1 : (97 : Int32).toInt = 97 := rfl
  have h2 : (122 : Int32).toInt = 122 := rfl
  rw [h1, h2] at h
  unfold tx_l
  refine ⟨?_, by omega, by omega⟩
  rw [iv_eq, nI_toInt (by omega)]
  omega
theorem tx_code_lt : ∀ (n : Nat) (ls : List Nat), ls.length = n → (∀ x ∈ ls, x ≤ 26) → tx_code ls < 27 ^ n
  | 0, ls, h, _ => by
    have : ls = [] := List.eq_nil_of_length_eq_zero h
    subst this
    decide
  | n + 1, ls, h, hx => by
    have hne : ls ≠ [] := by intro e; subst e; cases h
    obtain ⟨ys, y, rfl⟩ : ∃ ys y, ls = ys ++ [y] := ⟨ls.dropLast, ls.getLast hne, (List.dropLast_concat_getLast hne).symm⟩
    rw [tx_code_snoc]
    have h1 : ys.length = n := by simpa using h
    have h2 := tx_code_lt n ys h1 (fun x hx2 => hx x (by simp [hx2]))
    have h3 := hx y (by simp)
    rw [Nat.pow_succ]
    omega
theorem tx_code_inj : ∀ (n : Nat) (xs ys : List Nat), xs.length ≤ n → (∀ x ∈ xs, 1 ≤ x ∧ x ≤ 26) → (∀ x ∈ ys, 1 ≤ x ∧ x ≤ 26) → tx_code xs = tx_code ys → xs = ys
  | 0, xs, ys, h, _, hy, e => by
    have : xs = [] := List.eq_nil_of_length_eq_zero (by omega)
    subst this
    by_cases hne : ys = []
    · exact hne.symm
    · obtain ⟨zs, z, rfl⟩ : ∃ zs z, ys = zs ++ [z] := ⟨ys.dropLast, ys.getLast hne, (List.dropLast_concat_getLast hne).symm⟩
      rw [tx_code_snoc] at e
      have := hy z (by simp)
      have e0 : tx_code [] = 0 := rfl
      omega
  | n + 1, xs, ys, h, hx, hy, e => by
    by_cases hxe : xs = []
    · exact tx_code_inj 0 xs ys (by rw [hxe]; simp) hx hy e
    · obtain ⟨us, u, rfl⟩ : ∃ us u, xs = us ++ [u] := ⟨xs.dropLast, xs.getLast hxe, (List.dropLast_concat_getLast hxe).symm⟩
      have hu := hx u (by simp)
      rw [tx_code_snoc] at e
      by_cases hne : ys = []
      · subst hne
        have e0 : tx_code [] = 0 := rfl
        omega
      · obtain ⟨zs, z, rfl⟩ : ∃ zs z, ys = zs ++ [z] := ⟨ys.dropLast, ys.getLast hne, (List.dropLast_concat_getLast hne).symm⟩
        rw [tx_code_snoc] at e
        have hz := hy z (by simp)
        have e1 : tx_code us = tx_code zs ∧ u = z := by omega
        have := tx_code_inj n us zs (by simp at h; omega) (fun x hx2 => hx x (by simp [hx2])) (fun x hx2 => hy x (by simp [hx2])) e1.1
        rw [this, e1.2]
theorem tx_w_in (B : Nat → Int32) : ∀ n a x, x ∈ tx_w B n a → 1 ≤ x ∧ x ≤ 26
  | 0, _, x, h => by simp [tx_w] at h
  | n + 1, a, x, h => by
    rw [tx_w_s] at h
    split at h
    · rename_i hs
      rcases List.mem_cons.mp h with rfl | h
      · exact (tx_sml hs).2
      · exact tx_w_in B n (a + 1) x h
    · cases h
theorem tx_w_len (B : Nat → Int32) : ∀ n a, a + (tx_w B n a).length = tx_run tx_sm B n a
  | 0, a => rfl
  | n + 1, a => by
    rw [tx_w_s, tx_run_s]
    split
    · rw [← tx_w_len B n (a + 1), List.length_cons]; omega
    · rfl
def tx_wh (ls : List Nat) : Int32 := if 6 < ls.length then -1 else nI (tx_code ls)
theorem tx_stepw {c : Int32} (h : tx_sm c = true) (v : Nat) : 27 * nI v + c - 97 + 1 = nI (27 * v + tx_l c) := by
  obtain ⟨h1, h2, h3⟩ := tx_sml h
  have e : tx_l (nI (96 + tx_l c)) = tx_l c := by rw [← h1]
  rw [h1, show (27 : Int32) = nI 27 from rfl, pk_mul, nI_add, show (97 : Int32) = nI 97 from rfl, pk_sub (by omega), nI_1, e]
  congr 1
  omega
section MW
variable {l : Launch} {G : ax_G} {d : Nat} {M : ax_M}
set_option maxHeartbeats 1000000 in
theorem c_X10_wordHere (hok : lo_ok M.2) {z a : Nat} (hz : tx_ok M z) (ha : M.1 90 4 = nI a) (ha2 : a ≤ 600) : ax_Met l G kX10_wordHere 2 0 0 M [av_r 90] (fun o M2 => o = .inl (some (av_i (tx_wh (tx_w (tx_B M) (z - tx_run tx_bl (tx_B M) (z - a) a) (tx_run tx_bl (tx_B M) (z - a) a))))) ∧ M2 = ax_pI M 90 4 (nI (tx_run tx_bl (tx_B M) (z - a) a))) := by
  refine ax_body (by decide) (Nat.le_of_ble_eq_true rfl) ?_
  have ha1 : tx_run tx_bl (tx_B M) (z - a) a ≤ 600 := by have := tx_run_le tx_bl (tx_B M) (z - a) a; have := hz.2; omega
  refine ax_aload_n dX10_wordHere_0 rfl ?_
  refine ax_callV (As := _) (d2 := _) (c1 := 0) (n1 := 0) (c_X10_blanks (M := M) hok hz ha ha2) dX10_wordHere_1 mX10_blanks wd_1783 acl_10 (lo_s hok 90 rfl) rfl (by omega) (by omega) (by omega) rfl rfl (fun _ _ h => by cases h.1) ?_
  generalize tx_run tx_bl (tx_B M) (z - a) a = a1 at ha1 ⊢
  rintro r M1 ⟨h1, hM1⟩; cases h1
  have hok : lo_ok M1.2 := by rw [hM1]; exact hok
  have hz1 : tx_ok M1 z := by rw [hM1]; exact hz
  have e1 : M1.1 90 4 = nI a1 := by rw [hM1]; exact ax_pa _ _ _ _
  have eB : tx_B M1 = tx_B M := by rw [hM1]; rfl
  rw [← hM1, ← eB]
  have loop : ∀ (n b : Nat) (pre : List Nat), z - (a1 + b) = n → a1 + b ≤ 600 → pre.length = b → (∀ x ∈ pre, 1 ≤ x ∧ x ≤ 26) → pre ++ tx_w (tx_B M1) n (a1 + b) = tx_w (tx_B M1) (z - a1) a1 → ax_W l G kX10_wordHere (ax_FQ G (fun o M2 => o = .inl (some (av_i (tx_wh (tx_w (tx_B M1) (z - a1) a1)))) ∧ M2 = M1)) 2 0 0 M1 8 [some (av_r 90), some (av_i (nI (tx_code (pre.take 6)))), some (av_i (nI b))] [] := by
    intro n
    induction n with
    | zero =>
      intro b pre hb hb6 hp hx hw
      refine ax_aload_n dX10_wordHere_8 rfl ?_
      refine ax_aload_n dX10_wordHere_9 rfl ?_
      refine ax_getI (f := 4) dX10_wordHere_10 acl_10 wd_1604 (by decide) rfl (lo_s hok 90 rfl) ?_
      refine ax_iload_n dX10_wordHere_13 rfl ?_
      refine ax_iadd dX10_wordHere_14 ?_
      refine ax_callV (As := _) (d2 := _) (c1 := 0) (n1 := 0) (c_X10_byteAt (d := 0) (M := M1) hok (z := z) (i := a1 + b) hz1 (by omega) (by rw [e1, nI_add])) dX10_wordHere_15 mX10_byteAt wd_1787 acl_10 (lo_s hok 90 rfl) rfl (by omega) (by omega) (by omega) rfl rfl (fun _ _ h => by cases h.1) ?_
      rintro r M9 ⟨h1, h9⟩; cases h1; rw [h9]; clear h9 M9
      refine ax_callS (As := _) (c1 := 0) (n1 := 0) (c_X10_isSmall (d := 0) (M := M1) _) dX10_wordHere_18 mX10_isSmall wd_1807 rfl (by omega) (by omega) (by omega) rfl rfl (fun _ _ h => by cases h.1) ?_
      rintro r M9 ⟨h1, h9⟩; cases h1; rw [h9]; clear h9 M9
      refine ax_if_eq (tgt := 61) dX10_wordHere_21 (by decide) (fun hc => ?_) (fun hc => ?_)
      · have hw2 : pre = tx_w (tx_B M1) (z - a1) a1 := by rw [← hw]; simp [tx_w]
        refine ax_iload_n dX10_wordHere_61 rfl ?_
        refine ax_bipush (v := 6) dX10_wordHere_62 (by decide) ?_
        refine ax_icmp_le (tgt := 71) dX10_wordHere_64 (by decide) (fun hc => ?_) (fun hc => ?_)
        · have h6 : b ≤ 6 := (nI_leI (b := 6) (by omega) (by omega)).mp hc
          refine ax_iload_n dX10_wordHere_71 rfl ?_
          refine ax_iret dX10_wordHere_72 rfl ?_
          refine ⟨?_, rfl⟩
          rw [← hw2, tx_wh, if_neg (by omega), List.take_of_length_le (by omega)]
        · have h6 : ¬ b ≤ 6 := fun q => hc ((nI_leI (b := 6) (by omega) (by omega)).mpr q)
          refine ax_iconst (v := (-1)) dX10_wordHere_67 (by decide) ?_
          refine ax_goto (tgt := 72) dX10_wordHere_68 (by decide) ?_
          refine ax_iret dX10_wordHere_72 rfl ?_
          refine ⟨?_, rfl⟩
          rw [← hw2, tx_wh, if_pos (by omega)]
      · rw [tx_end hz1 (by omega) (by omega)] at hc
        exact absurd (by decide) hc
    | succ n ih =>
      intro b pre hb hb6 hp hx hw
      have hz2 := hz.2
      refine ax_aload_n dX10_wordHere_8 rfl ?_
      refine ax_aload_n dX10_wordHere_9 rfl ?_
      refine ax_getI (f := 4) dX10_wordHere_10 acl_10 wd_1604 (by decide) rfl (lo_s hok 90 rfl) ?_
      refine ax_iload_n dX10_wordHere_13 rfl ?_
      refine ax_iadd dX10_wordHere_14 ?_
      refine ax_callV (As := _) (d2 := _) (c1 := 0) (n1 := 0) (c_X10_byteAt (d := 0) (M := M1) hok (z := z) (i := a1 + b) hz1 (by omega) (by rw [e1, nI_add])) dX10_wordHere_15 mX10_byteAt wd_1787 acl_10 (lo_s hok 90 rfl) rfl (by omega) (by omega) (by omega) rfl rfl (fun _ _ h => by cases h.1) ?_
      rintro r M9 ⟨h1, h9⟩; cases h1; rw [h9]; clear h9 M9
      refine ax_callS (As := _) (c1 := 0) (n1 := 0) (c_X10_isSmall (d := 0) (M := M1) _) dX10_wordHere_18 mX10_isSmall wd_1807 rfl (by omega) (by omega) (by omega) rfl rfl (fun _ _ h => by cases h.1) ?_
      rintro r M9 ⟨h1, h9⟩; cases h1; rw [h9]; clear h9 M9
      refine ax_if_eq (tgt := 61) dX10_wordHere_21 (by decide) (fun hc => ?_) (fun hc => ?_)
      · have hn : ¬ tx_sm (tx_B M1 (a1 + b)) = true := by
          intro q
          rw [if_pos q] at hc; exact absurd hc (by decide)
        have hw2 : pre = tx_w (tx_B M1) (z - a1) a1 := by rw [← hw, tx_w_s, if_neg hn, List.append_nil]
        refine ax_iload_n dX10_wordHere_61 rfl ?_
        refine ax_bipush (v := 6) dX10_wordHere_62 (by decide) ?_
        refine ax_icmp_le (tgt := 71) dX10_wordHere_64 (by decide) (fun hc => ?_) (fun hc => ?_)
        · have h6 : b ≤ 6 := (nI_leI (b := 6) (by omega) (by omega)).mp hc
          refine ax_iload_n dX10_wordHere_71 rfl ?_
          refine ax_iret dX10_wordHere_72 rfl ?_
          refine ⟨?_, rfl⟩
          rw [← hw2, tx_wh, if_neg (by omega), List.take_of_length_le (by omega)]
        · have h6 : ¬ b ≤ 6 := fun q => hc ((nI_leI (b := 6) (by omega) (by omega)).mpr q)
          refine ax_iconst (v := (-1)) dX10_wordHere_67 (by decide) ?_
          refine ax_goto (tgt := 72) dX10_wordHere_68 (by decide) ?_
          refine ax_iret dX10_wordHere_72 rfl ?_
          refine ⟨?_, rfl⟩
          rw [← hw2, tx_wh, if_pos (by omega)]
      · have hy : tx_sm (tx_B M1 (a1 + b)) = true := by
          by_cases q : tx_sm (tx_B M1 (a1 + b)) = true
          · exact q
          · rw [if_neg q] at hc; exact absurd rfl hc
        have nxt := ih (b + 1) (pre ++ [tx_l (tx_B M1 (a1 + b))]) (by omega) (by omega) (by simp [hp]) (by
          intro x hx2
          rcases List.mem_append.mp hx2 with h | h
          · exact hx x h
          · rw [List.mem_singleton.mp h]; exact (tx_sml hy).2) (by rw [← hw, tx_w_s, if_pos hy, List.append_assoc]; rfl)
        refine ax_iload_n dX10_wordHere_24 rfl ?_
        refine ax_bipush (v := 6) dX10_wordHere_25 (by decide) ?_
        refine ax_icmp_ge (tgt := 53) dX10_wordHere_27 (by decide) (fun hc => ?_) (fun hc => ?_)
        · have h6 : 6 ≤ b := (nI_leI (a := 6) (by omega) (by omega)).mp hc
          refine ax_iload_n dX10_wordHere_53 rfl ?_
          refine ax_istore_n dX10_wordHere_54 (by decide) rfl ?_
          refine ax_iinc (v := 1) dX10_wordHere_55 rfl (by decide) (by decide) rfl ?_
          refine ax_goto (tgt := 8) dX10_wordHere_58 (by decide) ?_
          rw [List.take_append_of_le_length (by omega)] at nxt
          rw [nI_1]
          exact nxt
        · have h6 : b < 6 := Nat.lt_of_not_le fun q => hc ((nI_leI (a := 6) (by omega) (by omega)).mpr q)
          refine ax_bipush (v := 27) dX10_wordHere_30 (by decide) ?_
          refine ax_iload_n dX10_wordHere_32 rfl ?_
          refine ax_imul dX10_wordHere_33 ?_
          refine ax_aload_n dX10_wordHere_34 rfl ?_
          refine ax_aload_n dX10_wordHere_35 rfl ?_
          refine ax_getI (f := 4) dX10_wordHere_36 acl_10 wd_1604 (by decide) rfl (lo_s hok 90 rfl) ?_
          refine ax_iload_n dX10_wordHere_39 rfl ?_
          refine ax_iadd dX10_wordHere_40 ?_
          refine ax_callV (As := _) (d2 := _) (c1 := 0) (n1 := 0) (c_X10_byteAt (d := 0) (M := M1) hok (z := z) (i := a1 + b) hz1 (by omega) (by rw [e1, nI_add])) dX10_wordHere_41 mX10_byteAt wd_1787 acl_10 (lo_s hok 90 rfl) rfl (by omega) (by omega) (by omega) rfl rfl (fun _ _ h => by cases h.1) ?_
          rintro r M9 ⟨h1, h9⟩; cases h1; rw [h9]; clear h9 M9
          refine ax_iadd dX10_wordHere_44 ?_
          refine ax_bipush (v := 97) dX10_wordHere_45 (by decide) ?_
          refine ax_isub dX10_wordHere_47 ?_
          refine ax_iconst (v := 1) dX10_wordHere_48 (by decide) ?_
          refine ax_iadd dX10_wordHere_49 ?_
          rw [tx_stepw hy]
          refine ax_goto (tgt := 54) dX10_wordHere_50 (by decide) ?_
          refine ax_istore_n dX10_wordHere_54 (by decide) rfl ?_
          refine ax_iinc (v := 1) dX10_wordHere_55 rfl (by decide) (by decide) rfl ?_
          refine ax_goto (tgt := 8) dX10_wordHere_58 (by decide) ?_
          rw [List.take_of_length_le (by rw [List.length_append, hp]; simp; omega), tx_code_snoc] at nxt
          rw [List.take_of_length_le (by omega)]
          rw [nI_1]
          exact nxt
  refine ax_iconst (v := 0) dX10_wordHere_4 (by decide) ?_
  refine ax_istore_n dX10_wordHere_5 (by decide) rfl ?_
  refine ax_iconst (v := 0) dX10_wordHere_6 (by decide) ?_
  refine ax_istore_n dX10_wordHere_7 (by decide) rfl ?_
  exact loop (z - a1) 0 [] rfl (by omega) rfl (fun x h => by cases h) rfl
theorem c_X10_six {a b c e f g : Int32} (ls : List Nat) (h : (if g = 0 then (if f = 0 then (if e = 0 then 27 * (27 * a + b) + c else 27 * (27 * (27 * a + b) + c) + e) else 27 * (if e = 0 then 27 * (27 * a + b) + c else 27 * (27 * (27 * a + b) + c) + e) + f) else 27 * (if f = 0 then (if e = 0 then 27 * (27 * a + b) + c else 27 * (27 * (27 * a + b) + c) + e) else 27 * (if e = 0 then 27 * (27 * a + b) + c else 27 * (27 * (27 * a + b) + c) + e) + f) + g) = nI (tx_code ls)) : ax_Met l G kX10_six d 0 0 M [av_i a, av_i b, av_i c, av_i e, av_i f, av_i g] (ax_p (av_i (nI (tx_code ls))) M) := by
  refine ax_body (by decide) (Nat.le_of_ble_eq_true rfl) ?_
  refine ax_bipush (v := 27) dX10_six_0 (by decide) ?_
  refine ax_bipush (v := 27) dX10_six_2 (by decide) ?_
  refine ax_iload_n dX10_six_4 rfl ?_
  refine ax_imul dX10_six_5 ?_
  refine ax_iload_n dX10_six_6 rfl ?_
  refine ax_iadd dX10_six_7 ?_
  refine ax_imul dX10_six_8 ?_
  refine ax_iload_n dX10_six_9 rfl ?_
  refine ax_iadd dX10_six_10 ?_
  refine ax_istore dX10_six_11 (by decide) rfl ?_
  refine ax_iload_n dX10_six_13 rfl ?_
  refine ax_if_ne (tgt := 22) dX10_six_14 (by decide) (fun h14 => ?_) (fun h14 => ?_)
  · refine ax_bipush (v := 27) dX10_six_22 (by decide) ?_
    refine ax_iload dX10_six_24 rfl ?_
    refine ax_imul dX10_six_26 ?_
    refine ax_iload_n dX10_six_27 rfl ?_
    refine ax_iadd dX10_six_28 ?_
    refine ax_istore dX10_six_29 (by decide) rfl ?_
    refine ax_iload dX10_six_31 rfl ?_
    refine ax_if_ne (tgt := 41) dX10_six_33 (by decide) (fun h33 => ?_) (fun h33 => ?_)
    · refine ax_bipush (v := 27) dX10_six_41 (by decide) ?_
      refine ax_iload dX10_six_43 rfl ?_
      refine ax_imul dX10_six_45 ?_
      refine ax_iload dX10_six_46 rfl ?_
      refine ax_iadd dX10_six_48 ?_
      refine ax_istore dX10_six_49 (by decide) rfl ?_
      refine ax_iload dX10_six_51 rfl ?_
      refine ax_if_ne (tgt := 61) dX10_six_53 (by decide) (fun h53 => ?_) (fun h53 => ?_)
      · refine ax_bipush (v := 27) dX10_six_61 (by decide) ?_
        refine ax_iload dX10_six_63 rfl ?_
        refine ax_imul dX10_six_65 ?_
        refine ax_iload dX10_six_66 rfl ?_
        refine ax_iadd dX10_six_68 ?_
        refine ax_iret dX10_six_69 rfl ?_
        refine ⟨?_, rfl⟩; rw [← h]; simp_all
      · refine ax_iload dX10_six_56 rfl ?_
        refine ax_goto (tgt := 69) dX10_six_58 (by decide) ?_
        refine ax_iret dX10_six_69 rfl ?_
        refine ⟨?_, rfl⟩; rw [← h]; simp_all
    · refine ax_iload dX10_six_36 rfl ?_
      refine ax_goto (tgt := 49) dX10_six_38 (by decide) ?_
      refine ax_istore dX10_six_49 (by decide) rfl ?_
      refine ax_iload dX10_six_51 rfl ?_
      refine ax_if_ne (tgt := 61) dX10_six_53 (by decide) (fun h53 => ?_) (fun h53 => ?_)
      · refine ax_bipush (v := 27) dX10_six_61 (by decide) ?_
        refine ax_iload dX10_six_63 rfl ?_
        refine ax_imul dX10_six_65 ?_
        refine ax_iload dX10_six_66 rfl ?_
        refine ax_iadd dX10_six_68 ?_
        refine ax_iret dX10_six_69 rfl ?_
        refine ⟨?_, rfl⟩; rw [← h]; simp_all
      · refine ax_iload dX10_six_56 rfl ?_
        refine ax_goto (tgt := 69) dX10_six_58 (by decide) ?_
        refine ax_iret dX10_six_69 rfl ?_
        refine ⟨?_, rfl⟩; rw [← h]; simp_all
  · refine ax_iload dX10_six_17 rfl ?_
    refine ax_goto (tgt := 29) dX10_six_19 (by decide) ?_
    refine ax_istore dX10_six_29 (by decide) rfl ?_
    refine ax_iload dX10_six_31 rfl ?_
    refine ax_if_ne (tgt := 41) dX10_six_33 (by decide) (fun h33 => ?_) (fun h33 => ?_)
    · refine ax_bipush (v := 27) dX10_six_41 (by decide) ?_
      refine ax_iload dX10_six_43 rfl ?_
      refine ax_imul dX10_six_45 ?_
      refine ax_iload dX10_six_46 rfl ?_
      refine ax_iadd dX10_six_48 ?_
      refine ax_istore dX10_six_49 (by decide) rfl ?_
      refine ax_iload dX10_six_51 rfl ?_
      refine ax_if_ne (tgt := 61) dX10_six_53 (by decide) (fun h53 => ?_) (fun h53 => ?_)
      · refine ax_bipush (v := 27) dX10_six_61 (by decide) ?_
        refine ax_iload dX10_six_63 rfl ?_
        refine ax_imul dX10_six_65 ?_
        refine ax_iload dX10_six_66 rfl ?_
        refine ax_iadd dX10_six_68 ?_
        refine ax_iret dX10_six_69 rfl ?_
        refine ⟨?_, rfl⟩; rw [← h]; simp_all
      · refine ax_iload dX10_six_56 rfl ?_
        refine ax_goto (tgt := 69) dX10_six_58 (by decide) ?_
        refine ax_iret dX10_six_69 rfl ?_
        refine ⟨?_, rfl⟩; rw [← h]; simp_all
    · refine ax_iload dX10_six_36 rfl ?_
      refine ax_goto (tgt := 49) dX10_six_38 (by decide) ?_
      refine ax_istore dX10_six_49 (by decide) rfl ?_
      refine ax_iload dX10_six_51 rfl ?_
      refine ax_if_ne (tgt := 61) dX10_six_53 (by decide) (fun h53 => ?_) (fun h53 => ?_)
      · refine ax_bipush (v := 27) dX10_six_61 (by decide) ?_
        refine ax_iload dX10_six_63 rfl ?_
        refine ax_imul dX10_six_65 ?_
        refine ax_iload dX10_six_66 rfl ?_
        refine ax_iadd dX10_six_68 ?_
        refine ax_iret dX10_six_69 rfl ?_
        refine ⟨?_, rfl⟩; rw [← h]; simp_all
      · refine ax_iload dX10_six_56 rfl ?_
        refine ax_goto (tgt := 69) dX10_six_58 (by decide) ?_
        refine ax_iret dX10_six_69 rfl ?_
        refine ⟨?_, rfl⟩; rw [← h]; simp_all
end MW

