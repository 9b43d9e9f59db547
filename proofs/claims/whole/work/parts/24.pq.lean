/-! ===== law, rule of the reference ===== -/
/-- refused: what is thrown, by which reason -/
def mk_bad (M : ax_M) (w : Int32) (r : Nat) : ax_M := ax_pI (ax_pI M 90 0 w) 92 r (M.1 92 r + 1)
theorem iv_b1 {p : Prop} [Decidable p] : (if p then (1 : Int32) else 0) = 0 ↔ ¬ p := by
  by_cases h : p
  · simp [h]
  · simp [h]
theorem rd_nx {M M2 : ax_M} {w : Nat} {E : String} {x : (Nat × Nat) ⊕ List (Int32 × Int32)} : ¬ rd_out M M2 w (.inr E) x := by
  rintro ⟨-, -, -, h⟩
  cases x with
  | inl e => cases h.1
  | inr cs => cases h.1
section PQ
variable {l : Launch} {G : ax_G} {M : ax_M}
/-- bad of a thing that holds, where nothing was thrown yet -/
theorem c_X10_bad1 {d : Nat} (hok : lo_ok M.2) (h0 : M.1 90 0 = 0) {b w : Int32} (hb : ¬ b = 0) (hw : ¬ w = 0) {r : Nat} (hr : r < 3) {x : Int32} (hx : x = nI r) : ax_Met l G kX10_bad d 0 0 M [av_r 90, av_i b, av_i w, av_i x] (ax_p (av_i 1) (mk_bad M w r)) := by
  subst hx
  refine ax_mono (c_X10_bad hok b w hr) ?_
  rintro o M2 ⟨h1, h2⟩
  rw [if_pos ⟨hb, h0⟩] at h1
  rw [h1, ax_pn (by omega), ax_pa, if_neg hw] at h2
  exact ⟨h2, h1⟩
theorem c_X10_bad0 {d : Nat} (hok : lo_ok M.2) (h0 : M.1 90 0 = 0) {b w : Int32} (hb : b = 0) {r : Nat} (hr : r < 3) {x : Int32} (hx : x = nI r) : ax_Met l G kX10_bad d 0 0 M [av_r 90, av_i b, av_i w, av_i x] (ax_p (av_i 0) M) := by
  subst hx
  refine ax_mono (c_X10_bad hok b w hr) ?_
  rintro o M2 ⟨h1, h2⟩
  rw [if_neg (fun q => q.1 hb)] at h1
  rw [h1, if_pos h0] at h2
  exact ⟨h2, h1⟩
theorem c_X10_law (hok : lo_ok M.2) {t : Nat} (ht : M.1 90 1 = nI t) (ht2 : t ≤ 600) (n : Int32) : ax_Met l G kX10_law 30 0 0 M [av_r 90, av_i n] (fun o M2 => if (0 ≤ n ∧ n ≤ nI t) ∧ n ≤ 150 then ∃ z, z ≤ 150 ∧ n = nI z ∧ rd_out (ax_pI M 90 0 0) M2 0 o (ps_text (tx_tb M z) z) else o = .inl (some (av_i 0)) ∧ M2 = mk_bad (ax_pI M 90 0 0) 1 1) := by
  refine ax_body (by decide) (Nat.le_of_ble_eq_true rfl) ?_
  generalize hQ : (fun (o : ax_O) (M2 : ax_M) => if (0 ≤ n ∧ n ≤ nI t) ∧ n ≤ 150 then ∃ z, z ≤ 150 ∧ n = nI z ∧ rd_out (ax_pI M 90 0 0) M2 0 o (ps_text (tx_tb M z) z) else o = .inl (some (av_i 0)) ∧ M2 = mk_bad (ax_pI M 90 0 0) 1 1) = Q
  refine ax_aload_n dX10_law_0 rfl ?_
  refine ax_iconst (v := 0) dX10_law_1 (by decide) ?_
  refine ax_putI (f := 0) dX10_law_2 acl_10 wd_1600 (by decide) rfl rfl (ax_nfI rfl) (lo_s hok 90 rfl) ?_
  refine ax_gen (fun M1 hM1 => ?_)
  have hok1 : lo_ok M1.2 := by rw [hM1]; exact hok
  have hok := hok1
  have e0 : M1.1 90 0 = 0 := by rw [hM1]; exact ax_pa _ _ _ _
  have e1 : M1.1 90 1 = nI t := by rw [hM1, ax_pn (by decide)]; exact ht
  have no : ¬ ((0 ≤ n ∧ n ≤ nI t) ∧ n ≤ 150) → ax_W l G kX10_law (ax_FQ G Q) 30 0 0 M1 30 [some (av_r 90), some (av_i n)] [av_i 1, av_r 90] := by
    intro h
    refine ax_iconst (v := 1) dX10_law_30 (by decide) ?_
    refine ax_iconst (v := 1) dX10_law_31 (by decide) ?_
    refine ax_callV (As := _) (d2 := _) (c1 := 0) (n1 := 0) (c_X10_bad1 (d := 0) (M := M1) hok e0 (by decide) (by decide) (r := 1) (by decide) rfl) dX10_law_32 mX10_bad wd_1775 acl_10 (lo_s hok 90 rfl) rfl (by omega) (by omega) (by omega) rfl rfl (fun _ _ h => by cases h.1) ?_
    rintro r M2 ⟨h1, hM2⟩; cases h1
    refine ax_if_eq (tgt := 40) dX10_law_35 (by decide) (fun hc => ?_) (fun hc => ?_)
    · exact absurd hc (by decide)
    · refine ax_iconst (v := 0) dX10_law_38 (by decide) ?_
      refine ax_iret dX10_law_39 rfl ?_
      rw [← hQ]
      show if _ then _ else _
      rw [if_neg h]
      exact ⟨rfl, by rw [hM2, hM1]⟩
  refine ax_aload_n dX10_law_5 rfl ?_
  refine ax_iload_n dX10_law_6 rfl ?_
  refine ax_iconst (v := 0) dX10_law_7 (by decide) ?_
  refine ax_aload_n dX10_law_8 rfl ?_
  refine ax_getI (f := 1) dX10_law_9 acl_10 wd_1601 (by decide) rfl (lo_s hok 90 rfl) ?_
  rw [e1]
  refine ax_callS (As := _) (c1 := 0) (n1 := 0) (c_X10_in (d := 0) (M := M1) _ _ _) dX10_law_12 mX10_in wd_1772 rfl (by omega) (by omega) (by omega) rfl rfl (fun _ _ h => by cases h.1) ?_
  rintro r M9 ⟨h1, h9⟩; cases h1; rw [h9]; clear h9 M9
  refine ax_if_eq (tgt := 25) dX10_law_15 (by decide) (fun hc => ?_) (fun hc => ?_)
  · have hn : ¬ (0 ≤ n ∧ n ≤ nI t) := iv_b1.mp hc
    refine ax_iconst (v := 1) dX10_law_25 (by decide) ?_
    refine ax_goto (tgt := 30) dX10_law_26 (by decide) ?_
    exact no (fun q => hn q.1)
  · have hy : 0 ≤ n ∧ n ≤ nI t := by
      by_cases q : 0 ≤ n ∧ n ≤ nI t
      · exact q
      · exact absurd (iv_b1.mpr q) hc
    refine ax_iload_n dX10_law_18 rfl ?_
    refine ax_sipush (v := 150) dX10_law_19 (by decide) ?_
    refine ax_icmp_le (tgt := 29) dX10_law_22 (by decide) (fun hc => ?_) (fun hc => ?_)
    · have hy2 : n ≤ 150 := hc
      refine ax_iconst (v := 0) dX10_law_29 (by decide) ?_
      refine ax_iconst (v := 1) dX10_law_30 (by decide) ?_
      refine ax_iconst (v := 1) dX10_law_31 (by decide) ?_
      refine ax_callV (As := _) (d2 := _) (c1 := 0) (n1 := 0) (c_X10_bad0 (d := 0) (M := M1) hok e0 rfl (r := 1) (by decide) rfl) dX10_law_32 mX10_bad wd_1775 acl_10 (lo_s hok 90 rfl) rfl (by omega) (by omega) (by omega) rfl rfl (fun _ _ h => by cases h.1) ?_
      rintro r M9 ⟨h1, h9⟩; cases h1; rw [h9]; clear h9 M9
      refine ax_if_eq (tgt := 40) dX10_law_35 (by decide) (fun hc => ?_) (fun hc => ?_)
      · obtain ⟨z, hz, rfl⟩ := nI_of2 (n := 150) (M := 150) rfl (Int32.not_lt.mpr hy.1) hy2
        refine ax_aload_n dX10_law_40 rfl ?_
        refine ax_iload_n dX10_law_41 rfl ?_
        refine ax_iconst (v := 0) dX10_law_42 (by decide) ?_
        refine ax_callV (As := _) (d2 := _) (c1 := 0) (n1 := 0) (c_X10_reads (M := M1) hok (z := z) (w := 0) hz (by omega) rfl) dX10_law_43 mX10_reads wd_1849 acl_10 (lo_s hok 90 rfl) rfl (by omega) (by omega) (by omega) rfl rfl (fun _ _ h => rd_nx h) ?_
        rintro r M2 h2
        have h3 : r = some (av_i 0) ∨ ∃ y, r = some (av_i y) := by
          obtain ⟨-, -, -, h⟩ := h2
          revert h
          cases ps_text (tx_tb M1 z) z with
          | inl e => exact fun h => Or.inr ⟨_, Sum.inl.inj h.1⟩
          | inr cs => exact fun h => Or.inr ⟨_, Sum.inl.inj h.1⟩
        have h4 : ∃ y, r = some (av_i y) := by rcases h3 with h | h; exact ⟨0, h⟩; exact h
        obtain ⟨y, rfl⟩ := h4
        refine ax_iret dX10_law_46 rfl ?_
        rw [← hQ]
        show if _ then _ else _
        rw [if_pos ⟨hy, hy2⟩]
        refine ⟨z, hz, rfl, ?_⟩
        rw [← hM1]
        have e : tx_tb M1 z = tx_tb M z := by rw [hM1]; rfl
        rw [e] at h2
        exact h2
      · exact absurd rfl hc
    · have hn : ¬ n ≤ 150 := hc
      refine ax_iconst (v := 1) dX10_law_25 (by decide) ?_
      refine ax_goto (tgt := 30) dX10_law_26 (by decide) ?_
      exact no (fun q => hn q.2)
theorem c_X10_rule (hok : lo_ok M.2) {t : Nat} (ht : M.1 90 1 = nI t) (ht2 : t ≤ 600) (c n : Int32) : ax_Met l G kX10_rule 30 0 0 M [av_r 90, av_i c, av_i n] (fun o M2 => if 0 ≤ c ∧ c ≤ 1 then (if (0 ≤ n ∧ n ≤ nI t) ∧ n ≤ 150 then ∃ z w, z ≤ 150 ∧ n = nI z ∧ w < 2 ∧ c = nI w ∧ rd_out (ax_pI M 90 0 0) M2 (1 + w) o (ps_text (tx_tb M z) z) else o = .inl (some (av_i 0)) ∧ M2 = mk_bad (ax_pI M 90 0 0) 2 1) else o = .inl (some (av_i 0)) ∧ M2 = mk_bad (ax_pI M 90 0 0) 1 0) := by
  refine ax_body (by decide) (Nat.le_of_ble_eq_true rfl) ?_
  generalize hQ : (fun (o : ax_O) (M2 : ax_M) => if 0 ≤ c ∧ c ≤ 1 then (if (0 ≤ n ∧ n ≤ nI t) ∧ n ≤ 150 then ∃ z w, z ≤ 150 ∧ n = nI z ∧ w < 2 ∧ c = nI w ∧ rd_out (ax_pI M 90 0 0) M2 (1 + w) o (ps_text (tx_tb M z) z) else o = .inl (some (av_i 0)) ∧ M2 = mk_bad (ax_pI M 90 0 0) 2 1) else o = .inl (some (av_i 0)) ∧ M2 = mk_bad (ax_pI M 90 0 0) 1 0) = Q
  refine ax_aload_n dX10_rule_0 rfl ?_
  refine ax_iconst (v := 0) dX10_rule_1 (by decide) ?_
  refine ax_putI (f := 0) dX10_rule_2 acl_10 wd_1600 (by decide) rfl rfl (ax_nfI rfl) (lo_s hok 90 rfl) ?_
  refine ax_gen (fun M1 hM1 => ?_)
  have hok1 : lo_ok M1.2 := by rw [hM1]; exact hok
  have hok := hok1
  have e0 : M1.1 90 0 = 0 := by rw [hM1]; exact ax_pa _ _ _ _
  have e1 : M1.1 90 1 = nI t := by rw [hM1, ax_pn (by decide)]; exact ht
  have no : (0 ≤ c ∧ c ≤ 1) → ¬ ((0 ≤ n ∧ n ≤ nI t) ∧ n ≤ 150) → ax_W l G kX10_rule (ax_FQ G Q) 30 0 0 M1 53 [some (av_r 90), some (av_i c), some (av_i n)] [av_i 1, av_r 90] := by
    intro hcc h
    refine ax_iconst (v := 2) dX10_rule_53 (by decide) ?_
    refine ax_iconst (v := 1) dX10_rule_54 (by decide) ?_
    refine ax_callV (As := _) (d2 := _) (c1 := 0) (n1 := 0) (c_X10_bad1 (d := 0) (M := M1) hok e0 (by decide) (by decide) (r := 1) (by decide) rfl) dX10_rule_55 mX10_bad wd_1775 acl_10 (lo_s hok 90 rfl) rfl (by omega) (by omega) (by omega) rfl rfl (fun _ _ h => by cases h.1) ?_
    rintro r M2 ⟨h1, hM2⟩; cases h1
    refine ax_if_eq (tgt := 63) dX10_rule_58 (by decide) (fun hc => ?_) (fun hc => ?_)
    · exact absurd hc (by decide)
    · refine ax_iconst (v := 0) dX10_rule_61 (by decide) ?_
      refine ax_iret dX10_rule_62 rfl ?_
      rw [← hQ]
      show if _ then _ else _
      rw [if_pos hcc, if_neg h]
      exact ⟨rfl, by rw [hM2, hM1]⟩
  refine ax_aload_n dX10_rule_5 rfl ?_
  refine ax_iload_n dX10_rule_6 rfl ?_
  refine ax_iconst (v := 0) dX10_rule_7 (by decide) ?_
  refine ax_iconst (v := 1) dX10_rule_8 (by decide) ?_
  refine ax_callS (As := _) (c1 := 0) (n1 := 0) (c_X10_in (d := 0) (M := M1) _ _ _) dX10_rule_9 mX10_in wd_1772 rfl (by omega) (by omega) (by omega) rfl rfl (fun _ _ h => by cases h.1) ?_
  rintro r M9 ⟨h1, h9⟩; cases h1; rw [h9]; clear h9 M9
  refine ax_if_ne (tgt := 19) dX10_rule_12 (by decide) (fun hc => ?_) (fun hc => ?_)
  · have hcc : 0 ≤ c ∧ c ≤ 1 := by
      by_cases q : 0 ≤ c ∧ c ≤ 1
      · exact q
      · exact absurd (iv_b1.mpr q) hc
    refine ax_iconst (v := 0) dX10_rule_19 (by decide) ?_
    refine ax_iconst (v := 1) dX10_rule_20 (by decide) ?_
    refine ax_iconst (v := 0) dX10_rule_21 (by decide) ?_
    refine ax_callV (As := _) (d2 := _) (c1 := 0) (n1 := 0) (c_X10_bad0 (d := 0) (M := M1) hok e0 rfl (r := 0) (by decide) rfl) dX10_rule_22 mX10_bad wd_1775 acl_10 (lo_s hok 90 rfl) rfl (by omega) (by omega) (by omega) rfl rfl (fun _ _ h => by cases h.1) ?_
    rintro r M9 ⟨h1, h9⟩; cases h1; rw [h9]; clear h9 M9
    refine ax_if_ne (tgt := 61) dX10_rule_25 (by decide) (fun hc => ?_) (fun hc => ?_)
    · exact absurd rfl hc
    · refine ax_aload_n dX10_rule_28 rfl ?_
      refine ax_iload_n dX10_rule_29 rfl ?_
      refine ax_iconst (v := 0) dX10_rule_30 (by decide) ?_
      refine ax_aload_n dX10_rule_31 rfl ?_
      refine ax_getI (f := 1) dX10_rule_32 acl_10 wd_1601 (by decide) rfl (lo_s hok 90 rfl) ?_
      rw [e1]
      refine ax_callS (As := _) (c1 := 0) (n1 := 0) (c_X10_in (d := 0) (M := M1) _ _ _) dX10_rule_35 mX10_in wd_1772 rfl (by omega) (by omega) (by omega) rfl rfl (fun _ _ h => by cases h.1) ?_
      rintro r M9 ⟨h1, h9⟩; cases h1; rw [h9]; clear h9 M9
      refine ax_if_eq (tgt := 48) dX10_rule_38 (by decide) (fun hc => ?_) (fun hc => ?_)
      · have hn : ¬ (0 ≤ n ∧ n ≤ nI t) := iv_b1.mp hc
        refine ax_iconst (v := 1) dX10_rule_48 (by decide) ?_
        refine ax_goto (tgt := 53) dX10_rule_49 (by decide) ?_
        exact no hcc (fun q => hn q.1)
      · have hy : 0 ≤ n ∧ n ≤ nI t := by
          by_cases q : 0 ≤ n ∧ n ≤ nI t
          · exact q
          · exact absurd (iv_b1.mpr q) hc
        refine ax_iload_n dX10_rule_41 rfl ?_
        refine ax_sipush (v := 150) dX10_rule_42 (by decide) ?_
        refine ax_icmp_le (tgt := 52) dX10_rule_45 (by decide) (fun hc => ?_) (fun hc => ?_)
        · have hy2 : n ≤ 150 := hc
          refine ax_iconst (v := 0) dX10_rule_52 (by decide) ?_
          refine ax_iconst (v := 2) dX10_rule_53 (by decide) ?_
          refine ax_iconst (v := 1) dX10_rule_54 (by decide) ?_
          refine ax_callV (As := _) (d2 := _) (c1 := 0) (n1 := 0) (c_X10_bad0 (d := 0) (M := M1) hok e0 rfl (r := 1) (by decide) rfl) dX10_rule_55 mX10_bad wd_1775 acl_10 (lo_s hok 90 rfl) rfl (by omega) (by omega) (by omega) rfl rfl (fun _ _ h => by cases h.1) ?_
          rintro r M9 ⟨h1, h9⟩; cases h1; rw [h9]; clear h9 M9
          refine ax_if_eq (tgt := 63) dX10_rule_58 (by decide) (fun hc => ?_) (fun hc => ?_)
          · obtain ⟨z, hz, rfl⟩ := nI_of2 (n := 150) (M := 150) rfl (Int32.not_lt.mpr hy.1) hy2
            obtain ⟨w, hw, rfl⟩ := nI_of2 (n := 1) (M := 1) rfl (Int32.not_lt.mpr hcc.1) hcc.2
            refine ax_aload_n dX10_rule_63 rfl ?_
            refine ax_iload_n dX10_rule_64 rfl ?_
            refine ax_iconst (v := 1) dX10_rule_65 (by decide) ?_
            refine ax_iload_n dX10_rule_66 rfl ?_
            refine ax_iadd dX10_rule_67 ?_
            refine ax_callV (As := _) (d2 := _) (c1 := 0) (n1 := 0) (c_X10_reads (M := M1) hok (z := z) (w := 1 + w) hz (by omega) (by rw [show (1 : Int32) = nI 1 from rfl, nI_add])) dX10_rule_68 mX10_reads wd_1849 acl_10 (lo_s hok 90 rfl) rfl (by omega) (by omega) (by omega) rfl rfl (fun _ _ h => rd_nx h) ?_
            rintro r M2 h2
            have h4 : ∃ y, r = some (av_i y) := by
              obtain ⟨-, -, -, h⟩ := h2
              revert h
              cases ps_text (tx_tb M1 z) z with
              | inl e => exact fun h => ⟨_, Sum.inl.inj h.1⟩
              | inr cs => exact fun h => ⟨_, Sum.inl.inj h.1⟩
            obtain ⟨y, rfl⟩ := h4
            refine ax_iret dX10_rule_71 rfl ?_
            rw [← hQ]
            show if _ then _ else _
            rw [if_pos hcc, if_pos ⟨hy, hy2⟩]
            refine ⟨z, w, hz, rfl, by omega, rfl, ?_⟩
            rw [← hM1]
            have e : tx_tb M1 z = tx_tb M z := by rw [hM1]; rfl
            rw [e] at h2
            exact h2
          · exact absurd rfl hc
        · have hn : ¬ n ≤ 150 := hc
          refine ax_iconst (v := 1) dX10_rule_48 (by decide) ?_
          refine ax_goto (tgt := 53) dX10_rule_49 (by decide) ?_
          exact no hcc (fun q => hn q.2)
  · have hcc : ¬ (0 ≤ c ∧ c ≤ 1) := iv_b1.mp hc
    refine ax_iconst (v := 1) dX10_rule_15 (by decide) ?_
    refine ax_goto (tgt := 20) dX10_rule_16 (by decide) ?_
    refine ax_iconst (v := 1) dX10_rule_20 (by decide) ?_
    refine ax_iconst (v := 0) dX10_rule_21 (by decide) ?_
    refine ax_callV (As := _) (d2 := _) (c1 := 0) (n1 := 0) (c_X10_bad1 (d := 0) (M := M1) hok e0 (by decide) (by decide) (r := 0) (by decide) rfl) dX10_rule_22 mX10_bad wd_1775 acl_10 (lo_s hok 90 rfl) rfl (by omega) (by omega) (by omega) rfl rfl (fun _ _ h => by cases h.1) ?_
    rintro r M2 ⟨h1, hM2⟩; cases h1
    refine ax_if_ne (tgt := 61) dX10_rule_25 (by decide) (fun hc => ?_) (fun hc => ?_)
    · refine ax_iconst (v := 0) dX10_rule_61 (by decide) ?_
      refine ax_iret dX10_rule_62 rfl ?_
      rw [← hQ]
      show if _ then _ else _
      rw [if_neg hcc]
      exact ⟨rfl, by rw [hM2, hM1]⟩
    · exact absurd hc (by decide)
end PQ

