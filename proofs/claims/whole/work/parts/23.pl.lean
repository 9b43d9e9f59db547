/-! ===== a LAW, a RULE: the reference ===== -/
def tx_tb (M : ax_M) (z : Nat) (i : Nat) : Int32 := if nI i < nI z then M.1 91 i else -1
theorem tx_tb_B {M M2 : ax_M} {z : Nat} (h : M2.1 90 2 = nI z) (h2 : ∀ i, M2.1 91 i = M.1 91 i) : tx_B M2 = tx_tb M z := by
  funext i
  unfold tx_B tx_tb
  rw [h, h2]
theorem tx_tb_ok {M : ax_M} {z : Nat} (hz : z ≤ 600) : ps_B (tx_tb M z) z := by
  intro i h1 h2
  unfold tx_tb
  rw [if_neg]
  intro h3
  have := (nI_ltI h2 (by omega)).mp h3
  omega
def ps_text (B : Nat → Int32) (z : Nat) : (Nat × Nat) ⊕ List (Int32 × Int32) := match ps_sum B z (ps_one B z 6) (tx_sk B z 0) with
  | .inl e => .inl e
  | .inr q => if tx_sk B z q.1 < z then .inl (1, tx_sk B z q.1) else .inr q.2
theorem ps_text_ok {B : Nat → Int32} {z : Nat} (hB : ps_B B z) (hz : z ≤ 600) : match ps_text B z with
  | .inl e => 1 ≤ e.1 ∧ e.1 ≤ 4 ∧ e.2 ≤ z
  | .inr cs => cs.length ≤ z := by
  have hk := tx_sk_z (B := B) (z := z) (Nat.zero_le z)
  have hg := ps_gd_iff.mp (ps_gd_sum hB hz (ps_gd_one hB hz 6)) (tx_sk B z 0) hk
  unfold ps_text
  cases hx : ps_sum B z (ps_one B z 6) (tx_sk B z 0) with
  | inl e => rw [hx] at hg; exact hg
  | inr q =>
    rw [hx] at hg
    obtain ⟨h1, h2, h3⟩ := hg
    have h4 := tx_sk_z (B := B) h2
    simp only []
    by_cases c : tx_sk B z q.1 < z
    · rw [if_pos c]; exact ⟨Nat.le_of_ble_eq_true rfl, Nat.le_of_ble_eq_true rfl, h4⟩
    · rw [if_neg c]; show q.2.length ≤ z; omega
/-- what reading a text may change: the reader's own -/
def rd_fr (M M2 : ax_M) : Prop := M2.2 = M.2 ∧ ∀ n i, ¬ (n = 90 ∧ (1 ≤ i ∧ i ≤ 8 ∨ i = 23)) → n ≠ 116 → M2.1 n i = M.1 n i
theorem rd_fr_tr {M M1 M2 : ax_M} (h1 : rd_fr M M1) (h2 : rd_fr M1 M2) : rd_fr M M2 := ⟨h2.1.trans h1.1, fun n i q1 q2 => (h2.2 n i q1 q2).trans (h1.2 n i q1 q2)⟩
theorem rd_fr_p {M : ax_M} {n i : Nat} {x : Int32} (h : (n = 90 ∧ (1 ≤ i ∧ i ≤ 8 ∨ i = 23)) ∨ n = 116) : rd_fr M (ax_pI M n i x) := ⟨rfl, fun q j h1 h2 => ax_pn (by rintro ⟨rfl, rfl⟩; rcases h with h | h; exact h1 h; exact h2 h)⟩
theorem rd_fr_ps {M M2 : ax_M} (h : ps_fr M M2) : rd_fr M M2 := ⟨h.1, fun n i q1 q2 => h.2 n i (fun q => q1 ⟨q.1, by omega⟩) q2⟩
def rd_out (M M2 : ax_M) (w : Nat) (o : ax_O) (x : (Nat × Nat) ⊕ List (Int32 × Int32)) : Prop := M2.2 = M.2 ∧ M2.1 90 1 = 0 ∧ (∀ n i, ¬ (n = 90 ∧ (1 ≤ i ∧ i ≤ 8 ∨ i = 23)) → n ≠ 116 → ¬ (n = 111 ∧ i = w) → n ≠ 113 + w → M2.1 n i = M.1 n i) ∧ match x with
  | .inl e => o = .inl (some (av_i (nI e.1 - 10))) ∧ M2.1 90 3 = nI e.2 ∧ M2.1 111 w = M.1 111 w ∧ ∀ i, M2.1 (113 + w) i = M.1 (113 + w) i
  | .inr cs => o = .inl (some (av_i 1)) ∧ M2.1 90 3 = -1 ∧ M2.1 111 w = nI cs.length ∧ ∀ j q, cs[j]? = some q → M2.1 (113 + w) (2 * j) = q.1 ∧ M2.1 (113 + w) (2 * j + 1) = q.2
section PL
variable {l : Launch} {G : ax_G} {M : ax_M}
set_option maxHeartbeats 2000000 in
theorem c_X10_reads (hok : lo_ok M.2) {z w : Nat} (hz : z ≤ 150) (hw : w < 3) {x : Int32} (hx : x = nI w) : ax_Met l G kX10_reads 29 0 0 M [av_r 90, av_i (nI z), av_i x] (fun o M2 => rd_out M M2 w o (ps_text (tx_tb M z) z)) := by
  subst hx
  have hB := tx_tb_ok (M := M) (z := z) (by omega)
  have htx := ps_text_ok hB (by omega)
  have hk0 := tx_sk_z (B := tx_tb M z) (z := z) (Nat.zero_le z)
  refine ax_body (by decide) (Nat.le_of_ble_eq_true rfl) ?_
  refine ax_aload_n dX10_reads_0 rfl ?_
  refine ax_iload_n dX10_reads_1 rfl ?_
  refine ax_callV (As := _) (d2 := _) (c1 := 0) (n1 := 0) (c_X10_starts (M := M) hok (z := z) (by omega)) dX10_reads_2 mX10_starts wd_1779 acl_10 (lo_s hok 90 rfl) rfl (by omega) (by omega) (by omega) rfl rfl (fun _ _ h => by cases h.1) ?_
  rintro r M1 ⟨h1, M0, hM0, hM1⟩; cases h1
  have fr0 : rd_fr M M0 := by
    rw [hM0]
    exact rd_fr_tr (rd_fr_tr (rd_fr_tr (rd_fr_tr (rd_fr_tr (rd_fr_tr (rd_fr_p (by omega)) (rd_fr_p (by omega))) (rd_fr_p (by omega))) (rd_fr_p (by omega))) (rd_fr_p (by omega))) (rd_fr_p (by omega))) (rd_fr_p (by omega))
  have eB0 : tx_B M0 = tx_tb M z := tx_tb_B (by rw [hM0]; rfl) (fun i => fr0.2 91 i (by omega) (by decide))
  rw [eB0] at hM1
  have fr1 : rd_fr M M1 := rd_fr_tr fr0 (by rw [hM1]; exact rd_fr_p (by omega))
  have hok1 : lo_ok M1.2 := by rw [fr1.1]; exact hok
  have hok0 := hok
  have hok := hok1
  have t1 : M1.1 90 1 = 0 := by rw [hM1, ax_pn (by decide), hM0]; rfl
  refine ax_aload_n dX10_reads_5 rfl ?_
  refine ax_iconst (v := 0) dX10_reads_6 (by decide) ?_
  refine ax_putI (f := 23) dX10_reads_7 acl_10 wd_1623 (by decide) rfl rfl (ax_nfI rfl) (lo_s hok 90 rfl) ?_
  refine ax_aload_n dX10_reads_10 rfl ?_
  refine ax_gen (fun M2 hM2 => ?_)
  have fr2 : rd_fr M M2 := rd_fr_tr fr1 (by rw [hM2]; exact rd_fr_p (by omega))
  have hok2 : lo_ok M2.2 := by rw [fr2.1]; exact hok0
  have hok := hok2
  have eB2 : tx_B M2 = tx_tb M z := tx_tb_B (by rw [hM2, ax_pn (by decide), hM1, ax_pn (by decide), hM0]; rfl) (fun i => fr2.2 91 i (by omega) (by decide))
  have hi2 : ps_i (tx_tb M z) M2 z (tx_sk (tx_tb M z) z 0) 0 6 := by
    refine ⟨⟨hok2, ⟨by rw [hM2, ax_pn (by decide), hM1, ax_pn (by decide), hM0]; rfl, by omega⟩, by rw [hM2, ax_pn (by decide), hM1]; exact ax_pa _ _ _ _, by omega, by rw [hM2, ax_pn (by decide), hM1, ax_pn (by decide), hM0]; rfl⟩, eB2, hk0, hz, by rw [hM2, ax_pn (by decide), hM1, ax_pn (by decide), hM0]; rfl, Nat.le_refl _, by rw [hM2]; exact ax_pa _ _ _ _, Nat.zero_le _⟩
  have t2 : M2.1 90 1 = 0 := by rw [hM2, ax_pn (by decide)]; exact t1
  refine ax_callV (As := _) (d2 := _) (c1 := 0) (n1 := 0) (c_X10_sum6 (M := M2) hB (by omega) hi2) dX10_reads_11 mX10_sum wd_1853 acl_10 (lo_s hok 90 rfl) rfl (by omega) (by omega) (by omega) rfl rfl (fun _ _ h => by cases h.1) ?_
  rintro r M3 ⟨h1, o3⟩; cases h1
  have fr3 : rd_fr M M3 := rd_fr_tr fr2 (rd_fr_ps o3.1)
  have hok3 : lo_ok M3.2 := by rw [fr3.1]; exact hok0
  have hok := hok3
  have t3 : M3.1 90 1 = 0 := by rw [o3.1.2 90 1 (by omega) (by decide)]; exact t2
  have eB3 : tx_B M3 = tx_tb M z := (ps_fr_B o3.1).trans eB2
  have hz3 : tx_ok M3 z := ps_fr_ok o3.1 hi2.1.2.1
  -- with a FAULT, at 45
  have bad : ∀ (M5 : ax_M) (e : Nat × Nat), rd_fr M M5 → M5.1 90 1 = 0 → M5.1 90 5 = nI e.1 → M5.1 90 6 = nI e.2 → 1 ≤ e.1 → e.1 ≤ 4 → ps_text (tx_tb M z) z = .inl e → ax_W l G kX10_reads (ax_FQ G (fun o M2 => rd_out M M2 w o (ps_text (tx_tb M z) z))) 29 0 0 M5 45 [some (av_r 90), some (av_i (nI z)), some (av_i (nI w))] [] := by
    intro M5 e fr5 t5 h5 h6 g1 g2 hx
    have hok : lo_ok M5.2 := by rw [fr5.1]; exact hok0
    refine ax_aload_n dX10_reads_45 rfl ?_
    refine ax_getI (f := 5) dX10_reads_46 acl_10 wd_1605 (by decide) rfl (lo_s hok 90 rfl) ?_
    refine ax_if_eq (tgt := 57) dX10_reads_49 (by decide) (fun hc => ?_) (fun hc => ?_)
    · rw [h5] at hc; exact absurd hc (nI_ne0 (by omega) (by omega))
    · refine ax_aload_n dX10_reads_52 rfl ?_
      refine ax_callV (As := _) (d2 := _) (c1 := 0) (n1 := 0) (c_X10_ends (d := 0) (M := M5) hok) dX10_reads_53 mX10_ends wd_1841 acl_10 (lo_s hok 90 rfl) rfl (by omega) (by omega) (by omega) rfl rfl (fun _ _ h => by cases h.1) ?_
      rintro r M6 ⟨h1, hM6⟩; cases h1
      refine ax_iret dX10_reads_56 rfl ?_
      rw [hx]
      have f6 : ∀ n i, ¬ (n = 90 ∧ (1 ≤ i ∧ i ≤ 8 ∨ i = 23)) → n ≠ 116 → M6.1 n i = M.1 n i := fun n i q1 q2 => by rw [hM6, ax_pn (by omega)]; exact fr5.2 n i q1 q2
      refine ⟨by rw [hM6]; exact fr5.1, by rw [hM6, ax_pn (by decide)]; exact t5, fun n i q1 q2 _ _ => f6 n i q1 q2, by rw [h5], by rw [hM6, h6]; exact ax_pa _ _ _ _, f6 111 w (by omega) (by decide), fun i => f6 (113 + w) i (by omega) (by omega)⟩
  have hf3z : z ≤ 600 := by omega
  cases hr : ps_sum (tx_tb M z) z (ps_one (tx_tb M z) z 6) (tx_sk (tx_tb M z) z 0) with
  | inl e =>
    rw [hr] at o3
    have hxt : ps_text (tx_tb M z) z = .inl e := by unfold ps_text; rw [hr]
    rw [hxt] at htx
    have hne : ¬ M3.1 90 5 = 0 := by rw [o3.2.1]; exact nI_ne0 (by have := htx.1; omega) (by have := htx.2.1; omega)
    obtain ⟨b, hb1, hb2⟩ := o3.2.2.2
    refine ax_aload_n dX10_reads_14 rfl ?_
    refine ax_callV (As := _) (d2 := _) (c1 := 0) (n1 := 0) (c_X10_blanks (M := M3) hok hz3 hb2 hb1) dX10_reads_15 mX10_blanks wd_1783 acl_10 (lo_s hok 90 rfl) rfl (by omega) (by omega) (by omega) rfl rfl (fun _ _ h => by cases h.1) ?_
    rintro r M4 ⟨h1, hM4⟩; cases h1
    have fr4 : rd_fr M M4 := rd_fr_tr fr3 (by rw [hM4]; exact rd_fr_p (by omega))
    have e5 : M4.1 90 5 = M3.1 90 5 := by rw [hM4]; exact ax_pn (by decide)
    have hok4 : lo_ok M4.2 := by rw [fr4.1]; exact hok0
    have hok := hok4
    refine ax_aload_n dX10_reads_18 rfl ?_
    refine ax_getI (f := 5) dX10_reads_19 acl_10 wd_1605 (by decide) rfl (lo_s hok 90 rfl) ?_
    refine ax_if_ne (tgt := 45) dX10_reads_22 (by decide) (fun hc => ?_) (fun hc => ?_)
    · exact bad M4 e fr4 (by rw [hM4, ax_pn (by decide)]; exact t3) (e5.trans o3.2.1) (by rw [hM4, ax_pn (by decide)]; exact o3.2.2.1) htx.1 htx.2.1 hxt
    · rw [e5] at hc; exact absurd hc hne
  | inr q =>
    obtain ⟨b, cs⟩ := q
    rw [hr] at o3
    have hi3 := o3.2.1
    have hb : b ≤ z := hi3.2.2.1
    have hkb : 0 + cs.length ≤ b := hi3.2.2.2.2.2.2.2
    have hbk : b ≤ tx_sk (tx_tb M z) z b := tx_sk_ge
    have hbz := tx_sk_z (B := tx_tb M z) hb
    refine ax_aload_n dX10_reads_14 rfl ?_
    refine ax_callV (As := _) (d2 := _) (c1 := 0) (n1 := 0) (c_X10_blanks (M := M3) hok hz3 hi3.1.2.2.1 hi3.1.2.2.2.1) dX10_reads_15 mX10_blanks wd_1783 acl_10 (lo_s hok 90 rfl) rfl (by omega) (by omega) (by omega) rfl rfl (fun _ _ h => by cases h.1) ?_
    rintro r M4 ⟨h1, hM4⟩; cases h1
    rw [eB3] at hM4
    have o4 := ps_o_at o3 hbz hbk hM4
    have hi4 := o4.2.1
    have fr4 : rd_fr M M4 := rd_fr_tr fr2 (rd_fr_ps o4.1)
    have hok4 : lo_ok M4.2 := by rw [fr4.1]; exact hok0
    have hok := hok4
    have t4 : M4.1 90 1 = 0 := by rw [hM4, ax_pn (by decide)]; exact t3
    have e4 : M4.1 90 4 = nI (tx_sk (tx_tb M z) z b) := hi4.1.2.2.1
    have e2 : M4.1 90 2 = nI z := hi4.1.2.1.1
    have e5 : M4.1 90 5 = 0 := hi4.1.2.2.2.2
    refine ax_aload_n dX10_reads_18 rfl ?_
    refine ax_getI (f := 5) dX10_reads_19 acl_10 wd_1605 (by decide) rfl (lo_s hok 90 rfl) ?_
    refine ax_if_ne (tgt := 45) dX10_reads_22 (by decide) (fun hc => ?_) (fun hc => ?_)
    · exact absurd e5 hc
    · refine ax_aload_n dX10_reads_25 rfl ?_
      refine ax_getI (f := 4) dX10_reads_26 acl_10 wd_1604 (by decide) rfl (lo_s hok 90 rfl) ?_
      refine ax_aload_n dX10_reads_29 rfl ?_
      refine ax_getI (f := 2) dX10_reads_30 acl_10 wd_1602 (by decide) rfl (lo_s hok 90 rfl) ?_
      refine ax_icmp_ge (tgt := 45) dX10_reads_33 (by decide) (fun hc => ?_) (fun hc => ?_)
      · rw [e4, e2] at hc
        have hge : ¬ tx_sk (tx_tb M z) z b < z := by have := (nI_leI (by omega) (by omega)).mp hc; omega
        have hxt : ps_text (tx_tb M z) z = .inr cs := by unfold ps_text; rw [hr]; exact if_neg hge
        refine ax_aload_n dX10_reads_45 rfl ?_
        refine ax_getI (f := 5) dX10_reads_46 acl_10 wd_1605 (by decide) rfl (lo_s hok 90 rfl) ?_
        refine ax_if_eq (tgt := 57) dX10_reads_49 (by decide) (fun hc => ?_) (fun hc => ?_)
        · refine ax_aload_n dX10_reads_57 rfl ?_
          refine ax_iconst (v := (-1)) dX10_reads_58 (by decide) ?_
          refine ax_putI (f := 3) dX10_reads_59 acl_10 wd_1603 (by decide) rfl rfl (ax_nfI rfl) (lo_s hok 90 rfl) ?_
          refine ax_aload_n dX10_reads_62 rfl ?_
          refine ax_getK (f := 22) 111 dX10_reads_63 acl_10 wd_1622 (by decide) rfl (lo_s hok 90 rfl) (lo_r hok 92 rfl) ?_
          refine ax_iload_n dX10_reads_66 rfl ?_
          refine ax_aload_n dX10_reads_67 rfl ?_
          refine ax_getI (f := 23) dX10_reads_68 acl_10 wd_1623 (by decide) rfl (lo_s hok 90 rfl) ?_
          have e23 : M4.1 90 23 = nI cs.length := by have := hi4.2.2.2.2.2.2.1; simpa using this
          rw [show (ax_pI M4 90 3 (-1)).1 90 23 = nI cs.length by rw [ax_pn (by decide)]; exact e23]
          refine ax_iast dX10_reads_71 (lo_s hok 111 rfl) (vp_in_nI hw (by decide)) ?_
          refine ax_aload_n dX10_reads_72 rfl ?_
          refine ax_getK (f := 25) 116 dX10_reads_73 acl_10 wd_1625 (by decide) rfl (lo_s hok 90 rfl) (lo_r hok 94 rfl) ?_
          refine ax_aload_n dX10_reads_76 rfl ?_
          refine ax_getK (f := 24) 112 dX10_reads_77 acl_10 wd_1624 (by decide) rfl (lo_s hok 90 rfl) (lo_r hok 93 rfl) ?_
          refine ax_iload_n dX10_reads_80 rfl ?_
          rw [nI_clamp (by omega)]
          refine ax_gen (fun M5 hM5 => ?_)
          have hok5 : lo_ok M5.2 := by rw [hM5]; exact hok4
          have hok := hok5
          refine ax_aaldK2 (113 + w) dX10_reads_81 (lo_s hok 112 rfl) (vp_in_nI hw (by decide)) (by rw [nI_clamp (by omega)]; exact lo_w_m_law hok hw) ?_
          refine ax_iconst (v := 2) dX10_reads_82 (by decide) ?_
          refine ax_aload_n dX10_reads_83 rfl ?_
          refine ax_getI (f := 23) dX10_reads_84 acl_10 wd_1623 (by decide) rfl (lo_s hok 90 rfl) ?_
          refine ax_imul dX10_reads_87 ?_
          have e7 : (2 : Int32) * M5.1 90 23 = nI (2 * cs.length) := by
            rw [hM5, ax_pn (by omega), ax_pn (by decide), e23, show (2 : Int32) = nI 2 from rfl, pk_mul]
          refine ax_callS (As := _) (c1 := 0) (n1 := 0) (c_X10_copies (d := 0) (M := M5) (lf := 320) (lt := 320) (n := 2 * cs.length) (lo_s hok 116 rfl) (lo_z_m_law hok (i := w) hw) (by omega) (by omega) (by omega) (by omega) (by omega) e7) dX10_reads_88 mX10_copies wd_1597 rfl (by omega) (by omega) (by omega) rfl rfl (fun _ _ h => by cases h.1) ?_
          rintro r M6 ⟨h1, hM6⟩; cases h1
          have hok6 : lo_ok M6.2 := by rw [hM6]; exact hok5
          have hok := hok6
          refine ax_iconst (v := 1) dX10_reads_91 (by decide) ?_
          refine ax_iret dX10_reads_92 rfl ?_
          rw [hxt]
          have f5 : ∀ n i, ¬ (n = 90 ∧ (1 ≤ i ∧ i ≤ 8 ∨ i = 23)) → n ≠ 116 → ¬ (n = 111 ∧ i = w) → M5.1 n i = M.1 n i := fun n i q1 q2 q3 => by rw [hM5, ax_pn (by omega), ax_pn (by omega)]; exact fr4.2 n i q1 q2
          have g6 : ∀ n i, ¬ (n = 113 + w ∧ i < 2 * cs.length) → M6.1 n i = M5.1 n i := fun n i q => by rw [hM6]; exact if_neg q
          refine ⟨by rw [hM6, ← fr4.1, hM5]; rfl, ?_, fun n i q1 q2 q3 q4 => by rw [g6 n i (by omega)]; exact f5 n i q1 q2 q3, rfl, ?_, ?_, fun j q hq => ?_⟩
          · rw [g6 90 1 (by omega), hM5, ax_pn (by omega), ax_pn (by decide)]; exact t4
          · rw [g6 90 3 (by omega), hM5, ax_pn (by omega)]; exact ax_pa _ _ _ _
          · rw [g6 111 w (by omega), hM5]; exact ax_pa _ _ _ _
          · have hj : j < cs.length := (List.getElem?_eq_some_iff.mp hq).1
            have e9 := o4.2.2.2 j q hq
            rw [Nat.zero_add] at e9
            have g7 : ∀ i, i < 2 * cs.length → M6.1 (113 + w) i = M4.1 116 i := fun i hi => by
              rw [hM6]
              show (if 113 + w = 113 + w ∧ i < 2 * cs.length then M5.1 116 i else M5.1 (113 + w) i) = _
              rw [if_pos ⟨rfl, hi⟩, hM5, ax_pn (by omega), ax_pn (by omega)]
            rw [g7 _ (by omega), g7 _ (by omega)]
            exact e9
        · exact absurd e5 hc
      · rw [e4, e2] at hc
        have hlt : tx_sk (tx_tb M z) z b < z := Nat.lt_of_not_le fun q => hc ((nI_leI (by omega) (by omega)).mpr q)
        have hxt : ps_text (tx_tb M z) z = .inl (1, tx_sk (tx_tb M z) z b) := by unfold ps_text; rw [hr]; exact if_pos hlt
        refine ax_aload_n dX10_reads_36 rfl ?_
        refine ax_iconst (v := 1) dX10_reads_37 (by decide) ?_
        refine ax_aload_n dX10_reads_38 rfl ?_
        refine ax_getI (f := 4) dX10_reads_39 acl_10 wd_1604 (by decide) rfl (lo_s hok 90 rfl) ?_
        refine ax_callV (As := _) (d2 := _) (c1 := 0) (n1 := 0) (c_X10_wrong (d := 0) (M := M4) hok _ _) dX10_reads_42 mX10_wrong wd_1813 acl_10 (lo_s hok 90 rfl) rfl (by omega) (by omega) (by omega) rfl rfl (fun _ _ h => by cases h.1) ?_
        rintro r M5 ⟨h1, hM5⟩; cases h1
        rw [if_pos e5, e4] at hM5
        exact bad M5 (1, tx_sk (tx_tb M z) z b) (rd_fr_tr fr4 (by rw [hM5]; exact rd_fr_tr (rd_fr_p (by omega)) (rd_fr_p (by omega)))) (by rw [hM5, ax_pn (by decide), ax_pn (by decide)]; exact t4) (by rw [hM5, ax_pn (by decide)]; exact ax_pa _ _ _ _) (by rw [hM5]; exact ax_pa _ _ _ _) (Nat.le_of_ble_eq_true rfl) (Nat.le_of_ble_eq_true rfl) hxt
end PL

