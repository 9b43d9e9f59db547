/-! ===== changes made and taken back: the class ===== -/
def cq1 (R k c : Nat) : Nat × Nat := if k = 0 then (R + 6, c) else if k = 1 then (R + 3, c) else (R, 9)
def cq2 (R k c : Nat) : Nat × Nat := if k = 0 then (R + 7, c) else if k = 1 then (R + 4, c) else (R, 10)
def ck (k c : Nat) : Prop := k < 3 ∧ (k = 0 → c < 2) ∧ (k = 1 → c < 10)
def mk_put (M : ax_M) (R k c : Nat) (f s : Int32) : ax_M := ax_pI (ax_pI M (cq1 R k c).1 (cq1 R k c).2 f) (cq2 R k c).1 (cq2 R k c).2 s
def mk_rec (M : ax_M) (R n k c : Nat) : ax_M := ax_pI (ax_pI (ax_pI (ax_pI (ax_pI M 80 n (nI k)) 81 n (nI c)) 82 n (M.1 (cq1 R k c).1 (cq1 R k c).2)) 83 n (M.1 (cq2 R k c).1 (cq2 R k c).2)) 79 4 (nI (n + 1))
theorem cq_R {R k c : Nat} (hR : xh_R R) : (5 ≤ (cq1 R k c).1 ∧ (cq1 R k c).1 ≤ 30) ∧ (5 ≤ (cq2 R k c).1 ∧ (cq2 R k c).1 ≤ 30) := by
  unfold xh_R at hR
  unfold cq1 cq2
  constructor
  · split
    · show 5 ≤ R + 6 ∧ R + 6 ≤ 30; omega
    · split
      · show 5 ≤ R + 3 ∧ R + 3 ≤ 30; omega
      · show 5 ≤ R ∧ R ≤ 30; omega
  · split
    · show 5 ≤ R + 7 ∧ R + 7 ≤ 30; omega
    · split
      · show 5 ≤ R + 4 ∧ R + 4 ≤ 30; omega
      · show 5 ≤ R ∧ R ≤ 30; omega
theorem ax_cpy_n {M : ax_M} {t dp f sp n b j : Nat} (h : ¬ (b = t ∧ dp ≤ j ∧ j < dp + n)) : (ax_cpy M t dp f sp n).1 b j = M.1 b j := if_neg h
theorem ax_cpy_y {M : ax_M} {t dp f sp n j : Nat} (h : j < n) : (ax_cpy M t dp f sp n).1 t (dp + j) = M.1 f (sp + j) := by
  show (if t = t ∧ dp ≤ dp + j ∧ dp + j < dp + n then M.1 f (sp + (dp + j - dp)) else M.1 t (dp + j)) = _
  rw [if_pos ⟨rfl, by omega, by omega⟩, show dp + j - dp = j by omega]
section X99c
variable {l : Launch} {G : ax_G} {M : ax_M} {R : Nat}
theorem c_firstOf {d : Nat} (hok : lo_ok M.2) (hR : xh_R R) {k c : Nat} (hk : ck k c) : ax_Met l G kX1_firstOf d 0 0 M [av_r R, av_i (nI k), av_i (nI c)] (ax_p (av_i (M.1 (cq1 R k c).1 (cq1 R k c).2)) M) := by
  refine ax_body (by decide) (Nat.le_of_ble_eq_true rfl) ?_
  refine ax_iload_n dX1_firstOf_0 rfl ?_
  rcases (show k = 0 ∨ k = 1 ∨ k = 2 by have := hk.1; omega) with rfl | rfl | rfl
  · have hc2 := hk.2.1 rfl
    refine ax_lookup (off := 27) (tgt := 28) dX1_firstOf_1 (by decide) (by decide) (by decide) ?_
    refine ax_aload_n dX1_firstOf_28 rfl ?_
    refine ax_getKN (f := 14) (R + 6) dX1_firstOf_29 acl_5 wd_288 (by decide) rfl (xs_R_0 hR hok) (xr_R_14 hR hok) ?_
    refine ax_iload_n dX1_firstOf_32 rfl ?_
    refine ax_ialdN (c) dX1_firstOf_33 (xs_R_6 hR hok) (by decide) (by first | with_reducible rfl | assumption | exact ax_nix (by simp only [nx_0, nx_1, nx_2, nx_3, nx_4, nx_10, nx_20, nx_21, nx_100, nI_add, pk_mul] <;> rfl) (by omega) | decide) (by omega) ?_
    refine ax_iret dX1_firstOf_34 rfl ?_
    exact ⟨rfl, rfl⟩
  · have hc2 := hk.2.2 rfl
    refine ax_lookup (off := 34) (tgt := 35) dX1_firstOf_1 (by decide) (by decide) (by decide) ?_
    refine ax_aload_n dX1_firstOf_35 rfl ?_
    refine ax_getKN (f := 6) (R + 3) dX1_firstOf_36 acl_5 wd_261 (by decide) rfl (xs_R_0 hR hok) (xr_R_6 hR hok) ?_
    refine ax_iload_n dX1_firstOf_39 rfl ?_
    refine ax_ialdN (c) dX1_firstOf_40 (xs_R_3 hR hok) (by decide) (by first | with_reducible rfl | assumption | exact ax_nix (by simp only [nx_0, nx_1, nx_2, nx_3, nx_4, nx_10, nx_20, nx_21, nx_100, nI_add, pk_mul] <;> rfl) (by omega) | decide) (by omega) ?_
    refine ax_iret dX1_firstOf_41 rfl ?_
    exact ⟨rfl, rfl⟩
  · refine ax_lookup (off := 41) (tgt := 42) dX1_firstOf_1 (by decide) (by decide) (by decide) ?_
    refine ax_aload_n dX1_firstOf_42 rfl ?_
    refine ax_getIN (f := 9) dX1_firstOf_43 acl_5 wd_273 (by decide) rfl (xs_R_0 hR hok) ?_
    refine ax_iret dX1_firstOf_46 rfl ?_
    exact ⟨rfl, rfl⟩
theorem c_secondOf {d : Nat} (hok : lo_ok M.2) (hR : xh_R R) {k c : Nat} (hk : ck k c) : ax_Met l G kX1_secondOf d 0 0 M [av_r R, av_i (nI k), av_i (nI c)] (ax_p (av_i (M.1 (cq2 R k c).1 (cq2 R k c).2)) M) := by
  refine ax_body (by decide) (Nat.le_of_ble_eq_true rfl) ?_
  refine ax_iload_n dX1_secondOf_0 rfl ?_
  rcases (show k = 0 ∨ k = 1 ∨ k = 2 by have := hk.1; omega) with rfl | rfl | rfl
  · have hc2 := hk.2.1 rfl
    refine ax_lookup (off := 27) (tgt := 28) dX1_secondOf_1 (by decide) (by decide) (by decide) ?_
    refine ax_aload_n dX1_secondOf_28 rfl ?_
    refine ax_getKN (f := 15) (R + 7) dX1_secondOf_29 acl_5 wd_292 (by decide) rfl (xs_R_0 hR hok) (xr_R_15 hR hok) ?_
    refine ax_iload_n dX1_secondOf_32 rfl ?_
    refine ax_ialdN (c) dX1_secondOf_33 (xs_R_7 hR hok) (by decide) (by first | with_reducible rfl | assumption | exact ax_nix (by simp only [nx_0, nx_1, nx_2, nx_3, nx_4, nx_10, nx_20, nx_21, nx_100, nI_add, pk_mul] <;> rfl) (by omega) | decide) (by omega) ?_
    refine ax_iret dX1_secondOf_34 rfl ?_
    exact ⟨rfl, rfl⟩
  · have hc2 := hk.2.2 rfl
    refine ax_lookup (off := 34) (tgt := 35) dX1_secondOf_1 (by decide) (by decide) (by decide) ?_
    refine ax_aload_n dX1_secondOf_35 rfl ?_
    refine ax_getKN (f := 7) (R + 4) dX1_secondOf_36 acl_5 wd_265 (by decide) rfl (xs_R_0 hR hok) (xr_R_7 hR hok) ?_
    refine ax_iload_n dX1_secondOf_39 rfl ?_
    refine ax_ialdN (c) dX1_secondOf_40 (xs_R_4 hR hok) (by decide) (by first | with_reducible rfl | assumption | exact ax_nix (by simp only [nx_0, nx_1, nx_2, nx_3, nx_4, nx_10, nx_20, nx_21, nx_100, nI_add, pk_mul] <;> rfl) (by omega) | decide) (by omega) ?_
    refine ax_iret dX1_secondOf_41 rfl ?_
    exact ⟨rfl, rfl⟩
  · refine ax_lookup (off := 41) (tgt := 42) dX1_secondOf_1 (by decide) (by decide) (by decide) ?_
    refine ax_aload_n dX1_secondOf_42 rfl ?_
    refine ax_getIN (f := 10) dX1_secondOf_43 acl_5 wd_277 (by decide) rfl (xs_R_0 hR hok) ?_
    refine ax_iret dX1_secondOf_46 rfl ?_
    exact ⟨rfl, rfl⟩
theorem c_xput {d : Nat} (hok : lo_ok M.2) (hR : xh_R R) {k c : Nat} (hk : ck k c) (f s : Int32) : ax_Met l G kX1_put d 0 0 M [av_r R, av_i (nI k), av_i (nI c), av_i f, av_i s] (fun o M2 => o = .inl none ∧ M2 = mk_put M R k c f s) := by
  refine ax_body (by decide) (Nat.le_of_ble_eq_true rfl) ?_
  refine ax_iload_n dX1_put_0 rfl ?_
  rcases (show k = 0 ∨ k = 1 ∨ k = 2 by have := hk.1; omega) with rfl | rfl | rfl
  · have hc2 := hk.2.1 rfl
    refine ax_lookup (off := 27) (tgt := 28) dX1_put_1 (by decide) (by decide) (by decide) ?_
    refine ax_aload_n dX1_put_28 rfl ?_
    refine ax_getKN (f := 14) (R + 6) dX1_put_29 acl_5 wd_288 (by decide) rfl (xs_R_0 hR hok) (xr_R_14 hR hok) ?_
    refine ax_iload_n dX1_put_32 rfl ?_
    refine ax_iload_n dX1_put_33 rfl ?_
    refine ax_iastN (c) dX1_put_34 (xs_R_6 hR hok) (by decide) (by first | with_reducible rfl | assumption | exact ax_nix (by simp only [nx_0, nx_1, nx_2, nx_3, nx_4, nx_10, nx_20, nx_21, nx_100, nI_add, pk_mul] <;> rfl) (by omega) | decide) (by omega) ?_
    refine ax_aload_n dX1_put_35 rfl ?_
    refine ax_getKN (f := 15) (R + 7) dX1_put_36 acl_5 wd_292 (by decide) rfl (xs_R_0 hR hok) (xr_R_15 hR hok) ?_
    refine ax_iload_n dX1_put_39 rfl ?_
    refine ax_iload dX1_put_40 rfl ?_
    refine ax_iastN (c) dX1_put_42 (xs_R_7 hR hok) (by decide) (by first | with_reducible rfl | assumption | exact ax_nix (by simp only [nx_0, nx_1, nx_2, nx_3, nx_4, nx_10, nx_20, nx_21, nx_100, nI_add, pk_mul] <;> rfl) (by omega) | decide) (by omega) ?_
    refine ax_goto (tgt := 75) dX1_put_43 (by decide) ?_
    refine ax_vret dX1_put_75 rfl ?_
    exact ⟨rfl, rfl⟩
  · have hc2 := hk.2.2 rfl
    refine ax_lookup (off := 45) (tgt := 46) dX1_put_1 (by decide) (by decide) (by decide) ?_
    refine ax_aload_n dX1_put_46 rfl ?_
    refine ax_getKN (f := 6) (R + 3) dX1_put_47 acl_5 wd_261 (by decide) rfl (xs_R_0 hR hok) (xr_R_6 hR hok) ?_
    refine ax_iload_n dX1_put_50 rfl ?_
    refine ax_iload_n dX1_put_51 rfl ?_
    refine ax_iastN (c) dX1_put_52 (xs_R_3 hR hok) (by decide) (by first | with_reducible rfl | assumption | exact ax_nix (by simp only [nx_0, nx_1, nx_2, nx_3, nx_4, nx_10, nx_20, nx_21, nx_100, nI_add, pk_mul] <;> rfl) (by omega) | decide) (by omega) ?_
    refine ax_aload_n dX1_put_53 rfl ?_
    refine ax_getKN (f := 7) (R + 4) dX1_put_54 acl_5 wd_265 (by decide) rfl (xs_R_0 hR hok) (xr_R_7 hR hok) ?_
    refine ax_iload_n dX1_put_57 rfl ?_
    refine ax_iload dX1_put_58 rfl ?_
    refine ax_iastN (c) dX1_put_60 (xs_R_4 hR hok) (by decide) (by first | with_reducible rfl | assumption | exact ax_nix (by simp only [nx_0, nx_1, nx_2, nx_3, nx_4, nx_10, nx_20, nx_21, nx_100, nI_add, pk_mul] <;> rfl) (by omega) | decide) (by omega) ?_
    refine ax_goto (tgt := 75) dX1_put_61 (by decide) ?_
    refine ax_vret dX1_put_75 rfl ?_
    exact ⟨rfl, rfl⟩
  · refine ax_lookup (off := 63) (tgt := 64) dX1_put_1 (by decide) (by decide) (by decide) ?_
    refine ax_aload_n dX1_put_64 rfl ?_
    refine ax_iload_n dX1_put_65 rfl ?_
    refine ax_putIN (f := 9) dX1_put_66 acl_5 wd_273 (by decide) rfl rfl (ax_nfI rfl) (xs_R_0 hR hok) ?_
    refine ax_aload_n dX1_put_69 rfl ?_
    refine ax_iload dX1_put_70 rfl ?_
    refine ax_putIN (f := 10) dX1_put_72 acl_5 wd_277 (by decide) rfl rfl (ax_nfI rfl) (xs_R_0 hR hok) ?_
    refine ax_vret dX1_put_75 rfl ?_
    exact ⟨rfl, rfl⟩
theorem c_xmake (hok : lo_ok M.2) (hR : xh_R R) {n : Nat} (hn : M.1 79 4 = nI n) (hn2 : n ≤ 20) {k c : Nat} (hk : ck k c) (f s : Int32) : ax_Met l G kX1_make 1 0 0 M [av_r 79, av_r R, av_i (nI k), av_i (nI c), av_i f, av_i s] (fun o M2 => (n = 20 ∧ o = .inl (some (av_i 0)) ∧ M2 = M) ∨ (n < 20 ∧ o = .inl (some (av_i 1)) ∧ M2 = mk_put (mk_rec M R n k c) R k c f s)) := by
  have h3 := hk.1
  have hq := cq_R (k := k) (c := c) hR
  refine ax_body (by decide) (Nat.le_of_ble_eq_true rfl) ?_
  refine ax_aload_n dX1_make_0 rfl ?_
  refine ax_getI (f := 4) dX1_make_1 acl_1 wd_524 (by decide) rfl (lo_s hok 79 rfl) ?_
  refine ax_bipush (v := 20) dX1_make_4 (by decide) ?_
  rw [hn]
  refine ax_icmp_lt (tgt := 11) dX1_make_6 (by decide) (fun hc => ?_) (fun hc => ?_)
  · have hn3 : n < 20 := (nI_ltI (b := 20) (by omega) (by omega)).mp hc
    clear hc
    refine ax_aload_n dX1_make_11 rfl ?_
    refine ax_getK (f := 0) 80 dX1_make_12 acl_1 wd_520 (by decide) rfl (lo_s hok 79 rfl) (lo_r hok 71 rfl) ?_
    refine ax_aload_n dX1_make_15 rfl ?_
    refine ax_getI (f := 4) dX1_make_16 acl_1 wd_524 (by decide) rfl (lo_s hok 79 rfl) ?_
    rw [hn]
    refine ax_iload_n dX1_make_19 rfl ?_
    refine ax_iastN (n) dX1_make_20 (lo_s hok 80 rfl) (by decide) (by first | with_reducible rfl | assumption | exact ax_nix (by simp only [nx_0, nx_1, nx_2, nx_3, nx_4, nx_10, nx_20, nx_21, nx_100, nI_add, pk_mul] <;> rfl) (by omega) | decide) (by omega) ?_
    refine ax_gen (fun A1 hA1 => ?_)
    have hok : lo_ok A1.2 := by rw [hA1]; exact hok
    have e1 : A1.1 79 4 = nI n := by rw [hA1, ax_pn (by omega)]; exact hn
    refine ax_aload_n dX1_make_21 rfl ?_
    refine ax_getK (f := 1) 81 dX1_make_22 acl_1 wd_521 (by decide) rfl (lo_s hok 79 rfl) (lo_r hok 72 rfl) ?_
    refine ax_aload_n dX1_make_25 rfl ?_
    refine ax_getI (f := 4) dX1_make_26 acl_1 wd_524 (by decide) rfl (lo_s hok 79 rfl) ?_
    rw [e1]
    refine ax_iload_n dX1_make_29 rfl ?_
    refine ax_iastN (n) dX1_make_30 (lo_s hok 81 rfl) (by decide) (by first | with_reducible rfl | assumption | exact ax_nix (by simp only [nx_0, nx_1, nx_2, nx_3, nx_4, nx_10, nx_20, nx_21, nx_100, nI_add, pk_mul] <;> rfl) (by omega) | decide) (by omega) ?_
    refine ax_gen (fun A2 hA2 => ?_)
    have hok : lo_ok A2.2 := by rw [hA2]; exact hok
    have e2 : A2.1 79 4 = nI n := by rw [hA2, ax_pn (by omega)]; exact e1
    have g2 : ∀ m i, m < 80 → A2.1 m i = M.1 m i := fun m i z => by rw [hA2, ax_pn (by omega), hA1, ax_pn (by omega)]
    refine ax_aload_n dX1_make_31 rfl ?_
    refine ax_getK (f := 2) 82 dX1_make_32 acl_1 wd_522 (by decide) rfl (lo_s hok 79 rfl) (lo_r hok 73 rfl) ?_
    refine ax_aload_n dX1_make_35 rfl ?_
    refine ax_getI (f := 4) dX1_make_36 acl_1 wd_524 (by decide) rfl (lo_s hok 79 rfl) ?_
    rw [e2]
    refine ax_aload_n dX1_make_39 rfl ?_
    refine ax_iload_n dX1_make_40 rfl ?_
    refine ax_iload_n dX1_make_41 rfl ?_
    refine ax_callS (As := _) (c1 := 0) (n1 := 0) (c_firstOf (d := 0) (M := A2) hok hR hk) dX1_make_42 mX1_firstOf wd_1560 rfl (by omega) (by omega) (by omega) rfl rfl (fun _ _ h => by cases h.1) ?_
    rintro r M9 ⟨h1, h9⟩; cases h1; rw [h9]; clear h9 M9
    rw [g2 _ _ (by omega)]
    refine ax_iastN (n) dX1_make_45 (lo_s hok 82 rfl) (by decide) (by first | with_reducible rfl | assumption | exact ax_nix (by simp only [nx_0, nx_1, nx_2, nx_3, nx_4, nx_10, nx_20, nx_21, nx_100, nI_add, pk_mul] <;> rfl) (by omega) | decide) (by omega) ?_
    refine ax_gen (fun A3 hA3 => ?_)
    have hok : lo_ok A3.2 := by rw [hA3]; exact hok
    have e3 : A3.1 79 4 = nI n := by rw [hA3, ax_pn (by omega)]; exact e2
    have g3 : ∀ m i, m < 80 → A3.1 m i = M.1 m i := fun m i z => by rw [hA3, ax_pn (by omega)]; exact g2 m i z
    refine ax_aload_n dX1_make_46 rfl ?_
    refine ax_getK (f := 3) 83 dX1_make_47 acl_1 wd_523 (by decide) rfl (lo_s hok 79 rfl) (lo_r hok 74 rfl) ?_
    refine ax_aload_n dX1_make_50 rfl ?_
    refine ax_getI (f := 4) dX1_make_51 acl_1 wd_524 (by decide) rfl (lo_s hok 79 rfl) ?_
    rw [e3]
    refine ax_aload_n dX1_make_54 rfl ?_
    refine ax_iload_n dX1_make_55 rfl ?_
    refine ax_iload_n dX1_make_56 rfl ?_
    refine ax_callS (As := _) (c1 := 0) (n1 := 0) (c_secondOf (d := 0) (M := A3) hok hR hk) dX1_make_57 mX1_secondOf wd_1563 rfl (by omega) (by omega) (by omega) rfl rfl (fun _ _ h => by cases h.1) ?_
    rintro r M9 ⟨h1, h9⟩; cases h1; rw [h9]; clear h9 M9
    rw [g3 _ _ (by omega)]
    refine ax_iastN (n) dX1_make_60 (lo_s hok 83 rfl) (by decide) (by first | with_reducible rfl | assumption | exact ax_nix (by simp only [nx_0, nx_1, nx_2, nx_3, nx_4, nx_10, nx_20, nx_21, nx_100, nI_add, pk_mul] <;> rfl) (by omega) | decide) (by omega) ?_
    refine ax_gen (fun A4 hA4 => ?_)
    have hok : lo_ok A4.2 := by rw [hA4]; exact hok
    have e4 : A4.1 79 4 = nI n := by rw [hA4, ax_pn (by omega)]; exact e3
    refine ax_aload_n dX1_make_61 rfl ?_
    refine ax_dup dX1_make_62 (by first | rfl | exact ax_crf _) ?_
    refine ax_getI (f := 4) dX1_make_63 acl_1 wd_524 (by decide) rfl (lo_s hok 79 rfl) ?_
    rw [e4]
    refine ax_iconst (v := 1) dX1_make_66 (by decide) ?_
    refine ax_iadd dX1_make_67 ?_
    rw [nI_1]
    refine ax_putI (f := 4) dX1_make_68 acl_1 wd_524 (by decide) rfl rfl (ax_nfI rfl) (lo_s hok 79 rfl) ?_
    refine ax_gen (fun A5 hA5 => ?_)
    have hok : lo_ok A5.2 := by rw [hA5]; exact hok
    refine ax_aload_n dX1_make_71 rfl ?_
    refine ax_iload_n dX1_make_72 rfl ?_
    refine ax_iload_n dX1_make_73 rfl ?_
    refine ax_iload dX1_make_74 rfl ?_
    refine ax_iload dX1_make_76 rfl ?_
    refine ax_callS (As := _) (c1 := 0) (n1 := 0) (c_xput (d := 0) (M := A5) hok hR hk f s) dX1_make_78 mX1_put wd_738 rfl (by omega) (by omega) (by omega) rfl rfl (fun _ _ h => by cases h.1) ?_
    rintro v A6 ⟨q, hA6⟩
    cases q
    refine ax_iconst (v := 1) dX1_make_81 (by decide) ?_
    refine ax_zret dX1_make_82 rfl ?_ ?_
    · exact Or.inr rfl
    · exact Or.inr ⟨hn3, rfl, by rw [hA6, hA5, hA4, hA3, hA2, hA1]; rfl⟩
  · have hn3 : ¬ n < 20 := fun z => hc ((nI_ltI (b := 20) (by omega) (by omega)).mpr z)
    refine ax_iconst (v := 0) dX1_make_9 (by decide) ?_
    refine ax_zret dX1_make_10 rfl ?_ ?_
    · exact Or.inl rfl
    · exact Or.inl ⟨by omega, rfl, rfl⟩
theorem c_takeBack (hok : lo_ok M.2) (hR : xh_R R) {n : Nat} (hn : M.1 79 4 = nI n) (hn2 : n ≤ 20) {k c : Nat} (hk : 0 < n → ck k c ∧ M.1 80 (n - 1) = nI k ∧ M.1 81 (n - 1) = nI c) : ax_Met l G kX1_takeBack 1 0 0 M [av_r 79, av_r R] (fun o M2 => (n = 0 ∧ o = .inl (some (av_i 0)) ∧ M2 = M) ∨ (0 < n ∧ o = .inl (some (av_i 1)) ∧ M2 = mk_put (ax_pI M 79 4 (nI (n - 1))) R k c (M.1 82 (n - 1)) (M.1 83 (n - 1)))) := by
  refine ax_body (by decide) (Nat.le_of_ble_eq_true rfl) ?_
  refine ax_aload_n dX1_takeBack_0 rfl ?_
  refine ax_getI (f := 4) dX1_takeBack_1 acl_1 wd_524 (by decide) rfl (lo_s hok 79 rfl) ?_
  rw [hn]
  refine ax_if_gt (tgt := 9) dX1_takeBack_4 (by decide) (fun hc => ?_) (fun hc => ?_)
  · have hn3 : 0 < n := (nI_ltI (a := 0) (by omega) (by omega)).mp hc
    obtain ⟨hk1, hk2, hk3⟩ := hk hn3
    clear hc
    refine ax_aload_n dX1_takeBack_9 rfl ?_
    refine ax_dup dX1_takeBack_10 (by first | rfl | exact ax_crf _) ?_
    refine ax_getI (f := 4) dX1_takeBack_11 acl_1 wd_524 (by decide) rfl (lo_s hok 79 rfl) ?_
    rw [hn]
    refine ax_iconst (v := 1) dX1_takeBack_14 (by decide) ?_
    refine ax_isub dX1_takeBack_15 ?_
    rw [show (1 : Int32) = nI 1 from rfl, pk_sub (by omega)]
    refine ax_putI (f := 4) dX1_takeBack_16 acl_1 wd_524 (by decide) rfl rfl (ax_nfI rfl) (lo_s hok 79 rfl) ?_
    refine ax_gen (fun A1 hA1 => ?_)
    have hok : lo_ok A1.2 := by rw [hA1]; exact hok
    have e1 : A1.1 79 4 = nI (n - 1) := by rw [hA1, ax_pa]
    have g1 : ∀ m i, m ≠ 79 → A1.1 m i = M.1 m i := fun m i z => by rw [hA1, ax_pn (by omega)]
    refine ax_aload_n dX1_takeBack_19 rfl ?_
    refine ax_aload_n dX1_takeBack_20 rfl ?_
    refine ax_getK (f := 0) 80 dX1_takeBack_21 acl_1 wd_520 (by decide) rfl (lo_s hok 79 rfl) (lo_r hok 71 rfl) ?_
    refine ax_aload_n dX1_takeBack_24 rfl ?_
    refine ax_getI (f := 4) dX1_takeBack_25 acl_1 wd_524 (by decide) rfl (lo_s hok 79 rfl) ?_
    rw [e1]
    refine ax_ialdN (n - 1) dX1_takeBack_28 (lo_s hok 80 rfl) (by decide) (by first | with_reducible rfl | assumption | exact ax_nix (by simp only [nx_0, nx_1, nx_2, nx_3, nx_4, nx_10, nx_20, nx_21, nx_100, nI_add, pk_mul] <;> rfl) (by omega) | decide) (by omega) ?_
    rw [g1 _ _ (by omega), hk2]
    refine ax_aload_n dX1_takeBack_29 rfl ?_
    refine ax_getK (f := 1) 81 dX1_takeBack_30 acl_1 wd_521 (by decide) rfl (lo_s hok 79 rfl) (lo_r hok 72 rfl) ?_
    refine ax_aload_n dX1_takeBack_33 rfl ?_
    refine ax_getI (f := 4) dX1_takeBack_34 acl_1 wd_524 (by decide) rfl (lo_s hok 79 rfl) ?_
    rw [e1]
    refine ax_ialdN (n - 1) dX1_takeBack_37 (lo_s hok 81 rfl) (by decide) (by first | with_reducible rfl | assumption | exact ax_nix (by simp only [nx_0, nx_1, nx_2, nx_3, nx_4, nx_10, nx_20, nx_21, nx_100, nI_add, pk_mul] <;> rfl) (by omega) | decide) (by omega) ?_
    rw [g1 _ _ (by omega), hk3]
    refine ax_aload_n dX1_takeBack_38 rfl ?_
    refine ax_getK (f := 2) 82 dX1_takeBack_39 acl_1 wd_522 (by decide) rfl (lo_s hok 79 rfl) (lo_r hok 73 rfl) ?_
    refine ax_aload_n dX1_takeBack_42 rfl ?_
    refine ax_getI (f := 4) dX1_takeBack_43 acl_1 wd_524 (by decide) rfl (lo_s hok 79 rfl) ?_
    rw [e1]
    refine ax_ialdN (n - 1) dX1_takeBack_46 (lo_s hok 82 rfl) (by decide) (by first | with_reducible rfl | assumption | exact ax_nix (by simp only [nx_0, nx_1, nx_2, nx_3, nx_4, nx_10, nx_20, nx_21, nx_100, nI_add, pk_mul] <;> rfl) (by omega) | decide) (by omega) ?_
    rw [g1 _ _ (by omega)]
    refine ax_aload_n dX1_takeBack_47 rfl ?_
    refine ax_getK (f := 3) 83 dX1_takeBack_48 acl_1 wd_523 (by decide) rfl (lo_s hok 79 rfl) (lo_r hok 74 rfl) ?_
    refine ax_aload_n dX1_takeBack_51 rfl ?_
    refine ax_getI (f := 4) dX1_takeBack_52 acl_1 wd_524 (by decide) rfl (lo_s hok 79 rfl) ?_
    rw [e1]
    refine ax_ialdN (n - 1) dX1_takeBack_55 (lo_s hok 83 rfl) (by decide) (by first | with_reducible rfl | assumption | exact ax_nix (by simp only [nx_0, nx_1, nx_2, nx_3, nx_4, nx_10, nx_20, nx_21, nx_100, nI_add, pk_mul] <;> rfl) (by omega) | decide) (by omega) ?_
    rw [g1 _ _ (by omega)]
    refine ax_callS (As := _) (c1 := 0) (n1 := 0) (c_xput (d := 0) (M := A1) hok hR hk1 _ _) dX1_takeBack_56 mX1_put wd_738 rfl (by omega) (by omega) (by omega) rfl rfl (fun _ _ h => by cases h.1) ?_
    rintro v A6 ⟨q, hA6⟩
    cases q
    refine ax_iconst (v := 1) dX1_takeBack_59 (by decide) ?_
    refine ax_zret dX1_takeBack_60 rfl ?_ ?_
    · exact Or.inr rfl
    · exact Or.inr ⟨hn3, rfl, by rw [hA6, hA1]⟩
  · have hn3 : ¬ 0 < n := fun z => hc ((nI_ltI (a := 0) (by omega) (by omega)).mpr z)
    refine ax_iconst (v := 0) dX1_takeBack_7 (by decide) ?_
    refine ax_zret dX1_takeBack_8 rfl ?_ ?_
    · exact Or.inl rfl
    · exact Or.inl ⟨by omega, rfl, rfl⟩
theorem c_copyTo {W P a len : Nat} (hW : M.2.2.2.1 W = some (.inl (0, 106))) (hP : M.2.2.2.1 P = some (.inl (0, len))) (h : a + len ≤ 106) : ax_Met l G kX1_copyTo 1 0 0 M [av_r W, av_i (nI a), av_r P] (fun o M2 => o = .inl (some (av_i (nI (a + len)))) ∧ M2 = ax_cpy M W a P 0 len) := by
  refine ax_body (by decide) (Nat.le_of_ble_eq_true rfl) ?_
  refine ax_aload_n dX1_copyTo_0 rfl ?_
  refine ax_iconst (v := 0) dX1_copyTo_1 (by decide) ?_
  refine ax_aload_n dX1_copyTo_2 rfl ?_
  refine ax_iload_n dX1_copyTo_3 rfl ?_
  refine ax_aload_n dX1_copyTo_4 rfl ?_
  refine ax_alen dX1_copyTo_5 (by assumption) (by decide) ?_
  refine ax_acopy (sp := 0) (dp := a) (w := len) dX1_copyTo_6 wd_756 hP hW (by omega) (by omega) (by omega) (by omega) (by omega) rfl ?_
  refine ax_gen (fun A hA => ?_)
  have hP : A.2.2.2.1 P = some (.inl (0, len)) := by rw [hA]; exact hP
  refine ax_iload_n dX1_copyTo_9 rfl ?_
  refine ax_aload_n dX1_copyTo_10 rfl ?_
  refine ax_alen dX1_copyTo_11 (by assumption) (by decide) ?_
  refine ax_iadd dX1_copyTo_12 ?_
  rw [nI_add]
  refine ax_iret dX1_copyTo_13 rfl ?_
  exact ⟨rfl, hA⟩
theorem c_copyFrom {W P a len : Nat} (hW : M.2.2.2.1 W = some (.inl (0, 106))) (hP : M.2.2.2.1 P = some (.inl (0, len))) (h : a + len ≤ 106) : ax_Met l G kX1_copyFrom 1 0 0 M [av_r W, av_i (nI a), av_r P] (fun o M2 => o = .inl (some (av_i (nI (a + len)))) ∧ M2 = ax_cpy M P 0 W a len) := by
  refine ax_body (by decide) (Nat.le_of_ble_eq_true rfl) ?_
  refine ax_aload_n dX1_copyFrom_0 rfl ?_
  refine ax_iload_n dX1_copyFrom_1 rfl ?_
  refine ax_aload_n dX1_copyFrom_2 rfl ?_
  refine ax_iconst (v := 0) dX1_copyFrom_3 (by decide) ?_
  refine ax_aload_n dX1_copyFrom_4 rfl ?_
  refine ax_alen dX1_copyFrom_5 (by assumption) (by decide) ?_
  refine ax_acopy (sp := a) (dp := 0) (w := len) dX1_copyFrom_6 wd_756 hW hP (by omega) (by omega) (by omega) (by omega) (by omega) rfl ?_
  refine ax_gen (fun A hA => ?_)
  have hP : A.2.2.2.1 P = some (.inl (0, len)) := by rw [hA]; exact hP
  refine ax_iload_n dX1_copyFrom_9 rfl ?_
  refine ax_aload_n dX1_copyFrom_10 rfl ?_
  refine ax_alen dX1_copyFrom_11 (by assumption) (by decide) ?_
  refine ax_iadd dX1_copyFrom_12 ?_
  rw [nI_add]
  refine ax_iret dX1_copyFrom_13 rfl ?_
  exact ⟨rfl, hA⟩
/-- an image of the class: a row of A is what D holds -/
def im_eq (A : ax_M) (W : Nat) (D : ax_M) (R : Nat) : Prop := (∀ j, j < 2 → A.1 W (0 + j) = D.1 (R + 6) j) ∧ (∀ j, j < 2 → A.1 W (2 + j) = D.1 (R + 7) j) ∧ (∀ j, j < 10 → A.1 W (4 + j) = D.1 (R + 3) j) ∧ (∀ j, j < 10 → A.1 W (14 + j) = D.1 (R + 4) j) ∧ (∀ j, j < 20 → A.1 W (24 + j) = D.1 80 j) ∧ (∀ j, j < 20 → A.1 W (44 + j) = D.1 81 j) ∧ (∀ j, j < 20 → A.1 W (64 + j) = D.1 82 j) ∧ (∀ j, j < 20 → A.1 W (84 + j) = D.1 83 j) ∧ A.1 W 104 = D.1 R 9 ∧ A.1 W 105 = D.1 R 10
set_option maxHeartbeats 3000000 in
theorem c_keepImage (hok : lo_ok M.2) (hR : xh_R R) {v : Nat} (hv : M.1 79 7 = nI v) (hv2 : v ≤ 3) : ax_Met l G kX1_keepImage 2 0 0 M [av_r 79, av_r R] (fun o M2 => (v = 3 ∧ o = .inl (some (av_i 0)) ∧ M2 = M) ∨ (v < 3 ∧ o = .inl (some (av_i 1)) ∧ M2.2 = M.2 ∧ (∀ n i, n ≠ 85 + v → ¬ (n = 88 ∧ i = v) → ¬ (n = 79 ∧ i = 7) → M2.1 n i = M.1 n i) ∧ im_eq M2 (85 + v) M R ∧ M2.1 88 v = M.1 79 4 ∧ M2.1 79 7 = nI (v + 1))) := by
  have cR : R = 5 ∨ R = 23 := hR
  refine ax_body (by decide) (Nat.le_of_ble_eq_true rfl) ?_
  refine ax_aload_n dX1_keepImage_0 rfl ?_
  refine ax_getI (f := 7) dX1_keepImage_1 acl_1 wd_528 (by decide) rfl (lo_s hok 79 rfl) ?_
  refine ax_iconst (v := 3) dX1_keepImage_4 (by decide) ?_
  rw [hv]
  refine ax_icmp_lt (tgt := 10) dX1_keepImage_5 (by decide) (fun hc => ?_) (fun hc => ?_)
  · have hv3 : v < 3 := (nI_ltI (b := 3) (by omega) (by omega)).mp hc
    clear hc
    refine ax_aload_n dX1_keepImage_10 rfl ?_
    refine ax_getK (f := 5) 84 dX1_keepImage_11 acl_1 wd_526 (by decide) rfl (lo_s hok 79 rfl) (lo_r hok 75 rfl) ?_
    refine ax_aload_n dX1_keepImage_14 rfl ?_
    refine ax_getI (f := 7) dX1_keepImage_15 acl_1 wd_528 (by decide) rfl (lo_s hok 79 rfl) ?_
    rw [hv]
    refine ax_aaldN2 (85 + (v)) (v) dX1_keepImage_18 (lo_s hok 84 rfl) (by decide) (by first | with_reducible rfl | assumption | exact ax_nix (by simp only [nx_0, nx_1, nx_2, nx_3, nx_4, nx_10, nx_20, nx_21, nx_100, nI_add, pk_mul] <;> rfl) (by omega) | decide) (by omega) (lo_w_x_kept hok (by omega)) ?_
    refine ax_astore_n dX1_keepImage_19 (by decide) rfl ?_
    refine ax_iconst (v := 0) dX1_keepImage_20 (by decide) ?_
    refine ax_istore_n dX1_keepImage_21 (by decide) rfl ?_
    show ax_W _ _ _ _ _ _ _ _ _ [some (av_r 79), some (av_r R), some (av_r (85 + v)), some (av_i (nI 0))] _
    refine ax_gen (fun A0 hA0 => ?_)
    have hok : lo_ok A0.2 := by rw [hA0]; exact hok
    refine ax_aload_n dX1_keepImage_22 rfl ?_
    refine ax_iload_n dX1_keepImage_23 rfl ?_
    refine ax_aload_n dX1_keepImage_24 rfl ?_
    refine ax_getKN (f := 14) (R + 6) dX1_keepImage_25 acl_5 wd_288 (by decide) rfl (xs_R_0 hR hok) (xr_R_14 hR hok) ?_
    refine ax_callS (As := _) (c1 := 0) (n1 := 0) (c_copyTo (M := A0) (W := 85 + v) (P := (R + 6)) (a := 0) (len := 2) (lo_z_x_kept hok hv3) (xs_R_6 hR hok) (by omega)) dX1_keepImage_28 mX1_copyTo wd_753 rfl (by omega) (by omega) (by omega) rfl rfl (fun _ _ h => by cases h.1) ?_
    rintro o9 A1 ⟨q, hA1⟩
    cases q
    have hok : lo_ok A1.2 := by rw [hA1]; exact hok
    refine ax_istore_n dX1_keepImage_31 (by decide) rfl ?_
    show ax_W _ _ _ _ _ _ _ _ _ [some (av_r 79), some (av_r R), some (av_r (85 + v)), some (av_i (nI 2))] _
    refine ax_aload_n dX1_keepImage_32 rfl ?_
    refine ax_iload_n dX1_keepImage_33 rfl ?_
    refine ax_aload_n dX1_keepImage_34 rfl ?_
    refine ax_getKN (f := 15) (R + 7) dX1_keepImage_35 acl_5 wd_292 (by decide) rfl (xs_R_0 hR hok) (xr_R_15 hR hok) ?_
    refine ax_callS (As := _) (c1 := 0) (n1 := 0) (c_copyTo (M := A1) (W := 85 + v) (P := (R + 7)) (a := 2) (len := 2) (lo_z_x_kept hok hv3) (xs_R_7 hR hok) (by omega)) dX1_keepImage_38 mX1_copyTo wd_753 rfl (by omega) (by omega) (by omega) rfl rfl (fun _ _ h => by cases h.1) ?_
    rintro o9 A2 ⟨q, hA2⟩
    cases q
    have hok : lo_ok A2.2 := by rw [hA2]; exact hok
    refine ax_istore_n dX1_keepImage_41 (by decide) rfl ?_
    show ax_W _ _ _ _ _ _ _ _ _ [some (av_r 79), some (av_r R), some (av_r (85 + v)), some (av_i (nI 4))] _
    refine ax_aload_n dX1_keepImage_42 rfl ?_
    refine ax_iload_n dX1_keepImage_43 rfl ?_
    refine ax_aload_n dX1_keepImage_44 rfl ?_
    refine ax_getKN (f := 6) (R + 3) dX1_keepImage_45 acl_5 wd_261 (by decide) rfl (xs_R_0 hR hok) (xr_R_6 hR hok) ?_
    refine ax_callS (As := _) (c1 := 0) (n1 := 0) (c_copyTo (M := A2) (W := 85 + v) (P := (R + 3)) (a := 4) (len := 10) (lo_z_x_kept hok hv3) (xs_R_3 hR hok) (by omega)) dX1_keepImage_48 mX1_copyTo wd_753 rfl (by omega) (by omega) (by omega) rfl rfl (fun _ _ h => by cases h.1) ?_
    rintro o9 A3 ⟨q, hA3⟩
    cases q
    have hok : lo_ok A3.2 := by rw [hA3]; exact hok
    refine ax_istore_n dX1_keepImage_51 (by decide) rfl ?_
    show ax_W _ _ _ _ _ _ _ _ _ [some (av_r 79), some (av_r R), some (av_r (85 + v)), some (av_i (nI 14))] _
    refine ax_aload_n dX1_keepImage_52 rfl ?_
    refine ax_iload_n dX1_keepImage_53 rfl ?_
    refine ax_aload_n dX1_keepImage_54 rfl ?_
    refine ax_getKN (f := 7) (R + 4) dX1_keepImage_55 acl_5 wd_265 (by decide) rfl (xs_R_0 hR hok) (xr_R_7 hR hok) ?_
    refine ax_callS (As := _) (c1 := 0) (n1 := 0) (c_copyTo (M := A3) (W := 85 + v) (P := (R + 4)) (a := 14) (len := 10) (lo_z_x_kept hok hv3) (xs_R_4 hR hok) (by omega)) dX1_keepImage_58 mX1_copyTo wd_753 rfl (by omega) (by omega) (by omega) rfl rfl (fun _ _ h => by cases h.1) ?_
    rintro o9 A4 ⟨q, hA4⟩
    cases q
    have hok : lo_ok A4.2 := by rw [hA4]; exact hok
    refine ax_istore_n dX1_keepImage_61 (by decide) rfl ?_
    show ax_W _ _ _ _ _ _ _ _ _ [some (av_r 79), some (av_r R), some (av_r (85 + v)), some (av_i (nI 24))] _
    refine ax_aload_n dX1_keepImage_62 rfl ?_
    refine ax_iload_n dX1_keepImage_63 rfl ?_
    refine ax_aload_n dX1_keepImage_64 rfl ?_
    refine ax_getK (f := 0) 80 dX1_keepImage_65 acl_1 wd_520 (by decide) rfl (lo_s hok 79 rfl) (lo_r hok 71 rfl) ?_
    refine ax_callS (As := _) (c1 := 0) (n1 := 0) (c_copyTo (M := A4) (W := 85 + v) (P := 80) (a := 24) (len := 20) (lo_z_x_kept hok hv3) (lo_s hok 80 rfl) (by omega)) dX1_keepImage_68 mX1_copyTo wd_753 rfl (by omega) (by omega) (by omega) rfl rfl (fun _ _ h => by cases h.1) ?_
    rintro o9 A5 ⟨q, hA5⟩
    cases q
    have hok : lo_ok A5.2 := by rw [hA5]; exact hok
    refine ax_istore_n dX1_keepImage_71 (by decide) rfl ?_
    show ax_W _ _ _ _ _ _ _ _ _ [some (av_r 79), some (av_r R), some (av_r (85 + v)), some (av_i (nI 44))] _
    refine ax_aload_n dX1_keepImage_72 rfl ?_
    refine ax_iload_n dX1_keepImage_73 rfl ?_
    refine ax_aload_n dX1_keepImage_74 rfl ?_
    refine ax_getK (f := 1) 81 dX1_keepImage_75 acl_1 wd_521 (by decide) rfl (lo_s hok 79 rfl) (lo_r hok 72 rfl) ?_
    refine ax_callS (As := _) (c1 := 0) (n1 := 0) (c_copyTo (M := A5) (W := 85 + v) (P := 81) (a := 44) (len := 20) (lo_z_x_kept hok hv3) (lo_s hok 81 rfl) (by omega)) dX1_keepImage_78 mX1_copyTo wd_753 rfl (by omega) (by omega) (by omega) rfl rfl (fun _ _ h => by cases h.1) ?_
    rintro o9 A6 ⟨q, hA6⟩
    cases q
    have hok : lo_ok A6.2 := by rw [hA6]; exact hok
    refine ax_istore_n dX1_keepImage_81 (by decide) rfl ?_
    show ax_W _ _ _ _ _ _ _ _ _ [some (av_r 79), some (av_r R), some (av_r (85 + v)), some (av_i (nI 64))] _
    refine ax_aload_n dX1_keepImage_82 rfl ?_
    refine ax_iload_n dX1_keepImage_83 rfl ?_
    refine ax_aload_n dX1_keepImage_84 rfl ?_
    refine ax_getK (f := 2) 82 dX1_keepImage_85 acl_1 wd_522 (by decide) rfl (lo_s hok 79 rfl) (lo_r hok 73 rfl) ?_
    refine ax_callS (As := _) (c1 := 0) (n1 := 0) (c_copyTo (M := A6) (W := 85 + v) (P := 82) (a := 64) (len := 20) (lo_z_x_kept hok hv3) (lo_s hok 82 rfl) (by omega)) dX1_keepImage_88 mX1_copyTo wd_753 rfl (by omega) (by omega) (by omega) rfl rfl (fun _ _ h => by cases h.1) ?_
    rintro o9 A7 ⟨q, hA7⟩
    cases q
    have hok : lo_ok A7.2 := by rw [hA7]; exact hok
    refine ax_istore_n dX1_keepImage_91 (by decide) rfl ?_
    show ax_W _ _ _ _ _ _ _ _ _ [some (av_r 79), some (av_r R), some (av_r (85 + v)), some (av_i (nI 84))] _
    refine ax_aload_n dX1_keepImage_92 rfl ?_
    refine ax_iload_n dX1_keepImage_93 rfl ?_
    refine ax_aload_n dX1_keepImage_94 rfl ?_
    refine ax_getK (f := 3) 83 dX1_keepImage_95 acl_1 wd_523 (by decide) rfl (lo_s hok 79 rfl) (lo_r hok 74 rfl) ?_
    refine ax_callS (As := _) (c1 := 0) (n1 := 0) (c_copyTo (M := A7) (W := 85 + v) (P := 83) (a := 84) (len := 20) (lo_z_x_kept hok hv3) (lo_s hok 83 rfl) (by omega)) dX1_keepImage_98 mX1_copyTo wd_753 rfl (by omega) (by omega) (by omega) rfl rfl (fun _ _ h => by cases h.1) ?_
    rintro o9 A8 ⟨q, hA8⟩
    cases q
    have hok : lo_ok A8.2 := by rw [hA8]; exact hok
    refine ax_istore_n dX1_keepImage_101 (by decide) rfl ?_
    show ax_W _ _ _ _ _ _ _ _ _ [some (av_r 79), some (av_r R), some (av_r (85 + v)), some (av_i (nI 104))] _
    have g8 : ∀ n i, n ≠ 85 + v → A8.1 n i = M.1 n i := fun n i z => by
      rw [hA8, ax_cpy_n (by omega), hA7, ax_cpy_n (by omega), hA6, ax_cpy_n (by omega), hA5, ax_cpy_n (by omega), hA4, ax_cpy_n (by omega), hA3, ax_cpy_n (by omega), hA2, ax_cpy_n (by omega), hA1, ax_cpy_n (by omega), hA0]
    refine ax_aload_n dX1_keepImage_102 rfl ?_
    refine ax_iload_n dX1_keepImage_103 rfl ?_
    refine ax_aload_n dX1_keepImage_104 rfl ?_
    refine ax_getIN (f := 9) dX1_keepImage_105 acl_5 wd_273 (by decide) rfl (xs_R_0 hR hok) ?_
    rw [g8 _ _ (by omega)]
    refine ax_iastN (104) dX1_keepImage_108 (by first | assumption | exact lo_tz hok (by omega) (by omega) | exact lo_z_m_wet hok (by omega) | exact lo_z_m_readWet hok (by omega) | exact lo_z_m_law hok (by omega) | exact lo_z_m_book hok (by omega) | exact lo_z_m_readBook hok (by omega) | exact lo_z_m_before hok (by omega) | exact lo_z_m_kept hok (by omega) | exact lo_z_m_seenAt hok (by omega) | exact lo_z_m_seenIn hok (by omega) | exact lo_z_m_t0 hok (by omega) | exact lo_z_m_t1 hok (by omega) | exact lo_z_m_c0 hok (by omega) | exact lo_z_m_c1 hok (by omega) | exact lo_z_x_kept hok (by omega)) (by decide) (by first | with_reducible rfl | assumption | exact ax_nix (by simp only [nx_0, nx_1, nx_2, nx_3, nx_4, nx_10, nx_20, nx_21, nx_100, nI_add, pk_mul] <;> rfl) (by omega) | decide) (by omega) ?_
    refine ax_gen (fun B1 hB1 => ?_)
    have hok : lo_ok B1.2 := by rw [hB1]; exact hok
    refine ax_aload_n dX1_keepImage_109 rfl ?_
    refine ax_iload_n dX1_keepImage_110 rfl ?_
    refine ax_iconst (v := 1) dX1_keepImage_111 (by decide) ?_
    refine ax_iadd dX1_keepImage_112 ?_
    refine ax_aload_n dX1_keepImage_113 rfl ?_
    refine ax_getIN (f := 10) dX1_keepImage_114 acl_5 wd_277 (by decide) rfl (xs_R_0 hR hok) ?_
    rw [nI_1, hB1, ax_pn (by omega), ← hB1, g8 _ _ (by omega)]
    refine ax_iastN (105) dX1_keepImage_117 (by first | assumption | exact lo_tz hok (by omega) (by omega) | exact lo_z_m_wet hok (by omega) | exact lo_z_m_readWet hok (by omega) | exact lo_z_m_law hok (by omega) | exact lo_z_m_book hok (by omega) | exact lo_z_m_readBook hok (by omega) | exact lo_z_m_before hok (by omega) | exact lo_z_m_kept hok (by omega) | exact lo_z_m_seenAt hok (by omega) | exact lo_z_m_seenIn hok (by omega) | exact lo_z_m_t0 hok (by omega) | exact lo_z_m_t1 hok (by omega) | exact lo_z_m_c0 hok (by omega) | exact lo_z_m_c1 hok (by omega) | exact lo_z_x_kept hok (by omega)) (by decide) (by first | with_reducible rfl | assumption | exact ax_nix (by simp only [nx_0, nx_1, nx_2, nx_3, nx_4, nx_10, nx_20, nx_21, nx_100, nI_add, pk_mul] <;> rfl) (by omega) | decide) (by omega) ?_
    refine ax_gen (fun B2 hB2 => ?_)
    have hok : lo_ok B2.2 := by rw [hB2]; exact hok
    have g2 : ∀ n i, n ≠ 85 + v → B2.1 n i = M.1 n i := fun n i z => by
      rw [hB2, ax_pn (by omega), hB1, ax_pn (by omega)]; exact g8 n i z
    refine ax_aload_n dX1_keepImage_118 rfl ?_
    refine ax_getK (f := 6) 88 dX1_keepImage_119 acl_1 wd_527 (by decide) rfl (lo_s hok 79 rfl) (lo_r hok 76 rfl) ?_
    refine ax_aload_n dX1_keepImage_122 rfl ?_
    refine ax_getI (f := 7) dX1_keepImage_123 acl_1 wd_528 (by decide) rfl (lo_s hok 79 rfl) ?_
    rw [g2 79 7 (by omega), hv]
    refine ax_aload_n dX1_keepImage_126 rfl ?_
    refine ax_getI (f := 4) dX1_keepImage_127 acl_1 wd_524 (by decide) rfl (lo_s hok 79 rfl) ?_
    rw [g2 79 4 (by omega)]
    refine ax_iastN (v) dX1_keepImage_130 (lo_s hok 88 rfl) (by decide) (by first | with_reducible rfl | assumption | exact ax_nix (by simp only [nx_0, nx_1, nx_2, nx_3, nx_4, nx_10, nx_20, nx_21, nx_100, nI_add, pk_mul] <;> rfl) (by omega) | decide) (by omega) ?_
    refine ax_gen (fun B3 hB3 => ?_)
    have hok : lo_ok B3.2 := by rw [hB3]; exact hok
    have e3 : B3.1 79 7 = nI v := by rw [hB3, ax_pn (by omega), g2 79 7 (by omega), hv]
    refine ax_aload_n dX1_keepImage_131 rfl ?_
    refine ax_dup dX1_keepImage_132 (by first | rfl | exact ax_crf _) ?_
    refine ax_getI (f := 7) dX1_keepImage_133 acl_1 wd_528 (by decide) rfl (lo_s hok 79 rfl) ?_
    rw [e3]
    refine ax_iconst (v := 1) dX1_keepImage_136 (by decide) ?_
    refine ax_iadd dX1_keepImage_137 ?_
    rw [nI_1]
    refine ax_putI (f := 7) dX1_keepImage_138 acl_1 wd_528 (by decide) rfl rfl (ax_nfI rfl) (lo_s hok 79 rfl) ?_
    refine ax_iconst (v := 1) dX1_keepImage_141 (by decide) ?_
    refine ax_zret dX1_keepImage_142 rfl ?_ ?_
    · exact Or.inr rfl
    · refine Or.inr ⟨hv3, rfl, ?_, fun n i z1 z2 z3 => ?_, ?_, ?_, ?_⟩
      · show B3.2 = _
        rw [hB3]; show B2.2 = _
        rw [hB2]; show B1.2 = _
        rw [hB1]; show A8.2 = _
        rw [hA8]; show A7.2 = _
        rw [hA7]; show A6.2 = _
        rw [hA6]; show A5.2 = _
        rw [hA5]; show A4.2 = _
        rw [hA4]; show A3.2 = _
        rw [hA3]; show A2.2 = _
        rw [hA2]; show A1.2 = _
        rw [hA1]; show A0.2 = _
        rw [hA0]
      · rw [ax_pn (by omega), hB3, ax_pn (by omega)]; exact g2 n i z1
      · have top : ∀ j, (ax_pI B3 79 7 (nI (v + 1))).1 (85 + v) j = B2.1 (85 + v) j := fun j => by rw [ax_pn (by omega), hB3, ax_pn (by omega)]
        have low : ∀ j, j < 104 → (ax_pI B3 79 7 (nI (v + 1))).1 (85 + v) j = A8.1 (85 + v) j := fun j hj => by rw [top, hB2, ax_pn (by omega), hB1, ax_pn (by omega)]
        refine ⟨?_, ?_, ?_, ?_, ?_, ?_, ?_, ?_, ?_, ?_⟩
        · intro j hj; rw [low _ (by omega), hA8, ax_cpy_n (by omega), hA7, ax_cpy_n (by omega), hA6, ax_cpy_n (by omega), hA5, ax_cpy_n (by omega), hA4, ax_cpy_n (by omega), hA3, ax_cpy_n (by omega), hA2, ax_cpy_n (by omega), hA1, ax_cpy_y hj, Nat.zero_add, hA0]
        · intro j hj; rw [low _ (by omega), hA8, ax_cpy_n (by omega), hA7, ax_cpy_n (by omega), hA6, ax_cpy_n (by omega), hA5, ax_cpy_n (by omega), hA4, ax_cpy_n (by omega), hA3, ax_cpy_n (by omega), hA2, ax_cpy_y hj, Nat.zero_add, hA1, ax_cpy_n (by omega), hA0]
        · intro j hj; rw [low _ (by omega), hA8, ax_cpy_n (by omega), hA7, ax_cpy_n (by omega), hA6, ax_cpy_n (by omega), hA5, ax_cpy_n (by omega), hA4, ax_cpy_n (by omega), hA3, ax_cpy_y hj, Nat.zero_add, hA2, ax_cpy_n (by omega), hA1, ax_cpy_n (by omega), hA0]
        · intro j hj; rw [low _ (by omega), hA8, ax_cpy_n (by omega), hA7, ax_cpy_n (by omega), hA6, ax_cpy_n (by omega), hA5, ax_cpy_n (by omega), hA4, ax_cpy_y hj, Nat.zero_add, hA3, ax_cpy_n (by omega), hA2, ax_cpy_n (by omega), hA1, ax_cpy_n (by omega), hA0]
        · intro j hj; rw [low _ (by omega), hA8, ax_cpy_n (by omega), hA7, ax_cpy_n (by omega), hA6, ax_cpy_n (by omega), hA5, ax_cpy_y hj, Nat.zero_add, hA4, ax_cpy_n (by omega), hA3, ax_cpy_n (by omega), hA2, ax_cpy_n (by omega), hA1, ax_cpy_n (by omega), hA0]
        · intro j hj; rw [low _ (by omega), hA8, ax_cpy_n (by omega), hA7, ax_cpy_n (by omega), hA6, ax_cpy_y hj, Nat.zero_add, hA5, ax_cpy_n (by omega), hA4, ax_cpy_n (by omega), hA3, ax_cpy_n (by omega), hA2, ax_cpy_n (by omega), hA1, ax_cpy_n (by omega), hA0]
        · intro j hj; rw [low _ (by omega), hA8, ax_cpy_n (by omega), hA7, ax_cpy_y hj, Nat.zero_add, hA6, ax_cpy_n (by omega), hA5, ax_cpy_n (by omega), hA4, ax_cpy_n (by omega), hA3, ax_cpy_n (by omega), hA2, ax_cpy_n (by omega), hA1, ax_cpy_n (by omega), hA0]
        · intro j hj; rw [low _ (by omega), hA8, ax_cpy_y hj, Nat.zero_add, hA7, ax_cpy_n (by omega), hA6, ax_cpy_n (by omega), hA5, ax_cpy_n (by omega), hA4, ax_cpy_n (by omega), hA3, ax_cpy_n (by omega), hA2, ax_cpy_n (by omega), hA1, ax_cpy_n (by omega), hA0]
        · rw [top, hB2, ax_pn (by omega), hB1, ax_pa]
        · rw [top, hB2, ax_pa]
      · rw [ax_pn (by omega), hB3, ax_pa]
      · exact ax_pa _ _ _ _
  · have hv3 : ¬ v < 3 := fun z => hc ((nI_ltI (b := 3) (by omega) (by omega)).mpr z)
    refine ax_iconst (v := 0) dX1_keepImage_8 (by decide) ?_
    refine ax_zret dX1_keepImage_9 rfl ?_ ?_
    · exact Or.inl rfl
    · exact Or.inl ⟨by omega, rfl, rfl⟩
set_option maxHeartbeats 3000000 in
theorem c_bringBack (hok : lo_ok M.2) (hR : xh_R R) {v : Nat} (hv : M.1 79 7 = nI v) (hv2 : v ≤ 3) : ax_Met l G kX1_bringBack 2 0 0 M [av_r 79, av_r R] (fun o M2 => (v = 0 ∧ o = .inl (some (av_i 0)) ∧ M2 = M) ∨ (0 < v ∧ o = .inl (some (av_i 1)) ∧ M2.2 = M.2 ∧ (∀ n i, ¬ (n = 79 ∧ (i = 4 ∨ i = 7)) → ¬ (80 ≤ n ∧ n ≤ 83) → ¬ (n = R ∧ (i = 9 ∨ i = 10)) → n ≠ R + 3 → n ≠ R + 4 → n ≠ R + 6 → n ≠ R + 7 → M2.1 n i = M.1 n i) ∧ im_eq M (84 + v) M2 R ∧ M2.1 79 4 = M.1 88 (v - 1) ∧ M2.1 79 7 = nI (v - 1))) := by
  have cR : R = 5 ∨ R = 23 := hR
  refine ax_body (by decide) (Nat.le_of_ble_eq_true rfl) ?_
  refine ax_aload_n dX1_bringBack_0 rfl ?_
  refine ax_getI (f := 7) dX1_bringBack_1 acl_1 wd_528 (by decide) rfl (lo_s hok 79 rfl) ?_
  rw [hv]
  refine ax_if_gt (tgt := 9) dX1_bringBack_4 (by decide) (fun hc => ?_) (fun hc => ?_)
  · have hv3 : 0 < v := (nI_ltI (a := 0) (by omega) (by omega)).mp hc
    clear hc
    obtain ⟨u, rfl⟩ : ∃ u, v = u + 1 := ⟨v - 1, by omega⟩
    rw [show u + 1 - 1 = u by omega, show 84 + (u + 1) = 85 + u by omega]
    have hu3 : u < 3 := by omega
    refine ax_aload_n dX1_bringBack_9 rfl ?_
    refine ax_dup dX1_bringBack_10 (by first | rfl | exact ax_crf _) ?_
    refine ax_getI (f := 7) dX1_bringBack_11 acl_1 wd_528 (by decide) rfl (lo_s hok 79 rfl) ?_
    rw [hv]
    refine ax_iconst (v := 1) dX1_bringBack_14 (by decide) ?_
    refine ax_isub dX1_bringBack_15 ?_
    rw [show (1 : Int32) = nI 1 from rfl, pk_sub (by omega), show u + 1 - 1 = u by omega]
    refine ax_putI (f := 7) dX1_bringBack_16 acl_1 wd_528 (by decide) rfl rfl (ax_nfI rfl) (lo_s hok 79 rfl) ?_
    refine ax_gen (fun A0 hA0 => ?_)
    have hok : lo_ok A0.2 := by rw [hA0]; exact hok
    have e0 : A0.1 79 7 = nI u := by rw [hA0, ax_pa]
    refine ax_aload_n dX1_bringBack_19 rfl ?_
    refine ax_getK (f := 5) 84 dX1_bringBack_20 acl_1 wd_526 (by decide) rfl (lo_s hok 79 rfl) (lo_r hok 75 rfl) ?_
    refine ax_aload_n dX1_bringBack_23 rfl ?_
    refine ax_getI (f := 7) dX1_bringBack_24 acl_1 wd_528 (by decide) rfl (lo_s hok 79 rfl) ?_
    rw [e0]
    refine ax_aaldN2 (85 + (u)) (u) dX1_bringBack_27 (lo_s hok 84 rfl) (by decide) (by first | with_reducible rfl | assumption | exact ax_nix (by simp only [nx_0, nx_1, nx_2, nx_3, nx_4, nx_10, nx_20, nx_21, nx_100, nI_add, pk_mul] <;> rfl) (by omega) | decide) (by omega) (lo_w_x_kept hok (by omega)) ?_
    refine ax_astore_n dX1_bringBack_28 (by decide) rfl ?_
    refine ax_iconst (v := 0) dX1_bringBack_29 (by decide) ?_
    refine ax_istore_n dX1_bringBack_30 (by decide) rfl ?_
    show ax_W _ _ _ _ _ _ _ _ _ [some (av_r 79), some (av_r R), some (av_r (85 + u)), some (av_i (nI 0))] _
    refine ax_aload_n dX1_bringBack_31 rfl ?_
    refine ax_iload_n dX1_bringBack_32 rfl ?_
    refine ax_aload_n dX1_bringBack_33 rfl ?_
    refine ax_getKN (f := 14) (R + 6) dX1_bringBack_34 acl_5 wd_288 (by decide) rfl (xs_R_0 hR hok) (xr_R_14 hR hok) ?_
    refine ax_callS (As := _) (c1 := 0) (n1 := 0) (c_copyFrom (M := A0) (W := 85 + u) (P := (R + 6)) (a := 0) (len := 2) (lo_z_x_kept hok hu3) (xs_R_6 hR hok) (by omega)) dX1_bringBack_37 mX1_copyFrom wd_767 rfl (by omega) (by omega) (by omega) rfl rfl (fun _ _ h => by cases h.1) ?_
    rintro o9 A1 ⟨q, hA1⟩
    cases q
    have hok : lo_ok A1.2 := by rw [hA1]; exact hok
    refine ax_istore_n dX1_bringBack_40 (by decide) rfl ?_
    show ax_W _ _ _ _ _ _ _ _ _ [some (av_r 79), some (av_r R), some (av_r (85 + u)), some (av_i (nI 2))] _
    refine ax_aload_n dX1_bringBack_41 rfl ?_
    refine ax_iload_n dX1_bringBack_42 rfl ?_
    refine ax_aload_n dX1_bringBack_43 rfl ?_
    refine ax_getKN (f := 15) (R + 7) dX1_bringBack_44 acl_5 wd_292 (by decide) rfl (xs_R_0 hR hok) (xr_R_15 hR hok) ?_
    refine ax_callS (As := _) (c1 := 0) (n1 := 0) (c_copyFrom (M := A1) (W := 85 + u) (P := (R + 7)) (a := 2) (len := 2) (lo_z_x_kept hok hu3) (xs_R_7 hR hok) (by omega)) dX1_bringBack_47 mX1_copyFrom wd_767 rfl (by omega) (by omega) (by omega) rfl rfl (fun _ _ h => by cases h.1) ?_
    rintro o9 A2 ⟨q, hA2⟩
    cases q
    have hok : lo_ok A2.2 := by rw [hA2]; exact hok
    refine ax_istore_n dX1_bringBack_50 (by decide) rfl ?_
    show ax_W _ _ _ _ _ _ _ _ _ [some (av_r 79), some (av_r R), some (av_r (85 + u)), some (av_i (nI 4))] _
    refine ax_aload_n dX1_bringBack_51 rfl ?_
    refine ax_iload_n dX1_bringBack_52 rfl ?_
    refine ax_aload_n dX1_bringBack_53 rfl ?_
    refine ax_getKN (f := 6) (R + 3) dX1_bringBack_54 acl_5 wd_261 (by decide) rfl (xs_R_0 hR hok) (xr_R_6 hR hok) ?_
    refine ax_callS (As := _) (c1 := 0) (n1 := 0) (c_copyFrom (M := A2) (W := 85 + u) (P := (R + 3)) (a := 4) (len := 10) (lo_z_x_kept hok hu3) (xs_R_3 hR hok) (by omega)) dX1_bringBack_57 mX1_copyFrom wd_767 rfl (by omega) (by omega) (by omega) rfl rfl (fun _ _ h => by cases h.1) ?_
    rintro o9 A3 ⟨q, hA3⟩
    cases q
    have hok : lo_ok A3.2 := by rw [hA3]; exact hok
    refine ax_istore_n dX1_bringBack_60 (by decide) rfl ?_
    show ax_W _ _ _ _ _ _ _ _ _ [some (av_r 79), some (av_r R), some (av_r (85 + u)), some (av_i (nI 14))] _
    refine ax_aload_n dX1_bringBack_61 rfl ?_
    refine ax_iload_n dX1_bringBack_62 rfl ?_
    refine ax_aload_n dX1_bringBack_63 rfl ?_
    refine ax_getKN (f := 7) (R + 4) dX1_bringBack_64 acl_5 wd_265 (by decide) rfl (xs_R_0 hR hok) (xr_R_7 hR hok) ?_
    refine ax_callS (As := _) (c1 := 0) (n1 := 0) (c_copyFrom (M := A3) (W := 85 + u) (P := (R + 4)) (a := 14) (len := 10) (lo_z_x_kept hok hu3) (xs_R_4 hR hok) (by omega)) dX1_bringBack_67 mX1_copyFrom wd_767 rfl (by omega) (by omega) (by omega) rfl rfl (fun _ _ h => by cases h.1) ?_
    rintro o9 A4 ⟨q, hA4⟩
    cases q
    have hok : lo_ok A4.2 := by rw [hA4]; exact hok
    refine ax_istore_n dX1_bringBack_70 (by decide) rfl ?_
    show ax_W _ _ _ _ _ _ _ _ _ [some (av_r 79), some (av_r R), some (av_r (85 + u)), some (av_i (nI 24))] _
    refine ax_aload_n dX1_bringBack_71 rfl ?_
    refine ax_iload_n dX1_bringBack_72 rfl ?_
    refine ax_aload_n dX1_bringBack_73 rfl ?_
    refine ax_getK (f := 0) 80 dX1_bringBack_74 acl_1 wd_520 (by decide) rfl (lo_s hok 79 rfl) (lo_r hok 71 rfl) ?_
    refine ax_callS (As := _) (c1 := 0) (n1 := 0) (c_copyFrom (M := A4) (W := 85 + u) (P := 80) (a := 24) (len := 20) (lo_z_x_kept hok hu3) (lo_s hok 80 rfl) (by omega)) dX1_bringBack_77 mX1_copyFrom wd_767 rfl (by omega) (by omega) (by omega) rfl rfl (fun _ _ h => by cases h.1) ?_
    rintro o9 A5 ⟨q, hA5⟩
    cases q
    have hok : lo_ok A5.2 := by rw [hA5]; exact hok
    refine ax_istore_n dX1_bringBack_80 (by decide) rfl ?_
    show ax_W _ _ _ _ _ _ _ _ _ [some (av_r 79), some (av_r R), some (av_r (85 + u)), some (av_i (nI 44))] _
    refine ax_aload_n dX1_bringBack_81 rfl ?_
    refine ax_iload_n dX1_bringBack_82 rfl ?_
    refine ax_aload_n dX1_bringBack_83 rfl ?_
    refine ax_getK (f := 1) 81 dX1_bringBack_84 acl_1 wd_521 (by decide) rfl (lo_s hok 79 rfl) (lo_r hok 72 rfl) ?_
    refine ax_callS (As := _) (c1 := 0) (n1 := 0) (c_copyFrom (M := A5) (W := 85 + u) (P := 81) (a := 44) (len := 20) (lo_z_x_kept hok hu3) (lo_s hok 81 rfl) (by omega)) dX1_bringBack_87 mX1_copyFrom wd_767 rfl (by omega) (by omega) (by omega) rfl rfl (fun _ _ h => by cases h.1) ?_
    rintro o9 A6 ⟨q, hA6⟩
    cases q
    have hok : lo_ok A6.2 := by rw [hA6]; exact hok
    refine ax_istore_n dX1_bringBack_90 (by decide) rfl ?_
    show ax_W _ _ _ _ _ _ _ _ _ [some (av_r 79), some (av_r R), some (av_r (85 + u)), some (av_i (nI 64))] _
    refine ax_aload_n dX1_bringBack_91 rfl ?_
    refine ax_iload_n dX1_bringBack_92 rfl ?_
    refine ax_aload_n dX1_bringBack_93 rfl ?_
    refine ax_getK (f := 2) 82 dX1_bringBack_94 acl_1 wd_522 (by decide) rfl (lo_s hok 79 rfl) (lo_r hok 73 rfl) ?_
    refine ax_callS (As := _) (c1 := 0) (n1 := 0) (c_copyFrom (M := A6) (W := 85 + u) (P := 82) (a := 64) (len := 20) (lo_z_x_kept hok hu3) (lo_s hok 82 rfl) (by omega)) dX1_bringBack_97 mX1_copyFrom wd_767 rfl (by omega) (by omega) (by omega) rfl rfl (fun _ _ h => by cases h.1) ?_
    rintro o9 A7 ⟨q, hA7⟩
    cases q
    have hok : lo_ok A7.2 := by rw [hA7]; exact hok
    refine ax_istore_n dX1_bringBack_100 (by decide) rfl ?_
    show ax_W _ _ _ _ _ _ _ _ _ [some (av_r 79), some (av_r R), some (av_r (85 + u)), some (av_i (nI 84))] _
    refine ax_aload_n dX1_bringBack_101 rfl ?_
    refine ax_iload_n dX1_bringBack_102 rfl ?_
    refine ax_aload_n dX1_bringBack_103 rfl ?_
    refine ax_getK (f := 3) 83 dX1_bringBack_104 acl_1 wd_523 (by decide) rfl (lo_s hok 79 rfl) (lo_r hok 74 rfl) ?_
    refine ax_callS (As := _) (c1 := 0) (n1 := 0) (c_copyFrom (M := A7) (W := 85 + u) (P := 83) (a := 84) (len := 20) (lo_z_x_kept hok hu3) (lo_s hok 83 rfl) (by omega)) dX1_bringBack_107 mX1_copyFrom wd_767 rfl (by omega) (by omega) (by omega) rfl rfl (fun _ _ h => by cases h.1) ?_
    rintro o9 A8 ⟨q, hA8⟩
    cases q
    have hok : lo_ok A8.2 := by rw [hA8]; exact hok
    refine ax_istore_n dX1_bringBack_110 (by decide) rfl ?_
    show ax_W _ _ _ _ _ _ _ _ _ [some (av_r 79), some (av_r R), some (av_r (85 + u)), some (av_i (nI 104))] _
    have g8 : ∀ n i, ¬ (n = 79 ∧ i = 7) → n ≠ R + 6 → n ≠ R + 7 → n ≠ R + 3 → n ≠ R + 4 → ¬ (80 ≤ n ∧ n ≤ 83) → A8.1 n i = M.1 n i := fun n i z1 z2 z3 z4 z5 z6 => by
      rw [hA8, ax_cpy_n (by omega), hA7, ax_cpy_n (by omega), hA6, ax_cpy_n (by omega), hA5, ax_cpy_n (by omega), hA4, ax_cpy_n (by omega), hA3, ax_cpy_n (by omega), hA2, ax_cpy_n (by omega), hA1, ax_cpy_n (by omega), hA0, ax_pn (by omega)]
    refine ax_aload_n dX1_bringBack_111 rfl ?_
    refine ax_aload_n dX1_bringBack_112 rfl ?_
    refine ax_iload_n dX1_bringBack_113 rfl ?_
    refine ax_ialdN (104) dX1_bringBack_114 (by first | assumption | exact lo_tz hok (by omega) (by omega) | exact lo_z_m_wet hok (by omega) | exact lo_z_m_readWet hok (by omega) | exact lo_z_m_law hok (by omega) | exact lo_z_m_book hok (by omega) | exact lo_z_m_readBook hok (by omega) | exact lo_z_m_before hok (by omega) | exact lo_z_m_kept hok (by omega) | exact lo_z_m_seenAt hok (by omega) | exact lo_z_m_seenIn hok (by omega) | exact lo_z_m_t0 hok (by omega) | exact lo_z_m_t1 hok (by omega) | exact lo_z_m_c0 hok (by omega) | exact lo_z_m_c1 hok (by omega) | exact lo_z_x_kept hok (by omega)) (by decide) (by first | with_reducible rfl | assumption | exact ax_nix (by simp only [nx_0, nx_1, nx_2, nx_3, nx_4, nx_10, nx_20, nx_21, nx_100, nI_add, pk_mul] <;> rfl) (by omega) | decide) (by omega) ?_
    rw [g8 (85 + u) _ (by omega) (by omega) (by omega) (by omega) (by omega) (by omega)]
    refine ax_putIN (f := 9) dX1_bringBack_115 acl_5 wd_273 (by decide) rfl rfl (ax_nfI rfl) (xs_R_0 hR hok) ?_
    refine ax_gen (fun B1 hB1 => ?_)
    have hok : lo_ok B1.2 := by rw [hB1]; exact hok
    refine ax_aload_n dX1_bringBack_118 rfl ?_
    refine ax_aload_n dX1_bringBack_119 rfl ?_
    refine ax_iload_n dX1_bringBack_120 rfl ?_
    refine ax_iconst (v := 1) dX1_bringBack_121 (by decide) ?_
    refine ax_iadd dX1_bringBack_122 ?_
    rw [nI_1]
    refine ax_ialdN (105) dX1_bringBack_123 (by first | assumption | exact lo_tz hok (by omega) (by omega) | exact lo_z_m_wet hok (by omega) | exact lo_z_m_readWet hok (by omega) | exact lo_z_m_law hok (by omega) | exact lo_z_m_book hok (by omega) | exact lo_z_m_readBook hok (by omega) | exact lo_z_m_before hok (by omega) | exact lo_z_m_kept hok (by omega) | exact lo_z_m_seenAt hok (by omega) | exact lo_z_m_seenIn hok (by omega) | exact lo_z_m_t0 hok (by omega) | exact lo_z_m_t1 hok (by omega) | exact lo_z_m_c0 hok (by omega) | exact lo_z_m_c1 hok (by omega) | exact lo_z_x_kept hok (by omega)) (by decide) (by first | with_reducible rfl | assumption | exact ax_nix (by simp only [nx_0, nx_1, nx_2, nx_3, nx_4, nx_10, nx_20, nx_21, nx_100, nI_add, pk_mul] <;> rfl) (by omega) | decide) (by omega) ?_
    rw [hB1, ax_pn (by omega), ← hB1, g8 (85 + u) _ (by omega) (by omega) (by omega) (by omega) (by omega) (by omega)]
    refine ax_putIN (f := 10) dX1_bringBack_124 acl_5 wd_277 (by decide) rfl rfl (ax_nfI rfl) (xs_R_0 hR hok) ?_
    refine ax_gen (fun B2 hB2 => ?_)
    have hok : lo_ok B2.2 := by rw [hB2]; exact hok
    have g2 : ∀ n i, ¬ (n = 79 ∧ i = 7) → n ≠ R + 6 → n ≠ R + 7 → n ≠ R + 3 → n ≠ R + 4 → ¬ (80 ≤ n ∧ n ≤ 83) → ¬ (n = R ∧ (i = 9 ∨ i = 10)) → B2.1 n i = M.1 n i := fun n i z1 z2 z3 z4 z5 z6 z7 => by
      rw [hB2, ax_pn (by omega), hB1, ax_pn (by omega)]; exact g8 n i z1 z2 z3 z4 z5 z6
    have e2 : B2.1 79 7 = nI u := by
      rw [hB2, ax_pn (by omega), hB1, ax_pn (by omega), hA8, ax_cpy_n (by omega), hA7, ax_cpy_n (by omega), hA6, ax_cpy_n (by omega), hA5, ax_cpy_n (by omega), hA4, ax_cpy_n (by omega), hA3, ax_cpy_n (by omega), hA2, ax_cpy_n (by omega), hA1, ax_cpy_n (by omega), e0]
    refine ax_aload_n dX1_bringBack_127 rfl ?_
    refine ax_aload_n dX1_bringBack_128 rfl ?_
    refine ax_getK (f := 6) 88 dX1_bringBack_129 acl_1 wd_527 (by decide) rfl (lo_s hok 79 rfl) (lo_r hok 76 rfl) ?_
    refine ax_aload_n dX1_bringBack_132 rfl ?_
    refine ax_getI (f := 7) dX1_bringBack_133 acl_1 wd_528 (by decide) rfl (lo_s hok 79 rfl) ?_
    rw [e2]
    refine ax_ialdN (u) dX1_bringBack_136 (lo_s hok 88 rfl) (by decide) (by first | with_reducible rfl | assumption | exact ax_nix (by simp only [nx_0, nx_1, nx_2, nx_3, nx_4, nx_10, nx_20, nx_21, nx_100, nI_add, pk_mul] <;> rfl) (by omega) | decide) (by omega) ?_
    rw [g2 88 _ (by omega) (by omega) (by omega) (by omega) (by omega) (by omega) (by omega)]
    refine ax_putI (f := 4) dX1_bringBack_137 acl_1 wd_524 (by decide) rfl rfl (ax_nfI rfl) (lo_s hok 79 rfl) ?_
    refine ax_iconst (v := 1) dX1_bringBack_140 (by decide) ?_
    refine ax_zret dX1_bringBack_141 rfl ?_ ?_
    · exact Or.inr rfl
    · refine Or.inr ⟨hv3, rfl, ?_, fun n i z1 z2 z3 z4 z5 z6 z7 => ?_, ?_, ?_, ?_⟩
      · show B2.2 = _
        rw [hB2]; show B1.2 = _
        rw [hB1]; show A8.2 = _
        rw [hA8]; show A7.2 = _
        rw [hA7]; show A6.2 = _
        rw [hA6]; show A5.2 = _
        rw [hA5]; show A4.2 = _
        rw [hA4]; show A3.2 = _
        rw [hA3]; show A2.2 = _
        rw [hA2]; show A1.2 = _
        rw [hA1]; show A0.2 = _
        rw [hA0]; rfl
      · rw [ax_pn (by omega)]; exact g2 n i (by omega) z6 z7 z4 z5 z2 z3
      · have top : ∀ n i, n ≠ 79 → (ax_pI B2 79 4 (M.1 88 u)).1 n i = B2.1 n i := fun n i z => by rw [ax_pn (by omega)]
        have low : ∀ n i, n ≠ 79 → n ≠ R → (ax_pI B2 79 4 (M.1 88 u)).1 n i = A8.1 n i := fun n i z z2 => by rw [top _ _ z, hB2, ax_pn (by omega), hB1, ax_pn (by omega)]
        refine ⟨?_, ?_, ?_, ?_, ?_, ?_, ?_, ?_, ?_, ?_⟩
        · intro j hj
          have y := ax_cpy_y (M := A0) (t := (R + 6)) (dp := 0) (f := 85 + u) (sp := 0) hj
          rw [Nat.zero_add] at y
          rw [low _ _ (by omega) (by omega), hA8, ax_cpy_n (by omega), hA7, ax_cpy_n (by omega), hA6, ax_cpy_n (by omega), hA5, ax_cpy_n (by omega), hA4, ax_cpy_n (by omega), hA3, ax_cpy_n (by omega), hA2, ax_cpy_n (by omega), hA1, y, hA0, ax_pn (by omega), Nat.zero_add]
        · intro j hj
          have y := ax_cpy_y (M := A1) (t := (R + 7)) (dp := 0) (f := 85 + u) (sp := 2) hj
          rw [Nat.zero_add] at y
          rw [low _ _ (by omega) (by omega), hA8, ax_cpy_n (by omega), hA7, ax_cpy_n (by omega), hA6, ax_cpy_n (by omega), hA5, ax_cpy_n (by omega), hA4, ax_cpy_n (by omega), hA3, ax_cpy_n (by omega), hA2, y, hA1, ax_cpy_n (by omega), hA0, ax_pn (by omega)]
        · intro j hj
          have y := ax_cpy_y (M := A2) (t := (R + 3)) (dp := 0) (f := 85 + u) (sp := 4) hj
          rw [Nat.zero_add] at y
          rw [low _ _ (by omega) (by omega), hA8, ax_cpy_n (by omega), hA7, ax_cpy_n (by omega), hA6, ax_cpy_n (by omega), hA5, ax_cpy_n (by omega), hA4, ax_cpy_n (by omega), hA3, y, hA2, ax_cpy_n (by omega), hA1, ax_cpy_n (by omega), hA0, ax_pn (by omega)]
        · intro j hj
          have y := ax_cpy_y (M := A3) (t := (R + 4)) (dp := 0) (f := 85 + u) (sp := 14) hj
          rw [Nat.zero_add] at y
          rw [low _ _ (by omega) (by omega), hA8, ax_cpy_n (by omega), hA7, ax_cpy_n (by omega), hA6, ax_cpy_n (by omega), hA5, ax_cpy_n (by omega), hA4, y, hA3, ax_cpy_n (by omega), hA2, ax_cpy_n (by omega), hA1, ax_cpy_n (by omega), hA0, ax_pn (by omega)]
        · intro j hj
          have y := ax_cpy_y (M := A4) (t := 80) (dp := 0) (f := 85 + u) (sp := 24) hj
          rw [Nat.zero_add] at y
          rw [low _ _ (by omega) (by omega), hA8, ax_cpy_n (by omega), hA7, ax_cpy_n (by omega), hA6, ax_cpy_n (by omega), hA5, y, hA4, ax_cpy_n (by omega), hA3, ax_cpy_n (by omega), hA2, ax_cpy_n (by omega), hA1, ax_cpy_n (by omega), hA0, ax_pn (by omega)]
        · intro j hj
          have y := ax_cpy_y (M := A5) (t := 81) (dp := 0) (f := 85 + u) (sp := 44) hj
          rw [Nat.zero_add] at y
          rw [low _ _ (by omega) (by omega), hA8, ax_cpy_n (by omega), hA7, ax_cpy_n (by omega), hA6, y, hA5, ax_cpy_n (by omega), hA4, ax_cpy_n (by omega), hA3, ax_cpy_n (by omega), hA2, ax_cpy_n (by omega), hA1, ax_cpy_n (by omega), hA0, ax_pn (by omega)]
        · intro j hj
          have y := ax_cpy_y (M := A6) (t := 82) (dp := 0) (f := 85 + u) (sp := 64) hj
          rw [Nat.zero_add] at y
          rw [low _ _ (by omega) (by omega), hA8, ax_cpy_n (by omega), hA7, y, hA6, ax_cpy_n (by omega), hA5, ax_cpy_n (by omega), hA4, ax_cpy_n (by omega), hA3, ax_cpy_n (by omega), hA2, ax_cpy_n (by omega), hA1, ax_cpy_n (by omega), hA0, ax_pn (by omega)]
        · intro j hj
          have y := ax_cpy_y (M := A7) (t := 83) (dp := 0) (f := 85 + u) (sp := 84) hj
          rw [Nat.zero_add] at y
          rw [low _ _ (by omega) (by omega), hA8, y, hA7, ax_cpy_n (by omega), hA6, ax_cpy_n (by omega), hA5, ax_cpy_n (by omega), hA4, ax_cpy_n (by omega), hA3, ax_cpy_n (by omega), hA2, ax_cpy_n (by omega), hA1, ax_cpy_n (by omega), hA0, ax_pn (by omega)]
        · rw [top _ _ (by omega), hB2, ax_pn (by omega), hB1, ax_pa]
        · rw [top _ _ (by omega), hB2, ax_pa]
      · exact ax_pa _ _ _ _
      · rw [ax_pn (by omega)]; exact e2
  · have hv3 : ¬ 0 < v := fun z => hc ((nI_ltI (a := 0) (by omega) (by omega)).mpr z)
    refine ax_iconst (v := 0) dX1_bringBack_7 (by decide) ?_
    refine ax_zret dX1_bringBack_8 rfl ?_ ?_
    · exact Or.inl rfl
    · exact Or.inl ⟨by omega, rfl, rfl⟩
end X99c

