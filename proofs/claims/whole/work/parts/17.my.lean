/-! ===== copies, fresh tables ===== -/
def ax_cp (M : ax_M) (t f n : Nat) : ax_M := (fun b j => if b = t ∧ j < n then M.1 f j else M.1 b j, M.2)
theorem ax_cp_s {M : ax_M} {t f n : Nat} (h : f ≠ t) : ax_pI (ax_cp M t f n) t n ((ax_cp M t f n).1 f n) = ax_cp M t f (n + 1) := by
  unfold ax_pI ax_cp
  congr 1
  funext b j
  simp only [ax_u2]
  by_cases e : b = t
  · subst e
    by_cases e2 : j = n
    · subst e2
      simp [h]
    · by_cases e3 : j < n
      · simp [e2, e3, show j < n + 1 by omega]
      · simp [e2, e3, show ¬ j < n + 1 by omega]
  · simp [e]
/-- place k of cell b, from i on to n, is x -/
def ax_fill (M : ax_M) (b i n : Nat) (x : Int32) : ax_M := (fun q j => if q = b ∧ i ≤ j ∧ j < n then x else M.1 q j, M.2)
theorem ax_fill_0 (M : ax_M) (b i : Nat) (x : Int32) : ax_fill M b i i x = M := by
  unfold ax_fill
  have e : (fun q j => if q = b ∧ i ≤ j ∧ j < i then x else M.1 q j) = M.1 := by
    funext q j
    rw [if_neg (by omega)]
  rw [e]
theorem ax_fill_s {M : ax_M} {b i n : Nat} {x : Int32} (h : i ≤ n) : ax_pI (ax_fill M b i n x) b n x = ax_fill M b i (n + 1) x := by
  unfold ax_pI ax_fill
  congr 1
  funext q j
  simp only [ax_u2]
  by_cases e : q = b
  · subst e
    by_cases e2 : j = n
    · subst e2
      simp [h]
    · by_cases e3 : j < n
      · simp [e2, e3, show j < n + 1 by omega]
      · simp [e2, e3, show ¬ j < n + 1 by omega]
  · simp [e]
section MY
variable {l : Launch} {G : ax_G} {d : Nat} {M : ax_M}
theorem c_X10_copies {f t n lf lt : Nat} (hf : M.2.2.2.1 f = some (.inl (0, lf))) (ht : M.2.2.2.1 t = some (.inl (0, lt))) (h1 : n ≤ lf) (h2 : n ≤ lt) (h3 : lf < 2 ^ 31) (h4 : lt < 2 ^ 31) (hne : f ≠ t) {x : Int32} (hx : x = nI n) : ax_Met l G kX10_copies d 0 0 M [av_r f, av_r t, av_i x] (fun o M2 => o = .inl none ∧ M2 = ax_cp M t f n) := by
  subst hx
  refine ax_body (by decide) (Nat.le_of_ble_eq_true rfl) ?_
  have loop : ∀ (q i : Nat), i + q = n → ax_W l G kX10_copies (ax_FQ G (fun o M2 => o = .inl none ∧ M2 = ax_cp M t f n)) d 0 0 (ax_cp M t f i) 2 [some (av_r f), some (av_r t), some (av_i (nI n)), some (av_i (nI i))] [] := by
    intro q
    induction q with
    | zero =>
      intro i hi
      refine ax_iload_n dX10_copies_2 rfl ?_
      refine ax_iload_n dX10_copies_3 rfl ?_
      refine ax_icmp_ge (tgt := 19) dX10_copies_4 (by decide) (fun hc => ?_) (fun hc => ?_)
      · refine ax_vret dX10_copies_19 rfl ?_
        rw [show i = n by omega]; exact ⟨rfl, rfl⟩
      · exact absurd ((nI_leI (by omega) (by omega)).mpr (by omega)) hc
    | succ q ih =>
      intro i hi
      refine ax_iload_n dX10_copies_2 rfl ?_
      refine ax_iload_n dX10_copies_3 rfl ?_
      refine ax_icmp_ge (tgt := 19) dX10_copies_4 (by decide) (fun hc => ?_) (fun hc => ?_)
      · exact absurd ((nI_leI (by omega) (by omega)).mp hc) (by omega)
      · refine ax_aload_n dX10_copies_7 rfl ?_
        refine ax_iload_n dX10_copies_8 rfl ?_
        refine ax_aload_n dX10_copies_9 rfl ?_
        refine ax_iload_n dX10_copies_10 rfl ?_
        refine ax_iald dX10_copies_11 hf (vp_in_nI (by omega) (by omega)) ?_
        refine ax_iast dX10_copies_12 ht (vp_in_nI (by omega) (by omega)) ?_
        rw [nI_clamp (by omega), ax_cp_s hne]
        refine ax_iinc (v := 1) dX10_copies_13 rfl (by decide) (by decide) rfl ?_
        refine ax_goto (tgt := 2) dX10_copies_16 (by decide) ?_
        rw [nI_1]
        exact ih (i + 1) (by omega)
  refine ax_iconst (v := 0) dX10_copies_0 (by decide) ?_
  refine ax_istore_n dX10_copies_1 (by decide) rfl ?_
  have h := loop n 0 (by omega)
  have e : ax_cp M t f 0 = M := by
    unfold ax_cp
    have e2 : (fun b j => if b = t ∧ j < 0 then M.1 f j else M.1 b j) = M.1 := by
      funext b j
      rw [if_neg (by omega)]
    rw [e2]
  rw [e] at h
  exact h
def mk_tells (M : ax_M) : ax_M := ax_pI (ax_pI (ax_fill (ax_pI (ax_pI (ax_fill (ax_pI M 93 0 40) 93 1 5 0) 93 5 20) 93 6 6) 99 0 26 0) 99 25 4) 90 21 0
theorem c_X10_tellsNothing (hok : lo_ok M.2) : ax_Met l G kX10_tellsNothing d 0 0 M [av_r 90] (fun o M2 => o = .inl none ∧ M2 = mk_tells M) := by
  refine ax_body (by decide) (Nat.le_of_ble_eq_true rfl) ?_
  have loop2 : ∀ (M1 : ax_M), lo_ok M1.2 → ax_pI (ax_pI (ax_fill M1 99 0 26 0) 99 25 4) 90 21 0 = mk_tells M → ∀ (q i : Nat), i + q = 26 → ax_W l G kX10_tellsNothing (ax_FQ G (fun o M2 => o = .inl none ∧ M2 = mk_tells M)) d 0 0 (ax_fill M1 99 0 i 0) 47 [some (av_r 90), some (av_i (nI i))] [] := by
    intro M1 hok hM1 q
    induction q with
    | zero =>
      intro i hi
      rw [show i = 26 by omega]
      refine ax_iload_n dX10_tellsNothing_47 rfl ?_
      refine ax_bipush (v := 26) dX10_tellsNothing_48 (by decide) ?_
      refine ax_icmp_ge (tgt := 66) dX10_tellsNothing_50 (by decide) (fun hc => ?_) (fun hc => ?_)
      · refine ax_aload_n dX10_tellsNothing_66 rfl ?_
        refine ax_getK (f := 17) 99 dX10_tellsNothing_67 acl_10 wd_1617 (by decide) rfl (lo_s hok 90 rfl) (lo_r hok 88 rfl) ?_
        refine ax_bipush (v := 25) dX10_tellsNothing_70 (by decide) ?_
        refine ax_iconst (v := 4) dX10_tellsNothing_72 (by decide) ?_
        refine ax_iast dX10_tellsNothing_73 (lo_s hok 99 rfl) (by unfold vp_in; decide) ?_
        refine ax_aload_n dX10_tellsNothing_74 rfl ?_
        refine ax_iconst (v := 0) dX10_tellsNothing_75 (by decide) ?_
        refine ax_putI (f := 21) dX10_tellsNothing_76 acl_10 wd_1621 (by decide) rfl rfl (ax_nfZ rfl (by first | decide | (split <;> decide))) (lo_s hok 90 rfl) ?_
        refine ax_vret dX10_tellsNothing_79 rfl ?_
        exact ⟨rfl, hM1⟩
      · exact absurd (by decide) hc
    | succ q ih =>
      intro i hi
      refine ax_iload_n dX10_tellsNothing_47 rfl ?_
      refine ax_bipush (v := 26) dX10_tellsNothing_48 (by decide) ?_
      refine ax_icmp_ge (tgt := 66) dX10_tellsNothing_50 (by decide) (fun hc => ?_) (fun hc => ?_)
      · exact absurd ((nI_leI (a := 26) (by omega) (by omega)).mp hc) (by omega)
      · refine ax_aload_n dX10_tellsNothing_53 rfl ?_
        refine ax_getK (f := 17) 99 dX10_tellsNothing_54 acl_10 wd_1617 (by decide) rfl (lo_s hok 90 rfl) (lo_r hok 88 rfl) ?_
        refine ax_iload_n dX10_tellsNothing_57 rfl ?_
        refine ax_iconst (v := 0) dX10_tellsNothing_58 (by decide) ?_
        refine ax_iast dX10_tellsNothing_59 (lo_s hok 99 rfl) (vp_in_nI (by omega) (by omega)) ?_
        refine ax_iinc (v := 1) dX10_tellsNothing_60 rfl (by decide) (by decide) rfl ?_
        refine ax_goto (tgt := 47) dX10_tellsNothing_63 (by decide) ?_
        rw [nI_clamp (by omega), ax_fill_s (by omega), nI_1]
        exact ih (i + 1) (by omega)
  have loop1 : ∀ (q i : Nat), i + q = 5 → 1 ≤ i → ax_W l G kX10_tellsNothing (ax_FQ G (fun o M2 => o = .inl none ∧ M2 = mk_tells M)) d 0 0 (ax_fill (ax_pI M 93 0 40) 93 1 i 0) 10 [some (av_r 90), some (av_i (nI i))] [] := by
    intro q
    induction q with
    | zero =>
      intro i hi h1
      rw [show i = 5 by omega]
      refine ax_iload_n dX10_tellsNothing_10 rfl ?_
      refine ax_iconst (v := 5) dX10_tellsNothing_11 (by decide) ?_
      refine ax_icmp_ge (tgt := 28) dX10_tellsNothing_12 (by decide) (fun hc => ?_) (fun hc => ?_)
      · refine ax_aload_n dX10_tellsNothing_28 rfl ?_
        refine ax_getK (f := 11) 93 dX10_tellsNothing_29 acl_10 wd_1611 (by decide) rfl (lo_s hok 90 rfl) (lo_r hok 82 rfl) ?_
        refine ax_iconst (v := 5) dX10_tellsNothing_32 (by decide) ?_
        refine ax_bipush (v := 20) dX10_tellsNothing_33 (by decide) ?_
        refine ax_iast dX10_tellsNothing_35 (lo_s hok 93 rfl) (by unfold vp_in; decide) ?_
        refine ax_aload_n dX10_tellsNothing_36 rfl ?_
        refine ax_getK (f := 11) 93 dX10_tellsNothing_37 acl_10 wd_1611 (by decide) rfl (lo_s hok 90 rfl) (lo_r hok 82 rfl) ?_
        refine ax_bipush (v := 6) dX10_tellsNothing_40 (by decide) ?_
        refine ax_bipush (v := 6) dX10_tellsNothing_42 (by decide) ?_
        refine ax_iast dX10_tellsNothing_44 (lo_s hok 93 rfl) (by unfold vp_in; decide) ?_
        refine ax_iconst (v := 0) dX10_tellsNothing_45 (by decide) ?_
        refine ax_istore_n dX10_tellsNothing_46 (by decide) rfl ?_
        have h := loop2 (ax_pI (ax_pI (ax_fill (ax_pI M 93 0 40) 93 1 5 0) 93 5 20) 93 6 6) hok rfl 26 0 rfl
        rw [ax_fill_0] at h
        exact h
      · exact absurd (by decide) hc
    | succ q ih =>
      intro i hi h1
      refine ax_iload_n dX10_tellsNothing_10 rfl ?_
      refine ax_iconst (v := 5) dX10_tellsNothing_11 (by decide) ?_
      refine ax_icmp_ge (tgt := 28) dX10_tellsNothing_12 (by decide) (fun hc => ?_) (fun hc => ?_)
      · exact absurd ((nI_leI (a := 5) (by omega) (by omega)).mp hc) (by omega)
      · refine ax_aload_n dX10_tellsNothing_15 rfl ?_
        refine ax_getK (f := 11) 93 dX10_tellsNothing_16 acl_10 wd_1611 (by decide) rfl (lo_s hok 90 rfl) (lo_r hok 82 rfl) ?_
        refine ax_iload_n dX10_tellsNothing_19 rfl ?_
        refine ax_iconst (v := 0) dX10_tellsNothing_20 (by decide) ?_
        refine ax_iast dX10_tellsNothing_21 (lo_s hok 93 rfl) (vp_in_nI (by omega) (by omega)) ?_
        refine ax_iinc (v := 1) dX10_tellsNothing_22 rfl (by decide) (by decide) rfl ?_
        refine ax_goto (tgt := 10) dX10_tellsNothing_25 (by decide) ?_
        rw [nI_clamp (by omega), ax_fill_s (by omega), nI_1]
        exact ih (i + 1) (by omega) (by omega)
  refine ax_aload_n dX10_tellsNothing_0 rfl ?_
  refine ax_getK (f := 11) 93 dX10_tellsNothing_1 acl_10 wd_1611 (by decide) rfl (lo_s hok 90 rfl) (lo_r hok 82 rfl) ?_
  refine ax_iconst (v := 0) dX10_tellsNothing_4 (by decide) ?_
  refine ax_bipush (v := 40) dX10_tellsNothing_5 (by decide) ?_
  refine ax_iast dX10_tellsNothing_7 (lo_s hok 93 rfl) (by unfold vp_in; decide) ?_
  refine ax_iconst (v := 1) dX10_tellsNothing_8 (by decide) ?_
  refine ax_istore_n dX10_tellsNothing_9 (by decide) rfl ?_
  have h := loop1 4 1 rfl (Nat.le_refl _)
  rw [ax_fill_0] at h
  exact h
def mk_wets (M : ax_M) : Nat → ax_M
  | 0 => M
  | i + 1 => ax_cp (mk_wets M i) (107 + i) (102 + i) 2
theorem mk_wets_2 (M : ax_M) : ∀ i, (mk_wets M i).2 = M.2
  | 0 => rfl
  | i + 1 => mk_wets_2 M i
def mk_stands (M : ax_M) : ax_M := ax_pI (ax_pI (ax_pI (ax_fill (mk_wets (ax_cp (ax_cp (ax_cp (ax_cp M 94 93 7) 96 95 2) 98 97 6) 100 99 26) 4) 111 0 3 0) 90 32 0) 90 33 0) 90 34 0
theorem c_X10_standsNow (hok : lo_ok M.2) : ax_Met l G kX10_standsNow 1 0 0 M [av_r 90] (fun o M2 => o = .inl none ∧ M2 = mk_stands M) := by
  refine ax_body (by decide) (Nat.le_of_ble_eq_true rfl) ?_
  have loop2 : ∀ (M1 : ax_M), lo_ok M1.2 → ax_pI (ax_pI (ax_pI (ax_fill M1 111 0 3 0) 90 32 0) 90 33 0) 90 34 0 = mk_stands M → ∀ (q i : Nat), i + q = 3 → ax_W l G kX10_standsNow (ax_FQ G (fun o M2 => o = .inl none ∧ M2 = mk_stands M)) 1 0 0 (ax_fill M1 111 0 i 0) 82 [some (av_r 90), some (av_i (nI i))] [] := by
    intro M1 hok hM1 q
    induction q with
    | zero =>
      intro i hi
      rw [show i = 3 by omega]
      refine ax_iload_n dX10_standsNow_82 rfl ?_
      refine ax_iconst (v := 3) dX10_standsNow_83 (by decide) ?_
      refine ax_icmp_ge (tgt := 100) dX10_standsNow_84 (by decide) (fun hc => ?_) (fun hc => ?_)
      · refine ax_aload_n dX10_standsNow_100 rfl ?_
        refine ax_iconst (v := 0) dX10_standsNow_101 (by decide) ?_
        refine ax_putI (f := 32) dX10_standsNow_102 acl_10 wd_1632 (by decide) rfl rfl (ax_nfI rfl) (lo_s hok 90 rfl) ?_
        refine ax_aload_n dX10_standsNow_105 rfl ?_
        refine ax_iconst (v := 0) dX10_standsNow_106 (by decide) ?_
        refine ax_putI (f := 33) dX10_standsNow_107 acl_10 wd_1633 (by decide) rfl rfl (ax_nfI rfl) (lo_s hok 90 rfl) ?_
        refine ax_aload_n dX10_standsNow_110 rfl ?_
        refine ax_iconst (v := 0) dX10_standsNow_111 (by decide) ?_
        refine ax_putI (f := 34) dX10_standsNow_112 acl_10 wd_1634 (by decide) rfl rfl (ax_nfI rfl) (lo_s hok 90 rfl) ?_
        refine ax_vret dX10_standsNow_115 rfl ?_
        exact ⟨rfl, hM1⟩
      · exact absurd (by decide) hc
    | succ q ih =>
      intro i hi
      refine ax_iload_n dX10_standsNow_82 rfl ?_
      refine ax_iconst (v := 3) dX10_standsNow_83 (by decide) ?_
      refine ax_icmp_ge (tgt := 100) dX10_standsNow_84 (by decide) (fun hc => ?_) (fun hc => ?_)
      · exact absurd ((nI_leI (a := 3) (by omega) (by omega)).mp hc) (by omega)
      · refine ax_aload_n dX10_standsNow_87 rfl ?_
        refine ax_getK (f := 22) 111 dX10_standsNow_88 acl_10 wd_1622 (by decide) rfl (lo_s hok 90 rfl) (lo_r hok 92 rfl) ?_
        refine ax_iload_n dX10_standsNow_91 rfl ?_
        refine ax_iconst (v := 0) dX10_standsNow_92 (by decide) ?_
        refine ax_iast dX10_standsNow_93 (lo_s hok 111 rfl) (vp_in_nI (by omega) (by omega)) ?_
        refine ax_iinc (v := 1) dX10_standsNow_94 rfl (by decide) (by decide) rfl ?_
        refine ax_goto (tgt := 82) dX10_standsNow_97 (by decide) ?_
        rw [nI_clamp (by omega), ax_fill_s (by omega), nI_1]
        exact ih (i + 1) (by omega)
  have loop1 : ∀ (q i : Nat), i + q = 4 → ax_W l G kX10_standsNow (ax_FQ G (fun o M2 => o = .inl none ∧ M2 = mk_stands M)) 1 0 0 (mk_wets (ax_cp (ax_cp (ax_cp (ax_cp M 94 93 7) 96 95 2) 98 97 6) 100 99 26) i) 53 [some (av_r 90), some (av_i (nI i))] [] := by
    intro q
    induction q with
    | zero =>
      intro i hi
      rw [show i = 4 by omega]
      refine ax_iload_n dX10_standsNow_53 rfl ?_
      refine ax_iconst (v := 4) dX10_standsNow_54 (by decide) ?_
      refine ax_icmp_ge (tgt := 80) dX10_standsNow_55 (by decide) (fun hc => ?_) (fun hc => ?_)
      · refine ax_iconst (v := 0) dX10_standsNow_80 (by decide) ?_
        refine ax_istore_n dX10_standsNow_81 (by decide) rfl ?_
        have h := loop2 (mk_wets (ax_cp (ax_cp (ax_cp (ax_cp M 94 93 7) 96 95 2) 98 97 6) 100 99 26) 4) (by rw [mk_wets_2]; exact hok) rfl 3 0 rfl
        rw [ax_fill_0] at h
        exact h
      · exact absurd (by decide) hc
    | succ q ih =>
      intro i hi
      refine ax_gen (fun M1 hM1 => ?_)
      have hok : lo_ok M1.2 := by rw [hM1, mk_wets_2]; exact hok
      refine ax_iload_n dX10_standsNow_53 rfl ?_
      refine ax_iconst (v := 4) dX10_standsNow_54 (by decide) ?_
      refine ax_icmp_ge (tgt := 80) dX10_standsNow_55 (by decide) (fun hc => ?_) (fun hc => ?_)
      · exact absurd ((nI_leI (a := 4) (by omega) (by omega)).mp hc) (by omega)
      · refine ax_aload_n dX10_standsNow_58 rfl ?_
        refine ax_getK (f := 19) 101 dX10_standsNow_59 acl_10 wd_1619 (by decide) rfl (lo_s hok 90 rfl) (lo_r hok 90 rfl) ?_
        refine ax_iload_n dX10_standsNow_62 rfl ?_
        refine ax_aaldK2 (102 + i) dX10_standsNow_63 (lo_s hok 101 rfl) (vp_in_nI (by omega) (by omega)) (by rw [nI_clamp (by omega)]; exact lo_w_m_readWet hok (by omega)) ?_
        refine ax_aload_n dX10_standsNow_64 rfl ?_
        refine ax_getK (f := 20) 106 dX10_standsNow_65 acl_10 wd_1620 (by decide) rfl (lo_s hok 90 rfl) (lo_r hok 91 rfl) ?_
        refine ax_iload_n dX10_standsNow_68 rfl ?_
        refine ax_aaldK2 (107 + i) dX10_standsNow_69 (lo_s hok 106 rfl) (vp_in_nI (by omega) (by omega)) (by rw [nI_clamp (by omega)]; exact lo_w_m_wet hok (by omega)) ?_
        refine ax_iconst (v := 2) dX10_standsNow_70 (by decide) ?_
        refine ax_callS (As := _) (c1 := 0) (n1 := 0) (c_X10_copies (d := 0) (M := M1) (lf := 2) (lt := 2) (n := 2) (lo_z_m_readWet hok (i := i) (by omega)) (lo_z_m_wet hok (i := i) (by omega)) (by omega) (by omega) (by omega) (by omega) (by omega) rfl) dX10_standsNow_71 mX10_copies wd_1597 rfl (by omega) (by omega) (by omega) rfl rfl (fun _ _ h => by cases h.1) ?_
        rintro r M3 ⟨h1, hM3⟩; cases h1
        refine ax_iinc (v := 1) dX10_standsNow_74 rfl (by decide) (by decide) rfl ?_
        refine ax_goto (tgt := 53) dX10_standsNow_77 (by decide) ?_
        rw [hM3, hM1, nI_1]
        exact ih (i + 1) (by omega)
  refine ax_aload_n dX10_standsNow_0 rfl ?_
  refine ax_getK (f := 11) 93 dX10_standsNow_1 acl_10 wd_1611 (by decide) rfl (lo_s hok 90 rfl) (lo_r hok 82 rfl) ?_
  refine ax_aload_n dX10_standsNow_4 rfl ?_
  refine ax_getK (f := 12) 94 dX10_standsNow_5 acl_10 wd_1612 (by decide) rfl (lo_s hok 90 rfl) (lo_r hok 83 rfl) ?_
  refine ax_bipush (v := 7) dX10_standsNow_8 (by decide) ?_
  refine ax_callS (As := _) (c1 := 0) (n1 := 0) (c_X10_copies (d := 0) (M := M) (lf := 7) (lt := 7) (n := 7) (lo_s hok 93 rfl) (lo_s hok 94 rfl) (by omega) (by omega) (by omega) (by omega) (by omega) rfl) dX10_standsNow_10 mX10_copies wd_1597 rfl (by omega) (by omega) (by omega) rfl rfl (fun _ _ h => by cases h.1) ?_
  rintro r M1 ⟨h1, hM1⟩; cases h1
  have hok1 : lo_ok M1.2 := by rw [hM1]; exact hok
  have hok := hok1
  refine ax_aload_n dX10_standsNow_13 rfl ?_
  refine ax_getK (f := 13) 95 dX10_standsNow_14 acl_10 wd_1613 (by decide) rfl (lo_s hok 90 rfl) (lo_r hok 84 rfl) ?_
  refine ax_aload_n dX10_standsNow_17 rfl ?_
  refine ax_getK (f := 14) 96 dX10_standsNow_18 acl_10 wd_1614 (by decide) rfl (lo_s hok 90 rfl) (lo_r hok 85 rfl) ?_
  refine ax_iconst (v := 2) dX10_standsNow_21 (by decide) ?_
  refine ax_callS (As := _) (c1 := 0) (n1 := 0) (c_X10_copies (d := 0) (M := M1) (lf := 2) (lt := 2) (n := 2) (lo_s hok 95 rfl) (lo_s hok 96 rfl) (by omega) (by omega) (by omega) (by omega) (by omega) rfl) dX10_standsNow_22 mX10_copies wd_1597 rfl (by omega) (by omega) (by omega) rfl rfl (fun _ _ h => by cases h.1) ?_
  rintro r M2 ⟨h1, hM2⟩; cases h1
  have hok : lo_ok M2.2 := by rw [hM2]; exact hok
  refine ax_aload_n dX10_standsNow_25 rfl ?_
  refine ax_getK (f := 15) 97 dX10_standsNow_26 acl_10 wd_1615 (by decide) rfl (lo_s hok 90 rfl) (lo_r hok 86 rfl) ?_
  refine ax_aload_n dX10_standsNow_29 rfl ?_
  refine ax_getK (f := 16) 98 dX10_standsNow_30 acl_10 wd_1616 (by decide) rfl (lo_s hok 90 rfl) (lo_r hok 87 rfl) ?_
  refine ax_bipush (v := 6) dX10_standsNow_33 (by decide) ?_
  refine ax_callS (As := _) (c1 := 0) (n1 := 0) (c_X10_copies (d := 0) (M := M2) (lf := 6) (lt := 6) (n := 6) (lo_s hok 97 rfl) (lo_s hok 98 rfl) (by omega) (by omega) (by omega) (by omega) (by omega) rfl) dX10_standsNow_35 mX10_copies wd_1597 rfl (by omega) (by omega) (by omega) rfl rfl (fun _ _ h => by cases h.1) ?_
  rintro r M3 ⟨h1, hM3⟩; cases h1
  have hok : lo_ok M3.2 := by rw [hM3]; exact hok
  refine ax_aload_n dX10_standsNow_38 rfl ?_
  refine ax_getK (f := 17) 99 dX10_standsNow_39 acl_10 wd_1617 (by decide) rfl (lo_s hok 90 rfl) (lo_r hok 88 rfl) ?_
  refine ax_aload_n dX10_standsNow_42 rfl ?_
  refine ax_getK (f := 18) 100 dX10_standsNow_43 acl_10 wd_1618 (by decide) rfl (lo_s hok 90 rfl) (lo_r hok 89 rfl) ?_
  refine ax_bipush (v := 26) dX10_standsNow_46 (by decide) ?_
  refine ax_callS (As := _) (c1 := 0) (n1 := 0) (c_X10_copies (d := 0) (M := M3) (lf := 26) (lt := 26) (n := 26) (lo_s hok 99 rfl) (lo_s hok 100 rfl) (by omega) (by omega) (by omega) (by omega) (by omega) rfl) dX10_standsNow_48 mX10_copies wd_1597 rfl (by omega) (by omega) (by omega) rfl rfl (fun _ _ h => by cases h.1) ?_
  rintro r M4 ⟨h1, hM4⟩; cases h1
  refine ax_iconst (v := 0) dX10_standsNow_51 (by decide) ?_
  refine ax_istore_n dX10_standsNow_52 (by decide) rfl ?_
  have h := loop1 4 0 rfl
  rw [hM4, hM3, hM2, hM1]
  exact h
end MY

