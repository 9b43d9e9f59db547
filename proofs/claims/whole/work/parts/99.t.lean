/-! ===== the law's other cases ===== -/
theorem lc_road {l : Launch} {G : ax_G} {b N j c n : Nat} {xs : Nat → Int32} {M : ax_M} {a1 a2 a3 a4 a5 : Int32} (hl9 : l.stackTraces = false) (hj : 6 * j + 6 ≤ N) (hN : N ≤ 3072) (h1 : xs (nI (6 * j + 1)).toNatClampNeg = a1) (h2 : xs (nI (6 * j + 2)).toNatClampNeg = a2) (h3 : xs (nI (6 * j + 3)).toNatClampNeg = a3) (h4 : xs (nI (6 * j + 4)).toNatClampNeg = a4) (h5 : xs (nI (6 * j + 5)).toNatClampNeg = a5) (J0 : jj M) (next : ∀ M2, jj M2 → ax_W l G kL_law_ (ax_FE G (ax_FL G b N xs)) 60 c n M2 2950 [some (av_o 998), some (av_r 1), some (av_r 90), some (av_r 432), some (av_i (nI (6 * j))), none, none, none] []) : ax_W l G kL_law_ (ax_FE G (ax_FL G b N xs)) 60 (c + 4) (n + 24) M 317 [some (av_o 998), some (av_r 1), some (av_r 90), some (av_r 432), some (av_i (nI (6 * j))), none, none, none] [] := by
  obtain ⟨p, r, lw, es, t, n9, v9, q, J, R⟩ := J0
  have hok := jm_ok J
  have h6 := J.2.2.2.2.1.2.2.1
  refine ax_aload_n dL_law__317 rfl ?_
  refine ax_aload_n dL_law__318 rfl ?_
  refine ax_iload dL_law__319 rfl ?_
  refine ax_iconst (v := 1) dL_law__321 (by decide) ?_
  refine ax_iadd dL_law__322 ?_
  rw [show nI (6 * j) + 1 = nI (6 * j + 1) from nI_add _ _]
  refine ax_sld dL_law__323 (pk_in (6 * j + 1) N (by omega)) ?_
  rw [h1]
  refine ax_aload_n dL_law__324 rfl ?_
  refine ax_callSW (As := [av_r 1, av_i a1, av_r 432]) (c1 := c) (n1 := n) (w_road (d := 8) (c := 1) (n := 6) a1 (y_road hl9 J a1) (lo_s hok 1 rfl) (tq_hv (fun _ _ _ h => by obtain ⟨z, -, -, h⟩ := h; obtain ⟨a, -, b⟩ := xro_i h; exact ⟨a, b⟩)) (tq_hx (fun _ _ h => by obtain ⟨z, -, -, h⟩ := h; exact xro_x h))) dL_law__325 mwL_road wd_778 rfl (by omega) (by omega) (by omega) rfl rfl (fun _ _ => qw_nx) ?_
  intro r9 M1 hq
  rcases qw_t (fun _ _ h => by obtain ⟨z, -, -, h⟩ := h; exact xro_x h) hq with ⟨hg, rfl, vv, M0, ⟨z, hz, hxz, hX⟩, hM1⟩ | ⟨hg, rfl, hxre⟩
  · skip
    have sM : sm M0 M1 := by rw [hM1]; exact sm_pL _ _ _
    have hok1 := lo_sm (xro_i hX).2.2 sM
    obtain ⟨ht1, hrp1⟩ := xro_r J hX sM
    refine ax_istore dL_law__328 (by decide) rfl ?_
    refine ax_aload_n dL_law__330 rfl ?_
    refine ax_aload_n dL_law__331 rfl ?_
    refine ax_iload dL_law__332 rfl ?_
    refine ax_iconst (v := 1) dL_law__334 (by decide) ?_
    refine ax_iadd dL_law__335 ?_
    rw [show nI (6 * j) + 1 = nI (6 * j + 1) from nI_add _ _]
    refine ax_sld dL_law__336 (pk_in (6 * j + 1) N (by omega)) ?_
    rw [h1]
    refine ax_callV (As := [av_i a1]) (d2 := _) (c1 := c) (n1 := n) (c_road (M := M1) hok1 ht1 h6 hrp1 J.2.2.2.2.2.2.1.2 a1) dL_law__337 mX10_road wd_1768 acl_10 (lo_s hok1 90 rfl) rfl (by omega) (by omega) (by omega) rfl rfl (fun E M9 h9 => by
      split at h9
      · obtain ⟨z9, -, -, h⟩ := h9; exact absurd h ro_nx9
      · first | contradiction | cases h9.1) ?_
    intro r8 M2 hq2
    rw [if_pos hg] at hq2
    obtain ⟨z2, hz2, hxz2, hb⟩ := hq2
    have ez : z2 = z := nI_un (by omega) (by omega) (hxz2.symm.trans hxz)
    subst ez
    obtain ⟨⟨u, hu, e1⟩, e2, e3, J2⟩ := road_v J R hX sM hb
    subst hu
    cases e1
    have hok2 : lo_ok M2.2 := by rw [e3]; exact hok1
    have e4 : M2.2.2.1 432 (0 : Int32).toNatClampNeg = u.toInt64 := by rw [show M2.2.2.1 = M1.2.2.1 by rw [e3], hM1]; exact pL_rd
    refine ax_istore dL_law__340 (by decide) rfl ?_
    refine ax_aload_n dL_law__342 rfl ?_
    refine ax_callV (As := []) (d2 := _) (c1 := c) (n1 := n) (c_X10_thrown (d := 0) (M := M2) hok2) dL_law__343 mX10_thrown wd_1760 acl_10 (lo_s hok2 90 rfl) rfl (by omega) (by omega) (by omega) rfl rfl (fun _ _ h => by cases h.1) ?_
    rintro r7 _ ⟨q7, rfl⟩; cases q7
    rw [e2]
    refine ax_iload dL_law__346 rfl ?_
    refine ax_icmp_eq (tgt := 353) dL_law__348 (by decide) (fun hc => ?_) (fun hc => ?_)
    rotate_left
    · exact absurd rfl hc
    clear hc
    refine ax_iload dL_law__353 rfl ?_
    refine ax_if_ne (tgt := 370) dL_law__355 (by decide) (fun hc => ?_) (fun hc => ?_)
    · exact absurd rfl hc
    clear hc
    refine ax_aload_n dL_law__358 rfl ?_
    refine ax_iconst (v := 0) dL_law__359 (by decide) ?_
    refine ax_lald dL_law__360 (lo_s hok2 432 rfl) (by unfold vp_in; decide) ?_
    rw [e4]
    refine ax_iload dL_law__361 rfl ?_
    refine ax_i2l dL_law__363 ?_
    refine ax_lcmp dL_law__364 ?_
    refine ax_if_eq (tgt := 370) dL_law__365 (by decide) (fun hc => ?_) (fun hc => ?_)
    · clear hc
      refine ax_goto (tgt := 2950) dL_law__370 (by decide) ?_
      exact ax_weak (lw_weak _ _ _) (next _ J2)
    · exact absurd ((lg_cmp_eq _ _).mpr rfl) hc
  · skip
    have hw0 : ¬ (1 : Int32) = 0 := by decide
    obtain ⟨J1, -⟩ := ask_1e J R hxre
    have hok1 := jm_ok J1
    have ht1 := J1.2.2.2.2.1.2.1
    have hrp1 := J1.2.2.2.2.2.2.1.1
    refine ax_istore dL_law__328 (by decide) rfl ?_
    refine ax_aload_n dL_law__330 rfl ?_
    refine ax_aload_n dL_law__331 rfl ?_
    refine ax_iload dL_law__332 rfl ?_
    refine ax_iconst (v := 1) dL_law__334 (by decide) ?_
    refine ax_iadd dL_law__335 ?_
    rw [show nI (6 * j) + 1 = nI (6 * j + 1) from nI_add _ _]
    refine ax_sld dL_law__336 (pk_in (6 * j + 1) N (by omega)) ?_
    rw [h1]
    refine ax_callV (As := [av_i a1]) (d2 := _) (c1 := c) (n1 := n) (c_road (M := M1) hok1 ht1 h6 hrp1 J.2.2.2.2.2.2.1.2 a1) dL_law__337 mX10_road wd_1768 acl_10 (lo_s hok1 90 rfl) rfl (by omega) (by omega) (by omega) rfl rfl (fun E M9 h9 => by
      split at h9
      · obtain ⟨z9, -, -, h⟩ := h9; exact absurd h ro_nx9
      · first | contradiction | cases h9.1) ?_
    intro r8 M2 hq2
    rw [if_neg hg] at hq2
    obtain ⟨e1, hb⟩ := hq2
    cases e1
    obtain ⟨e2, e3, J2⟩ := bad_v (w := 1) (k := 1) (by omega) J R hxre hb
    have hok2 : lo_ok M2.2 := by rw [e3]; exact hok1
    refine ax_istore dL_law__340 (by decide) rfl ?_
    refine ax_aload_n dL_law__342 rfl ?_
    refine ax_callV (As := []) (d2 := _) (c1 := c) (n1 := n) (c_X10_thrown (d := 0) (M := M2) hok2) dL_law__343 mX10_thrown wd_1760 acl_10 (lo_s hok2 90 rfl) rfl (by omega) (by omega) (by omega) rfl rfl (fun _ _ h => by cases h.1) ?_
    rintro r7 _ ⟨q7, rfl⟩; cases q7
    rw [e2]
    refine ax_iload dL_law__346 rfl ?_
    refine ax_icmp_eq (tgt := 353) dL_law__348 (by decide) (fun hc => ?_) (fun hc => ?_)
    rotate_left
    · exact absurd rfl hc
    clear hc
    refine ax_iload dL_law__353 rfl ?_
    refine ax_if_ne (tgt := 370) dL_law__355 (by decide) (fun hc => ?_) (fun hc => ?_)
    rotate_left
    · exact absurd hc hw0
    clear hc
    refine ax_goto (tgt := 2950) dL_law__370 (by decide) ?_
    exact ax_weak (lw_weak _ _ _) (next _ J2)
theorem lc_law {l : Launch} {G : ax_G} {b N j c n : Nat} {xs : Nat → Int32} {M : ax_M} {a1 a2 a3 a4 a5 : Int32} (hl9 : l.stackTraces = false) (hj : 6 * j + 6 ≤ N) (hN : N ≤ 3072) (h1 : xs (nI (6 * j + 1)).toNatClampNeg = a1) (h2 : xs (nI (6 * j + 2)).toNatClampNeg = a2) (h3 : xs (nI (6 * j + 3)).toNatClampNeg = a3) (h4 : xs (nI (6 * j + 4)).toNatClampNeg = a4) (h5 : xs (nI (6 * j + 5)).toNatClampNeg = a5) (J0 : jj M) (next : ∀ M2, jj M2 → ax_W l G kL_law_ (ax_FE G (ax_FL G b N xs)) 60 c n M2 2950 [some (av_o 998), some (av_r 1), some (av_r 90), some (av_r 432), some (av_i (nI (6 * j))), none, none, none] []) : ax_W l G kL_law_ (ax_FE G (ax_FL G b N xs)) 60 (c + 4) (n + 24) M 373 [some (av_o 998), some (av_r 1), some (av_r 90), some (av_r 432), some (av_i (nI (6 * j))), none, none, none] [] := by
  obtain ⟨p, r, lw, es, t, n9, v9, q, J, R⟩ := J0
  have hok := jm_ok J
  have h6 := J.2.2.2.2.1.2.2.1
  refine ax_aload_n dL_law__373 rfl ?_
  refine ax_aload_n dL_law__374 rfl ?_
  refine ax_iload dL_law__375 rfl ?_
  refine ax_iconst (v := 1) dL_law__377 (by decide) ?_
  refine ax_iadd dL_law__378 ?_
  rw [show nI (6 * j) + 1 = nI (6 * j + 1) from nI_add _ _]
  refine ax_sld dL_law__379 (pk_in (6 * j + 1) N (by omega)) ?_
  rw [h1]
  refine ax_aload_n dL_law__380 rfl ?_
  refine ax_callSW (As := [av_r 1, av_i a1, av_r 432]) (c1 := c) (n1 := n) (w_law (d := 36) (c := 1) (n := 6) a1 (y_law hl9 J a1) (lo_s hok 1 rfl) (tq_hv (fun _ _ _ h => by obtain ⟨z, -, -, -, h⟩ := h; obtain ⟨a, -, b⟩ := xlo_i h; exact ⟨a, b⟩)) (tq_hx (fun _ _ h => by obtain ⟨z, -, -, -, h⟩ := h; exact xlo_x h))) dL_law__381 mwL_law wd_1005 rfl (by omega) (by omega) (by omega) rfl rfl (fun _ _ => qw_nx) ?_
  intro r9 M1 hq
  rcases qw_t (fun _ _ h => by obtain ⟨z, -, -, -, h⟩ := h; exact xlo_x h) hq with ⟨hg, rfl, vv, M0, ⟨z, hz, hz2, hxz, hX⟩, hM1⟩ | ⟨hg, rfl, hxre⟩
  · skip
    have sM : sm M0 M1 := by rw [hM1]; exact sm_pL _ _ _
    have hok1 := lo_sm (xlo_i hX).2.2 sM
    have ht1 := xlo_r J hX sM
    refine ax_istore dL_law__384 (by decide) rfl ?_
    refine ax_aload_n dL_law__386 rfl ?_
    refine ax_aload_n dL_law__387 rfl ?_
    refine ax_iload dL_law__388 rfl ?_
    refine ax_iconst (v := 1) dL_law__390 (by decide) ?_
    refine ax_iadd dL_law__391 ?_
    rw [show nI (6 * j) + 1 = nI (6 * j + 1) from nI_add _ _]
    refine ax_sld dL_law__392 (pk_in (6 * j + 1) N (by omega)) ?_
    rw [h1]
    refine ax_callV (As := [av_i a1]) (d2 := _) (c1 := c) (n1 := n) (c_X10_law (M := M1) hok1 ht1 h6 a1) dL_law__393 mX10_law wd_1845 acl_10 (lo_s hok1 90 rfl) rfl (by omega) (by omega) (by omega) rfl rfl (fun E M9 h9 => by
      split at h9
      · obtain ⟨z9, -, -, h⟩ := h9; exact absurd h rd_nx
      · first | contradiction | cases h9.1) ?_
    intro r8 M2 hq2
    rw [if_pos (show (0 ≤ a1 ∧ a1 ≤ nI t) ∧ a1 ≤ 150 from hg)] at hq2
    obtain ⟨z2, hz3, hxz2, hb⟩ := hq2
    have ez : z2 = z := nI_un (by omega) (by omega) (hxz2.symm.trans hxz)
    subst ez
    obtain ⟨⟨u, hu, e1⟩, e2, e3, J2⟩ := law_v (by omega) hz J R hX sM hb
    subst hu
    cases e1
    have hok2 : lo_ok M2.2 := by rw [e3]; exact hok1
    have e4 : M2.2.2.1 432 (0 : Int32).toNatClampNeg = u.toInt64 := by rw [show M2.2.2.1 = M1.2.2.1 by rw [e3], hM1]; exact pL_rd
    refine ax_istore dL_law__396 (by decide) rfl ?_
    refine ax_aload_n dL_law__398 rfl ?_
    refine ax_callV (As := []) (d2 := _) (c1 := c) (n1 := n) (c_X10_thrown (d := 0) (M := M2) hok2) dL_law__399 mX10_thrown wd_1760 acl_10 (lo_s hok2 90 rfl) rfl (by omega) (by omega) (by omega) rfl rfl (fun _ _ h => by cases h.1) ?_
    rintro r7 _ ⟨q7, rfl⟩; cases q7
    rw [e2]
    refine ax_iload dL_law__402 rfl ?_
    refine ax_icmp_eq (tgt := 409) dL_law__404 (by decide) (fun hc => ?_) (fun hc => ?_)
    rotate_left
    · exact absurd rfl hc
    clear hc
    refine ax_iload dL_law__409 rfl ?_
    refine ax_if_ne (tgt := 426) dL_law__411 (by decide) (fun hc => ?_) (fun hc => ?_)
    · exact absurd rfl hc
    clear hc
    refine ax_aload_n dL_law__414 rfl ?_
    refine ax_iconst (v := 0) dL_law__415 (by decide) ?_
    refine ax_lald dL_law__416 (lo_s hok2 432 rfl) (by unfold vp_in; decide) ?_
    rw [e4]
    refine ax_iload dL_law__417 rfl ?_
    refine ax_i2l dL_law__419 ?_
    refine ax_lcmp dL_law__420 ?_
    refine ax_if_eq (tgt := 426) dL_law__421 (by decide) (fun hc => ?_) (fun hc => ?_)
    · clear hc
      refine ax_goto (tgt := 2950) dL_law__426 (by decide) ?_
      exact ax_weak (lw_weak _ _ _) (next _ J2)
    · exact absurd ((lg_cmp_eq _ _).mpr rfl) hc
  · skip
    have hw0 : ¬ (1 : Int32) = 0 := by decide
    obtain ⟨J1, -⟩ := ask_1e J R hxre
    have hok1 := jm_ok J1
    have ht1 := J1.2.2.2.2.1.2.1
    refine ax_istore dL_law__384 (by decide) rfl ?_
    refine ax_aload_n dL_law__386 rfl ?_
    refine ax_aload_n dL_law__387 rfl ?_
    refine ax_iload dL_law__388 rfl ?_
    refine ax_iconst (v := 1) dL_law__390 (by decide) ?_
    refine ax_iadd dL_law__391 ?_
    rw [show nI (6 * j) + 1 = nI (6 * j + 1) from nI_add _ _]
    refine ax_sld dL_law__392 (pk_in (6 * j + 1) N (by omega)) ?_
    rw [h1]
    refine ax_callV (As := [av_i a1]) (d2 := _) (c1 := c) (n1 := n) (c_X10_law (M := M1) hok1 ht1 h6 a1) dL_law__393 mX10_law wd_1845 acl_10 (lo_s hok1 90 rfl) rfl (by omega) (by omega) (by omega) rfl rfl (fun E M9 h9 => by
      split at h9
      · obtain ⟨z9, -, -, h⟩ := h9; exact absurd h rd_nx
      · first | contradiction | cases h9.1) ?_
    intro r8 M2 hq2
    rw [if_neg (show ¬ ((0 ≤ a1 ∧ a1 ≤ nI t) ∧ a1 ≤ 150) from hg)] at hq2
    obtain ⟨e1, hb⟩ := hq2
    cases e1
    obtain ⟨e2, e3, J2⟩ := bad_v (w := 1) (k := 1) (by omega) J R hxre hb
    have hok2 : lo_ok M2.2 := by rw [e3]; exact hok1
    refine ax_istore dL_law__396 (by decide) rfl ?_
    refine ax_aload_n dL_law__398 rfl ?_
    refine ax_callV (As := []) (d2 := _) (c1 := c) (n1 := n) (c_X10_thrown (d := 0) (M := M2) hok2) dL_law__399 mX10_thrown wd_1760 acl_10 (lo_s hok2 90 rfl) rfl (by omega) (by omega) (by omega) rfl rfl (fun _ _ h => by cases h.1) ?_
    rintro r7 _ ⟨q7, rfl⟩; cases q7
    rw [e2]
    refine ax_iload dL_law__402 rfl ?_
    refine ax_icmp_eq (tgt := 409) dL_law__404 (by decide) (fun hc => ?_) (fun hc => ?_)
    rotate_left
    · exact absurd rfl hc
    clear hc
    refine ax_iload dL_law__409 rfl ?_
    refine ax_if_ne (tgt := 426) dL_law__411 (by decide) (fun hc => ?_) (fun hc => ?_)
    rotate_left
    · exact absurd hc hw0
    clear hc
    refine ax_goto (tgt := 2950) dL_law__426 (by decide) ?_
    exact ax_weak (lw_weak _ _ _) (next _ J2)
theorem lc_rule {l : Launch} {G : ax_G} {b N j c n : Nat} {xs : Nat → Int32} {M : ax_M} {a1 a2 a3 a4 a5 : Int32} (hl9 : l.stackTraces = false) (hj : 6 * j + 6 ≤ N) (hN : N ≤ 3072) (h1 : xs (nI (6 * j + 1)).toNatClampNeg = a1) (h2 : xs (nI (6 * j + 2)).toNatClampNeg = a2) (h3 : xs (nI (6 * j + 3)).toNatClampNeg = a3) (h4 : xs (nI (6 * j + 4)).toNatClampNeg = a4) (h5 : xs (nI (6 * j + 5)).toNatClampNeg = a5) (J0 : jj M) (next : ∀ M2, jj M2 → ax_W l G kL_law_ (ax_FE G (ax_FL G b N xs)) 60 c n M2 2950 [some (av_o 998), some (av_r 1), some (av_r 90), some (av_r 432), some (av_i (nI (6 * j))), none, none, none] []) : ax_W l G kL_law_ (ax_FE G (ax_FL G b N xs)) 60 (c + 4) (n + 24) M 429 [some (av_o 998), some (av_r 1), some (av_r 90), some (av_r 432), some (av_i (nI (6 * j))), none, none, none] [] := by
  obtain ⟨p, r, lw, es, t, n9, v9, q, J, R⟩ := J0
  have hok := jm_ok J
  have h6 := J.2.2.2.2.1.2.2.1
  refine ax_aload_n dL_law__429 rfl ?_
  refine ax_aload_n dL_law__430 rfl ?_
  refine ax_iload dL_law__431 rfl ?_
  refine ax_iconst (v := 1) dL_law__433 (by decide) ?_
  refine ax_iadd dL_law__434 ?_
  rw [show nI (6 * j) + 1 = nI (6 * j + 1) from nI_add _ _]
  refine ax_sld dL_law__435 (pk_in (6 * j + 1) N (by omega)) ?_
  rw [h1]
  refine ax_aload_n dL_law__436 rfl ?_
  refine ax_iload dL_law__437 rfl ?_
  refine ax_iconst (v := 2) dL_law__439 (by decide) ?_
  refine ax_iadd dL_law__440 ?_
  rw [show nI (6 * j) + 2 = nI (6 * j + 2) from nI_add _ _]
  refine ax_sld dL_law__441 (pk_in (6 * j + 2) N (by omega)) ?_
  rw [h2]
  refine ax_aload_n dL_law__442 rfl ?_
  refine ax_callSW (As := [av_r 1, av_i a1, av_i a2, av_r 432]) (c1 := c) (n1 := n) (w_rule (d := 36) (c := 2) (n := 12) a1 a2 (y_rule hl9 J a1 a2) (lo_s hok 1 rfl) (tq2_hv (fun _ _ h => by obtain ⟨z, w, -, -, -, -, -, h⟩ := h; obtain ⟨a, -, b⟩ := xlo_i h; exact ⟨a, b⟩)) (tq2_hx (fun _ _ h => by obtain ⟨z, w, -, -, -, -, -, h⟩ := h; exact xlo_x h))) dL_law__443 mwL_rule wd_1058 rfl (by omega) (by omega) (by omega) rfl rfl (fun _ _ => qw_nx) ?_
  intro r9 M1 hq
  rcases qw_t2 (fun _ _ h => by obtain ⟨z, w, -, -, -, -, -, h⟩ := h; exact xlo_x h) hq with ⟨hg1, hg2, rfl, vv, M0, ⟨z, w, hz, hz2, hxz, hw, hyw, hX⟩, hM1⟩ | ⟨hg1, rfl, hxre⟩ | ⟨hg1, hg2, rfl, hxre⟩
  · skip
    have sM : sm M0 M1 := by rw [hM1]; exact sm_pL _ _ _
    have hok1 := lo_sm (xlo_i hX).2.2 sM
    have ht1 := xlo_r J hX sM
    refine ax_istore dL_law__446 (by decide) rfl ?_
    refine ax_aload_n dL_law__448 rfl ?_
    refine ax_aload_n dL_law__449 rfl ?_
    refine ax_iload dL_law__450 rfl ?_
    refine ax_iconst (v := 1) dL_law__452 (by decide) ?_
    refine ax_iadd dL_law__453 ?_
    rw [show nI (6 * j) + 1 = nI (6 * j + 1) from nI_add _ _]
    refine ax_sld dL_law__454 (pk_in (6 * j + 1) N (by omega)) ?_
    rw [h1]
    refine ax_aload_n dL_law__455 rfl ?_
    refine ax_iload dL_law__456 rfl ?_
    refine ax_iconst (v := 2) dL_law__458 (by decide) ?_
    refine ax_iadd dL_law__459 ?_
    rw [show nI (6 * j) + 2 = nI (6 * j + 2) from nI_add _ _]
    refine ax_sld dL_law__460 (pk_in (6 * j + 2) N (by omega)) ?_
    rw [h2]
    refine ax_callV (As := [av_i a1, av_i a2]) (d2 := _) (c1 := c) (n1 := n) (c_X10_rule (M := M1) hok1 ht1 h6 a1 a2) dL_law__461 mX10_rule wd_1885 acl_10 (lo_s hok1 90 rfl) rfl (by omega) (by omega) (by omega) rfl rfl (fun E M9 h9 => by
      split at h9
      · split at h9
        · obtain ⟨z9, w9, -, -, -, -, h⟩ := h9; exact absurd h rd_nx
        · first | contradiction | cases h9.1
      · first | contradiction | cases h9.1) ?_
    intro r8 M2 hq2
    rw [if_pos hg1, if_pos (show (0 ≤ a2 ∧ a2 ≤ nI t) ∧ a2 ≤ 150 from hg2)] at hq2
    obtain ⟨z2, w2, hz3, hxz2, hw2, hyw2, hb⟩ := hq2
    have ez : z2 = z := nI_un (by omega) (by omega) (hxz2.symm.trans hxz)
    subst ez
    have ew : w2 = w := nI_un (by omega) (by omega) (hyw2.symm.trans hyw)
    subst ew
    obtain ⟨⟨u, hu, e1⟩, e2, e3, J2⟩ := law_v (by omega) hz J R hX sM hb
    subst hu
    cases e1
    have hok2 : lo_ok M2.2 := by rw [e3]; exact hok1
    have e4 : M2.2.2.1 432 (0 : Int32).toNatClampNeg = u.toInt64 := by rw [show M2.2.2.1 = M1.2.2.1 by rw [e3], hM1]; exact pL_rd
    refine ax_istore dL_law__464 (by decide) rfl ?_
    refine ax_aload_n dL_law__466 rfl ?_
    refine ax_callV (As := []) (d2 := _) (c1 := c) (n1 := n) (c_X10_thrown (d := 0) (M := M2) hok2) dL_law__467 mX10_thrown wd_1760 acl_10 (lo_s hok2 90 rfl) rfl (by omega) (by omega) (by omega) rfl rfl (fun _ _ h => by cases h.1) ?_
    rintro r7 _ ⟨q7, rfl⟩; cases q7
    rw [e2]
    refine ax_iload dL_law__470 rfl ?_
    refine ax_icmp_eq (tgt := 477) dL_law__472 (by decide) (fun hc => ?_) (fun hc => ?_)
    rotate_left
    · exact absurd rfl hc
    clear hc
    refine ax_iload dL_law__477 rfl ?_
    refine ax_if_ne (tgt := 494) dL_law__479 (by decide) (fun hc => ?_) (fun hc => ?_)
    · exact absurd rfl hc
    clear hc
    refine ax_aload_n dL_law__482 rfl ?_
    refine ax_iconst (v := 0) dL_law__483 (by decide) ?_
    refine ax_lald dL_law__484 (lo_s hok2 432 rfl) (by unfold vp_in; decide) ?_
    rw [e4]
    refine ax_iload dL_law__485 rfl ?_
    refine ax_i2l dL_law__487 ?_
    refine ax_lcmp dL_law__488 ?_
    refine ax_if_eq (tgt := 494) dL_law__489 (by decide) (fun hc => ?_) (fun hc => ?_)
    · clear hc
      refine ax_goto (tgt := 2950) dL_law__494 (by decide) ?_
      exact ax_weak (lw_weak _ _ _) (next _ J2)
    · exact absurd ((lg_cmp_eq _ _).mpr rfl) hc
  · skip
    have hw0 : ¬ (1 : Int32) = 0 := by decide
    obtain ⟨J1, -⟩ := ask_1e J R hxre
    have hok1 := jm_ok J1
    have ht1 := J1.2.2.2.2.1.2.1
    refine ax_istore dL_law__446 (by decide) rfl ?_
    refine ax_aload_n dL_law__448 rfl ?_
    refine ax_aload_n dL_law__449 rfl ?_
    refine ax_iload dL_law__450 rfl ?_
    refine ax_iconst (v := 1) dL_law__452 (by decide) ?_
    refine ax_iadd dL_law__453 ?_
    rw [show nI (6 * j) + 1 = nI (6 * j + 1) from nI_add _ _]
    refine ax_sld dL_law__454 (pk_in (6 * j + 1) N (by omega)) ?_
    rw [h1]
    refine ax_aload_n dL_law__455 rfl ?_
    refine ax_iload dL_law__456 rfl ?_
    refine ax_iconst (v := 2) dL_law__458 (by decide) ?_
    refine ax_iadd dL_law__459 ?_
    rw [show nI (6 * j) + 2 = nI (6 * j + 2) from nI_add _ _]
    refine ax_sld dL_law__460 (pk_in (6 * j + 2) N (by omega)) ?_
    rw [h2]
    refine ax_callV (As := [av_i a1, av_i a2]) (d2 := _) (c1 := c) (n1 := n) (c_X10_rule (M := M1) hok1 ht1 h6 a1 a2) dL_law__461 mX10_rule wd_1885 acl_10 (lo_s hok1 90 rfl) rfl (by omega) (by omega) (by omega) rfl rfl (fun E M9 h9 => by
      split at h9
      · split at h9
        · obtain ⟨z9, w9, -, -, -, -, h⟩ := h9; exact absurd h rd_nx
        · first | contradiction | cases h9.1
      · first | contradiction | cases h9.1) ?_
    intro r8 M2 hq2
    rw [if_neg hg1] at hq2
    obtain ⟨e1, hb⟩ := hq2
    cases e1
    obtain ⟨e2, e3, J2⟩ := bad_v (w := 1) (k := 0) (by omega) J R hxre hb
    have hok2 : lo_ok M2.2 := by rw [e3]; exact hok1
    refine ax_istore dL_law__464 (by decide) rfl ?_
    refine ax_aload_n dL_law__466 rfl ?_
    refine ax_callV (As := []) (d2 := _) (c1 := c) (n1 := n) (c_X10_thrown (d := 0) (M := M2) hok2) dL_law__467 mX10_thrown wd_1760 acl_10 (lo_s hok2 90 rfl) rfl (by omega) (by omega) (by omega) rfl rfl (fun _ _ h => by cases h.1) ?_
    rintro r7 _ ⟨q7, rfl⟩; cases q7
    rw [e2]
    refine ax_iload dL_law__470 rfl ?_
    refine ax_icmp_eq (tgt := 477) dL_law__472 (by decide) (fun hc => ?_) (fun hc => ?_)
    rotate_left
    · exact absurd rfl hc
    clear hc
    refine ax_iload dL_law__477 rfl ?_
    refine ax_if_ne (tgt := 494) dL_law__479 (by decide) (fun hc => ?_) (fun hc => ?_)
    rotate_left
    · exact absurd hc hw0
    clear hc
    refine ax_goto (tgt := 2950) dL_law__494 (by decide) ?_
    exact ax_weak (lw_weak _ _ _) (next _ J2)
  · skip
    have hw0 : ¬ (2 : Int32) = 0 := by decide
    obtain ⟨J1, -⟩ := ask_1e J R hxre
    have hok1 := jm_ok J1
    have ht1 := J1.2.2.2.2.1.2.1
    refine ax_istore dL_law__446 (by decide) rfl ?_
    refine ax_aload_n dL_law__448 rfl ?_
    refine ax_aload_n dL_law__449 rfl ?_
    refine ax_iload dL_law__450 rfl ?_
    refine ax_iconst (v := 1) dL_law__452 (by decide) ?_
    refine ax_iadd dL_law__453 ?_
    rw [show nI (6 * j) + 1 = nI (6 * j + 1) from nI_add _ _]
    refine ax_sld dL_law__454 (pk_in (6 * j + 1) N (by omega)) ?_
    rw [h1]
    refine ax_aload_n dL_law__455 rfl ?_
    refine ax_iload dL_law__456 rfl ?_
    refine ax_iconst (v := 2) dL_law__458 (by decide) ?_
    refine ax_iadd dL_law__459 ?_
    rw [show nI (6 * j) + 2 = nI (6 * j + 2) from nI_add _ _]
    refine ax_sld dL_law__460 (pk_in (6 * j + 2) N (by omega)) ?_
    rw [h2]
    refine ax_callV (As := [av_i a1, av_i a2]) (d2 := _) (c1 := c) (n1 := n) (c_X10_rule (M := M1) hok1 ht1 h6 a1 a2) dL_law__461 mX10_rule wd_1885 acl_10 (lo_s hok1 90 rfl) rfl (by omega) (by omega) (by omega) rfl rfl (fun E M9 h9 => by
      split at h9
      · split at h9
        · obtain ⟨z9, w9, -, -, -, -, h⟩ := h9; exact absurd h rd_nx
        · first | contradiction | cases h9.1
      · first | contradiction | cases h9.1) ?_
    intro r8 M2 hq2
    rw [if_pos hg1, if_neg (show ¬ ((0 ≤ a2 ∧ a2 ≤ nI t) ∧ a2 ≤ 150) from hg2)] at hq2
    obtain ⟨e1, hb⟩ := hq2
    cases e1
    obtain ⟨e2, e3, J2⟩ := bad_v (w := 2) (k := 1) (by omega) J R hxre hb
    have hok2 : lo_ok M2.2 := by rw [e3]; exact hok1
    refine ax_istore dL_law__464 (by decide) rfl ?_
    refine ax_aload_n dL_law__466 rfl ?_
    refine ax_callV (As := []) (d2 := _) (c1 := c) (n1 := n) (c_X10_thrown (d := 0) (M := M2) hok2) dL_law__467 mX10_thrown wd_1760 acl_10 (lo_s hok2 90 rfl) rfl (by omega) (by omega) (by omega) rfl rfl (fun _ _ h => by cases h.1) ?_
    rintro r7 _ ⟨q7, rfl⟩; cases q7
    rw [e2]
    refine ax_iload dL_law__470 rfl ?_
    refine ax_icmp_eq (tgt := 477) dL_law__472 (by decide) (fun hc => ?_) (fun hc => ?_)
    rotate_left
    · exact absurd rfl hc
    clear hc
    refine ax_iload dL_law__477 rfl ?_
    refine ax_if_ne (tgt := 494) dL_law__479 (by decide) (fun hc => ?_) (fun hc => ?_)
    rotate_left
    · exact absurd hc hw0
    clear hc
    refine ax_goto (tgt := 2950) dL_law__494 (by decide) ?_
    exact ax_weak (lw_weak _ _ _) (next _ J2)
theorem lc_book {l : Launch} {G : ax_G} {b N j c n : Nat} {xs : Nat → Int32} {M : ax_M} {a1 a2 a3 a4 a5 : Int32} (hl9 : l.stackTraces = false) (hj : 6 * j + 6 ≤ N) (hN : N ≤ 3072) (h1 : xs (nI (6 * j + 1)).toNatClampNeg = a1) (h2 : xs (nI (6 * j + 2)).toNatClampNeg = a2) (h3 : xs (nI (6 * j + 3)).toNatClampNeg = a3) (h4 : xs (nI (6 * j + 4)).toNatClampNeg = a4) (h5 : xs (nI (6 * j + 5)).toNatClampNeg = a5) (J0 : jj M) (next : ∀ M2, jj M2 → ax_W l G kL_law_ (ax_FE G (ax_FL G b N xs)) 60 c n M2 2950 [some (av_o 998), some (av_r 1), some (av_r 90), some (av_r 432), some (av_i (nI (6 * j))), none, none, none] []) : ax_W l G kL_law_ (ax_FE G (ax_FL G b N xs)) 60 (c + 4) (n + 24) M 497 [some (av_o 998), some (av_r 1), some (av_r 90), some (av_r 432), some (av_i (nI (6 * j))), none, none, none] [] := by
  obtain ⟨p, r, lw, es, t, n9, v9, q, J, R⟩ := J0
  have hok := jm_ok J
  have h6 := J.2.2.2.2.1.2.2.1
  refine ax_aload_n dL_law__497 rfl ?_
  refine ax_aload_n dL_law__498 rfl ?_
  refine ax_iload dL_law__499 rfl ?_
  refine ax_iconst (v := 1) dL_law__501 (by decide) ?_
  refine ax_iadd dL_law__502 ?_
  rw [show nI (6 * j) + 1 = nI (6 * j + 1) from nI_add _ _]
  refine ax_sld dL_law__503 (pk_in (6 * j + 1) N (by omega)) ?_
  rw [h1]
  refine ax_aload_n dL_law__504 rfl ?_
  refine ax_callSW (As := [av_r 1, av_i a1, av_r 432]) (c1 := c) (n1 := n) (w_book (d := 8) (c := 1) (n := 6) a1 (y_book hl9 J a1) (lo_s hok 1 rfl) (tq_hv (fun _ _ _ h => by obtain ⟨z, -, -, -, h⟩ := h; obtain ⟨a, -, b⟩ := xbo_i h; exact ⟨a, b⟩)) (tq_hx (fun _ _ h => by obtain ⟨z, -, -, -, h⟩ := h; exact xbo_x h))) dL_law__505 mwL_book wd_1090 rfl (by omega) (by omega) (by omega) rfl rfl (fun _ _ => qw_nx) ?_
  intro r9 M1 hq
  rcases qw_t (fun _ _ h => by obtain ⟨z, -, -, -, h⟩ := h; exact xbo_x h) hq with ⟨hg, rfl, vv, M0, ⟨z, hz, hz2, hxz, hX⟩, hM1⟩ | ⟨hg, rfl, hxre⟩
  · skip
    have sM : sm M0 M1 := by rw [hM1]; exact sm_pL _ _ _
    have hok1 := lo_sm (xbo_i hX).2.2 sM
    have ht1 := xbo_r J hX sM
    refine ax_istore dL_law__508 (by decide) rfl ?_
    refine ax_aload_n dL_law__510 rfl ?_
    refine ax_aload_n dL_law__511 rfl ?_
    refine ax_iload dL_law__512 rfl ?_
    refine ax_iconst (v := 1) dL_law__514 (by decide) ?_
    refine ax_iadd dL_law__515 ?_
    rw [show nI (6 * j) + 1 = nI (6 * j + 1) from nI_add _ _]
    refine ax_sld dL_law__516 (pk_in (6 * j + 1) N (by omega)) ?_
    rw [h1]
    refine ax_callV (As := [av_i a1]) (d2 := _) (c1 := c) (n1 := n) (c_book (M := M1) hok1 ht1 h6 a1) dL_law__517 mX10_book wd_1889 acl_10 (lo_s hok1 90 rfl) rfl (by omega) (by omega) (by omega) rfl rfl (fun E M9 h9 => by
      split at h9
      · obtain ⟨z9, -, -, h⟩ := h9; exact absurd h bk_out_x
      · first | contradiction | cases h9.1) ?_
    intro r8 M2 hq2
    rw [if_pos (show (0 ≤ a1 ∧ a1 ≤ nI t) ∧ a1 ≤ 150 from hg)] at hq2
    obtain ⟨z2, hz3, hxz2, hb⟩ := hq2
    have ez : z2 = z := nI_un (by omega) (by omega) (hxz2.symm.trans hxz)
    subst ez
    obtain ⟨⟨u, hu, e1⟩, e2, e3, J2⟩ := book_v J R hX sM hb
    subst hu
    cases e1
    have hok2 : lo_ok M2.2 := by rw [e3]; exact hok1
    have e4 : M2.2.2.1 432 (0 : Int32).toNatClampNeg = u.toInt64 := by rw [show M2.2.2.1 = M1.2.2.1 by rw [e3], hM1]; exact pL_rd
    refine ax_istore dL_law__520 (by decide) rfl ?_
    refine ax_aload_n dL_law__522 rfl ?_
    refine ax_callV (As := []) (d2 := _) (c1 := c) (n1 := n) (c_X10_thrown (d := 0) (M := M2) hok2) dL_law__523 mX10_thrown wd_1760 acl_10 (lo_s hok2 90 rfl) rfl (by omega) (by omega) (by omega) rfl rfl (fun _ _ h => by cases h.1) ?_
    rintro r7 _ ⟨q7, rfl⟩; cases q7
    rw [e2]
    refine ax_iload dL_law__526 rfl ?_
    refine ax_icmp_eq (tgt := 533) dL_law__528 (by decide) (fun hc => ?_) (fun hc => ?_)
    rotate_left
    · exact absurd rfl hc
    clear hc
    refine ax_iload dL_law__533 rfl ?_
    refine ax_if_ne (tgt := 550) dL_law__535 (by decide) (fun hc => ?_) (fun hc => ?_)
    · exact absurd rfl hc
    clear hc
    refine ax_aload_n dL_law__538 rfl ?_
    refine ax_iconst (v := 0) dL_law__539 (by decide) ?_
    refine ax_lald dL_law__540 (lo_s hok2 432 rfl) (by unfold vp_in; decide) ?_
    rw [e4]
    refine ax_iload dL_law__541 rfl ?_
    refine ax_i2l dL_law__543 ?_
    refine ax_lcmp dL_law__544 ?_
    refine ax_if_eq (tgt := 550) dL_law__545 (by decide) (fun hc => ?_) (fun hc => ?_)
    · clear hc
      refine ax_goto (tgt := 2950) dL_law__550 (by decide) ?_
      exact ax_weak (lw_weak _ _ _) (next _ J2)
    · exact absurd ((lg_cmp_eq _ _).mpr rfl) hc
  · skip
    have hw0 : ¬ (1 : Int32) = 0 := by decide
    obtain ⟨J1, -⟩ := ask_1e J R hxre
    have hok1 := jm_ok J1
    have ht1 := J1.2.2.2.2.1.2.1
    refine ax_istore dL_law__508 (by decide) rfl ?_
    refine ax_aload_n dL_law__510 rfl ?_
    refine ax_aload_n dL_law__511 rfl ?_
    refine ax_iload dL_law__512 rfl ?_
    refine ax_iconst (v := 1) dL_law__514 (by decide) ?_
    refine ax_iadd dL_law__515 ?_
    rw [show nI (6 * j) + 1 = nI (6 * j + 1) from nI_add _ _]
    refine ax_sld dL_law__516 (pk_in (6 * j + 1) N (by omega)) ?_
    rw [h1]
    refine ax_callV (As := [av_i a1]) (d2 := _) (c1 := c) (n1 := n) (c_book (M := M1) hok1 ht1 h6 a1) dL_law__517 mX10_book wd_1889 acl_10 (lo_s hok1 90 rfl) rfl (by omega) (by omega) (by omega) rfl rfl (fun E M9 h9 => by
      split at h9
      · obtain ⟨z9, -, -, h⟩ := h9; exact absurd h bk_out_x
      · first | contradiction | cases h9.1) ?_
    intro r8 M2 hq2
    rw [if_neg (show ¬ ((0 ≤ a1 ∧ a1 ≤ nI t) ∧ a1 ≤ 150) from hg)] at hq2
    obtain ⟨e1, hb⟩ := hq2
    cases e1
    obtain ⟨e2, e3, J2⟩ := bad_v (w := 1) (k := 1) (by omega) J R hxre hb
    have hok2 : lo_ok M2.2 := by rw [e3]; exact hok1
    refine ax_istore dL_law__520 (by decide) rfl ?_
    refine ax_aload_n dL_law__522 rfl ?_
    refine ax_callV (As := []) (d2 := _) (c1 := c) (n1 := n) (c_X10_thrown (d := 0) (M := M2) hok2) dL_law__523 mX10_thrown wd_1760 acl_10 (lo_s hok2 90 rfl) rfl (by omega) (by omega) (by omega) rfl rfl (fun _ _ h => by cases h.1) ?_
    rintro r7 _ ⟨q7, rfl⟩; cases q7
    rw [e2]
    refine ax_iload dL_law__526 rfl ?_
    refine ax_icmp_eq (tgt := 533) dL_law__528 (by decide) (fun hc => ?_) (fun hc => ?_)
    rotate_left
    · exact absurd rfl hc
    clear hc
    refine ax_iload dL_law__533 rfl ?_
    refine ax_if_ne (tgt := 550) dL_law__535 (by decide) (fun hc => ?_) (fun hc => ?_)
    rotate_left
    · exact absurd hc hw0
    clear hc
    refine ax_goto (tgt := 2950) dL_law__550 (by decide) ?_
    exact ax_weak (lw_weak _ _ _) (next _ J2)
theorem lc_drives {l : Launch} {G : ax_G} {b N j c n : Nat} {xs : Nat → Int32} {M : ax_M} {a1 a2 a3 a4 a5 : Int32} (hl9 : l.stackTraces = false) (hj : 6 * j + 6 ≤ N) (hN : N ≤ 3072) (h1 : xs (nI (6 * j + 1)).toNatClampNeg = a1) (h2 : xs (nI (6 * j + 2)).toNatClampNeg = a2) (h3 : xs (nI (6 * j + 3)).toNatClampNeg = a3) (h4 : xs (nI (6 * j + 4)).toNatClampNeg = a4) (h5 : xs (nI (6 * j + 5)).toNatClampNeg = a5) (J0 : jj M) (next : ∀ M2, jj M2 → ax_W l G kL_law_ (ax_FE G (ax_FL G b N xs)) 60 c n M2 2950 [some (av_o 998), some (av_r 1), some (av_r 90), some (av_r 432), some (av_i (nI (6 * j))), none, none, none] []) : ax_W l G kL_law_ (ax_FE G (ax_FL G b N xs)) 60 (c + 4) (n + 24) M 2633 [some (av_o 998), some (av_r 1), some (av_r 90), some (av_r 432), some (av_i (nI (6 * j))), none, none, none] [] := by
  obtain ⟨p, r, lw, es, t, n9, v9, q, J, R⟩ := J0
  have hok := jm_ok J
  have Jc := J.2.2.2.2.2.2.2.1
  refine ax_aload_n dL_law__2633 rfl ?_
  refine ax_aload_n dL_law__2634 rfl ?_
  refine ax_iload dL_law__2635 rfl ?_
  refine ax_iconst (v := 1) dL_law__2637 (by decide) ?_
  refine ax_iadd dL_law__2638 ?_
  rw [show nI (6 * j) + 1 = nI (6 * j + 1) from nI_add _ _]
  refine ax_sld dL_law__2639 (pk_in (6 * j + 1) N (by omega)) ?_
  rw [h1]
  refine ax_aload_n dL_law__2640 rfl ?_
  refine ax_iload dL_law__2641 rfl ?_
  refine ax_iconst (v := 2) dL_law__2643 (by decide) ?_
  refine ax_iadd dL_law__2644 ?_
  rw [show nI (6 * j) + 2 = nI (6 * j + 2) from nI_add _ _]
  refine ax_sld dL_law__2645 (pk_in (6 * j + 2) N (by omega)) ?_
  rw [h2]
  refine ax_aload_n dL_law__2646 rfl ?_
  refine ax_iload dL_law__2647 rfl ?_
  refine ax_iconst (v := 3) dL_law__2649 (by decide) ?_
  refine ax_iadd dL_law__2650 ?_
  rw [show nI (6 * j) + 3 = nI (6 * j + 3) from nI_add _ _]
  refine ax_sld dL_law__2651 (pk_in (6 * j + 3) N (by omega)) ?_
  rw [h3]
  refine ax_aload_n dL_law__2652 rfl ?_
  refine ax_callSW (As := [av_r 1, av_i a1, av_i a2, av_i a3, av_r 432]) (c1 := c) (n1 := n) (w_drives (d := 8) (c := 3) (n := 18) a1 a2 a3 (y_chg (x_drives hl9 J.1 Jc.1 Jc.2.2.1 a1 a2 a3)) (lo_s hok 1 rfl) (tq2_hv (fun _ _ h => by obtain ⟨c9, a9, b9, -, -, -, -, -, h⟩ := h; exact xch_i J.1 h)) (tq2_hx (fun _ _ h => by obtain ⟨c9, a9, b9, -, -, -, -, -, h⟩ := h; exact xch_x h))) dL_law__2653 mwL_drives wd_1545 rfl (by omega) (by omega) (by omega) rfl rfl (fun _ _ => qw_nx) ?_
  intro r9 M1 hq
  rcases qw_t2 (fun _ _ h => by obtain ⟨c9, a9, b9, -, -, -, -, -, h⟩ := h; exact xch_x h) hq with ⟨hg1, hg2, rfl, vv, M0, ⟨c9, a9, b9, hc1, hc2, hc3, hk9, hb9, hX⟩, hM1⟩ | ⟨hg1, rfl, hxre⟩ | ⟨hg1, hg2, rfl, hxre⟩
  · skip
    have sM : sm M0 M1 := by rw [hM1]; exact sm_pL _ _ _
    have hok1 := lo_sm (xch_i J.1 hX).2 sM
    have fr := xch_r J.1 hX sM
    have hr1 : rr M1 r := rr_fr J.2.1 (fun m i z => fr m i (by omega))
    have hn1 : M1.1 90 33 = nI n9 := (fr 90 33 (by omega)).trans Jc.2.1
    refine ax_istore dL_law__2656 (by decide) rfl ?_
    refine ax_aload_n dL_law__2658 rfl ?_
    refine ax_aload_n dL_law__2659 rfl ?_
    refine ax_iload dL_law__2660 rfl ?_
    refine ax_iconst (v := 1) dL_law__2662 (by decide) ?_
    refine ax_iadd dL_law__2663 ?_
    rw [show nI (6 * j) + 1 = nI (6 * j + 1) from nI_add _ _]
    refine ax_sld dL_law__2664 (pk_in (6 * j + 1) N (by omega)) ?_
    rw [h1]
    refine ax_aload_n dL_law__2665 rfl ?_
    refine ax_iload dL_law__2666 rfl ?_
    refine ax_iconst (v := 2) dL_law__2668 (by decide) ?_
    refine ax_iadd dL_law__2669 ?_
    rw [show nI (6 * j) + 2 = nI (6 * j + 2) from nI_add _ _]
    refine ax_sld dL_law__2670 (pk_in (6 * j + 2) N (by omega)) ?_
    rw [h2]
    refine ax_aload_n dL_law__2671 rfl ?_
    refine ax_iload dL_law__2672 rfl ?_
    refine ax_iconst (v := 3) dL_law__2674 (by decide) ?_
    refine ax_iadd dL_law__2675 ?_
    rw [show nI (6 * j) + 3 = nI (6 * j + 3) from nI_add _ _]
    refine ax_sld dL_law__2676 (pk_in (6 * j + 3) N (by omega)) ?_
    rw [h3]
    refine ax_callV (As := [av_i a1, av_i a2, av_i a3]) (d2 := _) (c1 := c) (n1 := n) (c_drives (M := M1) hok1 hr1 J.1.1.2.2.1 hn1 Jc.2.2.1 a1 a2 a3) dL_law__2677 mX10_drives wd_2182 acl_10 (lo_s hok1 90 rfl) rfl (by omega) (by omega) (by omega) rfl rfl (fun _ _ => rz_nx9) ?_
    intro r8 M2 hq2
    unfold qz_drives at hq2
    rw [if_neg (fun z => z hg1), if_neg (fun z => z.elim (fun w => w hg2.1) (fun w => w hg2.2))] at hq2
    have hcl := (cpl_b J.1.1.2.2.1 hk9).2
    have h0 := J.1.1.2.2.1.1
    have hk8 := hk9.2.1 rfl
    rw [hc1, nI_clamp (by omega), hc2, hc3] at hq2
    have g20 : n9 = 20 → (Sum.inl r8 : ax_O) = .inl (some (av_i 0)) ∧ M2 = ax_pI M1 90 0 0 := fun z => by rw [if_pos z] at hq2; exact hq2
    have g21 : n9 < 20 → (Sum.inl r8 : ax_O) = .inl (some (av_i 1)) ∧ M2 = ax_pI (ax_pI (mk_ch (ax_pI M1 90 0 0) n9) 100 (cpl 0 c9) (iI a9)) 100 (cpl 0 c9 + 1) (iI b9) := fun z => by
      rw [if_neg (by omega)] at hq2
      exact hq2
    obtain ⟨⟨u, hu, e1⟩, e2, e3, J2⟩ := chg_v J R hk9 hX sM g20 g21
    subst hu
    cases e1
    have hok2 : lo_ok M2.2 := by rw [e3]; exact hok1
    have e4 : M2.2.2.1 432 (0 : Int32).toNatClampNeg = u.toInt64 := by rw [show M2.2.2.1 = M1.2.2.1 by rw [e3], hM1]; exact pL_rd
    refine ax_istore dL_law__2680 (by decide) rfl ?_
    refine ax_aload_n dL_law__2682 rfl ?_
    refine ax_callV (As := []) (d2 := _) (c1 := c) (n1 := n) (c_X10_thrown (d := 0) (M := M2) hok2) dL_law__2683 mX10_thrown wd_1760 acl_10 (lo_s hok2 90 rfl) rfl (by omega) (by omega) (by omega) rfl rfl (fun _ _ h => by cases h.1) ?_
    rintro r7 _ ⟨q7, rfl⟩; cases q7
    rw [e2]
    refine ax_iload dL_law__2686 rfl ?_
    refine ax_icmp_eq (tgt := 2693) dL_law__2688 (by decide) (fun hc => ?_) (fun hc => ?_)
    rotate_left
    · exact absurd rfl hc
    clear hc
    refine ax_iload dL_law__2693 rfl ?_
    refine ax_if_ne (tgt := 2710) dL_law__2695 (by decide) (fun hc => ?_) (fun hc => ?_)
    · exact absurd rfl hc
    clear hc
    refine ax_aload_n dL_law__2698 rfl ?_
    refine ax_iconst (v := 0) dL_law__2699 (by decide) ?_
    refine ax_lald dL_law__2700 (lo_s hok2 432 rfl) (by unfold vp_in; decide) ?_
    rw [e4]
    refine ax_iload dL_law__2701 rfl ?_
    refine ax_i2l dL_law__2703 ?_
    refine ax_lcmp dL_law__2704 ?_
    refine ax_if_eq (tgt := 2710) dL_law__2705 (by decide) (fun hc => ?_) (fun hc => ?_)
    · clear hc
      refine ax_goto (tgt := 2950) dL_law__2710 (by decide) ?_
      exact ax_weak (lw_weak _ _ _) (next _ J2)
    · exact absurd ((lg_cmp_eq _ _).mpr rfl) hc
  · skip
    have hw0 : ¬ (1 : Int32) = 0 := by decide
    obtain ⟨J1, -⟩ := ask_1e J R hxre
    have hok1 := jm_ok J1
    have hr1 := J1.2.1
    have hn1 := J1.2.2.2.2.2.2.2.1.2.1
    refine ax_istore dL_law__2656 (by decide) rfl ?_
    refine ax_aload_n dL_law__2658 rfl ?_
    refine ax_aload_n dL_law__2659 rfl ?_
    refine ax_iload dL_law__2660 rfl ?_
    refine ax_iconst (v := 1) dL_law__2662 (by decide) ?_
    refine ax_iadd dL_law__2663 ?_
    rw [show nI (6 * j) + 1 = nI (6 * j + 1) from nI_add _ _]
    refine ax_sld dL_law__2664 (pk_in (6 * j + 1) N (by omega)) ?_
    rw [h1]
    refine ax_aload_n dL_law__2665 rfl ?_
    refine ax_iload dL_law__2666 rfl ?_
    refine ax_iconst (v := 2) dL_law__2668 (by decide) ?_
    refine ax_iadd dL_law__2669 ?_
    rw [show nI (6 * j) + 2 = nI (6 * j + 2) from nI_add _ _]
    refine ax_sld dL_law__2670 (pk_in (6 * j + 2) N (by omega)) ?_
    rw [h2]
    refine ax_aload_n dL_law__2671 rfl ?_
    refine ax_iload dL_law__2672 rfl ?_
    refine ax_iconst (v := 3) dL_law__2674 (by decide) ?_
    refine ax_iadd dL_law__2675 ?_
    rw [show nI (6 * j) + 3 = nI (6 * j + 3) from nI_add _ _]
    refine ax_sld dL_law__2676 (pk_in (6 * j + 3) N (by omega)) ?_
    rw [h3]
    refine ax_callV (As := [av_i a1, av_i a2, av_i a3]) (d2 := _) (c1 := c) (n1 := n) (c_drives (M := M1) hok1 hr1 J.1.1.2.2.1 hn1 Jc.2.2.1 a1 a2 a3) dL_law__2677 mX10_drives wd_2182 acl_10 (lo_s hok1 90 rfl) rfl (by omega) (by omega) (by omega) rfl rfl (fun _ _ => rz_nx9) ?_
    intro r8 M2 hq2
    unfold qz_drives at hq2
    rw [if_pos hg1] at hq2
    obtain ⟨⟨u, e1⟩, hb⟩ := hq2
    cases e1
    obtain ⟨e2, e3, J2⟩ := bad_v (w := 1) (k := 0) (by omega) J R hxre hb
    have hok2 : lo_ok M2.2 := by rw [e3]; exact hok1
    refine ax_istore dL_law__2680 (by decide) rfl ?_
    refine ax_aload_n dL_law__2682 rfl ?_
    refine ax_callV (As := []) (d2 := _) (c1 := c) (n1 := n) (c_X10_thrown (d := 0) (M := M2) hok2) dL_law__2683 mX10_thrown wd_1760 acl_10 (lo_s hok2 90 rfl) rfl (by omega) (by omega) (by omega) rfl rfl (fun _ _ h => by cases h.1) ?_
    rintro r7 _ ⟨q7, rfl⟩; cases q7
    rw [e2]
    refine ax_iload dL_law__2686 rfl ?_
    refine ax_icmp_eq (tgt := 2693) dL_law__2688 (by decide) (fun hc => ?_) (fun hc => ?_)
    rotate_left
    · exact absurd rfl hc
    clear hc
    refine ax_iload dL_law__2693 rfl ?_
    refine ax_if_ne (tgt := 2710) dL_law__2695 (by decide) (fun hc => ?_) (fun hc => ?_)
    rotate_left
    · exact absurd hc hw0
    clear hc
    refine ax_goto (tgt := 2950) dL_law__2710 (by decide) ?_
    exact ax_weak (lw_weak _ _ _) (next _ J2)
  · skip
    have hw0 : ¬ (2 : Int32) = 0 := by decide
    obtain ⟨J1, -⟩ := ask_1e J R hxre
    have hok1 := jm_ok J1
    have hr1 := J1.2.1
    have hn1 := J1.2.2.2.2.2.2.2.1.2.1
    refine ax_istore dL_law__2656 (by decide) rfl ?_
    refine ax_aload_n dL_law__2658 rfl ?_
    refine ax_aload_n dL_law__2659 rfl ?_
    refine ax_iload dL_law__2660 rfl ?_
    refine ax_iconst (v := 1) dL_law__2662 (by decide) ?_
    refine ax_iadd dL_law__2663 ?_
    rw [show nI (6 * j) + 1 = nI (6 * j + 1) from nI_add _ _]
    refine ax_sld dL_law__2664 (pk_in (6 * j + 1) N (by omega)) ?_
    rw [h1]
    refine ax_aload_n dL_law__2665 rfl ?_
    refine ax_iload dL_law__2666 rfl ?_
    refine ax_iconst (v := 2) dL_law__2668 (by decide) ?_
    refine ax_iadd dL_law__2669 ?_
    rw [show nI (6 * j) + 2 = nI (6 * j + 2) from nI_add _ _]
    refine ax_sld dL_law__2670 (pk_in (6 * j + 2) N (by omega)) ?_
    rw [h2]
    refine ax_aload_n dL_law__2671 rfl ?_
    refine ax_iload dL_law__2672 rfl ?_
    refine ax_iconst (v := 3) dL_law__2674 (by decide) ?_
    refine ax_iadd dL_law__2675 ?_
    rw [show nI (6 * j) + 3 = nI (6 * j + 3) from nI_add _ _]
    refine ax_sld dL_law__2676 (pk_in (6 * j + 3) N (by omega)) ?_
    rw [h3]
    refine ax_callV (As := [av_i a1, av_i a2, av_i a3]) (d2 := _) (c1 := c) (n1 := n) (c_drives (M := M1) hok1 hr1 J.1.1.2.2.1 hn1 Jc.2.2.1 a1 a2 a3) dL_law__2677 mX10_drives wd_2182 acl_10 (lo_s hok1 90 rfl) rfl (by omega) (by omega) (by omega) rfl rfl (fun _ _ => rz_nx9) ?_
    intro r8 M2 hq2
    unfold qz_drives at hq2
    rw [if_neg (fun z => z hg1), if_pos (not_and9 hg2)] at hq2
    obtain ⟨⟨u, e1⟩, hb⟩ := hq2
    cases e1
    obtain ⟨e2, e3, J2⟩ := bad_v (w := 2) (k := 1) (by omega) J R hxre hb
    have hok2 : lo_ok M2.2 := by rw [e3]; exact hok1
    refine ax_istore dL_law__2680 (by decide) rfl ?_
    refine ax_aload_n dL_law__2682 rfl ?_
    refine ax_callV (As := []) (d2 := _) (c1 := c) (n1 := n) (c_X10_thrown (d := 0) (M := M2) hok2) dL_law__2683 mX10_thrown wd_1760 acl_10 (lo_s hok2 90 rfl) rfl (by omega) (by omega) (by omega) rfl rfl (fun _ _ h => by cases h.1) ?_
    rintro r7 _ ⟨q7, rfl⟩; cases q7
    rw [e2]
    refine ax_iload dL_law__2686 rfl ?_
    refine ax_icmp_eq (tgt := 2693) dL_law__2688 (by decide) (fun hc => ?_) (fun hc => ?_)
    rotate_left
    · exact absurd rfl hc
    clear hc
    refine ax_iload dL_law__2693 rfl ?_
    refine ax_if_ne (tgt := 2710) dL_law__2695 (by decide) (fun hc => ?_) (fun hc => ?_)
    rotate_left
    · exact absurd hc hw0
    clear hc
    refine ax_goto (tgt := 2950) dL_law__2710 (by decide) ?_
    exact ax_weak (lw_weak _ _ _) (next _ J2)
theorem lc_stands {l : Launch} {G : ax_G} {b N j c n : Nat} {xs : Nat → Int32} {M : ax_M} {a1 a2 a3 a4 a5 : Int32} (hl9 : l.stackTraces = false) (hj : 6 * j + 6 ≤ N) (hN : N ≤ 3072) (h1 : xs (nI (6 * j + 1)).toNatClampNeg = a1) (h2 : xs (nI (6 * j + 2)).toNatClampNeg = a2) (h3 : xs (nI (6 * j + 3)).toNatClampNeg = a3) (h4 : xs (nI (6 * j + 4)).toNatClampNeg = a4) (h5 : xs (nI (6 * j + 5)).toNatClampNeg = a5) (J0 : jj M) (next : ∀ M2, jj M2 → ax_W l G kL_law_ (ax_FE G (ax_FL G b N xs)) 60 c n M2 2950 [some (av_o 998), some (av_r 1), some (av_r 90), some (av_r 432), some (av_i (nI (6 * j))), none, none, none] []) : ax_W l G kL_law_ (ax_FE G (ax_FL G b N xs)) 60 (c + 4) (n + 24) M 2713 [some (av_o 998), some (av_r 1), some (av_r 90), some (av_r 432), some (av_i (nI (6 * j))), none, none, none] [] := by
  obtain ⟨p, r, lw, es, t, n9, v9, q, J, R⟩ := J0
  have hok := jm_ok J
  have Jc := J.2.2.2.2.2.2.2.1
  refine ax_aload_n dL_law__2713 rfl ?_
  refine ax_aload_n dL_law__2714 rfl ?_
  refine ax_iload dL_law__2715 rfl ?_
  refine ax_iconst (v := 1) dL_law__2717 (by decide) ?_
  refine ax_iadd dL_law__2718 ?_
  rw [show nI (6 * j) + 1 = nI (6 * j + 1) from nI_add _ _]
  refine ax_sld dL_law__2719 (pk_in (6 * j + 1) N (by omega)) ?_
  rw [h1]
  refine ax_aload_n dL_law__2720 rfl ?_
  refine ax_iload dL_law__2721 rfl ?_
  refine ax_iconst (v := 2) dL_law__2723 (by decide) ?_
  refine ax_iadd dL_law__2724 ?_
  rw [show nI (6 * j) + 2 = nI (6 * j + 2) from nI_add _ _]
  refine ax_sld dL_law__2725 (pk_in (6 * j + 2) N (by omega)) ?_
  rw [h2]
  refine ax_aload_n dL_law__2726 rfl ?_
  refine ax_iload dL_law__2727 rfl ?_
  refine ax_iconst (v := 3) dL_law__2729 (by decide) ?_
  refine ax_iadd dL_law__2730 ?_
  rw [show nI (6 * j) + 3 = nI (6 * j + 3) from nI_add _ _]
  refine ax_sld dL_law__2731 (pk_in (6 * j + 3) N (by omega)) ?_
  rw [h3]
  refine ax_aload_n dL_law__2732 rfl ?_
  refine ax_callSW (As := [av_r 1, av_i a1, av_i a2, av_i a3, av_r 432]) (c1 := c) (n1 := n) (w_stands (d := 8) (c := 3) (n := 18) a1 a2 a3 (y_chg (x_stands hl9 J.1 Jc.1 Jc.2.2.1 a1 a2 a3)) (lo_s hok 1 rfl) (tq2_hv (fun _ _ h => by obtain ⟨c9, a9, b9, -, -, -, -, -, h⟩ := h; exact xch_i J.1 h)) (tq2_hx (fun _ _ h => by obtain ⟨c9, a9, b9, -, -, -, -, -, h⟩ := h; exact xch_x h))) dL_law__2733 mwL_stands wd_1566 rfl (by omega) (by omega) (by omega) rfl rfl (fun _ _ => qw_nx) ?_
  intro r9 M1 hq
  rcases qw_t2 (fun _ _ h => by obtain ⟨c9, a9, b9, -, -, -, -, -, h⟩ := h; exact xch_x h) hq with ⟨hg1, hg2, rfl, vv, M0, ⟨c9, a9, b9, hc1, hc2, hc3, hk9, hb9, hX⟩, hM1⟩ | ⟨hg1, rfl, hxre⟩ | ⟨hg1, hg2, rfl, hxre⟩
  · skip
    have sM : sm M0 M1 := by rw [hM1]; exact sm_pL _ _ _
    have hok1 := lo_sm (xch_i J.1 hX).2 sM
    have fr := xch_r J.1 hX sM
    have hr1 : rr M1 r := rr_fr J.2.1 (fun m i z => fr m i (by omega))
    have hn1 : M1.1 90 33 = nI n9 := (fr 90 33 (by omega)).trans Jc.2.1
    refine ax_istore dL_law__2736 (by decide) rfl ?_
    refine ax_aload_n dL_law__2738 rfl ?_
    refine ax_aload_n dL_law__2739 rfl ?_
    refine ax_iload dL_law__2740 rfl ?_
    refine ax_iconst (v := 1) dL_law__2742 (by decide) ?_
    refine ax_iadd dL_law__2743 ?_
    rw [show nI (6 * j) + 1 = nI (6 * j + 1) from nI_add _ _]
    refine ax_sld dL_law__2744 (pk_in (6 * j + 1) N (by omega)) ?_
    rw [h1]
    refine ax_aload_n dL_law__2745 rfl ?_
    refine ax_iload dL_law__2746 rfl ?_
    refine ax_iconst (v := 2) dL_law__2748 (by decide) ?_
    refine ax_iadd dL_law__2749 ?_
    rw [show nI (6 * j) + 2 = nI (6 * j + 2) from nI_add _ _]
    refine ax_sld dL_law__2750 (pk_in (6 * j + 2) N (by omega)) ?_
    rw [h2]
    refine ax_aload_n dL_law__2751 rfl ?_
    refine ax_iload dL_law__2752 rfl ?_
    refine ax_iconst (v := 3) dL_law__2754 (by decide) ?_
    refine ax_iadd dL_law__2755 ?_
    rw [show nI (6 * j) + 3 = nI (6 * j + 3) from nI_add _ _]
    refine ax_sld dL_law__2756 (pk_in (6 * j + 3) N (by omega)) ?_
    rw [h3]
    refine ax_callV (As := [av_i a1, av_i a2, av_i a3]) (d2 := _) (c1 := c) (n1 := n) (c_stands (M := M1) hok1 hr1 J.1.1.2.2.1 hn1 Jc.2.2.1 a1 a2 a3) dL_law__2757 mX10_stands wd_2190 acl_10 (lo_s hok1 90 rfl) rfl (by omega) (by omega) (by omega) rfl rfl (fun _ _ => rz_nx9) ?_
    intro r8 M2 hq2
    unfold qz_stands at hq2
    rw [if_neg (fun z => z hg1), if_neg (fun z => z.elim (fun w => w hg2.1) (fun w => w hg2.2))] at hq2
    have hcl := (cpl_b J.1.1.2.2.1 hk9).2
    have h0 := J.1.1.2.2.1.1
    have hk8 := hk9.2.2 rfl
    rw [hc1, nI_clamp (by omega), hc2, hc3] at hq2
    have g20 : n9 = 20 → (Sum.inl r8 : ax_O) = .inl (some (av_i 0)) ∧ M2 = ax_pI M1 90 0 0 := fun z => by rw [if_pos z] at hq2; exact hq2
    have g21 : n9 < 20 → (Sum.inl r8 : ax_O) = .inl (some (av_i 1)) ∧ M2 = ax_pI (ax_pI (mk_ch (ax_pI M1 90 0 0) n9) 100 (cpl 1 c9) (iI a9)) 100 (cpl 1 c9 + 1) (iI b9) := fun z => by
      rw [if_neg (by omega)] at hq2
      rw [show cpl 1 c9 = 4 + 2 * c9 from rfl, show 4 + 2 * c9 + 1 = 5 + 2 * c9 by omega]
      exact hq2
    obtain ⟨⟨u, hu, e1⟩, e2, e3, J2⟩ := chg_v J R hk9 hX sM g20 g21
    subst hu
    cases e1
    have hok2 : lo_ok M2.2 := by rw [e3]; exact hok1
    have e4 : M2.2.2.1 432 (0 : Int32).toNatClampNeg = u.toInt64 := by rw [show M2.2.2.1 = M1.2.2.1 by rw [e3], hM1]; exact pL_rd
    refine ax_istore dL_law__2760 (by decide) rfl ?_
    refine ax_aload_n dL_law__2762 rfl ?_
    refine ax_callV (As := []) (d2 := _) (c1 := c) (n1 := n) (c_X10_thrown (d := 0) (M := M2) hok2) dL_law__2763 mX10_thrown wd_1760 acl_10 (lo_s hok2 90 rfl) rfl (by omega) (by omega) (by omega) rfl rfl (fun _ _ h => by cases h.1) ?_
    rintro r7 _ ⟨q7, rfl⟩; cases q7
    rw [e2]
    refine ax_iload dL_law__2766 rfl ?_
    refine ax_icmp_eq (tgt := 2773) dL_law__2768 (by decide) (fun hc => ?_) (fun hc => ?_)
    rotate_left
    · exact absurd rfl hc
    clear hc
    refine ax_iload dL_law__2773 rfl ?_
    refine ax_if_ne (tgt := 2790) dL_law__2775 (by decide) (fun hc => ?_) (fun hc => ?_)
    · exact absurd rfl hc
    clear hc
    refine ax_aload_n dL_law__2778 rfl ?_
    refine ax_iconst (v := 0) dL_law__2779 (by decide) ?_
    refine ax_lald dL_law__2780 (lo_s hok2 432 rfl) (by unfold vp_in; decide) ?_
    rw [e4]
    refine ax_iload dL_law__2781 rfl ?_
    refine ax_i2l dL_law__2783 ?_
    refine ax_lcmp dL_law__2784 ?_
    refine ax_if_eq (tgt := 2790) dL_law__2785 (by decide) (fun hc => ?_) (fun hc => ?_)
    · clear hc
      refine ax_goto (tgt := 2950) dL_law__2790 (by decide) ?_
      exact ax_weak (lw_weak _ _ _) (next _ J2)
    · exact absurd ((lg_cmp_eq _ _).mpr rfl) hc
  · skip
    have hw0 : ¬ (1 : Int32) = 0 := by decide
    obtain ⟨J1, -⟩ := ask_1e J R hxre
    have hok1 := jm_ok J1
    have hr1 := J1.2.1
    have hn1 := J1.2.2.2.2.2.2.2.1.2.1
    refine ax_istore dL_law__2736 (by decide) rfl ?_
    refine ax_aload_n dL_law__2738 rfl ?_
    refine ax_aload_n dL_law__2739 rfl ?_
    refine ax_iload dL_law__2740 rfl ?_
    refine ax_iconst (v := 1) dL_law__2742 (by decide) ?_
    refine ax_iadd dL_law__2743 ?_
    rw [show nI (6 * j) + 1 = nI (6 * j + 1) from nI_add _ _]
    refine ax_sld dL_law__2744 (pk_in (6 * j + 1) N (by omega)) ?_
    rw [h1]
    refine ax_aload_n dL_law__2745 rfl ?_
    refine ax_iload dL_law__2746 rfl ?_
    refine ax_iconst (v := 2) dL_law__2748 (by decide) ?_
    refine ax_iadd dL_law__2749 ?_
    rw [show nI (6 * j) + 2 = nI (6 * j + 2) from nI_add _ _]
    refine ax_sld dL_law__2750 (pk_in (6 * j + 2) N (by omega)) ?_
    rw [h2]
    refine ax_aload_n dL_law__2751 rfl ?_
    refine ax_iload dL_law__2752 rfl ?_
    refine ax_iconst (v := 3) dL_law__2754 (by decide) ?_
    refine ax_iadd dL_law__2755 ?_
    rw [show nI (6 * j) + 3 = nI (6 * j + 3) from nI_add _ _]
    refine ax_sld dL_law__2756 (pk_in (6 * j + 3) N (by omega)) ?_
    rw [h3]
    refine ax_callV (As := [av_i a1, av_i a2, av_i a3]) (d2 := _) (c1 := c) (n1 := n) (c_stands (M := M1) hok1 hr1 J.1.1.2.2.1 hn1 Jc.2.2.1 a1 a2 a3) dL_law__2757 mX10_stands wd_2190 acl_10 (lo_s hok1 90 rfl) rfl (by omega) (by omega) (by omega) rfl rfl (fun _ _ => rz_nx9) ?_
    intro r8 M2 hq2
    unfold qz_stands at hq2
    rw [if_pos hg1] at hq2
    obtain ⟨⟨u, e1⟩, hb⟩ := hq2
    cases e1
    obtain ⟨e2, e3, J2⟩ := bad_v (w := 1) (k := 0) (by omega) J R hxre hb
    have hok2 : lo_ok M2.2 := by rw [e3]; exact hok1
    refine ax_istore dL_law__2760 (by decide) rfl ?_
    refine ax_aload_n dL_law__2762 rfl ?_
    refine ax_callV (As := []) (d2 := _) (c1 := c) (n1 := n) (c_X10_thrown (d := 0) (M := M2) hok2) dL_law__2763 mX10_thrown wd_1760 acl_10 (lo_s hok2 90 rfl) rfl (by omega) (by omega) (by omega) rfl rfl (fun _ _ h => by cases h.1) ?_
    rintro r7 _ ⟨q7, rfl⟩; cases q7
    rw [e2]
    refine ax_iload dL_law__2766 rfl ?_
    refine ax_icmp_eq (tgt := 2773) dL_law__2768 (by decide) (fun hc => ?_) (fun hc => ?_)
    rotate_left
    · exact absurd rfl hc
    clear hc
    refine ax_iload dL_law__2773 rfl ?_
    refine ax_if_ne (tgt := 2790) dL_law__2775 (by decide) (fun hc => ?_) (fun hc => ?_)
    rotate_left
    · exact absurd hc hw0
    clear hc
    refine ax_goto (tgt := 2950) dL_law__2790 (by decide) ?_
    exact ax_weak (lw_weak _ _ _) (next _ J2)
  · skip
    have hw0 : ¬ (2 : Int32) = 0 := by decide
    obtain ⟨J1, -⟩ := ask_1e J R hxre
    have hok1 := jm_ok J1
    have hr1 := J1.2.1
    have hn1 := J1.2.2.2.2.2.2.2.1.2.1
    refine ax_istore dL_law__2736 (by decide) rfl ?_
    refine ax_aload_n dL_law__2738 rfl ?_
    refine ax_aload_n dL_law__2739 rfl ?_
    refine ax_iload dL_law__2740 rfl ?_
    refine ax_iconst (v := 1) dL_law__2742 (by decide) ?_
    refine ax_iadd dL_law__2743 ?_
    rw [show nI (6 * j) + 1 = nI (6 * j + 1) from nI_add _ _]
    refine ax_sld dL_law__2744 (pk_in (6 * j + 1) N (by omega)) ?_
    rw [h1]
    refine ax_aload_n dL_law__2745 rfl ?_
    refine ax_iload dL_law__2746 rfl ?_
    refine ax_iconst (v := 2) dL_law__2748 (by decide) ?_
    refine ax_iadd dL_law__2749 ?_
    rw [show nI (6 * j) + 2 = nI (6 * j + 2) from nI_add _ _]
    refine ax_sld dL_law__2750 (pk_in (6 * j + 2) N (by omega)) ?_
    rw [h2]
    refine ax_aload_n dL_law__2751 rfl ?_
    refine ax_iload dL_law__2752 rfl ?_
    refine ax_iconst (v := 3) dL_law__2754 (by decide) ?_
    refine ax_iadd dL_law__2755 ?_
    rw [show nI (6 * j) + 3 = nI (6 * j + 3) from nI_add _ _]
    refine ax_sld dL_law__2756 (pk_in (6 * j + 3) N (by omega)) ?_
    rw [h3]
    refine ax_callV (As := [av_i a1, av_i a2, av_i a3]) (d2 := _) (c1 := c) (n1 := n) (c_stands (M := M1) hok1 hr1 J.1.1.2.2.1 hn1 Jc.2.2.1 a1 a2 a3) dL_law__2757 mX10_stands wd_2190 acl_10 (lo_s hok1 90 rfl) rfl (by omega) (by omega) (by omega) rfl rfl (fun _ _ => rz_nx9) ?_
    intro r8 M2 hq2
    unfold qz_stands at hq2
    rw [if_neg (fun z => z hg1), if_pos (not_and9 hg2)] at hq2
    obtain ⟨⟨u, e1⟩, hb⟩ := hq2
    cases e1
    obtain ⟨e2, e3, J2⟩ := bad_v (w := 2) (k := 1) (by omega) J R hxre hb
    have hok2 : lo_ok M2.2 := by rw [e3]; exact hok1
    refine ax_istore dL_law__2760 (by decide) rfl ?_
    refine ax_aload_n dL_law__2762 rfl ?_
    refine ax_callV (As := []) (d2 := _) (c1 := c) (n1 := n) (c_X10_thrown (d := 0) (M := M2) hok2) dL_law__2763 mX10_thrown wd_1760 acl_10 (lo_s hok2 90 rfl) rfl (by omega) (by omega) (by omega) rfl rfl (fun _ _ h => by cases h.1) ?_
    rintro r7 _ ⟨q7, rfl⟩; cases q7
    rw [e2]
    refine ax_iload dL_law__2766 rfl ?_
    refine ax_icmp_eq (tgt := 2773) dL_law__2768 (by decide) (fun hc => ?_) (fun hc => ?_)
    rotate_left
    · exact absurd rfl hc
    clear hc
    refine ax_iload dL_law__2773 rfl ?_
    refine ax_if_ne (tgt := 2790) dL_law__2775 (by decide) (fun hc => ?_) (fun hc => ?_)
    rotate_left
    · exact absurd hc hw0
    clear hc
    refine ax_goto (tgt := 2950) dL_law__2790 (by decide) ?_
    exact ax_weak (lw_weak _ _ _) (next _ J2)
theorem lc_weather {l : Launch} {G : ax_G} {b N j c n : Nat} {xs : Nat → Int32} {M : ax_M} {a1 a2 a3 a4 a5 : Int32} (hl9 : l.stackTraces = false) (hj : 6 * j + 6 ≤ N) (hN : N ≤ 3072) (h1 : xs (nI (6 * j + 1)).toNatClampNeg = a1) (h2 : xs (nI (6 * j + 2)).toNatClampNeg = a2) (h3 : xs (nI (6 * j + 3)).toNatClampNeg = a3) (h4 : xs (nI (6 * j + 4)).toNatClampNeg = a4) (h5 : xs (nI (6 * j + 5)).toNatClampNeg = a5) (J0 : jj M) (next : ∀ M2, jj M2 → ax_W l G kL_law_ (ax_FE G (ax_FL G b N xs)) 60 c n M2 2950 [some (av_o 998), some (av_r 1), some (av_r 90), some (av_r 432), some (av_i (nI (6 * j))), none, none, none] []) : ax_W l G kL_law_ (ax_FE G (ax_FL G b N xs)) 60 (c + 4) (n + 24) M 2793 [some (av_o 998), some (av_r 1), some (av_r 90), some (av_r 432), some (av_i (nI (6 * j))), none, none, none] [] := by
  obtain ⟨p, r, lw, es, t, n9, v9, q, J, R⟩ := J0
  have hok := jm_ok J
  have Jc := J.2.2.2.2.2.2.2.1
  refine ax_aload_n dL_law__2793 rfl ?_
  refine ax_aload_n dL_law__2794 rfl ?_
  refine ax_iload dL_law__2795 rfl ?_
  refine ax_iconst (v := 1) dL_law__2797 (by decide) ?_
  refine ax_iadd dL_law__2798 ?_
  rw [show nI (6 * j) + 1 = nI (6 * j + 1) from nI_add _ _]
  refine ax_sld dL_law__2799 (pk_in (6 * j + 1) N (by omega)) ?_
  rw [h1]
  refine ax_aload_n dL_law__2800 rfl ?_
  refine ax_iload dL_law__2801 rfl ?_
  refine ax_iconst (v := 2) dL_law__2803 (by decide) ?_
  refine ax_iadd dL_law__2804 ?_
  rw [show nI (6 * j) + 2 = nI (6 * j + 2) from nI_add _ _]
  refine ax_sld dL_law__2805 (pk_in (6 * j + 2) N (by omega)) ?_
  rw [h2]
  refine ax_aload_n dL_law__2806 rfl ?_
  refine ax_callSW (As := [av_r 1, av_i a1, av_i a2, av_r 432]) (c1 := c) (n1 := n) (w_weather (d := 8) (c := 2) (n := 12) a1 a2 (y_weather hl9 J a1 a2) (lo_s hok 1 rfl) (tq_hv (fun _ _ _ h => by obtain ⟨c9, a9, b9, -, -, -, h⟩ := h; exact xch_i J.1 h)) (tq_hx (fun _ _ h => by obtain ⟨c9, a9, b9, -, -, -, h⟩ := h; exact xch_x h))) dL_law__2807 mwL_weather wd_1573 rfl (by omega) (by omega) (by omega) rfl rfl (fun _ _ => qw_nx) ?_
  intro r9 M1 hq
  rcases qw_t (fun _ _ h => by obtain ⟨c9, a9, b9, -, -, -, h⟩ := h; exact xch_x h) hq with ⟨hg2, rfl, vv, M0, ⟨c9, a9, b9, hc2, hc3, hk9, hX⟩, hM1⟩ | ⟨hg2, rfl, hxre⟩
  · skip
    have sM : sm M0 M1 := by rw [hM1]; exact sm_pL _ _ _
    have hok1 := lo_sm (xch_i J.1 hX).2 sM
    have fr := xch_r J.1 hX sM
    have hr1 : rr M1 r := rr_fr J.2.1 (fun m i z => fr m i (by omega))
    have hn1 : M1.1 90 33 = nI n9 := (fr 90 33 (by omega)).trans Jc.2.1
    refine ax_istore dL_law__2810 (by decide) rfl ?_
    refine ax_aload_n dL_law__2812 rfl ?_
    refine ax_aload_n dL_law__2813 rfl ?_
    refine ax_iload dL_law__2814 rfl ?_
    refine ax_iconst (v := 1) dL_law__2816 (by decide) ?_
    refine ax_iadd dL_law__2817 ?_
    rw [show nI (6 * j) + 1 = nI (6 * j + 1) from nI_add _ _]
    refine ax_sld dL_law__2818 (pk_in (6 * j + 1) N (by omega)) ?_
    rw [h1]
    refine ax_aload_n dL_law__2819 rfl ?_
    refine ax_iload dL_law__2820 rfl ?_
    refine ax_iconst (v := 2) dL_law__2822 (by decide) ?_
    refine ax_iadd dL_law__2823 ?_
    rw [show nI (6 * j) + 2 = nI (6 * j + 2) from nI_add _ _]
    refine ax_sld dL_law__2824 (pk_in (6 * j + 2) N (by omega)) ?_
    rw [h2]
    refine ax_callV (As := [av_i a1, av_i a2]) (d2 := _) (c1 := c) (n1 := n) (c_weather (M := M1) hok1 hr1 hn1 Jc.2.2.1 a1 a2) dL_law__2825 mX10_weather wd_2194 acl_10 (lo_s hok1 90 rfl) rfl (by omega) (by omega) (by omega) rfl rfl (fun _ _ => rz_nx9) ?_
    intro r8 M2 hq2
    unfold qz_weather at hq2
    rw [if_neg (fun z => z.elim (fun w => w hg2.1) (fun w => w hg2.2)), hc2, hc3] at hq2
    have g20 : n9 = 20 → (Sum.inl r8 : ax_O) = .inl (some (av_i 0)) ∧ M2 = ax_pI M1 90 0 0 := fun z => by rw [if_pos z] at hq2; exact hq2
    have g21 : n9 < 20 → (Sum.inl r8 : ax_O) = .inl (some (av_i 1)) ∧ M2 = ax_pI (ax_pI (mk_ch (ax_pI M1 90 0 0) n9) 100 (cpl 2 c9) (iI a9)) 100 (cpl 2 c9 + 1) (iI b9) := fun z => by
      rw [if_neg (by omega)] at hq2
      exact hq2
    obtain ⟨⟨u, hu, e1⟩, e2, e3, J2⟩ := chg_v J R hk9 hX sM g20 g21
    subst hu
    cases e1
    have hok2 : lo_ok M2.2 := by rw [e3]; exact hok1
    have e4 : M2.2.2.1 432 (0 : Int32).toNatClampNeg = u.toInt64 := by rw [show M2.2.2.1 = M1.2.2.1 by rw [e3], hM1]; exact pL_rd
    refine ax_istore dL_law__2828 (by decide) rfl ?_
    refine ax_aload_n dL_law__2830 rfl ?_
    refine ax_callV (As := []) (d2 := _) (c1 := c) (n1 := n) (c_X10_thrown (d := 0) (M := M2) hok2) dL_law__2831 mX10_thrown wd_1760 acl_10 (lo_s hok2 90 rfl) rfl (by omega) (by omega) (by omega) rfl rfl (fun _ _ h => by cases h.1) ?_
    rintro r7 _ ⟨q7, rfl⟩; cases q7
    rw [e2]
    refine ax_iload dL_law__2834 rfl ?_
    refine ax_icmp_eq (tgt := 2841) dL_law__2836 (by decide) (fun hc => ?_) (fun hc => ?_)
    rotate_left
    · exact absurd rfl hc
    clear hc
    refine ax_iload dL_law__2841 rfl ?_
    refine ax_if_ne (tgt := 2858) dL_law__2843 (by decide) (fun hc => ?_) (fun hc => ?_)
    · exact absurd rfl hc
    clear hc
    refine ax_aload_n dL_law__2846 rfl ?_
    refine ax_iconst (v := 0) dL_law__2847 (by decide) ?_
    refine ax_lald dL_law__2848 (lo_s hok2 432 rfl) (by unfold vp_in; decide) ?_
    rw [e4]
    refine ax_iload dL_law__2849 rfl ?_
    refine ax_i2l dL_law__2851 ?_
    refine ax_lcmp dL_law__2852 ?_
    refine ax_if_eq (tgt := 2858) dL_law__2853 (by decide) (fun hc => ?_) (fun hc => ?_)
    · clear hc
      refine ax_goto (tgt := 2950) dL_law__2858 (by decide) ?_
      exact ax_weak (lw_weak _ _ _) (next _ J2)
    · exact absurd ((lg_cmp_eq _ _).mpr rfl) hc
  · skip
    have hw0 : ¬ (1 : Int32) = 0 := by decide
    obtain ⟨J1, -⟩ := ask_1e J R hxre
    have hok1 := jm_ok J1
    have hr1 := J1.2.1
    have hn1 := J1.2.2.2.2.2.2.2.1.2.1
    refine ax_istore dL_law__2810 (by decide) rfl ?_
    refine ax_aload_n dL_law__2812 rfl ?_
    refine ax_aload_n dL_law__2813 rfl ?_
    refine ax_iload dL_law__2814 rfl ?_
    refine ax_iconst (v := 1) dL_law__2816 (by decide) ?_
    refine ax_iadd dL_law__2817 ?_
    rw [show nI (6 * j) + 1 = nI (6 * j + 1) from nI_add _ _]
    refine ax_sld dL_law__2818 (pk_in (6 * j + 1) N (by omega)) ?_
    rw [h1]
    refine ax_aload_n dL_law__2819 rfl ?_
    refine ax_iload dL_law__2820 rfl ?_
    refine ax_iconst (v := 2) dL_law__2822 (by decide) ?_
    refine ax_iadd dL_law__2823 ?_
    rw [show nI (6 * j) + 2 = nI (6 * j + 2) from nI_add _ _]
    refine ax_sld dL_law__2824 (pk_in (6 * j + 2) N (by omega)) ?_
    rw [h2]
    refine ax_callV (As := [av_i a1, av_i a2]) (d2 := _) (c1 := c) (n1 := n) (c_weather (M := M1) hok1 hr1 hn1 Jc.2.2.1 a1 a2) dL_law__2825 mX10_weather wd_2194 acl_10 (lo_s hok1 90 rfl) rfl (by omega) (by omega) (by omega) rfl rfl (fun _ _ => rz_nx9) ?_
    intro r8 M2 hq2
    unfold qz_weather at hq2
    rw [if_pos (not_and9 hg2)] at hq2
    obtain ⟨⟨u, e1⟩, hb⟩ := hq2
    cases e1
    obtain ⟨e2, e3, J2⟩ := bad_v (w := 1) (k := 1) (by omega) J R hxre hb
    have hok2 : lo_ok M2.2 := by rw [e3]; exact hok1
    refine ax_istore dL_law__2828 (by decide) rfl ?_
    refine ax_aload_n dL_law__2830 rfl ?_
    refine ax_callV (As := []) (d2 := _) (c1 := c) (n1 := n) (c_X10_thrown (d := 0) (M := M2) hok2) dL_law__2831 mX10_thrown wd_1760 acl_10 (lo_s hok2 90 rfl) rfl (by omega) (by omega) (by omega) rfl rfl (fun _ _ h => by cases h.1) ?_
    rintro r7 _ ⟨q7, rfl⟩; cases q7
    rw [e2]
    refine ax_iload dL_law__2834 rfl ?_
    refine ax_icmp_eq (tgt := 2841) dL_law__2836 (by decide) (fun hc => ?_) (fun hc => ?_)
    rotate_left
    · exact absurd rfl hc
    clear hc
    refine ax_iload dL_law__2841 rfl ?_
    refine ax_if_ne (tgt := 2858) dL_law__2843 (by decide) (fun hc => ?_) (fun hc => ?_)
    rotate_left
    · exact absurd hc hw0
    clear hc
    refine ax_goto (tgt := 2950) dL_law__2858 (by decide) ?_
    exact ax_weak (lw_weak _ _ _) (next _ J2)
theorem lc_fault {l : Launch} {G : ax_G} {b N j c n : Nat} {xs : Nat → Int32} {M : ax_M} {a1 a2 a3 a4 a5 : Int32} (hl9 : l.stackTraces = false) (hj : 6 * j + 6 ≤ N) (hN : N ≤ 3072) (h1 : xs (nI (6 * j + 1)).toNatClampNeg = a1) (h2 : xs (nI (6 * j + 2)).toNatClampNeg = a2) (h3 : xs (nI (6 * j + 3)).toNatClampNeg = a3) (h4 : xs (nI (6 * j + 4)).toNatClampNeg = a4) (h5 : xs (nI (6 * j + 5)).toNatClampNeg = a5) (J0 : jj M) (next : ∀ M2, jj M2 → ax_W l G kL_law_ (ax_FE G (ax_FL G b N xs)) 60 c n M2 2950 [some (av_o 998), some (av_r 1), some (av_r 90), some (av_r 432), some (av_i (nI (6 * j))), none, none, none] []) : ax_W l G kL_law_ (ax_FE G (ax_FL G b N xs)) 60 (c + 4) (n + 24) M 553 [some (av_o 998), some (av_r 1), some (av_r 90), some (av_r 432), some (av_i (nI (6 * j))), none, none, none] [] := by
  obtain ⟨p, r, lw, es, t, n9, v9, q, J, R⟩ := J0
  have hok := jm_ok J
  refine ax_aload_n dL_law__553 rfl ?_
  refine ax_callV (As := []) (d2 := _) (c1 := c) (n1 := n) (x_fault (d := 0) J.1) dL_law__554 mX9_fault wd_601 acl_9 (lo_s hok 1 rfl) rfl (by omega) (by omega) (by omega) rfl rfl (fun _ _ h => by cases h.1) ?_
  rintro r9 M1 ⟨e0, f1, I1⟩
  cases e0
  obtain ⟨J1, R1⟩ := ask_1 (M1 := M1) J R f1 I1 ⟨rfl, rfl, rfl⟩
  have hok1 := jm_ok J1
  refine ax_aload_n dL_law__557 rfl ?_
  refine ax_callV (As := []) (d2 := _) (c1 := c) (n1 := n) (c_fault (M := M1) hok1) dL_law__558 mX10_fault wd_1893 acl_10 (lo_s hok1 90 rfl) rfl (by omega) (by omega) (by omega) rfl rfl (fun _ _ => rq_nx9) ?_
  intro r8 M2 hq2
  obtain ⟨e1, e2, e3, J2⟩ := ask_2 J1 R1 hq2
  cases e1
  refine ax_icmp_eq (tgt := 2950) dL_law__561 (by decide) (fun hc => ?_) (fun hc => ?_)
  · exact next _ J2
  · exact absurd ((f1.2 2 8 (by unfold qs fs; omega)).symm.trans J1.2.2.2.2.2.1) hc
theorem lc_tenths {l : Launch} {G : ax_G} {b N j c n : Nat} {xs : Nat → Int32} {M : ax_M} {a1 a2 a3 a4 a5 : Int32} (hl9 : l.stackTraces = false) (hj : 6 * j + 6 ≤ N) (hN : N ≤ 3072) (h1 : xs (nI (6 * j + 1)).toNatClampNeg = a1) (h2 : xs (nI (6 * j + 2)).toNatClampNeg = a2) (h3 : xs (nI (6 * j + 3)).toNatClampNeg = a3) (h4 : xs (nI (6 * j + 4)).toNatClampNeg = a4) (h5 : xs (nI (6 * j + 5)).toNatClampNeg = a5) (J0 : jj M) (next : ∀ M2, jj M2 → ax_W l G kL_law_ (ax_FE G (ax_FL G b N xs)) 60 c n M2 2950 [some (av_o 998), some (av_r 1), some (av_r 90), some (av_r 432), some (av_i (nI (6 * j))), none, none, none] []) : ax_W l G kL_law_ (ax_FE G (ax_FL G b N xs)) 60 (c + 4) (n + 24) M 758 [some (av_o 998), some (av_r 1), some (av_r 90), some (av_r 432), some (av_i (nI (6 * j))), none, none, none] [] := by
  obtain ⟨p, r, lw, es, t, n9, v9, q, J, R⟩ := J0
  have hok := jm_ok J
  refine ax_aload_n dL_law__758 rfl ?_
  refine ax_callV (As := []) (d2 := _) (c1 := c) (n1 := n) (x_tenths J.1) dL_law__759 mX9_tenths wd_605 acl_9 (lo_s hok 1 rfl) rfl (by omega) (by omega) (by omega) rfl rfl (fun _ _ h => by cases h.1) ?_
  rintro r9 M1 ⟨e0, f1, I1⟩
  cases e0
  obtain ⟨J1, R1⟩ := ask_1 (M1 := M1) J R f1 I1 ⟨rfl, rfl, rfl⟩
  have hok1 := jm_ok J1
  refine ax_aload_n dL_law__762 rfl ?_
  refine ax_callV (As := []) (d2 := _) (c1 := c) (n1 := n) (c_tenths (M := M1) hok1 J1.2.1 J1.1.1.2.2.1 J1.2.2.1) dL_law__763 mX10_tenths wd_1939 acl_10 (lo_s hok1 90 rfl) rfl (by omega) (by omega) (by omega) rfl rfl (fun _ _ => rq_nx9) ?_
  intro r8 M2 hq2
  obtain ⟨e1, e2, e3, J2⟩ := ask_2 J1 R1 hq2
  cases e1
  refine ax_icmp_eq (tgt := 2950) dL_law__766 (by decide) (fun hc => ?_) (fun hc => ?_)
  · exact next _ J2
  · exact absurd (rfl) hc
theorem lc_passes {l : Launch} {G : ax_G} {b N j c n : Nat} {xs : Nat → Int32} {M : ax_M} {a1 a2 a3 a4 a5 : Int32} (hl9 : l.stackTraces = false) (hj : 6 * j + 6 ≤ N) (hN : N ≤ 3072) (h1 : xs (nI (6 * j + 1)).toNatClampNeg = a1) (h2 : xs (nI (6 * j + 2)).toNatClampNeg = a2) (h3 : xs (nI (6 * j + 3)).toNatClampNeg = a3) (h4 : xs (nI (6 * j + 4)).toNatClampNeg = a4) (h5 : xs (nI (6 * j + 5)).toNatClampNeg = a5) (J0 : jj M) (next : ∀ M2, jj M2 → ax_W l G kL_law_ (ax_FE G (ax_FL G b N xs)) 60 c n M2 2950 [some (av_o 998), some (av_r 1), some (av_r 90), some (av_r 432), some (av_i (nI (6 * j))), none, none, none] []) : ax_W l G kL_law_ (ax_FE G (ax_FL G b N xs)) 60 (c + 4) (n + 24) M 851 [some (av_o 998), some (av_r 1), some (av_r 90), some (av_r 432), some (av_i (nI (6 * j))), none, none, none] [] := by
  obtain ⟨p, r, lw, es, t, n9, v9, q, J, R⟩ := J0
  have hok := jm_ok J
  refine ax_aload_n dL_law__851 rfl ?_
  refine ax_callV (As := []) (d2 := _) (c1 := c) (n1 := n) (x_passes J.1) dL_law__852 mX9_passes wd_726 acl_9 (lo_s hok 1 rfl) rfl (by omega) (by omega) (by omega) rfl rfl (fun _ _ h => by cases h.1) ?_
  rintro r9 M1 ⟨e0, f1, I1⟩
  cases e0
  obtain ⟨J1, R1⟩ := ask_1 (M1 := M1) J R f1 I1 ⟨rfl, rfl, rfl⟩
  have hok1 := jm_ok J1
  refine ax_aload_n dL_law__855 rfl ?_
  refine ax_callV (As := []) (d2 := _) (c1 := c) (n1 := n) (c_passes (M := M1) hok1 J1.2.1 J1.1.1.2.2.1 J1.2.2.1) dL_law__856 mX10_passes wd_2001 acl_10 (lo_s hok1 90 rfl) rfl (by omega) (by omega) (by omega) rfl rfl (fun _ _ => rq_nx9) ?_
  intro r8 M2 hq2
  obtain ⟨e1, e2, e3, J2⟩ := ask_2 J1 R1 hq2
  cases e1
  refine ax_icmp_eq (tgt := 2950) dL_law__859 (by decide) (fun hc => ?_) (fun hc => ?_)
  · exact next _ J2
  · exact absurd (rfl) hc
theorem lc_status {l : Launch} {G : ax_G} {b N j c n : Nat} {xs : Nat → Int32} {M : ax_M} {a1 a2 a3 a4 a5 : Int32} (hl9 : l.stackTraces = false) (hj : 6 * j + 6 ≤ N) (hN : N ≤ 3072) (h1 : xs (nI (6 * j + 1)).toNatClampNeg = a1) (h2 : xs (nI (6 * j + 2)).toNatClampNeg = a2) (h3 : xs (nI (6 * j + 3)).toNatClampNeg = a3) (h4 : xs (nI (6 * j + 4)).toNatClampNeg = a4) (h5 : xs (nI (6 * j + 5)).toNatClampNeg = a5) (J0 : jj M) (next : ∀ M2, jj M2 → ax_W l G kL_law_ (ax_FE G (ax_FL G b N xs)) 60 c n M2 2950 [some (av_o 998), some (av_r 1), some (av_r 90), some (av_r 432), some (av_i (nI (6 * j))), none, none, none] []) : ax_W l G kL_law_ (ax_FE G (ax_FL G b N xs)) 60 (c + 4) (n + 24) M 2900 [some (av_o 998), some (av_r 1), some (av_r 90), some (av_r 432), some (av_i (nI (6 * j))), none, none, none] [] := by
  obtain ⟨p, r, lw, es, t, n9, v9, q, J, R⟩ := J0
  have hok := jm_ok J
  refine ax_aload_n dL_law__2900 rfl ?_
  refine ax_aload_n dL_law__2901 rfl ?_
  refine ax_iload dL_law__2902 rfl ?_
  refine ax_iconst (v := 1) dL_law__2904 (by decide) ?_
  refine ax_iadd dL_law__2905 ?_
  rw [show nI (6 * j) + 1 = nI (6 * j + 1) from nI_add _ _]
  refine ax_sld dL_law__2906 (pk_in (6 * j + 1) N (by omega)) ?_
  rw [h1]
  refine ax_callV (As := [av_i a1]) (d2 := _) (c1 := c) (n1 := n) (x_status (d := 0) J.1 a1) dL_law__2907 mX9_status wd_770 acl_9 (lo_s hok 1 rfl) rfl (by omega) (by omega) (by omega) rfl rfl (fun _ _ h => by cases h.1) ?_
  rintro r9 M1 ⟨e0, f1, I1⟩
  cases e0
  obtain ⟨J1, R1⟩ := ask_1 (M1 := M1) J R f1 I1 ⟨rfl, rfl, rfl⟩
  have hok1 := jm_ok J1
  have HE : (if 0 ≤ a1 ∧ a1 ≤ 2 then M.1 89 a1.toNatClampNeg else -1) = qa_status M1 a1 := by
    unfold qa_status
    by_cases hs : 0 ≤ a1 ∧ a1 ≤ 2
    · rw [if_pos hs, if_pos hs]
      obtain ⟨k9, hk9, e9⟩ := in_nat hs (n := 2) rfl (by decide)
      rw [e9, nI_clamp (by omega), ← R1 k9 (by omega), f1.2 89 k9 (by unfold qs fs; omega)]
    · rw [if_neg hs, if_neg hs]
  refine ax_aload_n dL_law__2910 rfl ?_
  refine ax_aload_n dL_law__2911 rfl ?_
  refine ax_iload dL_law__2912 rfl ?_
  refine ax_iconst (v := 1) dL_law__2914 (by decide) ?_
  refine ax_iadd dL_law__2915 ?_
  rw [show nI (6 * j) + 1 = nI (6 * j + 1) from nI_add _ _]
  refine ax_sld dL_law__2916 (pk_in (6 * j + 1) N (by omega)) ?_
  rw [h1]
  refine ax_callV (As := [av_i a1]) (d2 := _) (c1 := c) (n1 := n) (c_status (M := M1) hok1 a1) dL_law__2917 mX10_status wd_2218 acl_10 (lo_s hok1 90 rfl) rfl (by omega) (by omega) (by omega) rfl rfl (fun _ _ => rq_nx9) ?_
  intro r8 M2 hq2
  obtain ⟨e1, e2, e3, J2⟩ := ask_2 J1 R1 hq2
  cases e1
  refine ax_icmp_eq (tgt := 2950) dL_law__2920 (by decide) (fun hc => ?_) (fun hc => ?_)
  · exact next _ J2
  · exact absurd (HE) hc
theorem lc_count {l : Launch} {G : ax_G} {b N j c n : Nat} {xs : Nat → Int32} {M : ax_M} {a1 a2 a3 a4 a5 : Int32} (hl9 : l.stackTraces = false) (hj : 6 * j + 6 ≤ N) (hN : N ≤ 3072) (h1 : xs (nI (6 * j + 1)).toNatClampNeg = a1) (h2 : xs (nI (6 * j + 2)).toNatClampNeg = a2) (h3 : xs (nI (6 * j + 3)).toNatClampNeg = a3) (h4 : xs (nI (6 * j + 4)).toNatClampNeg = a4) (h5 : xs (nI (6 * j + 5)).toNatClampNeg = a5) (J0 : jj M) (next : ∀ M2, jj M2 → ax_W l G kL_law_ (ax_FE G (ax_FL G b N xs)) 60 c n M2 2950 [some (av_o 998), some (av_r 1), some (av_r 90), some (av_r 432), some (av_i (nI (6 * j))), none, none, none] []) : ax_W l G kL_law_ (ax_FE G (ax_FL G b N xs)) 60 (c + 4) (n + 24) M 2925 [some (av_o 998), some (av_r 1), some (av_r 90), some (av_r 432), some (av_i (nI (6 * j))), none, none, none] [] := by
  obtain ⟨p, r, lw, es, t, n9, v9, q, J, R⟩ := J0
  have hok := jm_ok J
  refine ax_aload_n dL_law__2925 rfl ?_
  refine ax_aload_n dL_law__2926 rfl ?_
  refine ax_iload dL_law__2927 rfl ?_
  refine ax_iconst (v := 1) dL_law__2929 (by decide) ?_
  refine ax_iadd dL_law__2930 ?_
  rw [show nI (6 * j) + 1 = nI (6 * j + 1) from nI_add _ _]
  refine ax_sld dL_law__2931 (pk_in (6 * j + 1) N (by omega)) ?_
  rw [h1]
  refine ax_callV (As := [av_i a1]) (d2 := _) (c1 := c) (n1 := n) (x_count (d := 0) J.1 a1) dL_law__2932 mX9_count wd_774 acl_9 (lo_s hok 1 rfl) rfl (by omega) (by omega) (by omega) rfl rfl (fun _ _ h => by cases h.1) ?_
  rintro r9 M1 ⟨e0, f1, I1⟩
  cases e0
  obtain ⟨J1, R1⟩ := ask_1 (M1 := M1) J R f1 I1 ⟨rfl, rfl, rfl⟩
  have hok1 := jm_ok J1
  have HE : (if a1 = 0 then M.1 79 7 else if a1 = 1 then M.1 2 1 else if a1 = 2 then M.1 79 4 else -1) = qa_count M1 a1 := by unfold qa_count; rw [J.2.2.2.2.2.2.2.2.1, J.2.2.2.2.1.1, J.2.2.2.2.2.2.2.1.1, J1.2.2.2.2.2.2.2.2.2.1, J1.2.2.2.2.1.2.1, J1.2.2.2.2.2.2.2.1.2.1]
  refine ax_aload_n dL_law__2935 rfl ?_
  refine ax_aload_n dL_law__2936 rfl ?_
  refine ax_iload dL_law__2937 rfl ?_
  refine ax_iconst (v := 1) dL_law__2939 (by decide) ?_
  refine ax_iadd dL_law__2940 ?_
  rw [show nI (6 * j) + 1 = nI (6 * j + 1) from nI_add _ _]
  refine ax_sld dL_law__2941 (pk_in (6 * j + 1) N (by omega)) ?_
  rw [h1]
  refine ax_callV (As := [av_i a1]) (d2 := _) (c1 := c) (n1 := n) (c_count (d := 0) (M := M1) hok1 a1) dL_law__2942 mX10_count wd_2222 acl_10 (lo_s hok1 90 rfl) rfl (by omega) (by omega) (by omega) rfl rfl (fun _ _ => rq_nx9) ?_
  intro r8 M2 hq2
  obtain ⟨e1, e2, e3, J2⟩ := ask_2 J1 R1 hq2
  cases e1
  refine ax_icmp_eq (tgt := 2950) dL_law__2945 (by decide) (fun hc => ?_) (fun hc => ?_)
  · exact next _ J2
  · exact absurd (HE) hc
theorem lc_feed {l : Launch} {G : ax_G} {b N j c n : Nat} {xs : Nat → Int32} {M : ax_M} {a1 a2 a3 a4 a5 : Int32} (hl9 : l.stackTraces = false) (hj : 6 * j + 6 ≤ N) (hN : N ≤ 3072) (h1 : xs (nI (6 * j + 1)).toNatClampNeg = a1) (h2 : xs (nI (6 * j + 2)).toNatClampNeg = a2) (h3 : xs (nI (6 * j + 3)).toNatClampNeg = a3) (h4 : xs (nI (6 * j + 4)).toNatClampNeg = a4) (h5 : xs (nI (6 * j + 5)).toNatClampNeg = a5) (J0 : jj M) (next : ∀ M2, jj M2 → ax_W l G kL_law_ (ax_FE G (ax_FL G b N xs)) 60 c n M2 2950 [some (av_o 998), some (av_r 1), some (av_r 90), some (av_r 432), some (av_i (nI (6 * j))), none, none, none] []) : ax_W l G kL_law_ (ax_FE G (ax_FL G b N xs)) 60 (c + 4) (n + 24) M 244 [some (av_o 998), some (av_r 1), some (av_r 90), some (av_r 432), some (av_i (nI (6 * j))), none, none, none] [] := by
  obtain ⟨p, r, lw, es, t, n9, v9, q, J, R⟩ := J0
  have hok := jm_ok J
  have Jt := J.2.2.2.2.1
  refine ax_aload_n dL_law__244 rfl ?_
  refine ax_aload_n dL_law__245 rfl ?_
  refine ax_iload dL_law__246 rfl ?_
  refine ax_iconst (v := 1) dL_law__248 (by decide) ?_
  refine ax_iadd dL_law__249 ?_
  rw [show nI (6 * j) + 1 = nI (6 * j + 1) from nI_add _ _]
  refine ax_sld dL_law__250 (pk_in (6 * j + 1) N (by omega)) ?_
  rw [h1]
  refine ax_aload_n dL_law__251 rfl ?_
  refine ax_iload dL_law__252 rfl ?_
  refine ax_iconst (v := 2) dL_law__254 (by decide) ?_
  refine ax_iadd dL_law__255 ?_
  rw [show nI (6 * j) + 2 = nI (6 * j + 2) from nI_add _ _]
  refine ax_sld dL_law__256 (pk_in (6 * j + 2) N (by omega)) ?_
  rw [h2]
  refine ax_aload_n dL_law__257 rfl ?_
  refine ax_iload dL_law__258 rfl ?_
  refine ax_iconst (v := 3) dL_law__260 (by decide) ?_
  refine ax_iadd dL_law__261 ?_
  rw [show nI (6 * j) + 3 = nI (6 * j + 3) from nI_add _ _]
  refine ax_sld dL_law__262 (pk_in (6 * j + 3) N (by omega)) ?_
  rw [h3]
  refine ax_aload_n dL_law__263 rfl ?_
  refine ax_iload dL_law__264 rfl ?_
  refine ax_iconst (v := 4) dL_law__266 (by decide) ?_
  refine ax_iadd dL_law__267 ?_
  rw [show nI (6 * j) + 4 = nI (6 * j + 4) from nI_add _ _]
  refine ax_sld dL_law__268 (pk_in (6 * j + 4) N (by omega)) ?_
  rw [h4]
  refine ax_aload_n dL_law__269 rfl ?_
  refine ax_iload dL_law__270 rfl ?_
  refine ax_iconst (v := 5) dL_law__272 (by decide) ?_
  refine ax_iadd dL_law__273 ?_
  rw [show nI (6 * j) + 5 = nI (6 * j + 5) from nI_add _ _]
  refine ax_sld dL_law__274 (pk_in (6 * j + 5) N (by omega)) ?_
  rw [h5]
  refine ax_callV (As := [av_i a1, av_i a2, av_i a3, av_i a4, av_i a5]) (d2 := _) (c1 := c) (n1 := n) (x_feed (M := M) hok Jt.1 Jt.2.2.1 a1 a2 a3 a4 a5) dL_law__275 mX9_feed wd_593 acl_9 (lo_s hok 1 rfl) rfl (by omega) (by omega) (by omega) rfl rfl (fun E M9 h9 => by split at h9 <;> cases h9.1) ?_
  intro r9 M1 hx
  by_cases h20 : 600 < t + 20
  · rw [if_pos h20] at hx
    obtain ⟨e0, hM⟩ := hx
    cases e0
    have hok1 : lo_ok M1.2 := by rw [hM]; exact hok
    have ht1 : M1.1 90 1 = nI t := by rw [hM]; exact Jt.2.1
    refine ax_aload_n dL_law__278 rfl ?_
    refine ax_aload_n dL_law__279 rfl ?_
    refine ax_iload dL_law__280 rfl ?_
    refine ax_iconst (v := 1) dL_law__282 (by decide) ?_
    refine ax_iadd dL_law__283 ?_
    rw [show nI (6 * j) + 1 = nI (6 * j + 1) from nI_add _ _]
    refine ax_sld dL_law__284 (pk_in (6 * j + 1) N (by omega)) ?_
    rw [h1]
    refine ax_aload_n dL_law__285 rfl ?_
    refine ax_iload dL_law__286 rfl ?_
    refine ax_iconst (v := 2) dL_law__288 (by decide) ?_
    refine ax_iadd dL_law__289 ?_
    rw [show nI (6 * j) + 2 = nI (6 * j + 2) from nI_add _ _]
    refine ax_sld dL_law__290 (pk_in (6 * j + 2) N (by omega)) ?_
    rw [h2]
    refine ax_aload_n dL_law__291 rfl ?_
    refine ax_iload dL_law__292 rfl ?_
    refine ax_iconst (v := 3) dL_law__294 (by decide) ?_
    refine ax_iadd dL_law__295 ?_
    rw [show nI (6 * j) + 3 = nI (6 * j + 3) from nI_add _ _]
    refine ax_sld dL_law__296 (pk_in (6 * j + 3) N (by omega)) ?_
    rw [h3]
    refine ax_aload_n dL_law__297 rfl ?_
    refine ax_iload dL_law__298 rfl ?_
    refine ax_iconst (v := 4) dL_law__300 (by decide) ?_
    refine ax_iadd dL_law__301 ?_
    rw [show nI (6 * j) + 4 = nI (6 * j + 4) from nI_add _ _]
    refine ax_sld dL_law__302 (pk_in (6 * j + 4) N (by omega)) ?_
    rw [h4]
    refine ax_aload_n dL_law__303 rfl ?_
    refine ax_iload dL_law__304 rfl ?_
    refine ax_iconst (v := 5) dL_law__306 (by decide) ?_
    refine ax_iadd dL_law__307 ?_
    rw [show nI (6 * j) + 5 = nI (6 * j + 5) from nI_add _ _]
    refine ax_sld dL_law__308 (pk_in (6 * j + 5) N (by omega)) ?_
    rw [h5]
    refine ax_callV (As := [av_i a1, av_i a2, av_i a3, av_i a4, av_i a5]) (d2 := _) (c1 := c) (n1 := n) (c_feed (d := 0) (M := M1) hok1 ht1 Jt.2.2.1 a1 a2 a3 a4 a5) dL_law__309 mX10_feed wd_1764 acl_10 (lo_s hok1 90 rfl) rfl (by omega) (by omega) (by omega) rfl rfl (fun E M9 h9 => by split at h9 <;> cases h9.1) ?_
    intro r8 M2 hq2
    rw [if_pos h20] at hq2
    obtain ⟨e1, hb⟩ := hq2
    cases e1
    have J2 : jj M2 := by rw [hb, hM]; exact jj_p0 J R
    refine ax_icmp_eq (tgt := 2950) dL_law__312 (by decide) (fun hc => ?_) (fun hc => ?_)
    · exact next _ J2
    · exact absurd (rfl) hc
  · rw [if_neg h20] at hx
    obtain ⟨e0, hx⟩ := hx
    cases e0
    have hok1 : lo_ok M1.2 := by rw [hx.1]; exact hok
    have ht1 : M1.1 90 1 = nI t := by rw [hx.2.2.2 90 1 (by omega) (by omega)]; exact Jt.2.1
    refine ax_aload_n dL_law__278 rfl ?_
    refine ax_aload_n dL_law__279 rfl ?_
    refine ax_iload dL_law__280 rfl ?_
    refine ax_iconst (v := 1) dL_law__282 (by decide) ?_
    refine ax_iadd dL_law__283 ?_
    rw [show nI (6 * j) + 1 = nI (6 * j + 1) from nI_add _ _]
    refine ax_sld dL_law__284 (pk_in (6 * j + 1) N (by omega)) ?_
    rw [h1]
    refine ax_aload_n dL_law__285 rfl ?_
    refine ax_iload dL_law__286 rfl ?_
    refine ax_iconst (v := 2) dL_law__288 (by decide) ?_
    refine ax_iadd dL_law__289 ?_
    rw [show nI (6 * j) + 2 = nI (6 * j + 2) from nI_add _ _]
    refine ax_sld dL_law__290 (pk_in (6 * j + 2) N (by omega)) ?_
    rw [h2]
    refine ax_aload_n dL_law__291 rfl ?_
    refine ax_iload dL_law__292 rfl ?_
    refine ax_iconst (v := 3) dL_law__294 (by decide) ?_
    refine ax_iadd dL_law__295 ?_
    rw [show nI (6 * j) + 3 = nI (6 * j + 3) from nI_add _ _]
    refine ax_sld dL_law__296 (pk_in (6 * j + 3) N (by omega)) ?_
    rw [h3]
    refine ax_aload_n dL_law__297 rfl ?_
    refine ax_iload dL_law__298 rfl ?_
    refine ax_iconst (v := 4) dL_law__300 (by decide) ?_
    refine ax_iadd dL_law__301 ?_
    rw [show nI (6 * j) + 4 = nI (6 * j + 4) from nI_add _ _]
    refine ax_sld dL_law__302 (pk_in (6 * j + 4) N (by omega)) ?_
    rw [h4]
    refine ax_aload_n dL_law__303 rfl ?_
    refine ax_iload dL_law__304 rfl ?_
    refine ax_iconst (v := 5) dL_law__306 (by decide) ?_
    refine ax_iadd dL_law__307 ?_
    rw [show nI (6 * j) + 5 = nI (6 * j + 5) from nI_add _ _]
    refine ax_sld dL_law__308 (pk_in (6 * j + 5) N (by omega)) ?_
    rw [h5]
    refine ax_callV (As := [av_i a1, av_i a2, av_i a3, av_i a4, av_i a5]) (d2 := _) (c1 := c) (n1 := n) (c_feed (d := 0) (M := M1) hok1 ht1 Jt.2.2.1 a1 a2 a3 a4 a5) dL_law__309 mX10_feed wd_1764 acl_10 (lo_s hok1 90 rfl) rfl (by omega) (by omega) (by omega) rfl rfl (fun E M9 h9 => by split at h9 <;> cases h9.1) ?_
    intro r8 M2 hq2
    rw [if_neg h20] at hq2
    obtain ⟨e1, hb⟩ := hq2
    cases e1
    have J2 : jj M2 := (feed_v J R (by omega) hx hb).2
    refine ax_icmp_eq (tgt := 2950) dL_law__312 (by decide) (fun hc => ?_) (fun hc => ?_)
    · exact next _ J2
    · exact absurd (rfl) hc
theorem lc_undo {l : Launch} {G : ax_G} {b N j c n : Nat} {xs : Nat → Int32} {M : ax_M} {a1 a2 a3 a4 a5 : Int32} (hl9 : l.stackTraces = false) (hj : 6 * j + 6 ≤ N) (hN : N ≤ 3072) (h1 : xs (nI (6 * j + 1)).toNatClampNeg = a1) (h2 : xs (nI (6 * j + 2)).toNatClampNeg = a2) (h3 : xs (nI (6 * j + 3)).toNatClampNeg = a3) (h4 : xs (nI (6 * j + 4)).toNatClampNeg = a4) (h5 : xs (nI (6 * j + 5)).toNatClampNeg = a5) (J0 : jj M) (next : ∀ M2, jj M2 → ax_W l G kL_law_ (ax_FE G (ax_FL G b N xs)) 60 c n M2 2950 [some (av_o 998), some (av_r 1), some (av_r 90), some (av_r 432), some (av_i (nI (6 * j))), none, none, none] []) : ax_W l G kL_law_ (ax_FE G (ax_FL G b N xs)) 60 (c + 4) (n + 24) M 2861 [some (av_o 998), some (av_r 1), some (av_r 90), some (av_r 432), some (av_i (nI (6 * j))), none, none, none] [] := by
  obtain ⟨p, r, lw, es, t, n9, v9, q, J, R⟩ := J0
  have hok := jm_ok J
  have Jc := J.2.2.2.2.2.2.2.1
  by_cases hn0 : n9 = 0
  · skip
    refine ax_aload_n dL_law__2861 rfl ?_
    refine ax_callV (As := []) (d2 := _) (c1 := c) (n1 := n) (x_undo (k := 0) (c := 0) (a := 0) (b := 0) J.1 Jc.1 Jc.2.2.1 (fun h => absurd h (by omega))) dL_law__2862 mX9_undo wd_730 acl_9 (lo_s hok 1 rfl) rfl (by omega) (by omega) (by omega) rfl rfl (fun E M9 h9 => by rcases h9 with h9 | h9 <;> cases h9.2.1) ?_
    rintro r9 M1 (⟨-, e0, hM⟩ | ⟨hp, -⟩)
    rotate_left
    · omega
    cases e0
    have hok1 : lo_ok M1.2 := by rw [hM]; exact hok
    refine ax_aload_n dL_law__2865 rfl ?_
    refine ax_callV (As := []) (d2 := _) (c1 := c) (n1 := n) (c_undo (M := M1) hok1 (by rw [hM]; exact Jc.2.1) Jc.2.2.1) dL_law__2866 mX10_undo wd_2198 acl_10 (lo_s hok1 90 rfl) rfl (by omega) (by omega) (by omega) rfl rfl (fun _ _ => rz_nx9) ?_
    intro r8 M2 hq2
    unfold qz_undo at hq2
    rw [if_pos hn0] at hq2
    obtain ⟨e1, hb⟩ := hq2
    cases e1
    have J2 : jj M2 := by rw [hb]; show jj (ax_pI M1 90 0 0); rw [hM]; exact jj_p0 J R
    refine ax_icmp_eq (tgt := 2950) dL_law__2869 (by decide) (fun hc => ?_) (fun hc => ?_)
    · exact next _ J2
    · exact absurd (rfl) hc
  · obtain ⟨k9, c9, a9, b9, g1, g2, g3, g4, g5, g6, g7, g8⟩ := ch_last Jc.2.2 (show 0 < n9 by omega)
    refine ax_aload_n dL_law__2861 rfl ?_
    refine ax_callV (As := []) (d2 := _) (c1 := c) (n1 := n) (x_undo (k := k9) (c := c9) (a := a9) (b := b9) J.1 Jc.1 Jc.2.2.1 (fun _ => ⟨g5, g6, g1, g2, g3, g4⟩)) dL_law__2862 mX9_undo wd_730 acl_9 (lo_s hok 1 rfl) rfl (by omega) (by omega) (by omega) rfl rfl (fun E M9 h9 => by rcases h9 with h9 | h9 <;> cases h9.2.1) ?_
    rintro r9 M1 (⟨hp, -⟩ | ⟨hp, e0, hM, I1⟩)
    · omega
    cases e0
    have hok1 := I1.1.1.1
    have hR := xk_b0 J.1.1.1
    have cR : p 0 = 5 ∨ p 0 = 23 := hR
    have hn1 : M1.1 90 33 = nI n9 := by
      rw [hM]; unfold mk_und
      rw [ax_pn (by omega), ax_pn (by omega), mk_put_n (by omega), ax_pn (by omega)]; exact Jc.2.1
    refine ax_aload_n dL_law__2865 rfl ?_
    refine ax_callV (As := []) (d2 := _) (c1 := c) (n1 := n) (c_undo (M := M1) hok1 hn1 Jc.2.2.1) dL_law__2866 mX10_undo wd_2198 acl_10 (lo_s hok1 90 rfl) rfl (by omega) (by omega) (by omega) rfl rfl (fun _ _ => rz_nx9) ?_
    intro r8 M2 hq2
    unfold qz_undo at hq2
    rw [if_neg hn0] at hq2
    obtain ⟨e1, hb⟩ := hq2
    cases e1
    have J2 : jj M2 := (undo_v J R hp g5 g7 g8 hM I1 hb).2
    refine ax_icmp_eq (tgt := 2950) dL_law__2869 (by decide) (fun hc => ?_) (fun hc => ?_)
    · exact next _ J2
    · exact absurd (rfl) hc
theorem lc_image {l : Launch} {G : ax_G} {b N j c n : Nat} {xs : Nat → Int32} {M : ax_M} {a1 a2 a3 a4 a5 : Int32} (hl9 : l.stackTraces = false) (hj : 6 * j + 6 ≤ N) (hN : N ≤ 3072) (h1 : xs (nI (6 * j + 1)).toNatClampNeg = a1) (h2 : xs (nI (6 * j + 2)).toNatClampNeg = a2) (h3 : xs (nI (6 * j + 3)).toNatClampNeg = a3) (h4 : xs (nI (6 * j + 4)).toNatClampNeg = a4) (h5 : xs (nI (6 * j + 5)).toNatClampNeg = a5) (J0 : jj M) (next : ∀ M2, jj M2 → ax_W l G kL_law_ (ax_FE G (ax_FL G b N xs)) 60 c n M2 2950 [some (av_o 998), some (av_r 1), some (av_r 90), some (av_r 432), some (av_i (nI (6 * j))), none, none, none] []) : ax_W l G kL_law_ (ax_FE G (ax_FL G b N xs)) 60 (c + 4) (n + 24) M 2874 [some (av_o 998), some (av_r 1), some (av_r 90), some (av_r 432), some (av_i (nI (6 * j))), none, none, none] [] := by
  obtain ⟨p, r, lw, es, t, n9, v9, q, J, R⟩ := J0
  have hok := jm_ok J
  have Jv := J.2.2.2.2.2.2.2.2
  refine ax_aload_n dL_law__2874 rfl ?_
  refine ax_callV (As := []) (d2 := _) (c1 := c) (n1 := n) (x_image J.1 Jv.1 Jv.2.2.1) dL_law__2875 mX9_image wd_745 acl_9 (lo_s hok 1 rfl) rfl (by omega) (by omega) (by omega) rfl rfl (fun E M9 h9 => by rcases h9 with h9 | h9 <;> cases h9.2.1) ?_
  rintro r9 M1 (⟨hv3, e0, hM⟩ | ⟨hv3, e0, x1, x2, x3, x4, x5, x6⟩)
  · cases e0
    have hok1 : lo_ok M1.2 := by rw [hM]; exact hok
    refine ax_aload_n dL_law__2878 rfl ?_
    refine ax_callV (As := []) (d2 := _) (c1 := c) (n1 := n) (c_image (M := M1) hok1 (by rw [hM]; exact Jv.2.1) Jv.2.2.1) dL_law__2879 mX10_image wd_2202 acl_10 (lo_s hok1 90 rfl) rfl (by omega) (by omega) (by omega) rfl rfl (fun E M9 h9 => by rcases h9 with h9 | h9 <;> cases h9.2.1) ?_
    rintro r8 M2 (⟨-, e1, hb⟩ | ⟨hne, -⟩)
    rotate_left
    · exact absurd hv3 hne
    cases e1
    have J2 : jj M2 := by rw [hb, hM]; exact jj_p0 J R
    refine ax_icmp_eq (tgt := 2950) dL_law__2882 (by decide) (fun hc => ?_) (fun hc => ?_)
    · exact next _ J2
    · exact absurd (rfl) hc
  · cases e0
    have hok1 := x6.1.1.1
    have hn1 : M1.1 90 34 = nI v9 := (x2 90 34 (by omega) (by omega) (by omega)).trans Jv.2.1
    refine ax_aload_n dL_law__2878 rfl ?_
    refine ax_callV (As := []) (d2 := _) (c1 := c) (n1 := n) (c_image (M := M1) hok1 hn1 Jv.2.2.1) dL_law__2879 mX10_image wd_2202 acl_10 (lo_s hok1 90 rfl) rfl (by omega) (by omega) (by omega) rfl rfl (fun E M9 h9 => by rcases h9 with h9 | h9 <;> cases h9.2.1) ?_
    rintro r8 M2 (⟨hne, -⟩ | ⟨-, e1, N9, hb1, hb2⟩)
    · omega
    cases e1
    have J2 : jj M2 := (image_v J R hv3 x1 x2 x3 x4 x5 x6 hb1 hb2).2
    refine ax_icmp_eq (tgt := 2950) dL_law__2882 (by decide) (fun hc => ?_) (fun hc => ?_)
    · exact next _ J2
    · exact absurd (rfl) hc
theorem lc_restore {l : Launch} {G : ax_G} {b N j c n : Nat} {xs : Nat → Int32} {M : ax_M} {a1 a2 a3 a4 a5 : Int32} (hl9 : l.stackTraces = false) (hj : 6 * j + 6 ≤ N) (hN : N ≤ 3072) (h1 : xs (nI (6 * j + 1)).toNatClampNeg = a1) (h2 : xs (nI (6 * j + 2)).toNatClampNeg = a2) (h3 : xs (nI (6 * j + 3)).toNatClampNeg = a3) (h4 : xs (nI (6 * j + 4)).toNatClampNeg = a4) (h5 : xs (nI (6 * j + 5)).toNatClampNeg = a5) (J0 : jj M) (next : ∀ M2, jj M2 → ax_W l G kL_law_ (ax_FE G (ax_FL G b N xs)) 60 c n M2 2950 [some (av_o 998), some (av_r 1), some (av_r 90), some (av_r 432), some (av_i (nI (6 * j))), none, none, none] []) : ax_W l G kL_law_ (ax_FE G (ax_FL G b N xs)) 60 (c + 4) (n + 24) M 2887 [some (av_o 998), some (av_r 1), some (av_r 90), some (av_r 432), some (av_i (nI (6 * j))), none, none, none] [] := by
  obtain ⟨p, r, lw, es, t, n9, v9, q, J, R⟩ := J0
  have hok := jm_ok J
  have Jv := J.2.2.2.2.2.2.2.2
  by_cases hn0 : v9 = 0
  · skip
    refine ax_aload_n dL_law__2887 rfl ?_
    refine ax_callV (As := []) (d2 := _) (c1 := c) (n1 := n) (x_restore (r2 := r) J.1 Jv.1 Jv.2.2.1 (fun h => absurd h (by omega))) dL_law__2888 mX9_restore wd_759 acl_9 (lo_s hok 1 rfl) rfl (by omega) (by omega) (by omega) rfl rfl (fun E M9 h9 => by rcases h9 with h9 | h9 <;> cases h9.2.1) ?_
    rintro r9 M1 (⟨-, e0, hM⟩ | ⟨hp, -⟩)
    rotate_left
    · omega
    cases e0
    have hok1 : lo_ok M1.2 := by rw [hM]; exact hok
    refine ax_aload_n dL_law__2891 rfl ?_
    refine ax_callV (As := []) (d2 := _) (c1 := c) (n1 := n) (c_restore (M := M1) hok1 (by rw [hM]; exact Jv.2.1) Jv.2.2.1) dL_law__2892 mX10_restore wd_2214 acl_10 (lo_s hok1 90 rfl) rfl (by omega) (by omega) (by omega) rfl rfl (fun E M9 h9 => by rcases h9 with h9 | h9 <;> cases h9.2.1) ?_
    rintro r8 M2 (⟨-, e1, hb⟩ | ⟨hne, -⟩)
    rotate_left
    · exact absurd hn0 hne
    cases e1
    have J2 : jj M2 := by rw [hb, hM]; exact jj_p0 J R
    refine ax_icmp_eq (tgt := 2950) dL_law__2895 (by decide) (fun hc => ?_) (fun hc => ?_)
    · exact next _ J2
    · exact absurd (rfl) hc
  · obtain ⟨n2, r2, a1, a2, a3, a4, a5, a6, a7, a8, a9⟩ := Jv.2.2.2 (v9 - 1) (by omega)
    have hv3 := Jv.2.2.1
    rw [show 85 + (v9 - 1) = 84 + v9 by omega] at a2 a6 a7 a8 a9
    rw [show 167 + (v9 - 1) = 166 + v9 by omega] at a2 a4 a5
    refine ax_aload_n dL_law__2887 rfl ?_
    refine ax_callV (As := []) (d2 := _) (c1 := c) (n1 := n) (x_restore (r2 := r2) J.1 Jv.1 Jv.2.2.1 (fun _ => ⟨by obtain ⟨-, T9, b1, b2, -⟩ := a2; rw [← b1]; exact b2 n2 (Nat.le_refl _), a1, a6, a7, a8, a9⟩)) dL_law__2888 mX9_restore wd_759 acl_9 (lo_s hok 1 rfl) rfl (by omega) (by omega) (by omega) rfl rfl (fun E M9 h9 => by rcases h9 with h9 | h9 <;> cases h9.2.1) ?_
    rintro r9 M1 (⟨hp, -⟩ | ⟨hp, e0, x1, x2, x3, x4, x5, x6⟩)
    · exact absurd hp hn0
    cases e0
    have hok1 := x6.1.1.1
    have hR := xk_b0 J.1.1.1
    have cR : p 0 = 5 ∨ p 0 = 23 := hR
    have hn1 : M1.1 90 34 = nI v9 := (x2 90 34 (by omega) (by omega) (by omega) (by omega)).trans Jv.2.1
    refine ax_aload_n dL_law__2891 rfl ?_
    refine ax_callV (As := []) (d2 := _) (c1 := c) (n1 := n) (c_restore (M := M1) hok1 hn1 Jv.2.2.1) dL_law__2892 mX10_restore wd_2214 acl_10 (lo_s hok1 90 rfl) rfl (by omega) (by omega) (by omega) rfl rfl (fun E M9 h9 => by rcases h9 with h9 | h9 <;> cases h9.2.1) ?_
    rintro r8 M2 (⟨hne, -⟩ | ⟨-, e1, hb1⟩)
    · exact absurd hne hn0
    cases e1
    have J2 : jj M2 := (restore_v J R hp a1 a2 a3 a4 a5 x1 x2 x3 x4 x5 x6 hb1).2
    refine ax_icmp_eq (tgt := 2950) dL_law__2895 (by decide) (fun hc => ?_) (fun hc => ?_)
    · exact next _ J2
    · exact absurd (rfl) hc

