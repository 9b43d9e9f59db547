/-! ===== the law's cases: asks that may refuse ===== -/
theorem rq_nx9 {M M2 : ax_M} {E : String} {x : ax_V ⊕ (Nat × Nat)} : ¬ rq M M2 (.inr E) x := by
  rintro ⟨-, -, h⟩
  cases x with
  | inl v => cases h.1
  | inr w => obtain ⟨⟨u, h⟩, -⟩ := h; cases h
theorem rql_nx9 {M M2 : ax_M} {E : String} {x : ax_V ⊕ (Nat × Nat)} : ¬ rql M M2 (.inr E) x := by
  rintro ⟨-, -, h⟩
  cases x with
  | inl v => cases h.1
  | inr w => obtain ⟨⟨u, h⟩, -⟩ := h; cases h
theorem tb_nz {tb : List (Nat × Nat)} {k w : Nat} (h : tb.all (fun a => decide (0 < a.2) && decide (a.2 < 4)) = true) (hm : (k, w) ∈ tb) : ¬ nI w = 0 := by
  have := List.all_eq_true.mp h _ hm
  simp only [Bool.and_eq_true, decide_eq_true_eq] at this
  exact nI_ne0 this.1 (by omega)
theorem lw_weak {j : Nat} (x5 x6 x7 : Option ax_V) : ∀ (i : Nat) (v : ax_V), ([some (av_o 998), some (av_r 1), some (av_r 90), some (av_r 432), some (av_i (nI (6 * j))), none, none, none] : List (Option ax_V))[i]? = some (some v) → ([some (av_o 998), some (av_r 1), some (av_r 90), some (av_r 432), some (av_i (nI (6 * j))), x5, x6, x7] : List (Option ax_V))[i]? = some (some v)
  | 0, _, h => h
  | 1, _, h => h
  | 2, _, h => h
  | 3, _, h => h
  | 4, _, h => h
  | 5, _, h => by cases h
  | 6, _, h => by cases h
  | 7, _, h => by cases h
  | i + 8, _, h => by cases h
abbrev kL_law_ : ax_K := (yL_law_, cL_law_, 8, some .boolean)
theorem lc_told {l : Launch} {G : ax_G} {b N j c n : Nat} {xs : Nat → Int32} {M : ax_M} {a1 a2 a3 a4 a5 : Int32} (hl9 : l.stackTraces = false) (hj : 6 * j + 6 ≤ N) (hN : N ≤ 3072) (h1 : xs (nI (6 * j + 1)).toNatClampNeg = a1) (h2 : xs (nI (6 * j + 2)).toNatClampNeg = a2) (h3 : xs (nI (6 * j + 3)).toNatClampNeg = a3) (h4 : xs (nI (6 * j + 4)).toNatClampNeg = a4) (h5 : xs (nI (6 * j + 5)).toNatClampNeg = a5) (J0 : jj M) (next : ∀ M2, jj M2 → ax_W l G kL_law_ (ax_FE G (ax_FL G b N xs)) 60 c n M2 2950 [some (av_o 998), some (av_r 1), some (av_r 90), some (av_r 432), some (av_i (nI (6 * j))), none, none, none] []) : ax_W l G kL_law_ (ax_FE G (ax_FL G b N xs)) 60 (c + 4) (n + 24) M 566 [some (av_o 998), some (av_r 1), some (av_r 90), some (av_r 432), some (av_i (nI (6 * j))), none, none, none] [] := by
  obtain ⟨p, r, lw, es, t, n9, v9, q, J, R⟩ := J0
  have hok := jm_ok J
  refine ax_aload_n dL_law__566 rfl ?_
  refine ax_aload_n dL_law__567 rfl ?_
  refine ax_iload dL_law__568 rfl ?_
  refine ax_iconst (v := 1) dL_law__570 (by decide) ?_
  refine ax_iadd dL_law__571 ?_
  rw [show nI (6 * j) + 1 = nI (6 * j + 1) from nI_add _ _]
  refine ax_sld dL_law__572 (pk_in (6 * j + 1) N (by omega)) ?_
  rw [h1]
  refine ax_aload_n dL_law__573 rfl ?_
  refine ax_callSW (As := [av_r 1, av_i a1, av_r 432]) (c1 := c) (n1 := n) (w_told (d := 8) (c := 1) (n := 6) a1 (x_told hl9 J.1 a1) (lo_s hok 1 rfl) (xA_hI (qk_told r (nI es.length) a1)) (xA_hx (qk_told r (nI es.length) a1))) dL_law__574 mwL_told wd_1114 rfl (by omega) (by omega) (by omega) rfl rfl (fun _ _ => qw_nx) ?_
  intro r9 M1 hq
  have hqk := qk_told r (nI es.length) a1
  cases hy : qa_told r (nI es.length) a1 with
  | inl vv =>
    rw [hy] at hq hqk
    obtain ⟨rfl, M0, hM1, f1, I1⟩ := qw_v hq
    obtain ⟨J1, R1⟩ := ask_1 (M1 := M1) J R f1 I1 (by rw [hM1]; exact sm_pL _ _ _)
    have hok1 := jm_ok J1
    obtain ⟨z, rfl⟩ := hqk
    refine ax_istore dL_law__577 (by decide) rfl ?_
    refine ax_aload_n dL_law__579 rfl ?_
    refine ax_aload_n dL_law__580 rfl ?_
    refine ax_iload dL_law__581 rfl ?_
    refine ax_iconst (v := 1) dL_law__583 (by decide) ?_
    refine ax_iadd dL_law__584 ?_
    rw [show nI (6 * j) + 1 = nI (6 * j + 1) from nI_add _ _]
    refine ax_sld dL_law__585 (pk_in (6 * j + 1) N (by omega)) ?_
    rw [h1]
    refine ax_callV (As := [av_i a1]) (d2 := _) (c1 := c) (n1 := n) (c_told (M := M1) hok1 J1.2.1 J1.1.1.2.2.1 a1) dL_law__586 mX10_told wd_1897 acl_10 (lo_s hok1 90 rfl) rfl (by omega) (by omega) (by omega) rfl rfl (fun _ _ => rq_nx9) ?_
    intro r8 M2 hq2
    rw [J1.2.2.2.1.1] at hq2
    rw [hy] at hq2
    obtain ⟨e1, e2, e3, J2⟩ := ask_2 J1 R1 hq2
    cases e1
    have hok2 : lo_ok M2.2 := by rw [e3]; exact hok1
    have e4 : M2.2.2.1 432 (0 : Int32).toNatClampNeg = z.toInt64 := by rw [show M2.2.2.1 = M1.2.2.1 by rw [e3], hM1]; exact pL_rd
    refine ax_istore dL_law__589 (by decide) rfl ?_
    refine ax_aload_n dL_law__591 rfl ?_
    refine ax_callV (As := []) (d2 := _) (c1 := c) (n1 := n) (c_X10_thrown (d := 0) (M := M2) hok2) dL_law__592 mX10_thrown wd_1760 acl_10 (lo_s hok2 90 rfl) rfl (by omega) (by omega) (by omega) rfl rfl (fun _ _ h => by cases h.1) ?_
    rintro r7 _ ⟨q7, rfl⟩; cases q7
    rw [e2]
    refine ax_iload dL_law__595 rfl ?_
    refine ax_icmp_eq (tgt := 602) dL_law__597 (by decide) (fun hc => ?_) (fun hc => ?_)
    rotate_left
    · exact absurd rfl hc
    clear hc
    refine ax_iload dL_law__602 rfl ?_
    refine ax_if_ne (tgt := 619) dL_law__604 (by decide) (fun hc => ?_) (fun hc => ?_)
    · exact absurd rfl hc
    clear hc
    refine ax_aload_n dL_law__607 rfl ?_
    refine ax_iconst (v := 0) dL_law__608 (by decide) ?_
    refine ax_lald dL_law__609 (lo_s hok2 432 rfl) (by unfold vp_in; decide) ?_
    rw [e4]
    refine ax_iload dL_law__610 rfl ?_
    refine ax_i2l dL_law__612 ?_
    refine ax_lcmp dL_law__613 ?_
    refine ax_if_eq (tgt := 619) dL_law__614 (by decide) (fun hc => ?_) (fun hc => ?_)
    · clear hc
      refine ax_goto (tgt := 2950) dL_law__619 (by decide) ?_
      exact ax_weak (lw_weak _ _ _) (next _ J2)
    · exact absurd ((lg_cmp_eq _ _).mpr rfl) hc
  | inr qq =>
    rw [hy] at hq hqk
    obtain ⟨rfl, hxre⟩ := qw_e (tb := [(1, 1)]) (by decide) hqk hq
    have hw0 : ¬ nI qq.1 = 0 := tb_nz (tb := [(1, 1)]) (by decide) hqk
    obtain ⟨J1, R1⟩ := ask_1e J R hxre
    have hok1 := jm_ok J1
    refine ax_istore dL_law__577 (by decide) rfl ?_
    refine ax_aload_n dL_law__579 rfl ?_
    refine ax_aload_n dL_law__580 rfl ?_
    refine ax_iload dL_law__581 rfl ?_
    refine ax_iconst (v := 1) dL_law__583 (by decide) ?_
    refine ax_iadd dL_law__584 ?_
    rw [show nI (6 * j) + 1 = nI (6 * j + 1) from nI_add _ _]
    refine ax_sld dL_law__585 (pk_in (6 * j + 1) N (by omega)) ?_
    rw [h1]
    refine ax_callV (As := [av_i a1]) (d2 := _) (c1 := c) (n1 := n) (c_told (M := M1) hok1 J1.2.1 J1.1.1.2.2.1 a1) dL_law__586 mX10_told wd_1897 acl_10 (lo_s hok1 90 rfl) rfl (by omega) (by omega) (by omega) rfl rfl (fun _ _ => rq_nx9) ?_
    intro r8 M2 hq2
    rw [J1.2.2.2.1.1] at hq2
    rw [hy] at hq2
    obtain ⟨⟨u, e1⟩, e2, e3, J2⟩ := ask_2e J1 R1 hq2
    cases e1
    have hok2 : lo_ok M2.2 := by rw [e3]; exact hok1
    refine ax_istore dL_law__589 (by decide) rfl ?_
    refine ax_aload_n dL_law__591 rfl ?_
    refine ax_callV (As := []) (d2 := _) (c1 := c) (n1 := n) (c_X10_thrown (d := 0) (M := M2) hok2) dL_law__592 mX10_thrown wd_1760 acl_10 (lo_s hok2 90 rfl) rfl (by omega) (by omega) (by omega) rfl rfl (fun _ _ h => by cases h.1) ?_
    rintro r7 _ ⟨q7, rfl⟩; cases q7
    rw [e2]
    refine ax_iload dL_law__595 rfl ?_
    refine ax_icmp_eq (tgt := 602) dL_law__597 (by decide) (fun hc => ?_) (fun hc => ?_)
    rotate_left
    · exact absurd rfl hc
    clear hc
    refine ax_iload dL_law__602 rfl ?_
    refine ax_if_ne (tgt := 619) dL_law__604 (by decide) (fun hc => ?_) (fun hc => ?_)
    rotate_left
    · exact absurd hc hw0
    clear hc
    refine ax_goto (tgt := 2950) dL_law__619 (by decide) ?_
    exact ax_weak (lw_weak _ _ _) (next _ J2)
theorem lc_car {l : Launch} {G : ax_G} {b N j c n : Nat} {xs : Nat → Int32} {M : ax_M} {a1 a2 a3 a4 a5 : Int32} (hl9 : l.stackTraces = false) (hj : 6 * j + 6 ≤ N) (hN : N ≤ 3072) (h1 : xs (nI (6 * j + 1)).toNatClampNeg = a1) (h2 : xs (nI (6 * j + 2)).toNatClampNeg = a2) (h3 : xs (nI (6 * j + 3)).toNatClampNeg = a3) (h4 : xs (nI (6 * j + 4)).toNatClampNeg = a4) (h5 : xs (nI (6 * j + 5)).toNatClampNeg = a5) (J0 : jj M) (next : ∀ M2, jj M2 → ax_W l G kL_law_ (ax_FE G (ax_FL G b N xs)) 60 c n M2 2950 [some (av_o 998), some (av_r 1), some (av_r 90), some (av_r 432), some (av_i (nI (6 * j))), none, none, none] []) : ax_W l G kL_law_ (ax_FE G (ax_FL G b N xs)) 60 (c + 4) (n + 24) M 622 [some (av_o 998), some (av_r 1), some (av_r 90), some (av_r 432), some (av_i (nI (6 * j))), none, none, none] [] := by
  obtain ⟨p, r, lw, es, t, n9, v9, q, J, R⟩ := J0
  have hok := jm_ok J
  refine ax_aload_n dL_law__622 rfl ?_
  refine ax_aload_n dL_law__623 rfl ?_
  refine ax_iload dL_law__624 rfl ?_
  refine ax_iconst (v := 1) dL_law__626 (by decide) ?_
  refine ax_iadd dL_law__627 ?_
  rw [show nI (6 * j) + 1 = nI (6 * j + 1) from nI_add _ _]
  refine ax_sld dL_law__628 (pk_in (6 * j + 1) N (by omega)) ?_
  rw [h1]
  refine ax_aload_n dL_law__629 rfl ?_
  refine ax_iload dL_law__630 rfl ?_
  refine ax_iconst (v := 2) dL_law__632 (by decide) ?_
  refine ax_iadd dL_law__633 ?_
  rw [show nI (6 * j) + 2 = nI (6 * j + 2) from nI_add _ _]
  refine ax_sld dL_law__634 (pk_in (6 * j + 2) N (by omega)) ?_
  rw [h2]
  refine ax_aload_n dL_law__635 rfl ?_
  refine ax_callSW (As := [av_r 1, av_i a1, av_i a2, av_r 432]) (c1 := c) (n1 := n) (w_car (d := 8) (c := 2) (n := 12) a1 a2 (x_car hl9 J.1 a1 a2) (lo_s hok 1 rfl) (xA_hI (qk_car r a1 a2)) (xA_hx (qk_car r a1 a2))) dL_law__636 mwL_car wd_1129 rfl (by omega) (by omega) (by omega) rfl rfl (fun _ _ => qw_nx) ?_
  intro r9 M1 hq
  have hqk := qk_car r a1 a2
  cases hy : qa_car r a1 a2 with
  | inl vv =>
    rw [hy] at hq hqk
    obtain ⟨rfl, M0, hM1, f1, I1⟩ := qw_v hq
    obtain ⟨J1, R1⟩ := ask_1 (M1 := M1) J R f1 I1 (by rw [hM1]; exact sm_pL _ _ _)
    have hok1 := jm_ok J1
    obtain ⟨z, rfl⟩ := hqk
    refine ax_istore dL_law__639 (by decide) rfl ?_
    refine ax_aload_n dL_law__641 rfl ?_
    refine ax_aload_n dL_law__642 rfl ?_
    refine ax_iload dL_law__643 rfl ?_
    refine ax_iconst (v := 1) dL_law__645 (by decide) ?_
    refine ax_iadd dL_law__646 ?_
    rw [show nI (6 * j) + 1 = nI (6 * j + 1) from nI_add _ _]
    refine ax_sld dL_law__647 (pk_in (6 * j + 1) N (by omega)) ?_
    rw [h1]
    refine ax_aload_n dL_law__648 rfl ?_
    refine ax_iload dL_law__649 rfl ?_
    refine ax_iconst (v := 2) dL_law__651 (by decide) ?_
    refine ax_iadd dL_law__652 ?_
    rw [show nI (6 * j) + 2 = nI (6 * j + 2) from nI_add _ _]
    refine ax_sld dL_law__653 (pk_in (6 * j + 2) N (by omega)) ?_
    rw [h2]
    refine ax_callV (As := [av_i a1, av_i a2]) (d2 := _) (c1 := c) (n1 := n) (c_car (M := M1) hok1 J1.2.1 J1.1.1.2.2.1 a1 a2) dL_law__654 mX10_car wd_1915 acl_10 (lo_s hok1 90 rfl) rfl (by omega) (by omega) (by omega) rfl rfl (fun _ _ => rq_nx9) ?_
    intro r8 M2 hq2
    rw [hy] at hq2
    obtain ⟨e1, e2, e3, J2⟩ := ask_2 J1 R1 hq2
    cases e1
    have hok2 : lo_ok M2.2 := by rw [e3]; exact hok1
    have e4 : M2.2.2.1 432 (0 : Int32).toNatClampNeg = z.toInt64 := by rw [show M2.2.2.1 = M1.2.2.1 by rw [e3], hM1]; exact pL_rd
    refine ax_istore dL_law__657 (by decide) rfl ?_
    refine ax_aload_n dL_law__659 rfl ?_
    refine ax_callV (As := []) (d2 := _) (c1 := c) (n1 := n) (c_X10_thrown (d := 0) (M := M2) hok2) dL_law__660 mX10_thrown wd_1760 acl_10 (lo_s hok2 90 rfl) rfl (by omega) (by omega) (by omega) rfl rfl (fun _ _ h => by cases h.1) ?_
    rintro r7 _ ⟨q7, rfl⟩; cases q7
    rw [e2]
    refine ax_iload dL_law__663 rfl ?_
    refine ax_icmp_eq (tgt := 670) dL_law__665 (by decide) (fun hc => ?_) (fun hc => ?_)
    rotate_left
    · exact absurd rfl hc
    clear hc
    refine ax_iload dL_law__670 rfl ?_
    refine ax_if_ne (tgt := 687) dL_law__672 (by decide) (fun hc => ?_) (fun hc => ?_)
    · exact absurd rfl hc
    clear hc
    refine ax_aload_n dL_law__675 rfl ?_
    refine ax_iconst (v := 0) dL_law__676 (by decide) ?_
    refine ax_lald dL_law__677 (lo_s hok2 432 rfl) (by unfold vp_in; decide) ?_
    rw [e4]
    refine ax_iload dL_law__678 rfl ?_
    refine ax_i2l dL_law__680 ?_
    refine ax_lcmp dL_law__681 ?_
    refine ax_if_eq (tgt := 687) dL_law__682 (by decide) (fun hc => ?_) (fun hc => ?_)
    · clear hc
      refine ax_goto (tgt := 2950) dL_law__687 (by decide) ?_
      exact ax_weak (lw_weak _ _ _) (next _ J2)
    · exact absurd ((lg_cmp_eq _ _).mpr rfl) hc
  | inr qq =>
    rw [hy] at hq hqk
    obtain ⟨rfl, hxre⟩ := qw_e (tb := [(0, 1), (1, 2)]) (by decide) hqk hq
    have hw0 : ¬ nI qq.1 = 0 := tb_nz (tb := [(0, 1), (1, 2)]) (by decide) hqk
    obtain ⟨J1, R1⟩ := ask_1e J R hxre
    have hok1 := jm_ok J1
    refine ax_istore dL_law__639 (by decide) rfl ?_
    refine ax_aload_n dL_law__641 rfl ?_
    refine ax_aload_n dL_law__642 rfl ?_
    refine ax_iload dL_law__643 rfl ?_
    refine ax_iconst (v := 1) dL_law__645 (by decide) ?_
    refine ax_iadd dL_law__646 ?_
    rw [show nI (6 * j) + 1 = nI (6 * j + 1) from nI_add _ _]
    refine ax_sld dL_law__647 (pk_in (6 * j + 1) N (by omega)) ?_
    rw [h1]
    refine ax_aload_n dL_law__648 rfl ?_
    refine ax_iload dL_law__649 rfl ?_
    refine ax_iconst (v := 2) dL_law__651 (by decide) ?_
    refine ax_iadd dL_law__652 ?_
    rw [show nI (6 * j) + 2 = nI (6 * j + 2) from nI_add _ _]
    refine ax_sld dL_law__653 (pk_in (6 * j + 2) N (by omega)) ?_
    rw [h2]
    refine ax_callV (As := [av_i a1, av_i a2]) (d2 := _) (c1 := c) (n1 := n) (c_car (M := M1) hok1 J1.2.1 J1.1.1.2.2.1 a1 a2) dL_law__654 mX10_car wd_1915 acl_10 (lo_s hok1 90 rfl) rfl (by omega) (by omega) (by omega) rfl rfl (fun _ _ => rq_nx9) ?_
    intro r8 M2 hq2
    rw [hy] at hq2
    obtain ⟨⟨u, e1⟩, e2, e3, J2⟩ := ask_2e J1 R1 hq2
    cases e1
    have hok2 : lo_ok M2.2 := by rw [e3]; exact hok1
    refine ax_istore dL_law__657 (by decide) rfl ?_
    refine ax_aload_n dL_law__659 rfl ?_
    refine ax_callV (As := []) (d2 := _) (c1 := c) (n1 := n) (c_X10_thrown (d := 0) (M := M2) hok2) dL_law__660 mX10_thrown wd_1760 acl_10 (lo_s hok2 90 rfl) rfl (by omega) (by omega) (by omega) rfl rfl (fun _ _ h => by cases h.1) ?_
    rintro r7 _ ⟨q7, rfl⟩; cases q7
    rw [e2]
    refine ax_iload dL_law__663 rfl ?_
    refine ax_icmp_eq (tgt := 670) dL_law__665 (by decide) (fun hc => ?_) (fun hc => ?_)
    rotate_left
    · exact absurd rfl hc
    clear hc
    refine ax_iload dL_law__670 rfl ?_
    refine ax_if_ne (tgt := 687) dL_law__672 (by decide) (fun hc => ?_) (fun hc => ?_)
    rotate_left
    · exact absurd hc hw0
    clear hc
    refine ax_goto (tgt := 2950) dL_law__687 (by decide) ?_
    exact ax_weak (lw_weak _ _ _) (next _ J2)
theorem lc_coat {l : Launch} {G : ax_G} {b N j c n : Nat} {xs : Nat → Int32} {M : ax_M} {a1 a2 a3 a4 a5 : Int32} (hl9 : l.stackTraces = false) (hj : 6 * j + 6 ≤ N) (hN : N ≤ 3072) (h1 : xs (nI (6 * j + 1)).toNatClampNeg = a1) (h2 : xs (nI (6 * j + 2)).toNatClampNeg = a2) (h3 : xs (nI (6 * j + 3)).toNatClampNeg = a3) (h4 : xs (nI (6 * j + 4)).toNatClampNeg = a4) (h5 : xs (nI (6 * j + 5)).toNatClampNeg = a5) (J0 : jj M) (next : ∀ M2, jj M2 → ax_W l G kL_law_ (ax_FE G (ax_FL G b N xs)) 60 c n M2 2950 [some (av_o 998), some (av_r 1), some (av_r 90), some (av_r 432), some (av_i (nI (6 * j))), none, none, none] []) : ax_W l G kL_law_ (ax_FE G (ax_FL G b N xs)) 60 (c + 4) (n + 24) M 690 [some (av_o 998), some (av_r 1), some (av_r 90), some (av_r 432), some (av_i (nI (6 * j))), none, none, none] [] := by
  obtain ⟨p, r, lw, es, t, n9, v9, q, J, R⟩ := J0
  have hok := jm_ok J
  refine ax_aload_n dL_law__690 rfl ?_
  refine ax_aload_n dL_law__691 rfl ?_
  refine ax_iload dL_law__692 rfl ?_
  refine ax_iconst (v := 1) dL_law__694 (by decide) ?_
  refine ax_iadd dL_law__695 ?_
  rw [show nI (6 * j) + 1 = nI (6 * j + 1) from nI_add _ _]
  refine ax_sld dL_law__696 (pk_in (6 * j + 1) N (by omega)) ?_
  rw [h1]
  refine ax_aload_n dL_law__697 rfl ?_
  refine ax_iload dL_law__698 rfl ?_
  refine ax_iconst (v := 2) dL_law__700 (by decide) ?_
  refine ax_iadd dL_law__701 ?_
  rw [show nI (6 * j) + 2 = nI (6 * j + 2) from nI_add _ _]
  refine ax_sld dL_law__702 (pk_in (6 * j + 2) N (by omega)) ?_
  rw [h2]
  refine ax_aload_n dL_law__703 rfl ?_
  refine ax_callSW (As := [av_r 1, av_i a1, av_i a2, av_r 432]) (c1 := c) (n1 := n) (w_coat (d := 8) (c := 2) (n := 12) a1 a2 (x_coat hl9 J.1 a1 a2) (lo_s hok 1 rfl) (xA_hI (qk_coat r a1 a2)) (xA_hx (qk_coat r a1 a2))) dL_law__704 mwL_coat wd_1141 rfl (by omega) (by omega) (by omega) rfl rfl (fun _ _ => qw_nx) ?_
  intro r9 M1 hq
  have hqk := qk_coat r a1 a2
  cases hy : qa_coat r a1 a2 with
  | inl vv =>
    rw [hy] at hq hqk
    obtain ⟨rfl, M0, hM1, f1, I1⟩ := qw_v hq
    obtain ⟨J1, R1⟩ := ask_1 (M1 := M1) J R f1 I1 (by rw [hM1]; exact sm_pL _ _ _)
    have hok1 := jm_ok J1
    obtain ⟨z, rfl⟩ := hqk
    refine ax_istore dL_law__707 (by decide) rfl ?_
    refine ax_aload_n dL_law__709 rfl ?_
    refine ax_aload_n dL_law__710 rfl ?_
    refine ax_iload dL_law__711 rfl ?_
    refine ax_iconst (v := 1) dL_law__713 (by decide) ?_
    refine ax_iadd dL_law__714 ?_
    rw [show nI (6 * j) + 1 = nI (6 * j + 1) from nI_add _ _]
    refine ax_sld dL_law__715 (pk_in (6 * j + 1) N (by omega)) ?_
    rw [h1]
    refine ax_aload_n dL_law__716 rfl ?_
    refine ax_iload dL_law__717 rfl ?_
    refine ax_iconst (v := 2) dL_law__719 (by decide) ?_
    refine ax_iadd dL_law__720 ?_
    rw [show nI (6 * j) + 2 = nI (6 * j + 2) from nI_add _ _]
    refine ax_sld dL_law__721 (pk_in (6 * j + 2) N (by omega)) ?_
    rw [h2]
    refine ax_callV (As := [av_i a1, av_i a2]) (d2 := _) (c1 := c) (n1 := n) (c_coat (M := M1) hok1 J1.2.1 J1.1.1.2.2.1 a1 a2) dL_law__722 mX10_coat wd_1931 acl_10 (lo_s hok1 90 rfl) rfl (by omega) (by omega) (by omega) rfl rfl (fun _ _ => rq_nx9) ?_
    intro r8 M2 hq2
    rw [hy] at hq2
    obtain ⟨e1, e2, e3, J2⟩ := ask_2 J1 R1 hq2
    cases e1
    have hok2 : lo_ok M2.2 := by rw [e3]; exact hok1
    have e4 : M2.2.2.1 432 (0 : Int32).toNatClampNeg = z.toInt64 := by rw [show M2.2.2.1 = M1.2.2.1 by rw [e3], hM1]; exact pL_rd
    refine ax_istore dL_law__725 (by decide) rfl ?_
    refine ax_aload_n dL_law__727 rfl ?_
    refine ax_callV (As := []) (d2 := _) (c1 := c) (n1 := n) (c_X10_thrown (d := 0) (M := M2) hok2) dL_law__728 mX10_thrown wd_1760 acl_10 (lo_s hok2 90 rfl) rfl (by omega) (by omega) (by omega) rfl rfl (fun _ _ h => by cases h.1) ?_
    rintro r7 _ ⟨q7, rfl⟩; cases q7
    rw [e2]
    refine ax_iload dL_law__731 rfl ?_
    refine ax_icmp_eq (tgt := 738) dL_law__733 (by decide) (fun hc => ?_) (fun hc => ?_)
    rotate_left
    · exact absurd rfl hc
    clear hc
    refine ax_iload dL_law__738 rfl ?_
    refine ax_if_ne (tgt := 755) dL_law__740 (by decide) (fun hc => ?_) (fun hc => ?_)
    · exact absurd rfl hc
    clear hc
    refine ax_aload_n dL_law__743 rfl ?_
    refine ax_iconst (v := 0) dL_law__744 (by decide) ?_
    refine ax_lald dL_law__745 (lo_s hok2 432 rfl) (by unfold vp_in; decide) ?_
    rw [e4]
    refine ax_iload dL_law__746 rfl ?_
    refine ax_i2l dL_law__748 ?_
    refine ax_lcmp dL_law__749 ?_
    refine ax_if_eq (tgt := 755) dL_law__750 (by decide) (fun hc => ?_) (fun hc => ?_)
    · clear hc
      refine ax_goto (tgt := 2950) dL_law__755 (by decide) ?_
      exact ax_weak (lw_weak _ _ _) (next _ J2)
    · exact absurd ((lg_cmp_eq _ _).mpr rfl) hc
  | inr qq =>
    rw [hy] at hq hqk
    obtain ⟨rfl, hxre⟩ := qw_e (tb := [(0, 1), (1, 2)]) (by decide) hqk hq
    have hw0 : ¬ nI qq.1 = 0 := tb_nz (tb := [(0, 1), (1, 2)]) (by decide) hqk
    obtain ⟨J1, R1⟩ := ask_1e J R hxre
    have hok1 := jm_ok J1
    refine ax_istore dL_law__707 (by decide) rfl ?_
    refine ax_aload_n dL_law__709 rfl ?_
    refine ax_aload_n dL_law__710 rfl ?_
    refine ax_iload dL_law__711 rfl ?_
    refine ax_iconst (v := 1) dL_law__713 (by decide) ?_
    refine ax_iadd dL_law__714 ?_
    rw [show nI (6 * j) + 1 = nI (6 * j + 1) from nI_add _ _]
    refine ax_sld dL_law__715 (pk_in (6 * j + 1) N (by omega)) ?_
    rw [h1]
    refine ax_aload_n dL_law__716 rfl ?_
    refine ax_iload dL_law__717 rfl ?_
    refine ax_iconst (v := 2) dL_law__719 (by decide) ?_
    refine ax_iadd dL_law__720 ?_
    rw [show nI (6 * j) + 2 = nI (6 * j + 2) from nI_add _ _]
    refine ax_sld dL_law__721 (pk_in (6 * j + 2) N (by omega)) ?_
    rw [h2]
    refine ax_callV (As := [av_i a1, av_i a2]) (d2 := _) (c1 := c) (n1 := n) (c_coat (M := M1) hok1 J1.2.1 J1.1.1.2.2.1 a1 a2) dL_law__722 mX10_coat wd_1931 acl_10 (lo_s hok1 90 rfl) rfl (by omega) (by omega) (by omega) rfl rfl (fun _ _ => rq_nx9) ?_
    intro r8 M2 hq2
    rw [hy] at hq2
    obtain ⟨⟨u, e1⟩, e2, e3, J2⟩ := ask_2e J1 R1 hq2
    cases e1
    have hok2 : lo_ok M2.2 := by rw [e3]; exact hok1
    refine ax_istore dL_law__725 (by decide) rfl ?_
    refine ax_aload_n dL_law__727 rfl ?_
    refine ax_callV (As := []) (d2 := _) (c1 := c) (n1 := n) (c_X10_thrown (d := 0) (M := M2) hok2) dL_law__728 mX10_thrown wd_1760 acl_10 (lo_s hok2 90 rfl) rfl (by omega) (by omega) (by omega) rfl rfl (fun _ _ h => by cases h.1) ?_
    rintro r7 _ ⟨q7, rfl⟩; cases q7
    rw [e2]
    refine ax_iload dL_law__731 rfl ?_
    refine ax_icmp_eq (tgt := 738) dL_law__733 (by decide) (fun hc => ?_) (fun hc => ?_)
    rotate_left
    · exact absurd rfl hc
    clear hc
    refine ax_iload dL_law__738 rfl ?_
    refine ax_if_ne (tgt := 755) dL_law__740 (by decide) (fun hc => ?_) (fun hc => ?_)
    rotate_left
    · exact absurd hc hw0
    clear hc
    refine ax_goto (tgt := 2950) dL_law__755 (by decide) ?_
    exact ax_weak (lw_weak _ _ _) (next _ J2)
theorem lc_at {l : Launch} {G : ax_G} {b N j c n : Nat} {xs : Nat → Int32} {M : ax_M} {a1 a2 a3 a4 a5 : Int32} (hl9 : l.stackTraces = false) (hj : 6 * j + 6 ≤ N) (hN : N ≤ 3072) (h1 : xs (nI (6 * j + 1)).toNatClampNeg = a1) (h2 : xs (nI (6 * j + 2)).toNatClampNeg = a2) (h3 : xs (nI (6 * j + 3)).toNatClampNeg = a3) (h4 : xs (nI (6 * j + 4)).toNatClampNeg = a4) (h5 : xs (nI (6 * j + 5)).toNatClampNeg = a5) (J0 : jj M) (next : ∀ M2, jj M2 → ax_W l G kL_law_ (ax_FE G (ax_FL G b N xs)) 60 c n M2 2950 [some (av_o 998), some (av_r 1), some (av_r 90), some (av_r 432), some (av_i (nI (6 * j))), none, none, none] []) : ax_W l G kL_law_ (ax_FE G (ax_FL G b N xs)) 60 (c + 4) (n + 24) M 771 [some (av_o 998), some (av_r 1), some (av_r 90), some (av_r 432), some (av_i (nI (6 * j))), none, none, none] [] := by
  obtain ⟨p, r, lw, es, t, n9, v9, q, J, R⟩ := J0
  have hok := jm_ok J
  refine ax_aload_n dL_law__771 rfl ?_
  refine ax_aload_n dL_law__772 rfl ?_
  refine ax_iload dL_law__773 rfl ?_
  refine ax_iconst (v := 1) dL_law__775 (by decide) ?_
  refine ax_iadd dL_law__776 ?_
  rw [show nI (6 * j) + 1 = nI (6 * j + 1) from nI_add _ _]
  refine ax_sld dL_law__777 (pk_in (6 * j + 1) N (by omega)) ?_
  rw [h1]
  refine ax_aload_n dL_law__778 rfl ?_
  refine ax_iload dL_law__779 rfl ?_
  refine ax_iconst (v := 2) dL_law__781 (by decide) ?_
  refine ax_iadd dL_law__782 ?_
  rw [show nI (6 * j) + 2 = nI (6 * j + 2) from nI_add _ _]
  refine ax_sld dL_law__783 (pk_in (6 * j + 2) N (by omega)) ?_
  rw [h2]
  refine ax_aload_n dL_law__784 rfl ?_
  refine ax_iload dL_law__785 rfl ?_
  refine ax_iconst (v := 3) dL_law__787 (by decide) ?_
  refine ax_iadd dL_law__788 ?_
  rw [show nI (6 * j) + 3 = nI (6 * j + 3) from nI_add _ _]
  refine ax_sld dL_law__789 (pk_in (6 * j + 3) N (by omega)) ?_
  rw [h3]
  refine ax_aload_n dL_law__790 rfl ?_
  refine ax_callSW (As := [av_r 1, av_i a1, av_i a2, av_i a3, av_r 432]) (c1 := c) (n1 := n) (w_at (d := 8) (c := 3) (n := 18) a1 a2 a3 (x_at hl9 J.1 a1 a2 a3) (lo_s hok 1 rfl) (xA_hI (qk_at r lw a1 a2 a3)) (xA_hx (qk_at r lw a1 a2 a3))) dL_law__791 mwL_at wd_1152 rfl (by omega) (by omega) (by omega) rfl rfl (fun _ _ => qw_nx) ?_
  intro r9 M1 hq
  have hqk := qk_at r lw a1 a2 a3
  cases hy : qa_at r lw a1 a2 a3 with
  | inl vv =>
    rw [hy] at hq hqk
    obtain ⟨rfl, M0, hM1, f1, I1⟩ := qw_v hq
    obtain ⟨J1, R1⟩ := ask_1 (M1 := M1) J R f1 I1 (by rw [hM1]; exact sm_pL _ _ _)
    have hok1 := jm_ok J1
    obtain ⟨z, rfl⟩ := hqk
    refine ax_istore dL_law__794 (by decide) rfl ?_
    refine ax_aload_n dL_law__796 rfl ?_
    refine ax_aload_n dL_law__797 rfl ?_
    refine ax_iload dL_law__798 rfl ?_
    refine ax_iconst (v := 1) dL_law__800 (by decide) ?_
    refine ax_iadd dL_law__801 ?_
    rw [show nI (6 * j) + 1 = nI (6 * j + 1) from nI_add _ _]
    refine ax_sld dL_law__802 (pk_in (6 * j + 1) N (by omega)) ?_
    rw [h1]
    refine ax_aload_n dL_law__803 rfl ?_
    refine ax_iload dL_law__804 rfl ?_
    refine ax_iconst (v := 2) dL_law__806 (by decide) ?_
    refine ax_iadd dL_law__807 ?_
    rw [show nI (6 * j) + 2 = nI (6 * j + 2) from nI_add _ _]
    refine ax_sld dL_law__808 (pk_in (6 * j + 2) N (by omega)) ?_
    rw [h2]
    refine ax_aload_n dL_law__809 rfl ?_
    refine ax_iload dL_law__810 rfl ?_
    refine ax_iconst (v := 3) dL_law__812 (by decide) ?_
    refine ax_iadd dL_law__813 ?_
    rw [show nI (6 * j) + 3 = nI (6 * j + 3) from nI_add _ _]
    refine ax_sld dL_law__814 (pk_in (6 * j + 3) N (by omega)) ?_
    rw [h3]
    refine ax_callV (As := [av_i a1, av_i a2, av_i a3]) (d2 := _) (c1 := c) (n1 := n) (c_at (M := M1) hok1 J1.2.1 J1.1.1.2.2.1 J1.2.2.1 a1 a2 a3) dL_law__815 mX10_at wd_1997 acl_10 (lo_s hok1 90 rfl) rfl (by omega) (by omega) (by omega) rfl rfl (fun _ _ => rq_nx9) ?_
    intro r8 M2 hq2
    rw [hy] at hq2
    obtain ⟨e1, e2, e3, J2⟩ := ask_2 J1 R1 hq2
    cases e1
    have hok2 : lo_ok M2.2 := by rw [e3]; exact hok1
    have e4 : M2.2.2.1 432 (0 : Int32).toNatClampNeg = z.toInt64 := by rw [show M2.2.2.1 = M1.2.2.1 by rw [e3], hM1]; exact pL_rd
    refine ax_istore dL_law__818 (by decide) rfl ?_
    refine ax_aload_n dL_law__820 rfl ?_
    refine ax_callV (As := []) (d2 := _) (c1 := c) (n1 := n) (c_X10_thrown (d := 0) (M := M2) hok2) dL_law__821 mX10_thrown wd_1760 acl_10 (lo_s hok2 90 rfl) rfl (by omega) (by omega) (by omega) rfl rfl (fun _ _ h => by cases h.1) ?_
    rintro r7 _ ⟨q7, rfl⟩; cases q7
    rw [e2]
    refine ax_iload dL_law__824 rfl ?_
    refine ax_icmp_eq (tgt := 831) dL_law__826 (by decide) (fun hc => ?_) (fun hc => ?_)
    rotate_left
    · exact absurd rfl hc
    clear hc
    refine ax_iload dL_law__831 rfl ?_
    refine ax_if_ne (tgt := 848) dL_law__833 (by decide) (fun hc => ?_) (fun hc => ?_)
    · exact absurd rfl hc
    clear hc
    refine ax_aload_n dL_law__836 rfl ?_
    refine ax_iconst (v := 0) dL_law__837 (by decide) ?_
    refine ax_lald dL_law__838 (lo_s hok2 432 rfl) (by unfold vp_in; decide) ?_
    rw [e4]
    refine ax_iload dL_law__839 rfl ?_
    refine ax_i2l dL_law__841 ?_
    refine ax_lcmp dL_law__842 ?_
    refine ax_if_eq (tgt := 848) dL_law__843 (by decide) (fun hc => ?_) (fun hc => ?_)
    · clear hc
      refine ax_goto (tgt := 2950) dL_law__848 (by decide) ?_
      exact ax_weak (lw_weak _ _ _) (next _ J2)
    · exact absurd ((lg_cmp_eq _ _).mpr rfl) hc
  | inr qq =>
    rw [hy] at hq hqk
    obtain ⟨rfl, hxre⟩ := qw_e (tb := [(0, 1), (1, 2)]) (by decide) hqk hq
    have hw0 : ¬ nI qq.1 = 0 := tb_nz (tb := [(0, 1), (1, 2)]) (by decide) hqk
    obtain ⟨J1, R1⟩ := ask_1e J R hxre
    have hok1 := jm_ok J1
    refine ax_istore dL_law__794 (by decide) rfl ?_
    refine ax_aload_n dL_law__796 rfl ?_
    refine ax_aload_n dL_law__797 rfl ?_
    refine ax_iload dL_law__798 rfl ?_
    refine ax_iconst (v := 1) dL_law__800 (by decide) ?_
    refine ax_iadd dL_law__801 ?_
    rw [show nI (6 * j) + 1 = nI (6 * j + 1) from nI_add _ _]
    refine ax_sld dL_law__802 (pk_in (6 * j + 1) N (by omega)) ?_
    rw [h1]
    refine ax_aload_n dL_law__803 rfl ?_
    refine ax_iload dL_law__804 rfl ?_
    refine ax_iconst (v := 2) dL_law__806 (by decide) ?_
    refine ax_iadd dL_law__807 ?_
    rw [show nI (6 * j) + 2 = nI (6 * j + 2) from nI_add _ _]
    refine ax_sld dL_law__808 (pk_in (6 * j + 2) N (by omega)) ?_
    rw [h2]
    refine ax_aload_n dL_law__809 rfl ?_
    refine ax_iload dL_law__810 rfl ?_
    refine ax_iconst (v := 3) dL_law__812 (by decide) ?_
    refine ax_iadd dL_law__813 ?_
    rw [show nI (6 * j) + 3 = nI (6 * j + 3) from nI_add _ _]
    refine ax_sld dL_law__814 (pk_in (6 * j + 3) N (by omega)) ?_
    rw [h3]
    refine ax_callV (As := [av_i a1, av_i a2, av_i a3]) (d2 := _) (c1 := c) (n1 := n) (c_at (M := M1) hok1 J1.2.1 J1.1.1.2.2.1 J1.2.2.1 a1 a2 a3) dL_law__815 mX10_at wd_1997 acl_10 (lo_s hok1 90 rfl) rfl (by omega) (by omega) (by omega) rfl rfl (fun _ _ => rq_nx9) ?_
    intro r8 M2 hq2
    rw [hy] at hq2
    obtain ⟨⟨u, e1⟩, e2, e3, J2⟩ := ask_2e J1 R1 hq2
    cases e1
    have hok2 : lo_ok M2.2 := by rw [e3]; exact hok1
    refine ax_istore dL_law__818 (by decide) rfl ?_
    refine ax_aload_n dL_law__820 rfl ?_
    refine ax_callV (As := []) (d2 := _) (c1 := c) (n1 := n) (c_X10_thrown (d := 0) (M := M2) hok2) dL_law__821 mX10_thrown wd_1760 acl_10 (lo_s hok2 90 rfl) rfl (by omega) (by omega) (by omega) rfl rfl (fun _ _ h => by cases h.1) ?_
    rintro r7 _ ⟨q7, rfl⟩; cases q7
    rw [e2]
    refine ax_iload dL_law__824 rfl ?_
    refine ax_icmp_eq (tgt := 831) dL_law__826 (by decide) (fun hc => ?_) (fun hc => ?_)
    rotate_left
    · exact absurd rfl hc
    clear hc
    refine ax_iload dL_law__831 rfl ?_
    refine ax_if_ne (tgt := 848) dL_law__833 (by decide) (fun hc => ?_) (fun hc => ?_)
    rotate_left
    · exact absurd hc hw0
    clear hc
    refine ax_goto (tgt := 2950) dL_law__848 (by decide) ?_
    exact ax_weak (lw_weak _ _ _) (next _ J2)
theorem lc_hits {l : Launch} {G : ax_G} {b N j c n : Nat} {xs : Nat → Int32} {M : ax_M} {a1 a2 a3 a4 a5 : Int32} (hl9 : l.stackTraces = false) (hj : 6 * j + 6 ≤ N) (hN : N ≤ 3072) (h1 : xs (nI (6 * j + 1)).toNatClampNeg = a1) (h2 : xs (nI (6 * j + 2)).toNatClampNeg = a2) (h3 : xs (nI (6 * j + 3)).toNatClampNeg = a3) (h4 : xs (nI (6 * j + 4)).toNatClampNeg = a4) (h5 : xs (nI (6 * j + 5)).toNatClampNeg = a5) (J0 : jj M) (next : ∀ M2, jj M2 → ax_W l G kL_law_ (ax_FE G (ax_FL G b N xs)) 60 c n M2 2950 [some (av_o 998), some (av_r 1), some (av_r 90), some (av_r 432), some (av_i (nI (6 * j))), none, none, none] []) : ax_W l G kL_law_ (ax_FE G (ax_FL G b N xs)) 60 (c + 4) (n + 24) M 864 [some (av_o 998), some (av_r 1), some (av_r 90), some (av_r 432), some (av_i (nI (6 * j))), none, none, none] [] := by
  obtain ⟨p, r, lw, es, t, n9, v9, q, J, R⟩ := J0
  have hok := jm_ok J
  refine ax_aload_n dL_law__864 rfl ?_
  refine ax_aload_n dL_law__865 rfl ?_
  refine ax_iload dL_law__866 rfl ?_
  refine ax_iconst (v := 1) dL_law__868 (by decide) ?_
  refine ax_iadd dL_law__869 ?_
  rw [show nI (6 * j) + 1 = nI (6 * j + 1) from nI_add _ _]
  refine ax_sld dL_law__870 (pk_in (6 * j + 1) N (by omega)) ?_
  rw [h1]
  refine ax_aload_n dL_law__871 rfl ?_
  refine ax_callSW (As := [av_r 1, av_i a1, av_r 432]) (c1 := c) (n1 := n) (w_hits (d := 8) (c := 1) (n := 6) a1 (x_hits hl9 J.1 a1) (lo_s hok 1 rfl) (xA_hI (qk_hits r lw a1)) (xA_hx (qk_hits r lw a1))) dL_law__872 mwL_hits wd_1165 rfl (by omega) (by omega) (by omega) rfl rfl (fun _ _ => qw_nx) ?_
  intro r9 M1 hq
  have hqk := qk_hits r lw a1
  cases hy : qa_hits r lw a1 with
  | inl vv =>
    rw [hy] at hq hqk
    obtain ⟨rfl, M0, hM1, f1, I1⟩ := qw_v hq
    obtain ⟨J1, R1⟩ := ask_1 (M1 := M1) J R f1 I1 (by rw [hM1]; exact sm_pL _ _ _)
    have hok1 := jm_ok J1
    obtain ⟨z, rfl⟩ := hqk
    refine ax_istore dL_law__875 (by decide) rfl ?_
    refine ax_aload_n dL_law__877 rfl ?_
    refine ax_aload_n dL_law__878 rfl ?_
    refine ax_iload dL_law__879 rfl ?_
    refine ax_iconst (v := 1) dL_law__881 (by decide) ?_
    refine ax_iadd dL_law__882 ?_
    rw [show nI (6 * j) + 1 = nI (6 * j + 1) from nI_add _ _]
    refine ax_sld dL_law__883 (pk_in (6 * j + 1) N (by omega)) ?_
    rw [h1]
    refine ax_callV (As := [av_i a1]) (d2 := _) (c1 := c) (n1 := n) (c_hits (M := M1) hok1 J1.2.1 J1.1.1.2.2.1 J1.2.2.1 a1) dL_law__884 mX10_hits wd_2005 acl_10 (lo_s hok1 90 rfl) rfl (by omega) (by omega) (by omega) rfl rfl (fun _ _ => rq_nx9) ?_
    intro r8 M2 hq2
    rw [hy] at hq2
    obtain ⟨e1, e2, e3, J2⟩ := ask_2 J1 R1 hq2
    cases e1
    have hok2 : lo_ok M2.2 := by rw [e3]; exact hok1
    have e4 : M2.2.2.1 432 (0 : Int32).toNatClampNeg = z.toInt64 := by rw [show M2.2.2.1 = M1.2.2.1 by rw [e3], hM1]; exact pL_rd
    refine ax_istore dL_law__887 (by decide) rfl ?_
    refine ax_aload_n dL_law__889 rfl ?_
    refine ax_callV (As := []) (d2 := _) (c1 := c) (n1 := n) (c_X10_thrown (d := 0) (M := M2) hok2) dL_law__890 mX10_thrown wd_1760 acl_10 (lo_s hok2 90 rfl) rfl (by omega) (by omega) (by omega) rfl rfl (fun _ _ h => by cases h.1) ?_
    rintro r7 _ ⟨q7, rfl⟩; cases q7
    rw [e2]
    refine ax_iload dL_law__893 rfl ?_
    refine ax_icmp_eq (tgt := 900) dL_law__895 (by decide) (fun hc => ?_) (fun hc => ?_)
    rotate_left
    · exact absurd rfl hc
    clear hc
    refine ax_iload dL_law__900 rfl ?_
    refine ax_if_ne (tgt := 917) dL_law__902 (by decide) (fun hc => ?_) (fun hc => ?_)
    · exact absurd rfl hc
    clear hc
    refine ax_aload_n dL_law__905 rfl ?_
    refine ax_iconst (v := 0) dL_law__906 (by decide) ?_
    refine ax_lald dL_law__907 (lo_s hok2 432 rfl) (by unfold vp_in; decide) ?_
    rw [e4]
    refine ax_iload dL_law__908 rfl ?_
    refine ax_i2l dL_law__910 ?_
    refine ax_lcmp dL_law__911 ?_
    refine ax_if_eq (tgt := 917) dL_law__912 (by decide) (fun hc => ?_) (fun hc => ?_)
    · clear hc
      refine ax_goto (tgt := 2950) dL_law__917 (by decide) ?_
      exact ax_weak (lw_weak _ _ _) (next _ J2)
    · exact absurd ((lg_cmp_eq _ _).mpr rfl) hc
  | inr qq =>
    rw [hy] at hq hqk
    obtain ⟨rfl, hxre⟩ := qw_e (tb := [(0, 1)]) (by decide) hqk hq
    have hw0 : ¬ nI qq.1 = 0 := tb_nz (tb := [(0, 1)]) (by decide) hqk
    obtain ⟨J1, R1⟩ := ask_1e J R hxre
    have hok1 := jm_ok J1
    refine ax_istore dL_law__875 (by decide) rfl ?_
    refine ax_aload_n dL_law__877 rfl ?_
    refine ax_aload_n dL_law__878 rfl ?_
    refine ax_iload dL_law__879 rfl ?_
    refine ax_iconst (v := 1) dL_law__881 (by decide) ?_
    refine ax_iadd dL_law__882 ?_
    rw [show nI (6 * j) + 1 = nI (6 * j + 1) from nI_add _ _]
    refine ax_sld dL_law__883 (pk_in (6 * j + 1) N (by omega)) ?_
    rw [h1]
    refine ax_callV (As := [av_i a1]) (d2 := _) (c1 := c) (n1 := n) (c_hits (M := M1) hok1 J1.2.1 J1.1.1.2.2.1 J1.2.2.1 a1) dL_law__884 mX10_hits wd_2005 acl_10 (lo_s hok1 90 rfl) rfl (by omega) (by omega) (by omega) rfl rfl (fun _ _ => rq_nx9) ?_
    intro r8 M2 hq2
    rw [hy] at hq2
    obtain ⟨⟨u, e1⟩, e2, e3, J2⟩ := ask_2e J1 R1 hq2
    cases e1
    have hok2 : lo_ok M2.2 := by rw [e3]; exact hok1
    refine ax_istore dL_law__887 (by decide) rfl ?_
    refine ax_aload_n dL_law__889 rfl ?_
    refine ax_callV (As := []) (d2 := _) (c1 := c) (n1 := n) (c_X10_thrown (d := 0) (M := M2) hok2) dL_law__890 mX10_thrown wd_1760 acl_10 (lo_s hok2 90 rfl) rfl (by omega) (by omega) (by omega) rfl rfl (fun _ _ h => by cases h.1) ?_
    rintro r7 _ ⟨q7, rfl⟩; cases q7
    rw [e2]
    refine ax_iload dL_law__893 rfl ?_
    refine ax_icmp_eq (tgt := 900) dL_law__895 (by decide) (fun hc => ?_) (fun hc => ?_)
    rotate_left
    · exact absurd rfl hc
    clear hc
    refine ax_iload dL_law__900 rfl ?_
    refine ax_if_ne (tgt := 917) dL_law__902 (by decide) (fun hc => ?_) (fun hc => ?_)
    rotate_left
    · exact absurd hc hw0
    clear hc
    refine ax_goto (tgt := 2950) dL_law__917 (by decide) ?_
    exact ax_weak (lw_weak _ _ _) (next _ J2)
theorem lc_sees {l : Launch} {G : ax_G} {b N j c n : Nat} {xs : Nat → Int32} {M : ax_M} {a1 a2 a3 a4 a5 : Int32} (hl9 : l.stackTraces = false) (hj : 6 * j + 6 ≤ N) (hN : N ≤ 3072) (h1 : xs (nI (6 * j + 1)).toNatClampNeg = a1) (h2 : xs (nI (6 * j + 2)).toNatClampNeg = a2) (h3 : xs (nI (6 * j + 3)).toNatClampNeg = a3) (h4 : xs (nI (6 * j + 4)).toNatClampNeg = a4) (h5 : xs (nI (6 * j + 5)).toNatClampNeg = a5) (J0 : jj M) (next : ∀ M2, jj M2 → ax_W l G kL_law_ (ax_FE G (ax_FL G b N xs)) 60 c n M2 2950 [some (av_o 998), some (av_r 1), some (av_r 90), some (av_r 432), some (av_i (nI (6 * j))), none, none, none] []) : ax_W l G kL_law_ (ax_FE G (ax_FL G b N xs)) 60 (c + 4) (n + 24) M 920 [some (av_o 998), some (av_r 1), some (av_r 90), some (av_r 432), some (av_i (nI (6 * j))), none, none, none] [] := by
  obtain ⟨p, r, lw, es, t, n9, v9, q, J, R⟩ := J0
  have hok := jm_ok J
  refine ax_aload_n dL_law__920 rfl ?_
  refine ax_aload_n dL_law__921 rfl ?_
  refine ax_iload dL_law__922 rfl ?_
  refine ax_iconst (v := 1) dL_law__924 (by decide) ?_
  refine ax_iadd dL_law__925 ?_
  rw [show nI (6 * j) + 1 = nI (6 * j + 1) from nI_add _ _]
  refine ax_sld dL_law__926 (pk_in (6 * j + 1) N (by omega)) ?_
  rw [h1]
  refine ax_aload_n dL_law__927 rfl ?_
  refine ax_iload dL_law__928 rfl ?_
  refine ax_iconst (v := 2) dL_law__930 (by decide) ?_
  refine ax_iadd dL_law__931 ?_
  rw [show nI (6 * j) + 2 = nI (6 * j + 2) from nI_add _ _]
  refine ax_sld dL_law__932 (pk_in (6 * j + 2) N (by omega)) ?_
  rw [h2]
  refine ax_aload_n dL_law__933 rfl ?_
  refine ax_callSW (As := [av_r 1, av_i a1, av_i a2, av_r 432]) (c1 := c) (n1 := n) (w_sees (d := 8) (c := 2) (n := 12) a1 a2 (x_sees hl9 J.1 a1 a2) (lo_s hok 1 rfl) (xA_hI (qk_sees r lw a1 a2)) (xA_hx (qk_sees r lw a1 a2))) dL_law__934 mwL_sees wd_1193 rfl (by omega) (by omega) (by omega) rfl rfl (fun _ _ => qw_nx) ?_
  intro r9 M1 hq
  have hqk := qk_sees r lw a1 a2
  cases hy : qa_sees r lw a1 a2 with
  | inl vv =>
    rw [hy] at hq hqk
    obtain ⟨rfl, M0, hM1, f1, I1⟩ := qw_v hq
    obtain ⟨J1, R1⟩ := ask_1 (M1 := M1) J R f1 I1 (by rw [hM1]; exact sm_pL _ _ _)
    have hok1 := jm_ok J1
    obtain ⟨z, rfl⟩ := hqk
    refine ax_istore dL_law__937 (by decide) rfl ?_
    refine ax_aload_n dL_law__939 rfl ?_
    refine ax_aload_n dL_law__940 rfl ?_
    refine ax_iload dL_law__941 rfl ?_
    refine ax_iconst (v := 1) dL_law__943 (by decide) ?_
    refine ax_iadd dL_law__944 ?_
    rw [show nI (6 * j) + 1 = nI (6 * j + 1) from nI_add _ _]
    refine ax_sld dL_law__945 (pk_in (6 * j + 1) N (by omega)) ?_
    rw [h1]
    refine ax_aload_n dL_law__946 rfl ?_
    refine ax_iload dL_law__947 rfl ?_
    refine ax_iconst (v := 2) dL_law__949 (by decide) ?_
    refine ax_iadd dL_law__950 ?_
    rw [show nI (6 * j) + 2 = nI (6 * j + 2) from nI_add _ _]
    refine ax_sld dL_law__951 (pk_in (6 * j + 2) N (by omega)) ?_
    rw [h2]
    refine ax_callV (As := [av_i a1, av_i a2]) (d2 := _) (c1 := c) (n1 := n) (c_sees (M := M1) hok1 J1.2.1 J1.1.1.2.2.1 J1.2.2.1 a1 a2) dL_law__952 mX10_sees wd_2009 acl_10 (lo_s hok1 90 rfl) rfl (by omega) (by omega) (by omega) rfl rfl (fun _ _ => rq_nx9) ?_
    intro r8 M2 hq2
    rw [hy] at hq2
    obtain ⟨e1, e2, e3, J2⟩ := ask_2 J1 R1 hq2
    cases e1
    have hok2 : lo_ok M2.2 := by rw [e3]; exact hok1
    have e4 : M2.2.2.1 432 (0 : Int32).toNatClampNeg = z.toInt64 := by rw [show M2.2.2.1 = M1.2.2.1 by rw [e3], hM1]; exact pL_rd
    refine ax_istore dL_law__955 (by decide) rfl ?_
    refine ax_aload_n dL_law__957 rfl ?_
    refine ax_callV (As := []) (d2 := _) (c1 := c) (n1 := n) (c_X10_thrown (d := 0) (M := M2) hok2) dL_law__958 mX10_thrown wd_1760 acl_10 (lo_s hok2 90 rfl) rfl (by omega) (by omega) (by omega) rfl rfl (fun _ _ h => by cases h.1) ?_
    rintro r7 _ ⟨q7, rfl⟩; cases q7
    rw [e2]
    refine ax_iload dL_law__961 rfl ?_
    refine ax_icmp_eq (tgt := 968) dL_law__963 (by decide) (fun hc => ?_) (fun hc => ?_)
    rotate_left
    · exact absurd rfl hc
    clear hc
    refine ax_iload dL_law__968 rfl ?_
    refine ax_if_ne (tgt := 985) dL_law__970 (by decide) (fun hc => ?_) (fun hc => ?_)
    · exact absurd rfl hc
    clear hc
    refine ax_aload_n dL_law__973 rfl ?_
    refine ax_iconst (v := 0) dL_law__974 (by decide) ?_
    refine ax_lald dL_law__975 (lo_s hok2 432 rfl) (by unfold vp_in; decide) ?_
    rw [e4]
    refine ax_iload dL_law__976 rfl ?_
    refine ax_i2l dL_law__978 ?_
    refine ax_lcmp dL_law__979 ?_
    refine ax_if_eq (tgt := 985) dL_law__980 (by decide) (fun hc => ?_) (fun hc => ?_)
    · clear hc
      refine ax_goto (tgt := 2950) dL_law__985 (by decide) ?_
      exact ax_weak (lw_weak _ _ _) (next _ J2)
    · exact absurd ((lg_cmp_eq _ _).mpr rfl) hc
  | inr qq =>
    rw [hy] at hq hqk
    obtain ⟨rfl, hxre⟩ := qw_e (tb := [(0, 1)]) (by decide) hqk hq
    have hw0 : ¬ nI qq.1 = 0 := tb_nz (tb := [(0, 1)]) (by decide) hqk
    obtain ⟨J1, R1⟩ := ask_1e J R hxre
    have hok1 := jm_ok J1
    refine ax_istore dL_law__937 (by decide) rfl ?_
    refine ax_aload_n dL_law__939 rfl ?_
    refine ax_aload_n dL_law__940 rfl ?_
    refine ax_iload dL_law__941 rfl ?_
    refine ax_iconst (v := 1) dL_law__943 (by decide) ?_
    refine ax_iadd dL_law__944 ?_
    rw [show nI (6 * j) + 1 = nI (6 * j + 1) from nI_add _ _]
    refine ax_sld dL_law__945 (pk_in (6 * j + 1) N (by omega)) ?_
    rw [h1]
    refine ax_aload_n dL_law__946 rfl ?_
    refine ax_iload dL_law__947 rfl ?_
    refine ax_iconst (v := 2) dL_law__949 (by decide) ?_
    refine ax_iadd dL_law__950 ?_
    rw [show nI (6 * j) + 2 = nI (6 * j + 2) from nI_add _ _]
    refine ax_sld dL_law__951 (pk_in (6 * j + 2) N (by omega)) ?_
    rw [h2]
    refine ax_callV (As := [av_i a1, av_i a2]) (d2 := _) (c1 := c) (n1 := n) (c_sees (M := M1) hok1 J1.2.1 J1.1.1.2.2.1 J1.2.2.1 a1 a2) dL_law__952 mX10_sees wd_2009 acl_10 (lo_s hok1 90 rfl) rfl (by omega) (by omega) (by omega) rfl rfl (fun _ _ => rq_nx9) ?_
    intro r8 M2 hq2
    rw [hy] at hq2
    obtain ⟨⟨u, e1⟩, e2, e3, J2⟩ := ask_2e J1 R1 hq2
    cases e1
    have hok2 : lo_ok M2.2 := by rw [e3]; exact hok1
    refine ax_istore dL_law__955 (by decide) rfl ?_
    refine ax_aload_n dL_law__957 rfl ?_
    refine ax_callV (As := []) (d2 := _) (c1 := c) (n1 := n) (c_X10_thrown (d := 0) (M := M2) hok2) dL_law__958 mX10_thrown wd_1760 acl_10 (lo_s hok2 90 rfl) rfl (by omega) (by omega) (by omega) rfl rfl (fun _ _ h => by cases h.1) ?_
    rintro r7 _ ⟨q7, rfl⟩; cases q7
    rw [e2]
    refine ax_iload dL_law__961 rfl ?_
    refine ax_icmp_eq (tgt := 968) dL_law__963 (by decide) (fun hc => ?_) (fun hc => ?_)
    rotate_left
    · exact absurd rfl hc
    clear hc
    refine ax_iload dL_law__968 rfl ?_
    refine ax_if_ne (tgt := 985) dL_law__970 (by decide) (fun hc => ?_) (fun hc => ?_)
    rotate_left
    · exact absurd hc hw0
    clear hc
    refine ax_goto (tgt := 2950) dL_law__985 (by decide) ?_
    exact ax_weak (lw_weak _ _ _) (next _ J2)
theorem lc_sums {l : Launch} {G : ax_G} {b N j c n : Nat} {xs : Nat → Int32} {M : ax_M} {a1 a2 a3 a4 a5 : Int32} (hl9 : l.stackTraces = false) (hj : 6 * j + 6 ≤ N) (hN : N ≤ 3072) (h1 : xs (nI (6 * j + 1)).toNatClampNeg = a1) (h2 : xs (nI (6 * j + 2)).toNatClampNeg = a2) (h3 : xs (nI (6 * j + 3)).toNatClampNeg = a3) (h4 : xs (nI (6 * j + 4)).toNatClampNeg = a4) (h5 : xs (nI (6 * j + 5)).toNatClampNeg = a5) (J0 : jj M) (next : ∀ M2, jj M2 → ax_W l G kL_law_ (ax_FE G (ax_FL G b N xs)) 60 c n M2 2950 [some (av_o 998), some (av_r 1), some (av_r 90), some (av_r 432), some (av_i (nI (6 * j))), none, none, none] []) : ax_W l G kL_law_ (ax_FE G (ax_FL G b N xs)) 60 (c + 4) (n + 24) M 988 [some (av_o 998), some (av_r 1), some (av_r 90), some (av_r 432), some (av_i (nI (6 * j))), none, none, none] [] := by
  obtain ⟨p, r, lw, es, t, n9, v9, q, J, R⟩ := J0
  have hok := jm_ok J
  refine ax_aload_n dL_law__988 rfl ?_
  refine ax_aload_n dL_law__989 rfl ?_
  refine ax_iload dL_law__990 rfl ?_
  refine ax_iconst (v := 1) dL_law__992 (by decide) ?_
  refine ax_iadd dL_law__993 ?_
  rw [show nI (6 * j) + 1 = nI (6 * j + 1) from nI_add _ _]
  refine ax_sld dL_law__994 (pk_in (6 * j + 1) N (by omega)) ?_
  rw [h1]
  refine ax_aload_n dL_law__995 rfl ?_
  refine ax_iload dL_law__996 rfl ?_
  refine ax_iconst (v := 2) dL_law__998 (by decide) ?_
  refine ax_iadd dL_law__999 ?_
  rw [show nI (6 * j) + 2 = nI (6 * j + 2) from nI_add _ _]
  refine ax_sld dL_law__1000 (pk_in (6 * j + 2) N (by omega)) ?_
  rw [h2]
  refine ax_aload_n dL_law__1001 rfl ?_
  refine ax_callSW (As := [av_r 1, av_i a1, av_i a2, av_r 432]) (c1 := c) (n1 := n) (w_sums (d := 8) (c := 2) (n := 12) a1 a2 (x_sums hl9 J.1 a1 a2) (lo_s hok 1 rfl) (xA_hI (qk_sums r lw a1 a2)) (xA_hx (qk_sums r lw a1 a2))) dL_law__1002 mwL_sums wd_1202 rfl (by omega) (by omega) (by omega) rfl rfl (fun _ _ => qw_nx) ?_
  intro r9 M1 hq
  have hqk := qk_sums r lw a1 a2
  cases hy : qa_sums r lw a1 a2 with
  | inl vv =>
    rw [hy] at hq hqk
    obtain ⟨rfl, M0, hM1, f1, I1⟩ := qw_v hq
    obtain ⟨J1, R1⟩ := ask_1 (M1 := M1) J R f1 I1 (by rw [hM1]; exact sm_pL _ _ _)
    have hok1 := jm_ok J1
    obtain ⟨z, rfl⟩ := hqk
    refine ax_istore dL_law__1005 (by decide) rfl ?_
    refine ax_aload_n dL_law__1007 rfl ?_
    refine ax_aload_n dL_law__1008 rfl ?_
    refine ax_iload dL_law__1009 rfl ?_
    refine ax_iconst (v := 1) dL_law__1011 (by decide) ?_
    refine ax_iadd dL_law__1012 ?_
    rw [show nI (6 * j) + 1 = nI (6 * j + 1) from nI_add _ _]
    refine ax_sld dL_law__1013 (pk_in (6 * j + 1) N (by omega)) ?_
    rw [h1]
    refine ax_aload_n dL_law__1014 rfl ?_
    refine ax_iload dL_law__1015 rfl ?_
    refine ax_iconst (v := 2) dL_law__1017 (by decide) ?_
    refine ax_iadd dL_law__1018 ?_
    rw [show nI (6 * j) + 2 = nI (6 * j + 2) from nI_add _ _]
    refine ax_sld dL_law__1019 (pk_in (6 * j + 2) N (by omega)) ?_
    rw [h2]
    refine ax_callV (As := [av_i a1, av_i a2]) (d2 := _) (c1 := c) (n1 := n) (c_sums (M := M1) hok1 J1.2.1 J1.1.1.2.2.1 J1.2.2.1 a1 a2) dL_law__1020 mX10_sums wd_2013 acl_10 (lo_s hok1 90 rfl) rfl (by omega) (by omega) (by omega) rfl rfl (fun _ _ => rq_nx9) ?_
    intro r8 M2 hq2
    rw [hy] at hq2
    obtain ⟨e1, e2, e3, J2⟩ := ask_2 J1 R1 hq2
    cases e1
    have hok2 : lo_ok M2.2 := by rw [e3]; exact hok1
    have e4 : M2.2.2.1 432 (0 : Int32).toNatClampNeg = z.toInt64 := by rw [show M2.2.2.1 = M1.2.2.1 by rw [e3], hM1]; exact pL_rd
    refine ax_istore dL_law__1023 (by decide) rfl ?_
    refine ax_aload_n dL_law__1025 rfl ?_
    refine ax_callV (As := []) (d2 := _) (c1 := c) (n1 := n) (c_X10_thrown (d := 0) (M := M2) hok2) dL_law__1026 mX10_thrown wd_1760 acl_10 (lo_s hok2 90 rfl) rfl (by omega) (by omega) (by omega) rfl rfl (fun _ _ h => by cases h.1) ?_
    rintro r7 _ ⟨q7, rfl⟩; cases q7
    rw [e2]
    refine ax_iload dL_law__1029 rfl ?_
    refine ax_icmp_eq (tgt := 1036) dL_law__1031 (by decide) (fun hc => ?_) (fun hc => ?_)
    rotate_left
    · exact absurd rfl hc
    clear hc
    refine ax_iload dL_law__1036 rfl ?_
    refine ax_if_ne (tgt := 1053) dL_law__1038 (by decide) (fun hc => ?_) (fun hc => ?_)
    · exact absurd rfl hc
    clear hc
    refine ax_aload_n dL_law__1041 rfl ?_
    refine ax_iconst (v := 0) dL_law__1042 (by decide) ?_
    refine ax_lald dL_law__1043 (lo_s hok2 432 rfl) (by unfold vp_in; decide) ?_
    rw [e4]
    refine ax_iload dL_law__1044 rfl ?_
    refine ax_i2l dL_law__1046 ?_
    refine ax_lcmp dL_law__1047 ?_
    refine ax_if_eq (tgt := 1053) dL_law__1048 (by decide) (fun hc => ?_) (fun hc => ?_)
    · clear hc
      refine ax_goto (tgt := 2950) dL_law__1053 (by decide) ?_
      exact ax_weak (lw_weak _ _ _) (next _ J2)
    · exact absurd ((lg_cmp_eq _ _).mpr rfl) hc
  | inr qq =>
    rw [hy] at hq hqk
    obtain ⟨rfl, hxre⟩ := qw_e (tb := [(0, 1), (1, 2)]) (by decide) hqk hq
    have hw0 : ¬ nI qq.1 = 0 := tb_nz (tb := [(0, 1), (1, 2)]) (by decide) hqk
    obtain ⟨J1, R1⟩ := ask_1e J R hxre
    have hok1 := jm_ok J1
    refine ax_istore dL_law__1005 (by decide) rfl ?_
    refine ax_aload_n dL_law__1007 rfl ?_
    refine ax_aload_n dL_law__1008 rfl ?_
    refine ax_iload dL_law__1009 rfl ?_
    refine ax_iconst (v := 1) dL_law__1011 (by decide) ?_
    refine ax_iadd dL_law__1012 ?_
    rw [show nI (6 * j) + 1 = nI (6 * j + 1) from nI_add _ _]
    refine ax_sld dL_law__1013 (pk_in (6 * j + 1) N (by omega)) ?_
    rw [h1]
    refine ax_aload_n dL_law__1014 rfl ?_
    refine ax_iload dL_law__1015 rfl ?_
    refine ax_iconst (v := 2) dL_law__1017 (by decide) ?_
    refine ax_iadd dL_law__1018 ?_
    rw [show nI (6 * j) + 2 = nI (6 * j + 2) from nI_add _ _]
    refine ax_sld dL_law__1019 (pk_in (6 * j + 2) N (by omega)) ?_
    rw [h2]
    refine ax_callV (As := [av_i a1, av_i a2]) (d2 := _) (c1 := c) (n1 := n) (c_sums (M := M1) hok1 J1.2.1 J1.1.1.2.2.1 J1.2.2.1 a1 a2) dL_law__1020 mX10_sums wd_2013 acl_10 (lo_s hok1 90 rfl) rfl (by omega) (by omega) (by omega) rfl rfl (fun _ _ => rq_nx9) ?_
    intro r8 M2 hq2
    rw [hy] at hq2
    obtain ⟨⟨u, e1⟩, e2, e3, J2⟩ := ask_2e J1 R1 hq2
    cases e1
    have hok2 : lo_ok M2.2 := by rw [e3]; exact hok1
    refine ax_istore dL_law__1023 (by decide) rfl ?_
    refine ax_aload_n dL_law__1025 rfl ?_
    refine ax_callV (As := []) (d2 := _) (c1 := c) (n1 := n) (c_X10_thrown (d := 0) (M := M2) hok2) dL_law__1026 mX10_thrown wd_1760 acl_10 (lo_s hok2 90 rfl) rfl (by omega) (by omega) (by omega) rfl rfl (fun _ _ h => by cases h.1) ?_
    rintro r7 _ ⟨q7, rfl⟩; cases q7
    rw [e2]
    refine ax_iload dL_law__1029 rfl ?_
    refine ax_icmp_eq (tgt := 1036) dL_law__1031 (by decide) (fun hc => ?_) (fun hc => ?_)
    rotate_left
    · exact absurd rfl hc
    clear hc
    refine ax_iload dL_law__1036 rfl ?_
    refine ax_if_ne (tgt := 1053) dL_law__1038 (by decide) (fun hc => ?_) (fun hc => ?_)
    rotate_left
    · exact absurd hc hw0
    clear hc
    refine ax_goto (tgt := 2950) dL_law__1053 (by decide) ?_
    exact ax_weak (lw_weak _ _ _) (next _ J2)
theorem lc_would {l : Launch} {G : ax_G} {b N j c n : Nat} {xs : Nat → Int32} {M : ax_M} {a1 a2 a3 a4 a5 : Int32} (hl9 : l.stackTraces = false) (hj : 6 * j + 6 ≤ N) (hN : N ≤ 3072) (h1 : xs (nI (6 * j + 1)).toNatClampNeg = a1) (h2 : xs (nI (6 * j + 2)).toNatClampNeg = a2) (h3 : xs (nI (6 * j + 3)).toNatClampNeg = a3) (h4 : xs (nI (6 * j + 4)).toNatClampNeg = a4) (h5 : xs (nI (6 * j + 5)).toNatClampNeg = a5) (J0 : jj M) (next : ∀ M2, jj M2 → ax_W l G kL_law_ (ax_FE G (ax_FL G b N xs)) 60 c n M2 2950 [some (av_o 998), some (av_r 1), some (av_r 90), some (av_r 432), some (av_i (nI (6 * j))), none, none, none] []) : ax_W l G kL_law_ (ax_FE G (ax_FL G b N xs)) 60 (c + 4) (n + 24) M 1056 [some (av_o 998), some (av_r 1), some (av_r 90), some (av_r 432), some (av_i (nI (6 * j))), none, none, none] [] := by
  obtain ⟨p, r, lw, es, t, n9, v9, q, J, R⟩ := J0
  have hok := jm_ok J
  refine ax_aload_n dL_law__1056 rfl ?_
  refine ax_aload_n dL_law__1057 rfl ?_
  refine ax_iload dL_law__1058 rfl ?_
  refine ax_iconst (v := 1) dL_law__1060 (by decide) ?_
  refine ax_iadd dL_law__1061 ?_
  rw [show nI (6 * j) + 1 = nI (6 * j + 1) from nI_add _ _]
  refine ax_sld dL_law__1062 (pk_in (6 * j + 1) N (by omega)) ?_
  rw [h1]
  refine ax_aload_n dL_law__1063 rfl ?_
  refine ax_iload dL_law__1064 rfl ?_
  refine ax_iconst (v := 2) dL_law__1066 (by decide) ?_
  refine ax_iadd dL_law__1067 ?_
  rw [show nI (6 * j) + 2 = nI (6 * j + 2) from nI_add _ _]
  refine ax_sld dL_law__1068 (pk_in (6 * j + 2) N (by omega)) ?_
  rw [h2]
  refine ax_aload_n dL_law__1069 rfl ?_
  refine ax_iload dL_law__1070 rfl ?_
  refine ax_iconst (v := 3) dL_law__1072 (by decide) ?_
  refine ax_iadd dL_law__1073 ?_
  rw [show nI (6 * j) + 3 = nI (6 * j + 3) from nI_add _ _]
  refine ax_sld dL_law__1074 (pk_in (6 * j + 3) N (by omega)) ?_
  rw [h3]
  refine ax_aload_n dL_law__1075 rfl ?_
  refine ax_iload dL_law__1076 rfl ?_
  refine ax_iconst (v := 4) dL_law__1078 (by decide) ?_
  refine ax_iadd dL_law__1079 ?_
  rw [show nI (6 * j) + 4 = nI (6 * j + 4) from nI_add _ _]
  refine ax_sld dL_law__1080 (pk_in (6 * j + 4) N (by omega)) ?_
  rw [h4]
  refine ax_aload_n dL_law__1081 rfl ?_
  refine ax_callSW (As := [av_r 1, av_i a1, av_i a2, av_i a3, av_i a4, av_r 432]) (c1 := c) (n1 := n) (w_would (d := 8) (c := 4) (n := 24) a1 a2 a3 a4 (x_would hl9 J.1 a1 a2 a3 a4) (lo_s hok 1 rfl) (xA_hI (qk_would r lw a1 a2 a3 a4)) (xA_hx (qk_would r lw a1 a2 a3 a4))) dL_law__1082 mwL_would wd_1234 rfl (by omega) (by omega) (by omega) rfl rfl (fun _ _ => qw_nx) ?_
  intro r9 M1 hq
  have hqk := qk_would r lw a1 a2 a3 a4
  cases hy : qa_would r lw a1 a2 a3 a4 with
  | inl vv =>
    rw [hy] at hq hqk
    obtain ⟨rfl, M0, hM1, f1, I1⟩ := qw_v hq
    obtain ⟨J1, R1⟩ := ask_1 (M1 := M1) J R f1 I1 (by rw [hM1]; exact sm_pL _ _ _)
    have hok1 := jm_ok J1
    obtain ⟨z, rfl⟩ := hqk
    refine ax_istore dL_law__1085 (by decide) rfl ?_
    refine ax_aload_n dL_law__1087 rfl ?_
    refine ax_aload_n dL_law__1088 rfl ?_
    refine ax_iload dL_law__1089 rfl ?_
    refine ax_iconst (v := 1) dL_law__1091 (by decide) ?_
    refine ax_iadd dL_law__1092 ?_
    rw [show nI (6 * j) + 1 = nI (6 * j + 1) from nI_add _ _]
    refine ax_sld dL_law__1093 (pk_in (6 * j + 1) N (by omega)) ?_
    rw [h1]
    refine ax_aload_n dL_law__1094 rfl ?_
    refine ax_iload dL_law__1095 rfl ?_
    refine ax_iconst (v := 2) dL_law__1097 (by decide) ?_
    refine ax_iadd dL_law__1098 ?_
    rw [show nI (6 * j) + 2 = nI (6 * j + 2) from nI_add _ _]
    refine ax_sld dL_law__1099 (pk_in (6 * j + 2) N (by omega)) ?_
    rw [h2]
    refine ax_aload_n dL_law__1100 rfl ?_
    refine ax_iload dL_law__1101 rfl ?_
    refine ax_iconst (v := 3) dL_law__1103 (by decide) ?_
    refine ax_iadd dL_law__1104 ?_
    rw [show nI (6 * j) + 3 = nI (6 * j + 3) from nI_add _ _]
    refine ax_sld dL_law__1105 (pk_in (6 * j + 3) N (by omega)) ?_
    rw [h3]
    refine ax_aload_n dL_law__1106 rfl ?_
    refine ax_iload dL_law__1107 rfl ?_
    refine ax_iconst (v := 4) dL_law__1109 (by decide) ?_
    refine ax_iadd dL_law__1110 ?_
    rw [show nI (6 * j) + 4 = nI (6 * j + 4) from nI_add _ _]
    refine ax_sld dL_law__1111 (pk_in (6 * j + 4) N (by omega)) ?_
    rw [h4]
    refine ax_callV (As := [av_i a1, av_i a2, av_i a3, av_i a4]) (d2 := _) (c1 := c) (n1 := n) (c_would (M := M1) hok1 J1.2.1 J1.1.1.2.2.1 J1.2.2.1 a1 a2 a3 a4) dL_law__1112 mX10_would wd_2021 acl_10 (lo_s hok1 90 rfl) rfl (by omega) (by omega) (by omega) rfl rfl (fun _ _ => rq_nx9) ?_
    intro r8 M2 hq2
    rw [hy] at hq2
    obtain ⟨e1, e2, e3, J2⟩ := ask_2 J1 R1 hq2
    cases e1
    have hok2 : lo_ok M2.2 := by rw [e3]; exact hok1
    have e4 : M2.2.2.1 432 (0 : Int32).toNatClampNeg = z.toInt64 := by rw [show M2.2.2.1 = M1.2.2.1 by rw [e3], hM1]; exact pL_rd
    refine ax_istore dL_law__1115 (by decide) rfl ?_
    refine ax_aload_n dL_law__1117 rfl ?_
    refine ax_callV (As := []) (d2 := _) (c1 := c) (n1 := n) (c_X10_thrown (d := 0) (M := M2) hok2) dL_law__1118 mX10_thrown wd_1760 acl_10 (lo_s hok2 90 rfl) rfl (by omega) (by omega) (by omega) rfl rfl (fun _ _ h => by cases h.1) ?_
    rintro r7 _ ⟨q7, rfl⟩; cases q7
    rw [e2]
    refine ax_iload dL_law__1121 rfl ?_
    refine ax_icmp_eq (tgt := 1128) dL_law__1123 (by decide) (fun hc => ?_) (fun hc => ?_)
    rotate_left
    · exact absurd rfl hc
    clear hc
    refine ax_iload dL_law__1128 rfl ?_
    refine ax_if_ne (tgt := 1145) dL_law__1130 (by decide) (fun hc => ?_) (fun hc => ?_)
    · exact absurd rfl hc
    clear hc
    refine ax_aload_n dL_law__1133 rfl ?_
    refine ax_iconst (v := 0) dL_law__1134 (by decide) ?_
    refine ax_lald dL_law__1135 (lo_s hok2 432 rfl) (by unfold vp_in; decide) ?_
    rw [e4]
    refine ax_iload dL_law__1136 rfl ?_
    refine ax_i2l dL_law__1138 ?_
    refine ax_lcmp dL_law__1139 ?_
    refine ax_if_eq (tgt := 1145) dL_law__1140 (by decide) (fun hc => ?_) (fun hc => ?_)
    · clear hc
      refine ax_goto (tgt := 2950) dL_law__1145 (by decide) ?_
      exact ax_weak (lw_weak _ _ _) (next _ J2)
    · exact absurd ((lg_cmp_eq _ _).mpr rfl) hc
  | inr qq =>
    rw [hy] at hq hqk
    obtain ⟨rfl, hxre⟩ := qw_e (tb := [(1, 1)]) (by decide) hqk hq
    have hw0 : ¬ nI qq.1 = 0 := tb_nz (tb := [(1, 1)]) (by decide) hqk
    obtain ⟨J1, R1⟩ := ask_1e J R hxre
    have hok1 := jm_ok J1
    refine ax_istore dL_law__1085 (by decide) rfl ?_
    refine ax_aload_n dL_law__1087 rfl ?_
    refine ax_aload_n dL_law__1088 rfl ?_
    refine ax_iload dL_law__1089 rfl ?_
    refine ax_iconst (v := 1) dL_law__1091 (by decide) ?_
    refine ax_iadd dL_law__1092 ?_
    rw [show nI (6 * j) + 1 = nI (6 * j + 1) from nI_add _ _]
    refine ax_sld dL_law__1093 (pk_in (6 * j + 1) N (by omega)) ?_
    rw [h1]
    refine ax_aload_n dL_law__1094 rfl ?_
    refine ax_iload dL_law__1095 rfl ?_
    refine ax_iconst (v := 2) dL_law__1097 (by decide) ?_
    refine ax_iadd dL_law__1098 ?_
    rw [show nI (6 * j) + 2 = nI (6 * j + 2) from nI_add _ _]
    refine ax_sld dL_law__1099 (pk_in (6 * j + 2) N (by omega)) ?_
    rw [h2]
    refine ax_aload_n dL_law__1100 rfl ?_
    refine ax_iload dL_law__1101 rfl ?_
    refine ax_iconst (v := 3) dL_law__1103 (by decide) ?_
    refine ax_iadd dL_law__1104 ?_
    rw [show nI (6 * j) + 3 = nI (6 * j + 3) from nI_add _ _]
    refine ax_sld dL_law__1105 (pk_in (6 * j + 3) N (by omega)) ?_
    rw [h3]
    refine ax_aload_n dL_law__1106 rfl ?_
    refine ax_iload dL_law__1107 rfl ?_
    refine ax_iconst (v := 4) dL_law__1109 (by decide) ?_
    refine ax_iadd dL_law__1110 ?_
    rw [show nI (6 * j) + 4 = nI (6 * j + 4) from nI_add _ _]
    refine ax_sld dL_law__1111 (pk_in (6 * j + 4) N (by omega)) ?_
    rw [h4]
    refine ax_callV (As := [av_i a1, av_i a2, av_i a3, av_i a4]) (d2 := _) (c1 := c) (n1 := n) (c_would (M := M1) hok1 J1.2.1 J1.1.1.2.2.1 J1.2.2.1 a1 a2 a3 a4) dL_law__1112 mX10_would wd_2021 acl_10 (lo_s hok1 90 rfl) rfl (by omega) (by omega) (by omega) rfl rfl (fun _ _ => rq_nx9) ?_
    intro r8 M2 hq2
    rw [hy] at hq2
    obtain ⟨⟨u, e1⟩, e2, e3, J2⟩ := ask_2e J1 R1 hq2
    cases e1
    have hok2 : lo_ok M2.2 := by rw [e3]; exact hok1
    refine ax_istore dL_law__1115 (by decide) rfl ?_
    refine ax_aload_n dL_law__1117 rfl ?_
    refine ax_callV (As := []) (d2 := _) (c1 := c) (n1 := n) (c_X10_thrown (d := 0) (M := M2) hok2) dL_law__1118 mX10_thrown wd_1760 acl_10 (lo_s hok2 90 rfl) rfl (by omega) (by omega) (by omega) rfl rfl (fun _ _ h => by cases h.1) ?_
    rintro r7 _ ⟨q7, rfl⟩; cases q7
    rw [e2]
    refine ax_iload dL_law__1121 rfl ?_
    refine ax_icmp_eq (tgt := 1128) dL_law__1123 (by decide) (fun hc => ?_) (fun hc => ?_)
    rotate_left
    · exact absurd rfl hc
    clear hc
    refine ax_iload dL_law__1128 rfl ?_
    refine ax_if_ne (tgt := 1145) dL_law__1130 (by decide) (fun hc => ?_) (fun hc => ?_)
    rotate_left
    · exact absurd hc hw0
    clear hc
    refine ax_goto (tgt := 2950) dL_law__1145 (by decide) ?_
    exact ax_weak (lw_weak _ _ _) (next _ J2)
theorem lc_cost {l : Launch} {G : ax_G} {b N j c n : Nat} {xs : Nat → Int32} {M : ax_M} {a1 a2 a3 a4 a5 : Int32} (hl9 : l.stackTraces = false) (hj : 6 * j + 6 ≤ N) (hN : N ≤ 3072) (h1 : xs (nI (6 * j + 1)).toNatClampNeg = a1) (h2 : xs (nI (6 * j + 2)).toNatClampNeg = a2) (h3 : xs (nI (6 * j + 3)).toNatClampNeg = a3) (h4 : xs (nI (6 * j + 4)).toNatClampNeg = a4) (h5 : xs (nI (6 * j + 5)).toNatClampNeg = a5) (J0 : jj M) (next : ∀ M2, jj M2 → ax_W l G kL_law_ (ax_FE G (ax_FL G b N xs)) 60 c n M2 2950 [some (av_o 998), some (av_r 1), some (av_r 90), some (av_r 432), some (av_i (nI (6 * j))), none, none, none] []) : ax_W l G kL_law_ (ax_FE G (ax_FL G b N xs)) 60 (c + 4) (n + 24) M 1148 [some (av_o 998), some (av_r 1), some (av_r 90), some (av_r 432), some (av_i (nI (6 * j))), none, none, none] [] := by
  obtain ⟨p, r, lw, es, t, n9, v9, q, J, R⟩ := J0
  have hok := jm_ok J
  refine ax_aload_n dL_law__1148 rfl ?_
  refine ax_aload_n dL_law__1149 rfl ?_
  refine ax_iload dL_law__1150 rfl ?_
  refine ax_iconst (v := 1) dL_law__1152 (by decide) ?_
  refine ax_iadd dL_law__1153 ?_
  rw [show nI (6 * j) + 1 = nI (6 * j + 1) from nI_add _ _]
  refine ax_sld dL_law__1154 (pk_in (6 * j + 1) N (by omega)) ?_
  rw [h1]
  refine ax_aload_n dL_law__1155 rfl ?_
  refine ax_iload dL_law__1156 rfl ?_
  refine ax_iconst (v := 2) dL_law__1158 (by decide) ?_
  refine ax_iadd dL_law__1159 ?_
  rw [show nI (6 * j) + 2 = nI (6 * j + 2) from nI_add _ _]
  refine ax_sld dL_law__1160 (pk_in (6 * j + 2) N (by omega)) ?_
  rw [h2]
  refine ax_aload_n dL_law__1161 rfl ?_
  refine ax_iload dL_law__1162 rfl ?_
  refine ax_iconst (v := 3) dL_law__1164 (by decide) ?_
  refine ax_iadd dL_law__1165 ?_
  rw [show nI (6 * j) + 3 = nI (6 * j + 3) from nI_add _ _]
  refine ax_sld dL_law__1166 (pk_in (6 * j + 3) N (by omega)) ?_
  rw [h3]
  refine ax_aload_n dL_law__1167 rfl ?_
  refine ax_callSW (As := [av_r 1, av_i a1, av_i a2, av_i a3, av_r 432]) (c1 := c) (n1 := n) (w_cost (d := 9) (c := 4) (n := 24) a1 a2 a3 (x_cost hl9 J.1 a1 a2 a3) (lo_s hok 1 rfl) (xA_hI (qk_cost r lw a1 a2 a3)) (xA_hx (qk_cost r lw a1 a2 a3))) dL_law__1168 mwL_cost wd_1246 rfl (by omega) (by omega) (by omega) rfl rfl (fun _ _ => qw_nx) ?_
  intro r9 M1 hq
  have hqk := qk_cost r lw a1 a2 a3
  cases hy : qa_cost r lw a1 a2 a3 with
  | inl vv =>
    rw [hy] at hq hqk
    obtain ⟨rfl, M0, hM1, f1, I1⟩ := qw_v hq
    obtain ⟨J1, R1⟩ := ask_1 (M1 := M1) J R f1 I1 (by rw [hM1]; exact sm_pL _ _ _)
    have hok1 := jm_ok J1
    obtain ⟨z, rfl⟩ := hqk
    refine ax_istore dL_law__1171 (by decide) rfl ?_
    refine ax_aload_n dL_law__1173 rfl ?_
    refine ax_aload_n dL_law__1174 rfl ?_
    refine ax_iload dL_law__1175 rfl ?_
    refine ax_iconst (v := 1) dL_law__1177 (by decide) ?_
    refine ax_iadd dL_law__1178 ?_
    rw [show nI (6 * j) + 1 = nI (6 * j + 1) from nI_add _ _]
    refine ax_sld dL_law__1179 (pk_in (6 * j + 1) N (by omega)) ?_
    rw [h1]
    refine ax_aload_n dL_law__1180 rfl ?_
    refine ax_iload dL_law__1181 rfl ?_
    refine ax_iconst (v := 2) dL_law__1183 (by decide) ?_
    refine ax_iadd dL_law__1184 ?_
    rw [show nI (6 * j) + 2 = nI (6 * j + 2) from nI_add _ _]
    refine ax_sld dL_law__1185 (pk_in (6 * j + 2) N (by omega)) ?_
    rw [h2]
    refine ax_aload_n dL_law__1186 rfl ?_
    refine ax_iload dL_law__1187 rfl ?_
    refine ax_iconst (v := 3) dL_law__1189 (by decide) ?_
    refine ax_iadd dL_law__1190 ?_
    rw [show nI (6 * j) + 3 = nI (6 * j + 3) from nI_add _ _]
    refine ax_sld dL_law__1191 (pk_in (6 * j + 3) N (by omega)) ?_
    rw [h3]
    refine ax_callV (As := [av_i a1, av_i a2, av_i a3]) (d2 := _) (c1 := c) (n1 := n) (c_cost (M := M1) hok1 J1.2.1 J1.1.1.2.2.1 J1.2.2.1 a1 a2 a3) dL_law__1192 mX10_cost wd_2025 acl_10 (lo_s hok1 90 rfl) rfl (by omega) (by omega) (by omega) rfl rfl (fun _ _ => rq_nx9) ?_
    intro r8 M2 hq2
    rw [hy] at hq2
    obtain ⟨e1, e2, e3, J2⟩ := ask_2 J1 R1 hq2
    cases e1
    have hok2 : lo_ok M2.2 := by rw [e3]; exact hok1
    have e4 : M2.2.2.1 432 (0 : Int32).toNatClampNeg = z.toInt64 := by rw [show M2.2.2.1 = M1.2.2.1 by rw [e3], hM1]; exact pL_rd
    refine ax_istore dL_law__1195 (by decide) rfl ?_
    refine ax_aload_n dL_law__1197 rfl ?_
    refine ax_callV (As := []) (d2 := _) (c1 := c) (n1 := n) (c_X10_thrown (d := 0) (M := M2) hok2) dL_law__1198 mX10_thrown wd_1760 acl_10 (lo_s hok2 90 rfl) rfl (by omega) (by omega) (by omega) rfl rfl (fun _ _ h => by cases h.1) ?_
    rintro r7 _ ⟨q7, rfl⟩; cases q7
    rw [e2]
    refine ax_iload dL_law__1201 rfl ?_
    refine ax_icmp_eq (tgt := 1208) dL_law__1203 (by decide) (fun hc => ?_) (fun hc => ?_)
    rotate_left
    · exact absurd rfl hc
    clear hc
    refine ax_iload dL_law__1208 rfl ?_
    refine ax_if_ne (tgt := 1225) dL_law__1210 (by decide) (fun hc => ?_) (fun hc => ?_)
    · exact absurd rfl hc
    clear hc
    refine ax_aload_n dL_law__1213 rfl ?_
    refine ax_iconst (v := 0) dL_law__1214 (by decide) ?_
    refine ax_lald dL_law__1215 (lo_s hok2 432 rfl) (by unfold vp_in; decide) ?_
    rw [e4]
    refine ax_iload dL_law__1216 rfl ?_
    refine ax_i2l dL_law__1218 ?_
    refine ax_lcmp dL_law__1219 ?_
    refine ax_if_eq (tgt := 1225) dL_law__1220 (by decide) (fun hc => ?_) (fun hc => ?_)
    · clear hc
      refine ax_goto (tgt := 2950) dL_law__1225 (by decide) ?_
      exact ax_weak (lw_weak _ _ _) (next _ J2)
    · exact absurd ((lg_cmp_eq _ _).mpr rfl) hc
  | inr qq =>
    rw [hy] at hq hqk
    obtain ⟨rfl, hxre⟩ := qw_e (tb := [(0, 1), (1, 2), (2, 3)]) (by decide) hqk hq
    have hw0 : ¬ nI qq.1 = 0 := tb_nz (tb := [(0, 1), (1, 2), (2, 3)]) (by decide) hqk
    obtain ⟨J1, R1⟩ := ask_1e J R hxre
    have hok1 := jm_ok J1
    refine ax_istore dL_law__1171 (by decide) rfl ?_
    refine ax_aload_n dL_law__1173 rfl ?_
    refine ax_aload_n dL_law__1174 rfl ?_
    refine ax_iload dL_law__1175 rfl ?_
    refine ax_iconst (v := 1) dL_law__1177 (by decide) ?_
    refine ax_iadd dL_law__1178 ?_
    rw [show nI (6 * j) + 1 = nI (6 * j + 1) from nI_add _ _]
    refine ax_sld dL_law__1179 (pk_in (6 * j + 1) N (by omega)) ?_
    rw [h1]
    refine ax_aload_n dL_law__1180 rfl ?_
    refine ax_iload dL_law__1181 rfl ?_
    refine ax_iconst (v := 2) dL_law__1183 (by decide) ?_
    refine ax_iadd dL_law__1184 ?_
    rw [show nI (6 * j) + 2 = nI (6 * j + 2) from nI_add _ _]
    refine ax_sld dL_law__1185 (pk_in (6 * j + 2) N (by omega)) ?_
    rw [h2]
    refine ax_aload_n dL_law__1186 rfl ?_
    refine ax_iload dL_law__1187 rfl ?_
    refine ax_iconst (v := 3) dL_law__1189 (by decide) ?_
    refine ax_iadd dL_law__1190 ?_
    rw [show nI (6 * j) + 3 = nI (6 * j + 3) from nI_add _ _]
    refine ax_sld dL_law__1191 (pk_in (6 * j + 3) N (by omega)) ?_
    rw [h3]
    refine ax_callV (As := [av_i a1, av_i a2, av_i a3]) (d2 := _) (c1 := c) (n1 := n) (c_cost (M := M1) hok1 J1.2.1 J1.1.1.2.2.1 J1.2.2.1 a1 a2 a3) dL_law__1192 mX10_cost wd_2025 acl_10 (lo_s hok1 90 rfl) rfl (by omega) (by omega) (by omega) rfl rfl (fun _ _ => rq_nx9) ?_
    intro r8 M2 hq2
    rw [hy] at hq2
    obtain ⟨⟨u, e1⟩, e2, e3, J2⟩ := ask_2e J1 R1 hq2
    cases e1
    have hok2 : lo_ok M2.2 := by rw [e3]; exact hok1
    refine ax_istore dL_law__1195 (by decide) rfl ?_
    refine ax_aload_n dL_law__1197 rfl ?_
    refine ax_callV (As := []) (d2 := _) (c1 := c) (n1 := n) (c_X10_thrown (d := 0) (M := M2) hok2) dL_law__1198 mX10_thrown wd_1760 acl_10 (lo_s hok2 90 rfl) rfl (by omega) (by omega) (by omega) rfl rfl (fun _ _ h => by cases h.1) ?_
    rintro r7 _ ⟨q7, rfl⟩; cases q7
    rw [e2]
    refine ax_iload dL_law__1201 rfl ?_
    refine ax_icmp_eq (tgt := 1208) dL_law__1203 (by decide) (fun hc => ?_) (fun hc => ?_)
    rotate_left
    · exact absurd rfl hc
    clear hc
    refine ax_iload dL_law__1208 rfl ?_
    refine ax_if_ne (tgt := 1225) dL_law__1210 (by decide) (fun hc => ?_) (fun hc => ?_)
    rotate_left
    · exact absurd hc hw0
    clear hc
    refine ax_goto (tgt := 2950) dL_law__1225 (by decide) ?_
    exact ax_weak (lw_weak _ _ _) (next _ J2)
theorem lc_duel {l : Launch} {G : ax_G} {b N j c n : Nat} {xs : Nat → Int32} {M : ax_M} {a1 a2 a3 a4 a5 : Int32} (hl9 : l.stackTraces = false) (hj : 6 * j + 6 ≤ N) (hN : N ≤ 3072) (h1 : xs (nI (6 * j + 1)).toNatClampNeg = a1) (h2 : xs (nI (6 * j + 2)).toNatClampNeg = a2) (h3 : xs (nI (6 * j + 3)).toNatClampNeg = a3) (h4 : xs (nI (6 * j + 4)).toNatClampNeg = a4) (h5 : xs (nI (6 * j + 5)).toNatClampNeg = a5) (J0 : jj M) (next : ∀ M2, jj M2 → ax_W l G kL_law_ (ax_FE G (ax_FL G b N xs)) 60 c n M2 2950 [some (av_o 998), some (av_r 1), some (av_r 90), some (av_r 432), some (av_i (nI (6 * j))), none, none, none] []) : ax_W l G kL_law_ (ax_FE G (ax_FL G b N xs)) 60 (c + 4) (n + 24) M 1228 [some (av_o 998), some (av_r 1), some (av_r 90), some (av_r 432), some (av_i (nI (6 * j))), none, none, none] [] := by
  obtain ⟨p, r, lw, es, t, n9, v9, q, J, R⟩ := J0
  have hok := jm_ok J
  refine ax_aload_n dL_law__1228 rfl ?_
  refine ax_aload_n dL_law__1229 rfl ?_
  refine ax_iload dL_law__1230 rfl ?_
  refine ax_iconst (v := 1) dL_law__1232 (by decide) ?_
  refine ax_iadd dL_law__1233 ?_
  rw [show nI (6 * j) + 1 = nI (6 * j + 1) from nI_add _ _]
  refine ax_sld dL_law__1234 (pk_in (6 * j + 1) N (by omega)) ?_
  rw [h1]
  refine ax_aload_n dL_law__1235 rfl ?_
  refine ax_iload dL_law__1236 rfl ?_
  refine ax_iconst (v := 2) dL_law__1238 (by decide) ?_
  refine ax_iadd dL_law__1239 ?_
  rw [show nI (6 * j) + 2 = nI (6 * j + 2) from nI_add _ _]
  refine ax_sld dL_law__1240 (pk_in (6 * j + 2) N (by omega)) ?_
  rw [h2]
  refine ax_aload_n dL_law__1241 rfl ?_
  refine ax_callSW (As := [av_r 1, av_i a1, av_i a2, av_r 432]) (c1 := c) (n1 := n) (w_duel (d := 9) (c := 3) (n := 18) a1 a2 (x_duel hl9 J.1 a1 a2) (lo_s hok 1 rfl) (xA_hI (qk_duel r lw a1 a2)) (xA_hx (qk_duel r lw a1 a2))) dL_law__1242 mwL_duel wd_1286 rfl (by omega) (by omega) (by omega) rfl rfl (fun _ _ => qw_nx) ?_
  intro r9 M1 hq
  have hqk := qk_duel r lw a1 a2
  cases hy : qa_duel r lw a1 a2 with
  | inl vv =>
    rw [hy] at hq hqk
    obtain ⟨rfl, M0, hM1, f1, I1⟩ := qw_v hq
    obtain ⟨J1, R1⟩ := ask_1 (M1 := M1) J R f1 I1 (by rw [hM1]; exact sm_pL _ _ _)
    have hok1 := jm_ok J1
    obtain ⟨z, rfl⟩ := hqk
    refine ax_istore dL_law__1245 (by decide) rfl ?_
    refine ax_aload_n dL_law__1247 rfl ?_
    refine ax_aload_n dL_law__1248 rfl ?_
    refine ax_iload dL_law__1249 rfl ?_
    refine ax_iconst (v := 1) dL_law__1251 (by decide) ?_
    refine ax_iadd dL_law__1252 ?_
    rw [show nI (6 * j) + 1 = nI (6 * j + 1) from nI_add _ _]
    refine ax_sld dL_law__1253 (pk_in (6 * j + 1) N (by omega)) ?_
    rw [h1]
    refine ax_aload_n dL_law__1254 rfl ?_
    refine ax_iload dL_law__1255 rfl ?_
    refine ax_iconst (v := 2) dL_law__1257 (by decide) ?_
    refine ax_iadd dL_law__1258 ?_
    rw [show nI (6 * j) + 2 = nI (6 * j + 2) from nI_add _ _]
    refine ax_sld dL_law__1259 (pk_in (6 * j + 2) N (by omega)) ?_
    rw [h2]
    refine ax_callV (As := [av_i a1, av_i a2]) (d2 := _) (c1 := c) (n1 := n) (c_duel (M := M1) hok1 J1.2.1 J1.1.1.2.2.1 J1.2.2.1 a1 a2) dL_law__1260 mX10_duel wd_2044 acl_10 (lo_s hok1 90 rfl) rfl (by omega) (by omega) (by omega) rfl rfl (fun _ _ => rq_nx9) ?_
    intro r8 M2 hq2
    rw [hy] at hq2
    obtain ⟨e1, e2, e3, J2⟩ := ask_2 J1 R1 hq2
    cases e1
    have hok2 : lo_ok M2.2 := by rw [e3]; exact hok1
    have e4 : M2.2.2.1 432 (0 : Int32).toNatClampNeg = z.toInt64 := by rw [show M2.2.2.1 = M1.2.2.1 by rw [e3], hM1]; exact pL_rd
    refine ax_istore dL_law__1263 (by decide) rfl ?_
    refine ax_aload_n dL_law__1265 rfl ?_
    refine ax_callV (As := []) (d2 := _) (c1 := c) (n1 := n) (c_X10_thrown (d := 0) (M := M2) hok2) dL_law__1266 mX10_thrown wd_1760 acl_10 (lo_s hok2 90 rfl) rfl (by omega) (by omega) (by omega) rfl rfl (fun _ _ h => by cases h.1) ?_
    rintro r7 _ ⟨q7, rfl⟩; cases q7
    rw [e2]
    refine ax_iload dL_law__1269 rfl ?_
    refine ax_icmp_eq (tgt := 1276) dL_law__1271 (by decide) (fun hc => ?_) (fun hc => ?_)
    rotate_left
    · exact absurd rfl hc
    clear hc
    refine ax_iload dL_law__1276 rfl ?_
    refine ax_if_ne (tgt := 1293) dL_law__1278 (by decide) (fun hc => ?_) (fun hc => ?_)
    · exact absurd rfl hc
    clear hc
    refine ax_aload_n dL_law__1281 rfl ?_
    refine ax_iconst (v := 0) dL_law__1282 (by decide) ?_
    refine ax_lald dL_law__1283 (lo_s hok2 432 rfl) (by unfold vp_in; decide) ?_
    rw [e4]
    refine ax_iload dL_law__1284 rfl ?_
    refine ax_i2l dL_law__1286 ?_
    refine ax_lcmp dL_law__1287 ?_
    refine ax_if_eq (tgt := 1293) dL_law__1288 (by decide) (fun hc => ?_) (fun hc => ?_)
    · clear hc
      refine ax_goto (tgt := 2950) dL_law__1293 (by decide) ?_
      exact ax_weak (lw_weak _ _ _) (next _ J2)
    · exact absurd ((lg_cmp_eq _ _).mpr rfl) hc
  | inr qq =>
    rw [hy] at hq hqk
    obtain ⟨rfl, hxre⟩ := qw_e (tb := [(1, 1), (2, 2)]) (by decide) hqk hq
    have hw0 : ¬ nI qq.1 = 0 := tb_nz (tb := [(1, 1), (2, 2)]) (by decide) hqk
    obtain ⟨J1, R1⟩ := ask_1e J R hxre
    have hok1 := jm_ok J1
    refine ax_istore dL_law__1245 (by decide) rfl ?_
    refine ax_aload_n dL_law__1247 rfl ?_
    refine ax_aload_n dL_law__1248 rfl ?_
    refine ax_iload dL_law__1249 rfl ?_
    refine ax_iconst (v := 1) dL_law__1251 (by decide) ?_
    refine ax_iadd dL_law__1252 ?_
    rw [show nI (6 * j) + 1 = nI (6 * j + 1) from nI_add _ _]
    refine ax_sld dL_law__1253 (pk_in (6 * j + 1) N (by omega)) ?_
    rw [h1]
    refine ax_aload_n dL_law__1254 rfl ?_
    refine ax_iload dL_law__1255 rfl ?_
    refine ax_iconst (v := 2) dL_law__1257 (by decide) ?_
    refine ax_iadd dL_law__1258 ?_
    rw [show nI (6 * j) + 2 = nI (6 * j + 2) from nI_add _ _]
    refine ax_sld dL_law__1259 (pk_in (6 * j + 2) N (by omega)) ?_
    rw [h2]
    refine ax_callV (As := [av_i a1, av_i a2]) (d2 := _) (c1 := c) (n1 := n) (c_duel (M := M1) hok1 J1.2.1 J1.1.1.2.2.1 J1.2.2.1 a1 a2) dL_law__1260 mX10_duel wd_2044 acl_10 (lo_s hok1 90 rfl) rfl (by omega) (by omega) (by omega) rfl rfl (fun _ _ => rq_nx9) ?_
    intro r8 M2 hq2
    rw [hy] at hq2
    obtain ⟨⟨u, e1⟩, e2, e3, J2⟩ := ask_2e J1 R1 hq2
    cases e1
    have hok2 : lo_ok M2.2 := by rw [e3]; exact hok1
    refine ax_istore dL_law__1263 (by decide) rfl ?_
    refine ax_aload_n dL_law__1265 rfl ?_
    refine ax_callV (As := []) (d2 := _) (c1 := c) (n1 := n) (c_X10_thrown (d := 0) (M := M2) hok2) dL_law__1266 mX10_thrown wd_1760 acl_10 (lo_s hok2 90 rfl) rfl (by omega) (by omega) (by omega) rfl rfl (fun _ _ h => by cases h.1) ?_
    rintro r7 _ ⟨q7, rfl⟩; cases q7
    rw [e2]
    refine ax_iload dL_law__1269 rfl ?_
    refine ax_icmp_eq (tgt := 1276) dL_law__1271 (by decide) (fun hc => ?_) (fun hc => ?_)
    rotate_left
    · exact absurd rfl hc
    clear hc
    refine ax_iload dL_law__1276 rfl ?_
    refine ax_if_ne (tgt := 1293) dL_law__1278 (by decide) (fun hc => ?_) (fun hc => ?_)
    rotate_left
    · exact absurd hc hw0
    clear hc
    refine ax_goto (tgt := 2950) dL_law__1293 (by decide) ?_
    exact ax_weak (lw_weak _ _ _) (next _ J2)
theorem lc_answer {l : Launch} {G : ax_G} {b N j c n : Nat} {xs : Nat → Int32} {M : ax_M} {a1 a2 a3 a4 a5 : Int32} (hl9 : l.stackTraces = false) (hj : 6 * j + 6 ≤ N) (hN : N ≤ 3072) (h1 : xs (nI (6 * j + 1)).toNatClampNeg = a1) (h2 : xs (nI (6 * j + 2)).toNatClampNeg = a2) (h3 : xs (nI (6 * j + 3)).toNatClampNeg = a3) (h4 : xs (nI (6 * j + 4)).toNatClampNeg = a4) (h5 : xs (nI (6 * j + 5)).toNatClampNeg = a5) (J0 : jj M) (next : ∀ M2, jj M2 → ax_W l G kL_law_ (ax_FE G (ax_FL G b N xs)) 60 c n M2 2950 [some (av_o 998), some (av_r 1), some (av_r 90), some (av_r 432), some (av_i (nI (6 * j))), none, none, none] []) : ax_W l G kL_law_ (ax_FE G (ax_FL G b N xs)) 60 (c + 4) (n + 24) M 1296 [some (av_o 998), some (av_r 1), some (av_r 90), some (av_r 432), some (av_i (nI (6 * j))), none, none, none] [] := by
  obtain ⟨p, r, lw, es, t, n9, v9, q, J, R⟩ := J0
  have hok := jm_ok J
  refine ax_aload_n dL_law__1296 rfl ?_
  refine ax_aload_n dL_law__1297 rfl ?_
  refine ax_iload dL_law__1298 rfl ?_
  refine ax_iconst (v := 1) dL_law__1300 (by decide) ?_
  refine ax_iadd dL_law__1301 ?_
  rw [show nI (6 * j) + 1 = nI (6 * j + 1) from nI_add _ _]
  refine ax_sld dL_law__1302 (pk_in (6 * j + 1) N (by omega)) ?_
  rw [h1]
  refine ax_aload_n dL_law__1303 rfl ?_
  refine ax_iload dL_law__1304 rfl ?_
  refine ax_iconst (v := 2) dL_law__1306 (by decide) ?_
  refine ax_iadd dL_law__1307 ?_
  rw [show nI (6 * j) + 2 = nI (6 * j + 2) from nI_add _ _]
  refine ax_sld dL_law__1308 (pk_in (6 * j + 2) N (by omega)) ?_
  rw [h2]
  refine ax_aload_n dL_law__1309 rfl ?_
  refine ax_callSW (As := [av_r 1, av_i a1, av_i a2, av_r 432]) (c1 := c) (n1 := n) (w_answer (d := 9) (c := 3) (n := 18) a1 a2 (x_answer hl9 J.1 a1 a2) (lo_s hok 1 rfl) (xA_hI (qk_answer r lw a1 a2)) (xA_hx (qk_answer r lw a1 a2))) dL_law__1310 mwL_answer wd_1337 rfl (by omega) (by omega) (by omega) rfl rfl (fun _ _ => qw_nx) ?_
  intro r9 M1 hq
  have hqk := qk_answer r lw a1 a2
  cases hy : qa_answer r lw a1 a2 with
  | inl vv =>
    rw [hy] at hq hqk
    obtain ⟨rfl, M0, hM1, f1, I1⟩ := qw_v hq
    obtain ⟨J1, R1⟩ := ask_1 (M1 := M1) J R f1 I1 (by rw [hM1]; exact sm_pL _ _ _)
    have hok1 := jm_ok J1
    obtain ⟨z, rfl⟩ := hqk
    refine ax_istore dL_law__1313 (by decide) rfl ?_
    refine ax_aload_n dL_law__1315 rfl ?_
    refine ax_aload_n dL_law__1316 rfl ?_
    refine ax_iload dL_law__1317 rfl ?_
    refine ax_iconst (v := 1) dL_law__1319 (by decide) ?_
    refine ax_iadd dL_law__1320 ?_
    rw [show nI (6 * j) + 1 = nI (6 * j + 1) from nI_add _ _]
    refine ax_sld dL_law__1321 (pk_in (6 * j + 1) N (by omega)) ?_
    rw [h1]
    refine ax_aload_n dL_law__1322 rfl ?_
    refine ax_iload dL_law__1323 rfl ?_
    refine ax_iconst (v := 2) dL_law__1325 (by decide) ?_
    refine ax_iadd dL_law__1326 ?_
    rw [show nI (6 * j) + 2 = nI (6 * j + 2) from nI_add _ _]
    refine ax_sld dL_law__1327 (pk_in (6 * j + 2) N (by omega)) ?_
    rw [h2]
    refine ax_callV (As := [av_i a1, av_i a2]) (d2 := _) (c1 := c) (n1 := n) (c_answer (M := M1) hok1 J1.2.1 J1.1.1.2.2.1 J1.2.2.1 a1 a2) dL_law__1328 mX10_answer wd_2052 acl_10 (lo_s hok1 90 rfl) rfl (by omega) (by omega) (by omega) rfl rfl (fun _ _ => rq_nx9) ?_
    intro r8 M2 hq2
    rw [hy] at hq2
    obtain ⟨e1, e2, e3, J2⟩ := ask_2 J1 R1 hq2
    cases e1
    have hok2 : lo_ok M2.2 := by rw [e3]; exact hok1
    have e4 : M2.2.2.1 432 (0 : Int32).toNatClampNeg = z.toInt64 := by rw [show M2.2.2.1 = M1.2.2.1 by rw [e3], hM1]; exact pL_rd
    refine ax_istore dL_law__1331 (by decide) rfl ?_
    refine ax_aload_n dL_law__1333 rfl ?_
    refine ax_callV (As := []) (d2 := _) (c1 := c) (n1 := n) (c_X10_thrown (d := 0) (M := M2) hok2) dL_law__1334 mX10_thrown wd_1760 acl_10 (lo_s hok2 90 rfl) rfl (by omega) (by omega) (by omega) rfl rfl (fun _ _ h => by cases h.1) ?_
    rintro r7 _ ⟨q7, rfl⟩; cases q7
    rw [e2]
    refine ax_iload dL_law__1337 rfl ?_
    refine ax_icmp_eq (tgt := 1344) dL_law__1339 (by decide) (fun hc => ?_) (fun hc => ?_)
    rotate_left
    · exact absurd rfl hc
    clear hc
    refine ax_iload dL_law__1344 rfl ?_
    refine ax_if_ne (tgt := 1361) dL_law__1346 (by decide) (fun hc => ?_) (fun hc => ?_)
    · exact absurd rfl hc
    clear hc
    refine ax_aload_n dL_law__1349 rfl ?_
    refine ax_iconst (v := 0) dL_law__1350 (by decide) ?_
    refine ax_lald dL_law__1351 (lo_s hok2 432 rfl) (by unfold vp_in; decide) ?_
    rw [e4]
    refine ax_iload dL_law__1352 rfl ?_
    refine ax_i2l dL_law__1354 ?_
    refine ax_lcmp dL_law__1355 ?_
    refine ax_if_eq (tgt := 1361) dL_law__1356 (by decide) (fun hc => ?_) (fun hc => ?_)
    · clear hc
      refine ax_goto (tgt := 2950) dL_law__1361 (by decide) ?_
      exact ax_weak (lw_weak _ _ _) (next _ J2)
    · exact absurd ((lg_cmp_eq _ _).mpr rfl) hc
  | inr qq =>
    rw [hy] at hq hqk
    obtain ⟨rfl, hxre⟩ := qw_e (tb := [(0, 1), (1, 2), (2, 3)]) (by decide) hqk hq
    have hw0 : ¬ nI qq.1 = 0 := tb_nz (tb := [(0, 1), (1, 2), (2, 3)]) (by decide) hqk
    obtain ⟨J1, R1⟩ := ask_1e J R hxre
    have hok1 := jm_ok J1
    refine ax_istore dL_law__1313 (by decide) rfl ?_
    refine ax_aload_n dL_law__1315 rfl ?_
    refine ax_aload_n dL_law__1316 rfl ?_
    refine ax_iload dL_law__1317 rfl ?_
    refine ax_iconst (v := 1) dL_law__1319 (by decide) ?_
    refine ax_iadd dL_law__1320 ?_
    rw [show nI (6 * j) + 1 = nI (6 * j + 1) from nI_add _ _]
    refine ax_sld dL_law__1321 (pk_in (6 * j + 1) N (by omega)) ?_
    rw [h1]
    refine ax_aload_n dL_law__1322 rfl ?_
    refine ax_iload dL_law__1323 rfl ?_
    refine ax_iconst (v := 2) dL_law__1325 (by decide) ?_
    refine ax_iadd dL_law__1326 ?_
    rw [show nI (6 * j) + 2 = nI (6 * j + 2) from nI_add _ _]
    refine ax_sld dL_law__1327 (pk_in (6 * j + 2) N (by omega)) ?_
    rw [h2]
    refine ax_callV (As := [av_i a1, av_i a2]) (d2 := _) (c1 := c) (n1 := n) (c_answer (M := M1) hok1 J1.2.1 J1.1.1.2.2.1 J1.2.2.1 a1 a2) dL_law__1328 mX10_answer wd_2052 acl_10 (lo_s hok1 90 rfl) rfl (by omega) (by omega) (by omega) rfl rfl (fun _ _ => rq_nx9) ?_
    intro r8 M2 hq2
    rw [hy] at hq2
    obtain ⟨⟨u, e1⟩, e2, e3, J2⟩ := ask_2e J1 R1 hq2
    cases e1
    have hok2 : lo_ok M2.2 := by rw [e3]; exact hok1
    refine ax_istore dL_law__1331 (by decide) rfl ?_
    refine ax_aload_n dL_law__1333 rfl ?_
    refine ax_callV (As := []) (d2 := _) (c1 := c) (n1 := n) (c_X10_thrown (d := 0) (M := M2) hok2) dL_law__1334 mX10_thrown wd_1760 acl_10 (lo_s hok2 90 rfl) rfl (by omega) (by omega) (by omega) rfl rfl (fun _ _ h => by cases h.1) ?_
    rintro r7 _ ⟨q7, rfl⟩; cases q7
    rw [e2]
    refine ax_iload dL_law__1337 rfl ?_
    refine ax_icmp_eq (tgt := 1344) dL_law__1339 (by decide) (fun hc => ?_) (fun hc => ?_)
    rotate_left
    · exact absurd rfl hc
    clear hc
    refine ax_iload dL_law__1344 rfl ?_
    refine ax_if_ne (tgt := 1361) dL_law__1346 (by decide) (fun hc => ?_) (fun hc => ?_)
    rotate_left
    · exact absurd hc hw0
    clear hc
    refine ax_goto (tgt := 2950) dL_law__1361 (by decide) ?_
    exact ax_weak (lw_weak _ _ _) (next _ J2)
theorem lc_habit {l : Launch} {G : ax_G} {b N j c n : Nat} {xs : Nat → Int32} {M : ax_M} {a1 a2 a3 a4 a5 : Int32} (hl9 : l.stackTraces = false) (hj : 6 * j + 6 ≤ N) (hN : N ≤ 3072) (h1 : xs (nI (6 * j + 1)).toNatClampNeg = a1) (h2 : xs (nI (6 * j + 2)).toNatClampNeg = a2) (h3 : xs (nI (6 * j + 3)).toNatClampNeg = a3) (h4 : xs (nI (6 * j + 4)).toNatClampNeg = a4) (h5 : xs (nI (6 * j + 5)).toNatClampNeg = a5) (J0 : jj M) (next : ∀ M2, jj M2 → ax_W l G kL_law_ (ax_FE G (ax_FL G b N xs)) 60 c n M2 2950 [some (av_o 998), some (av_r 1), some (av_r 90), some (av_r 432), some (av_i (nI (6 * j))), none, none, none] []) : ax_W l G kL_law_ (ax_FE G (ax_FL G b N xs)) 60 (c + 4) (n + 24) M 1364 [some (av_o 998), some (av_r 1), some (av_r 90), some (av_r 432), some (av_i (nI (6 * j))), none, none, none] [] := by
  obtain ⟨p, r, lw, es, t, n9, v9, q, J, R⟩ := J0
  have hok := jm_ok J
  refine ax_aload_n dL_law__1364 rfl ?_
  refine ax_aload_n dL_law__1365 rfl ?_
  refine ax_iload dL_law__1366 rfl ?_
  refine ax_iconst (v := 1) dL_law__1368 (by decide) ?_
  refine ax_iadd dL_law__1369 ?_
  rw [show nI (6 * j) + 1 = nI (6 * j + 1) from nI_add _ _]
  refine ax_sld dL_law__1370 (pk_in (6 * j + 1) N (by omega)) ?_
  rw [h1]
  refine ax_aload_n dL_law__1371 rfl ?_
  refine ax_iload dL_law__1372 rfl ?_
  refine ax_iconst (v := 2) dL_law__1374 (by decide) ?_
  refine ax_iadd dL_law__1375 ?_
  rw [show nI (6 * j) + 2 = nI (6 * j + 2) from nI_add _ _]
  refine ax_sld dL_law__1376 (pk_in (6 * j + 2) N (by omega)) ?_
  rw [h2]
  refine ax_aload_n dL_law__1377 rfl ?_
  refine ax_callSW (As := [av_r 1, av_i a1, av_i a2, av_r 432]) (c1 := c) (n1 := n) (w_habit (d := 8) (c := 3) (n := 18) a1 a2 (x_habit hl9 J.1 a1 a2) (lo_s hok 1 rfl) (xA_hI (qk_habit r lw a1 a2)) (xA_hx (qk_habit r lw a1 a2))) dL_law__1378 mwL_habit wd_1345 rfl (by omega) (by omega) (by omega) rfl rfl (fun _ _ => qw_nx) ?_
  intro r9 M1 hq
  have hqk := qk_habit r lw a1 a2
  cases hy : qa_habit r lw a1 a2 with
  | inl vv =>
    rw [hy] at hq hqk
    obtain ⟨rfl, M0, hM1, f1, I1⟩ := qw_v hq
    obtain ⟨J1, R1⟩ := ask_1 (M1 := M1) J R f1 I1 (by rw [hM1]; exact sm_pL _ _ _)
    have hok1 := jm_ok J1
    obtain ⟨z, rfl⟩ := hqk
    refine ax_istore dL_law__1381 (by decide) rfl ?_
    refine ax_aload_n dL_law__1383 rfl ?_
    refine ax_aload_n dL_law__1384 rfl ?_
    refine ax_iload dL_law__1385 rfl ?_
    refine ax_iconst (v := 1) dL_law__1387 (by decide) ?_
    refine ax_iadd dL_law__1388 ?_
    rw [show nI (6 * j) + 1 = nI (6 * j + 1) from nI_add _ _]
    refine ax_sld dL_law__1389 (pk_in (6 * j + 1) N (by omega)) ?_
    rw [h1]
    refine ax_aload_n dL_law__1390 rfl ?_
    refine ax_iload dL_law__1391 rfl ?_
    refine ax_iconst (v := 2) dL_law__1393 (by decide) ?_
    refine ax_iadd dL_law__1394 ?_
    rw [show nI (6 * j) + 2 = nI (6 * j + 2) from nI_add _ _]
    refine ax_sld dL_law__1395 (pk_in (6 * j + 2) N (by omega)) ?_
    rw [h2]
    refine ax_callV (As := [av_i a1, av_i a2]) (d2 := _) (c1 := c) (n1 := n) (c_habit (M := M1) hok1 J1.2.1 J1.1.1.2.2.1 J1.2.2.1 a1 a2) dL_law__1396 mX10_habit wd_2056 acl_10 (lo_s hok1 90 rfl) rfl (by omega) (by omega) (by omega) rfl rfl (fun _ _ => rq_nx9) ?_
    intro r8 M2 hq2
    rw [hy] at hq2
    obtain ⟨e1, e2, e3, J2⟩ := ask_2 J1 R1 hq2
    cases e1
    have hok2 : lo_ok M2.2 := by rw [e3]; exact hok1
    have e4 : M2.2.2.1 432 (0 : Int32).toNatClampNeg = z.toInt64 := by rw [show M2.2.2.1 = M1.2.2.1 by rw [e3], hM1]; exact pL_rd
    refine ax_istore dL_law__1399 (by decide) rfl ?_
    refine ax_aload_n dL_law__1401 rfl ?_
    refine ax_callV (As := []) (d2 := _) (c1 := c) (n1 := n) (c_X10_thrown (d := 0) (M := M2) hok2) dL_law__1402 mX10_thrown wd_1760 acl_10 (lo_s hok2 90 rfl) rfl (by omega) (by omega) (by omega) rfl rfl (fun _ _ h => by cases h.1) ?_
    rintro r7 _ ⟨q7, rfl⟩; cases q7
    rw [e2]
    refine ax_iload dL_law__1405 rfl ?_
    refine ax_icmp_eq (tgt := 1412) dL_law__1407 (by decide) (fun hc => ?_) (fun hc => ?_)
    rotate_left
    · exact absurd rfl hc
    clear hc
    refine ax_iload dL_law__1412 rfl ?_
    refine ax_if_ne (tgt := 1429) dL_law__1414 (by decide) (fun hc => ?_) (fun hc => ?_)
    · exact absurd rfl hc
    clear hc
    refine ax_aload_n dL_law__1417 rfl ?_
    refine ax_iconst (v := 0) dL_law__1418 (by decide) ?_
    refine ax_lald dL_law__1419 (lo_s hok2 432 rfl) (by unfold vp_in; decide) ?_
    rw [e4]
    refine ax_iload dL_law__1420 rfl ?_
    refine ax_i2l dL_law__1422 ?_
    refine ax_lcmp dL_law__1423 ?_
    refine ax_if_eq (tgt := 1429) dL_law__1424 (by decide) (fun hc => ?_) (fun hc => ?_)
    · clear hc
      refine ax_goto (tgt := 2950) dL_law__1429 (by decide) ?_
      exact ax_weak (lw_weak _ _ _) (next _ J2)
    · exact absurd ((lg_cmp_eq _ _).mpr rfl) hc
  | inr qq =>
    rw [hy] at hq hqk
    obtain ⟨rfl, hxre⟩ := qw_e (tb := [(1, 1), (2, 2)]) (by decide) hqk hq
    have hw0 : ¬ nI qq.1 = 0 := tb_nz (tb := [(1, 1), (2, 2)]) (by decide) hqk
    obtain ⟨J1, R1⟩ := ask_1e J R hxre
    have hok1 := jm_ok J1
    refine ax_istore dL_law__1381 (by decide) rfl ?_
    refine ax_aload_n dL_law__1383 rfl ?_
    refine ax_aload_n dL_law__1384 rfl ?_
    refine ax_iload dL_law__1385 rfl ?_
    refine ax_iconst (v := 1) dL_law__1387 (by decide) ?_
    refine ax_iadd dL_law__1388 ?_
    rw [show nI (6 * j) + 1 = nI (6 * j + 1) from nI_add _ _]
    refine ax_sld dL_law__1389 (pk_in (6 * j + 1) N (by omega)) ?_
    rw [h1]
    refine ax_aload_n dL_law__1390 rfl ?_
    refine ax_iload dL_law__1391 rfl ?_
    refine ax_iconst (v := 2) dL_law__1393 (by decide) ?_
    refine ax_iadd dL_law__1394 ?_
    rw [show nI (6 * j) + 2 = nI (6 * j + 2) from nI_add _ _]
    refine ax_sld dL_law__1395 (pk_in (6 * j + 2) N (by omega)) ?_
    rw [h2]
    refine ax_callV (As := [av_i a1, av_i a2]) (d2 := _) (c1 := c) (n1 := n) (c_habit (M := M1) hok1 J1.2.1 J1.1.1.2.2.1 J1.2.2.1 a1 a2) dL_law__1396 mX10_habit wd_2056 acl_10 (lo_s hok1 90 rfl) rfl (by omega) (by omega) (by omega) rfl rfl (fun _ _ => rq_nx9) ?_
    intro r8 M2 hq2
    rw [hy] at hq2
    obtain ⟨⟨u, e1⟩, e2, e3, J2⟩ := ask_2e J1 R1 hq2
    cases e1
    have hok2 : lo_ok M2.2 := by rw [e3]; exact hok1
    refine ax_istore dL_law__1399 (by decide) rfl ?_
    refine ax_aload_n dL_law__1401 rfl ?_
    refine ax_callV (As := []) (d2 := _) (c1 := c) (n1 := n) (c_X10_thrown (d := 0) (M := M2) hok2) dL_law__1402 mX10_thrown wd_1760 acl_10 (lo_s hok2 90 rfl) rfl (by omega) (by omega) (by omega) rfl rfl (fun _ _ h => by cases h.1) ?_
    rintro r7 _ ⟨q7, rfl⟩; cases q7
    rw [e2]
    refine ax_iload dL_law__1405 rfl ?_
    refine ax_icmp_eq (tgt := 1412) dL_law__1407 (by decide) (fun hc => ?_) (fun hc => ?_)
    rotate_left
    · exact absurd rfl hc
    clear hc
    refine ax_iload dL_law__1412 rfl ?_
    refine ax_if_ne (tgt := 1429) dL_law__1414 (by decide) (fun hc => ?_) (fun hc => ?_)
    rotate_left
    · exact absurd hc hw0
    clear hc
    refine ax_goto (tgt := 2950) dL_law__1429 (by decide) ?_
    exact ax_weak (lw_weak _ _ _) (next _ J2)
theorem lc_safe {l : Launch} {G : ax_G} {b N j c n : Nat} {xs : Nat → Int32} {M : ax_M} {a1 a2 a3 a4 a5 : Int32} (hl9 : l.stackTraces = false) (hj : 6 * j + 6 ≤ N) (hN : N ≤ 3072) (h1 : xs (nI (6 * j + 1)).toNatClampNeg = a1) (h2 : xs (nI (6 * j + 2)).toNatClampNeg = a2) (h3 : xs (nI (6 * j + 3)).toNatClampNeg = a3) (h4 : xs (nI (6 * j + 4)).toNatClampNeg = a4) (h5 : xs (nI (6 * j + 5)).toNatClampNeg = a5) (J0 : jj M) (next : ∀ M2, jj M2 → ax_W l G kL_law_ (ax_FE G (ax_FL G b N xs)) 60 c n M2 2950 [some (av_o 998), some (av_r 1), some (av_r 90), some (av_r 432), some (av_i (nI (6 * j))), none, none, none] []) : ax_W l G kL_law_ (ax_FE G (ax_FL G b N xs)) 60 (c + 4) (n + 24) M 1432 [some (av_o 998), some (av_r 1), some (av_r 90), some (av_r 432), some (av_i (nI (6 * j))), none, none, none] [] := by
  obtain ⟨p, r, lw, es, t, n9, v9, q, J, R⟩ := J0
  have hok := jm_ok J
  refine ax_aload_n dL_law__1432 rfl ?_
  refine ax_aload_n dL_law__1433 rfl ?_
  refine ax_iload dL_law__1434 rfl ?_
  refine ax_iconst (v := 1) dL_law__1436 (by decide) ?_
  refine ax_iadd dL_law__1437 ?_
  rw [show nI (6 * j) + 1 = nI (6 * j + 1) from nI_add _ _]
  refine ax_sld dL_law__1438 (pk_in (6 * j + 1) N (by omega)) ?_
  rw [h1]
  refine ax_aload_n dL_law__1439 rfl ?_
  refine ax_iload dL_law__1440 rfl ?_
  refine ax_iconst (v := 2) dL_law__1442 (by decide) ?_
  refine ax_iadd dL_law__1443 ?_
  rw [show nI (6 * j) + 2 = nI (6 * j + 2) from nI_add _ _]
  refine ax_sld dL_law__1444 (pk_in (6 * j + 2) N (by omega)) ?_
  rw [h2]
  refine ax_aload_n dL_law__1445 rfl ?_
  refine ax_callSW (As := [av_r 1, av_i a1, av_i a2, av_r 432]) (c1 := c) (n1 := n) (w_safe (d := 8) (c := 2) (n := 12) a1 a2 (x_safe hl9 J.1 a1 a2) (lo_s hok 1 rfl) (xA_hI (qk_safe r lw a1 a2)) (xA_hx (qk_safe r lw a1 a2))) dL_law__1446 mwL_safe wd_1366 rfl (by omega) (by omega) (by omega) rfl rfl (fun _ _ => qw_nx) ?_
  intro r9 M1 hq
  have hqk := qk_safe r lw a1 a2
  cases hy : qa_safe r lw a1 a2 with
  | inl vv =>
    rw [hy] at hq hqk
    obtain ⟨rfl, M0, hM1, f1, I1⟩ := qw_v hq
    obtain ⟨J1, R1⟩ := ask_1 (M1 := M1) J R f1 I1 (by rw [hM1]; exact sm_pL _ _ _)
    have hok1 := jm_ok J1
    obtain ⟨z, rfl⟩ := hqk
    refine ax_istore dL_law__1449 (by decide) rfl ?_
    refine ax_aload_n dL_law__1451 rfl ?_
    refine ax_aload_n dL_law__1452 rfl ?_
    refine ax_iload dL_law__1453 rfl ?_
    refine ax_iconst (v := 1) dL_law__1455 (by decide) ?_
    refine ax_iadd dL_law__1456 ?_
    rw [show nI (6 * j) + 1 = nI (6 * j + 1) from nI_add _ _]
    refine ax_sld dL_law__1457 (pk_in (6 * j + 1) N (by omega)) ?_
    rw [h1]
    refine ax_aload_n dL_law__1458 rfl ?_
    refine ax_iload dL_law__1459 rfl ?_
    refine ax_iconst (v := 2) dL_law__1461 (by decide) ?_
    refine ax_iadd dL_law__1462 ?_
    rw [show nI (6 * j) + 2 = nI (6 * j + 2) from nI_add _ _]
    refine ax_sld dL_law__1463 (pk_in (6 * j + 2) N (by omega)) ?_
    rw [h2]
    refine ax_callV (As := [av_i a1, av_i a2]) (d2 := _) (c1 := c) (n1 := n) (c_safe (M := M1) hok1 J1.2.1 J1.1.1.2.2.1 J1.2.2.1 a1 a2) dL_law__1464 mX10_safe wd_2064 acl_10 (lo_s hok1 90 rfl) rfl (by omega) (by omega) (by omega) rfl rfl (fun _ _ => rq_nx9) ?_
    intro r8 M2 hq2
    rw [hy] at hq2
    obtain ⟨e1, e2, e3, J2⟩ := ask_2 J1 R1 hq2
    cases e1
    have hok2 : lo_ok M2.2 := by rw [e3]; exact hok1
    have e4 : M2.2.2.1 432 (0 : Int32).toNatClampNeg = z.toInt64 := by rw [show M2.2.2.1 = M1.2.2.1 by rw [e3], hM1]; exact pL_rd
    refine ax_istore dL_law__1467 (by decide) rfl ?_
    refine ax_aload_n dL_law__1469 rfl ?_
    refine ax_callV (As := []) (d2 := _) (c1 := c) (n1 := n) (c_X10_thrown (d := 0) (M := M2) hok2) dL_law__1470 mX10_thrown wd_1760 acl_10 (lo_s hok2 90 rfl) rfl (by omega) (by omega) (by omega) rfl rfl (fun _ _ h => by cases h.1) ?_
    rintro r7 _ ⟨q7, rfl⟩; cases q7
    rw [e2]
    refine ax_iload dL_law__1473 rfl ?_
    refine ax_icmp_eq (tgt := 1480) dL_law__1475 (by decide) (fun hc => ?_) (fun hc => ?_)
    rotate_left
    · exact absurd rfl hc
    clear hc
    refine ax_iload dL_law__1480 rfl ?_
    refine ax_if_ne (tgt := 1497) dL_law__1482 (by decide) (fun hc => ?_) (fun hc => ?_)
    · exact absurd rfl hc
    clear hc
    refine ax_aload_n dL_law__1485 rfl ?_
    refine ax_iconst (v := 0) dL_law__1486 (by decide) ?_
    refine ax_lald dL_law__1487 (lo_s hok2 432 rfl) (by unfold vp_in; decide) ?_
    rw [e4]
    refine ax_iload dL_law__1488 rfl ?_
    refine ax_i2l dL_law__1490 ?_
    refine ax_lcmp dL_law__1491 ?_
    refine ax_if_eq (tgt := 1497) dL_law__1492 (by decide) (fun hc => ?_) (fun hc => ?_)
    · clear hc
      refine ax_goto (tgt := 2950) dL_law__1497 (by decide) ?_
      exact ax_weak (lw_weak _ _ _) (next _ J2)
    · exact absurd ((lg_cmp_eq _ _).mpr rfl) hc
  | inr qq =>
    rw [hy] at hq hqk
    obtain ⟨rfl, hxre⟩ := qw_e (tb := [(0, 1), (1, 2)]) (by decide) hqk hq
    have hw0 : ¬ nI qq.1 = 0 := tb_nz (tb := [(0, 1), (1, 2)]) (by decide) hqk
    obtain ⟨J1, R1⟩ := ask_1e J R hxre
    have hok1 := jm_ok J1
    refine ax_istore dL_law__1449 (by decide) rfl ?_
    refine ax_aload_n dL_law__1451 rfl ?_
    refine ax_aload_n dL_law__1452 rfl ?_
    refine ax_iload dL_law__1453 rfl ?_
    refine ax_iconst (v := 1) dL_law__1455 (by decide) ?_
    refine ax_iadd dL_law__1456 ?_
    rw [show nI (6 * j) + 1 = nI (6 * j + 1) from nI_add _ _]
    refine ax_sld dL_law__1457 (pk_in (6 * j + 1) N (by omega)) ?_
    rw [h1]
    refine ax_aload_n dL_law__1458 rfl ?_
    refine ax_iload dL_law__1459 rfl ?_
    refine ax_iconst (v := 2) dL_law__1461 (by decide) ?_
    refine ax_iadd dL_law__1462 ?_
    rw [show nI (6 * j) + 2 = nI (6 * j + 2) from nI_add _ _]
    refine ax_sld dL_law__1463 (pk_in (6 * j + 2) N (by omega)) ?_
    rw [h2]
    refine ax_callV (As := [av_i a1, av_i a2]) (d2 := _) (c1 := c) (n1 := n) (c_safe (M := M1) hok1 J1.2.1 J1.1.1.2.2.1 J1.2.2.1 a1 a2) dL_law__1464 mX10_safe wd_2064 acl_10 (lo_s hok1 90 rfl) rfl (by omega) (by omega) (by omega) rfl rfl (fun _ _ => rq_nx9) ?_
    intro r8 M2 hq2
    rw [hy] at hq2
    obtain ⟨⟨u, e1⟩, e2, e3, J2⟩ := ask_2e J1 R1 hq2
    cases e1
    have hok2 : lo_ok M2.2 := by rw [e3]; exact hok1
    refine ax_istore dL_law__1467 (by decide) rfl ?_
    refine ax_aload_n dL_law__1469 rfl ?_
    refine ax_callV (As := []) (d2 := _) (c1 := c) (n1 := n) (c_X10_thrown (d := 0) (M := M2) hok2) dL_law__1470 mX10_thrown wd_1760 acl_10 (lo_s hok2 90 rfl) rfl (by omega) (by omega) (by omega) rfl rfl (fun _ _ h => by cases h.1) ?_
    rintro r7 _ ⟨q7, rfl⟩; cases q7
    rw [e2]
    refine ax_iload dL_law__1473 rfl ?_
    refine ax_icmp_eq (tgt := 1480) dL_law__1475 (by decide) (fun hc => ?_) (fun hc => ?_)
    rotate_left
    · exact absurd rfl hc
    clear hc
    refine ax_iload dL_law__1480 rfl ?_
    refine ax_if_ne (tgt := 1497) dL_law__1482 (by decide) (fun hc => ?_) (fun hc => ?_)
    rotate_left
    · exact absurd hc hw0
    clear hc
    refine ax_goto (tgt := 2950) dL_law__1497 (by decide) ?_
    exact ax_weak (lw_weak _ _ _) (next _ J2)
theorem lc_loaded {l : Launch} {G : ax_G} {b N j c n : Nat} {xs : Nat → Int32} {M : ax_M} {a1 a2 a3 a4 a5 : Int32} (hl9 : l.stackTraces = false) (hj : 6 * j + 6 ≤ N) (hN : N ≤ 3072) (h1 : xs (nI (6 * j + 1)).toNatClampNeg = a1) (h2 : xs (nI (6 * j + 2)).toNatClampNeg = a2) (h3 : xs (nI (6 * j + 3)).toNatClampNeg = a3) (h4 : xs (nI (6 * j + 4)).toNatClampNeg = a4) (h5 : xs (nI (6 * j + 5)).toNatClampNeg = a5) (J0 : jj M) (next : ∀ M2, jj M2 → ax_W l G kL_law_ (ax_FE G (ax_FL G b N xs)) 60 c n M2 2950 [some (av_o 998), some (av_r 1), some (av_r 90), some (av_r 432), some (av_i (nI (6 * j))), none, none, none] []) : ax_W l G kL_law_ (ax_FE G (ax_FL G b N xs)) 60 (c + 4) (n + 24) M 1500 [some (av_o 998), some (av_r 1), some (av_r 90), some (av_r 432), some (av_i (nI (6 * j))), none, none, none] [] := by
  obtain ⟨p, r, lw, es, t, n9, v9, q, J, R⟩ := J0
  have hok := jm_ok J
  refine ax_aload_n dL_law__1500 rfl ?_
  refine ax_aload_n dL_law__1501 rfl ?_
  refine ax_iload dL_law__1502 rfl ?_
  refine ax_iconst (v := 1) dL_law__1504 (by decide) ?_
  refine ax_iadd dL_law__1505 ?_
  rw [show nI (6 * j) + 1 = nI (6 * j + 1) from nI_add _ _]
  refine ax_sld dL_law__1506 (pk_in (6 * j + 1) N (by omega)) ?_
  rw [h1]
  refine ax_aload_n dL_law__1507 rfl ?_
  refine ax_iload dL_law__1508 rfl ?_
  refine ax_iconst (v := 2) dL_law__1510 (by decide) ?_
  refine ax_iadd dL_law__1511 ?_
  rw [show nI (6 * j) + 2 = nI (6 * j + 2) from nI_add _ _]
  refine ax_sld dL_law__1512 (pk_in (6 * j + 2) N (by omega)) ?_
  rw [h2]
  refine ax_aload_n dL_law__1513 rfl ?_
  refine ax_iload dL_law__1514 rfl ?_
  refine ax_iconst (v := 3) dL_law__1516 (by decide) ?_
  refine ax_iadd dL_law__1517 ?_
  rw [show nI (6 * j) + 3 = nI (6 * j + 3) from nI_add _ _]
  refine ax_sld dL_law__1518 (pk_in (6 * j + 3) N (by omega)) ?_
  rw [h3]
  refine ax_aload_n dL_law__1519 rfl ?_
  refine ax_iload dL_law__1520 rfl ?_
  refine ax_iconst (v := 4) dL_law__1522 (by decide) ?_
  refine ax_iadd dL_law__1523 ?_
  rw [show nI (6 * j) + 4 = nI (6 * j + 4) from nI_add _ _]
  refine ax_sld dL_law__1524 (pk_in (6 * j + 4) N (by omega)) ?_
  rw [h4]
  refine ax_aload_n dL_law__1525 rfl ?_
  refine ax_callSW (As := [av_r 1, av_i a1, av_i a2, av_i a3, av_i a4, av_r 432]) (c1 := c) (n1 := n) (w_loaded (d := 8) (c := 4) (n := 24) a1 a2 a3 a4 (x_loaded hl9 J.1 a1 a2 a3 a4) (lo_s hok 1 rfl) (xA_hL (qk_loaded a1 a2 a3 a4)) (xA_hx (qk_loaded a1 a2 a3 a4))) dL_law__1526 mwL_loaded wd_1374 rfl (by omega) (by omega) (by omega) rfl rfl (fun _ _ => qw_nx) ?_
  intro r9 M1 hq
  have hqk := qk_loaded a1 a2 a3 a4
  cases hy : qa_loaded a1 a2 a3 a4 with
  | inl vv =>
    rw [hy] at hq hqk
    obtain ⟨rfl, M0, hM1, f1, I1⟩ := qw_v hq
    obtain ⟨J1, R1⟩ := ask_1 (M1 := M1) J R f1 I1 (by rw [hM1]; exact sm_pL _ _ _)
    have hok1 := jm_ok J1
    obtain ⟨z, rfl⟩ := hqk
    refine ax_istore dL_law__1529 (by decide) rfl ?_
    refine ax_aload_n dL_law__1531 rfl ?_
    refine ax_aload_n dL_law__1532 rfl ?_
    refine ax_iload dL_law__1533 rfl ?_
    refine ax_iconst (v := 1) dL_law__1535 (by decide) ?_
    refine ax_iadd dL_law__1536 ?_
    rw [show nI (6 * j) + 1 = nI (6 * j + 1) from nI_add _ _]
    refine ax_sld dL_law__1537 (pk_in (6 * j + 1) N (by omega)) ?_
    rw [h1]
    refine ax_aload_n dL_law__1538 rfl ?_
    refine ax_iload dL_law__1539 rfl ?_
    refine ax_iconst (v := 2) dL_law__1541 (by decide) ?_
    refine ax_iadd dL_law__1542 ?_
    rw [show nI (6 * j) + 2 = nI (6 * j + 2) from nI_add _ _]
    refine ax_sld dL_law__1543 (pk_in (6 * j + 2) N (by omega)) ?_
    rw [h2]
    refine ax_aload_n dL_law__1544 rfl ?_
    refine ax_iload dL_law__1545 rfl ?_
    refine ax_iconst (v := 3) dL_law__1547 (by decide) ?_
    refine ax_iadd dL_law__1548 ?_
    rw [show nI (6 * j) + 3 = nI (6 * j + 3) from nI_add _ _]
    refine ax_sld dL_law__1549 (pk_in (6 * j + 3) N (by omega)) ?_
    rw [h3]
    refine ax_aload_n dL_law__1550 rfl ?_
    refine ax_iload dL_law__1551 rfl ?_
    refine ax_iconst (v := 4) dL_law__1553 (by decide) ?_
    refine ax_iadd dL_law__1554 ?_
    rw [show nI (6 * j) + 4 = nI (6 * j + 4) from nI_add _ _]
    refine ax_sld dL_law__1555 (pk_in (6 * j + 4) N (by omega)) ?_
    rw [h4]
    refine ax_callV (As := [av_i a1, av_i a2, av_i a3, av_i a4]) (d2 := _) (c1 := c) (n1 := n) (c_loaded (M := M1) hok1 J1.2.1 a1 a2 a3 a4) dL_law__1556 mX10_loaded wd_2068 acl_10 (lo_s hok1 90 rfl) rfl (by omega) (by omega) (by omega) rfl rfl (fun _ _ => rql_nx9) ?_
    intro r8 M2 hq2
    rw [hy] at hq2
    obtain ⟨e1, e2, e3, J2⟩ := ask_2l J1 R1 hq2
    cases e1
    have hok2 : lo_ok M2.2 := by rw [e3]; exact hok1
    have e4 : M2.2.2.1 432 (0 : Int32).toNatClampNeg = z := by rw [show M2.2.2.1 = M1.2.2.1 by rw [e3], hM1]; exact pL_rd
    refine ax_lstore dL_law__1559 (by decide) rfl ?_
    refine ax_aload_n dL_law__1561 rfl ?_
    refine ax_callV (As := []) (d2 := _) (c1 := c) (n1 := n) (c_X10_thrown (d := 0) (M := M2) hok2) dL_law__1562 mX10_thrown wd_1760 acl_10 (lo_s hok2 90 rfl) rfl (by omega) (by omega) (by omega) rfl rfl (fun _ _ h => by cases h.1) ?_
    rintro r7 _ ⟨q7, rfl⟩; cases q7
    rw [e2]
    refine ax_iload dL_law__1565 rfl ?_
    refine ax_icmp_eq (tgt := 1572) dL_law__1567 (by decide) (fun hc => ?_) (fun hc => ?_)
    rotate_left
    · exact absurd rfl hc
    clear hc
    refine ax_iload dL_law__1572 rfl ?_
    refine ax_if_ne (tgt := 1588) dL_law__1574 (by decide) (fun hc => ?_) (fun hc => ?_)
    · exact absurd rfl hc
    clear hc
    refine ax_aload_n dL_law__1577 rfl ?_
    refine ax_iconst (v := 0) dL_law__1578 (by decide) ?_
    refine ax_lald dL_law__1579 (lo_s hok2 432 rfl) (by unfold vp_in; decide) ?_
    rw [e4]
    refine ax_lload dL_law__1580 rfl ?_
    refine ax_lcmp dL_law__1582 ?_
    refine ax_if_eq (tgt := 1588) dL_law__1583 (by decide) (fun hc => ?_) (fun hc => ?_)
    · clear hc
      refine ax_goto (tgt := 2950) dL_law__1588 (by decide) ?_
      exact ax_weak (lw_weak _ _ _) (next _ J2)
    · exact absurd ((lg_cmp_eq _ _).mpr rfl) hc
  | inr qq =>
    rw [hy] at hq hqk
    obtain ⟨rfl, hxre⟩ := qw_e (tb := [(1, 1)]) (by decide) hqk hq
    have hw0 : ¬ nI qq.1 = 0 := tb_nz (tb := [(1, 1)]) (by decide) hqk
    obtain ⟨J1, R1⟩ := ask_1e J R hxre
    have hok1 := jm_ok J1
    refine ax_istore dL_law__1529 (by decide) rfl ?_
    refine ax_aload_n dL_law__1531 rfl ?_
    refine ax_aload_n dL_law__1532 rfl ?_
    refine ax_iload dL_law__1533 rfl ?_
    refine ax_iconst (v := 1) dL_law__1535 (by decide) ?_
    refine ax_iadd dL_law__1536 ?_
    rw [show nI (6 * j) + 1 = nI (6 * j + 1) from nI_add _ _]
    refine ax_sld dL_law__1537 (pk_in (6 * j + 1) N (by omega)) ?_
    rw [h1]
    refine ax_aload_n dL_law__1538 rfl ?_
    refine ax_iload dL_law__1539 rfl ?_
    refine ax_iconst (v := 2) dL_law__1541 (by decide) ?_
    refine ax_iadd dL_law__1542 ?_
    rw [show nI (6 * j) + 2 = nI (6 * j + 2) from nI_add _ _]
    refine ax_sld dL_law__1543 (pk_in (6 * j + 2) N (by omega)) ?_
    rw [h2]
    refine ax_aload_n dL_law__1544 rfl ?_
    refine ax_iload dL_law__1545 rfl ?_
    refine ax_iconst (v := 3) dL_law__1547 (by decide) ?_
    refine ax_iadd dL_law__1548 ?_
    rw [show nI (6 * j) + 3 = nI (6 * j + 3) from nI_add _ _]
    refine ax_sld dL_law__1549 (pk_in (6 * j + 3) N (by omega)) ?_
    rw [h3]
    refine ax_aload_n dL_law__1550 rfl ?_
    refine ax_iload dL_law__1551 rfl ?_
    refine ax_iconst (v := 4) dL_law__1553 (by decide) ?_
    refine ax_iadd dL_law__1554 ?_
    rw [show nI (6 * j) + 4 = nI (6 * j + 4) from nI_add _ _]
    refine ax_sld dL_law__1555 (pk_in (6 * j + 4) N (by omega)) ?_
    rw [h4]
    refine ax_callV (As := [av_i a1, av_i a2, av_i a3, av_i a4]) (d2 := _) (c1 := c) (n1 := n) (c_loaded (M := M1) hok1 J1.2.1 a1 a2 a3 a4) dL_law__1556 mX10_loaded wd_2068 acl_10 (lo_s hok1 90 rfl) rfl (by omega) (by omega) (by omega) rfl rfl (fun _ _ => rql_nx9) ?_
    intro r8 M2 hq2
    rw [hy] at hq2
    obtain ⟨⟨u, e1⟩, e2, e3, J2⟩ := ask_2le J1 R1 hq2
    cases e1
    have hok2 : lo_ok M2.2 := by rw [e3]; exact hok1
    refine ax_lstore dL_law__1559 (by decide) rfl ?_
    refine ax_aload_n dL_law__1561 rfl ?_
    refine ax_callV (As := []) (d2 := _) (c1 := c) (n1 := n) (c_X10_thrown (d := 0) (M := M2) hok2) dL_law__1562 mX10_thrown wd_1760 acl_10 (lo_s hok2 90 rfl) rfl (by omega) (by omega) (by omega) rfl rfl (fun _ _ h => by cases h.1) ?_
    rintro r7 _ ⟨q7, rfl⟩; cases q7
    rw [e2]
    refine ax_iload dL_law__1565 rfl ?_
    refine ax_icmp_eq (tgt := 1572) dL_law__1567 (by decide) (fun hc => ?_) (fun hc => ?_)
    rotate_left
    · exact absurd rfl hc
    clear hc
    refine ax_iload dL_law__1572 rfl ?_
    refine ax_if_ne (tgt := 1588) dL_law__1574 (by decide) (fun hc => ?_) (fun hc => ?_)
    rotate_left
    · exact absurd hc hw0
    clear hc
    refine ax_goto (tgt := 2950) dL_law__1588 (by decide) ?_
    exact ax_weak (lw_weak _ _ _) (next _ J2)
theorem lc_blinds {l : Launch} {G : ax_G} {b N j c n : Nat} {xs : Nat → Int32} {M : ax_M} {a1 a2 a3 a4 a5 : Int32} (hl9 : l.stackTraces = false) (hj : 6 * j + 6 ≤ N) (hN : N ≤ 3072) (h1 : xs (nI (6 * j + 1)).toNatClampNeg = a1) (h2 : xs (nI (6 * j + 2)).toNatClampNeg = a2) (h3 : xs (nI (6 * j + 3)).toNatClampNeg = a3) (h4 : xs (nI (6 * j + 4)).toNatClampNeg = a4) (h5 : xs (nI (6 * j + 5)).toNatClampNeg = a5) (J0 : jj M) (next : ∀ M2, jj M2 → ax_W l G kL_law_ (ax_FE G (ax_FL G b N xs)) 60 c n M2 2950 [some (av_o 998), some (av_r 1), some (av_r 90), some (av_r 432), some (av_i (nI (6 * j))), none, none, none] []) : ax_W l G kL_law_ (ax_FE G (ax_FL G b N xs)) 60 (c + 4) (n + 24) M 1591 [some (av_o 998), some (av_r 1), some (av_r 90), some (av_r 432), some (av_i (nI (6 * j))), none, none, none] [] := by
  obtain ⟨p, r, lw, es, t, n9, v9, q, J, R⟩ := J0
  have hok := jm_ok J
  refine ax_aload_n dL_law__1591 rfl ?_
  refine ax_aload_n dL_law__1592 rfl ?_
  refine ax_iload dL_law__1593 rfl ?_
  refine ax_iconst (v := 1) dL_law__1595 (by decide) ?_
  refine ax_iadd dL_law__1596 ?_
  rw [show nI (6 * j) + 1 = nI (6 * j + 1) from nI_add _ _]
  refine ax_sld dL_law__1597 (pk_in (6 * j + 1) N (by omega)) ?_
  rw [h1]
  refine ax_aload_n dL_law__1598 rfl ?_
  refine ax_callSW (As := [av_r 1, av_i a1, av_r 432]) (c1 := c) (n1 := n) (w_blinds (d := 8) (c := 1) (n := 6) a1 (x_blinds hl9 J.1 a1) (lo_s hok 1 rfl) (xA_hI (qk_blinds r a1)) (xA_hx (qk_blinds r a1))) dL_law__1599 mwL_blinds wd_1387 rfl (by omega) (by omega) (by omega) rfl rfl (fun _ _ => qw_nx) ?_
  intro r9 M1 hq
  have hqk := qk_blinds r a1
  cases hy : qa_blinds r a1 with
  | inl vv =>
    rw [hy] at hq hqk
    obtain ⟨rfl, M0, hM1, f1, I1⟩ := qw_v hq
    obtain ⟨J1, R1⟩ := ask_1 (M1 := M1) J R f1 I1 (by rw [hM1]; exact sm_pL _ _ _)
    have hok1 := jm_ok J1
    obtain ⟨z, rfl⟩ := hqk
    refine ax_istore dL_law__1602 (by decide) rfl ?_
    refine ax_aload_n dL_law__1604 rfl ?_
    refine ax_aload_n dL_law__1605 rfl ?_
    refine ax_iload dL_law__1606 rfl ?_
    refine ax_iconst (v := 1) dL_law__1608 (by decide) ?_
    refine ax_iadd dL_law__1609 ?_
    rw [show nI (6 * j) + 1 = nI (6 * j + 1) from nI_add _ _]
    refine ax_sld dL_law__1610 (pk_in (6 * j + 1) N (by omega)) ?_
    rw [h1]
    refine ax_callV (As := [av_i a1]) (d2 := _) (c1 := c) (n1 := n) (c_blinds (M := M1) hok1 J1.2.1 J1.1.1.2.2.1 a1) dL_law__1611 mX10_blinds wd_2079 acl_10 (lo_s hok1 90 rfl) rfl (by omega) (by omega) (by omega) rfl rfl (fun _ _ => rq_nx9) ?_
    intro r8 M2 hq2
    rw [hy] at hq2
    obtain ⟨e1, e2, e3, J2⟩ := ask_2 J1 R1 hq2
    cases e1
    have hok2 : lo_ok M2.2 := by rw [e3]; exact hok1
    have e4 : M2.2.2.1 432 (0 : Int32).toNatClampNeg = z.toInt64 := by rw [show M2.2.2.1 = M1.2.2.1 by rw [e3], hM1]; exact pL_rd
    refine ax_istore dL_law__1614 (by decide) rfl ?_
    refine ax_aload_n dL_law__1616 rfl ?_
    refine ax_callV (As := []) (d2 := _) (c1 := c) (n1 := n) (c_X10_thrown (d := 0) (M := M2) hok2) dL_law__1617 mX10_thrown wd_1760 acl_10 (lo_s hok2 90 rfl) rfl (by omega) (by omega) (by omega) rfl rfl (fun _ _ h => by cases h.1) ?_
    rintro r7 _ ⟨q7, rfl⟩; cases q7
    rw [e2]
    refine ax_iload dL_law__1620 rfl ?_
    refine ax_icmp_eq (tgt := 1627) dL_law__1622 (by decide) (fun hc => ?_) (fun hc => ?_)
    rotate_left
    · exact absurd rfl hc
    clear hc
    refine ax_iload dL_law__1627 rfl ?_
    refine ax_if_ne (tgt := 1644) dL_law__1629 (by decide) (fun hc => ?_) (fun hc => ?_)
    · exact absurd rfl hc
    clear hc
    refine ax_aload_n dL_law__1632 rfl ?_
    refine ax_iconst (v := 0) dL_law__1633 (by decide) ?_
    refine ax_lald dL_law__1634 (lo_s hok2 432 rfl) (by unfold vp_in; decide) ?_
    rw [e4]
    refine ax_iload dL_law__1635 rfl ?_
    refine ax_i2l dL_law__1637 ?_
    refine ax_lcmp dL_law__1638 ?_
    refine ax_if_eq (tgt := 1644) dL_law__1639 (by decide) (fun hc => ?_) (fun hc => ?_)
    · clear hc
      refine ax_goto (tgt := 2950) dL_law__1644 (by decide) ?_
      exact ax_weak (lw_weak _ _ _) (next _ J2)
    · exact absurd ((lg_cmp_eq _ _).mpr rfl) hc
  | inr qq =>
    rw [hy] at hq hqk
    obtain ⟨rfl, hxre⟩ := qw_e (tb := [(1, 1)]) (by decide) hqk hq
    have hw0 : ¬ nI qq.1 = 0 := tb_nz (tb := [(1, 1)]) (by decide) hqk
    obtain ⟨J1, R1⟩ := ask_1e J R hxre
    have hok1 := jm_ok J1
    refine ax_istore dL_law__1602 (by decide) rfl ?_
    refine ax_aload_n dL_law__1604 rfl ?_
    refine ax_aload_n dL_law__1605 rfl ?_
    refine ax_iload dL_law__1606 rfl ?_
    refine ax_iconst (v := 1) dL_law__1608 (by decide) ?_
    refine ax_iadd dL_law__1609 ?_
    rw [show nI (6 * j) + 1 = nI (6 * j + 1) from nI_add _ _]
    refine ax_sld dL_law__1610 (pk_in (6 * j + 1) N (by omega)) ?_
    rw [h1]
    refine ax_callV (As := [av_i a1]) (d2 := _) (c1 := c) (n1 := n) (c_blinds (M := M1) hok1 J1.2.1 J1.1.1.2.2.1 a1) dL_law__1611 mX10_blinds wd_2079 acl_10 (lo_s hok1 90 rfl) rfl (by omega) (by omega) (by omega) rfl rfl (fun _ _ => rq_nx9) ?_
    intro r8 M2 hq2
    rw [hy] at hq2
    obtain ⟨⟨u, e1⟩, e2, e3, J2⟩ := ask_2e J1 R1 hq2
    cases e1
    have hok2 : lo_ok M2.2 := by rw [e3]; exact hok1
    refine ax_istore dL_law__1614 (by decide) rfl ?_
    refine ax_aload_n dL_law__1616 rfl ?_
    refine ax_callV (As := []) (d2 := _) (c1 := c) (n1 := n) (c_X10_thrown (d := 0) (M := M2) hok2) dL_law__1617 mX10_thrown wd_1760 acl_10 (lo_s hok2 90 rfl) rfl (by omega) (by omega) (by omega) rfl rfl (fun _ _ h => by cases h.1) ?_
    rintro r7 _ ⟨q7, rfl⟩; cases q7
    rw [e2]
    refine ax_iload dL_law__1620 rfl ?_
    refine ax_icmp_eq (tgt := 1627) dL_law__1622 (by decide) (fun hc => ?_) (fun hc => ?_)
    rotate_left
    · exact absurd rfl hc
    clear hc
    refine ax_iload dL_law__1627 rfl ?_
    refine ax_if_ne (tgt := 1644) dL_law__1629 (by decide) (fun hc => ?_) (fun hc => ?_)
    rotate_left
    · exact absurd hc hw0
    clear hc
    refine ax_goto (tgt := 2950) dL_law__1644 (by decide) ?_
    exact ax_weak (lw_weak _ _ _) (next _ J2)
theorem lc_old {l : Launch} {G : ax_G} {b N j c n : Nat} {xs : Nat → Int32} {M : ax_M} {a1 a2 a3 a4 a5 : Int32} (hl9 : l.stackTraces = false) (hj : 6 * j + 6 ≤ N) (hN : N ≤ 3072) (h1 : xs (nI (6 * j + 1)).toNatClampNeg = a1) (h2 : xs (nI (6 * j + 2)).toNatClampNeg = a2) (h3 : xs (nI (6 * j + 3)).toNatClampNeg = a3) (h4 : xs (nI (6 * j + 4)).toNatClampNeg = a4) (h5 : xs (nI (6 * j + 5)).toNatClampNeg = a5) (J0 : jj M) (next : ∀ M2, jj M2 → ax_W l G kL_law_ (ax_FE G (ax_FL G b N xs)) 60 c n M2 2950 [some (av_o 998), some (av_r 1), some (av_r 90), some (av_r 432), some (av_i (nI (6 * j))), none, none, none] []) : ax_W l G kL_law_ (ax_FE G (ax_FL G b N xs)) 60 (c + 4) (n + 24) M 1647 [some (av_o 998), some (av_r 1), some (av_r 90), some (av_r 432), some (av_i (nI (6 * j))), none, none, none] [] := by
  obtain ⟨p, r, lw, es, t, n9, v9, q, J, R⟩ := J0
  have hok := jm_ok J
  refine ax_aload_n dL_law__1647 rfl ?_
  refine ax_aload_n dL_law__1648 rfl ?_
  refine ax_iload dL_law__1649 rfl ?_
  refine ax_iconst (v := 1) dL_law__1651 (by decide) ?_
  refine ax_iadd dL_law__1652 ?_
  rw [show nI (6 * j) + 1 = nI (6 * j + 1) from nI_add _ _]
  refine ax_sld dL_law__1653 (pk_in (6 * j + 1) N (by omega)) ?_
  rw [h1]
  refine ax_aload_n dL_law__1654 rfl ?_
  refine ax_callSW (As := [av_r 1, av_i a1, av_r 432]) (c1 := c) (n1 := n) (w_old (d := 8) (c := 1) (n := 6) a1 (x_old hl9 J.1 a1) (lo_s hok 1 rfl) (xA_hI (qk_old r a1)) (xA_hx (qk_old r a1))) dL_law__1655 mwL_old wd_1395 rfl (by omega) (by omega) (by omega) rfl rfl (fun _ _ => qw_nx) ?_
  intro r9 M1 hq
  have hqk := qk_old r a1
  cases hy : qa_old r a1 with
  | inl vv =>
    rw [hy] at hq hqk
    obtain ⟨rfl, M0, hM1, f1, I1⟩ := qw_v hq
    obtain ⟨J1, R1⟩ := ask_1 (M1 := M1) J R f1 I1 (by rw [hM1]; exact sm_pL _ _ _)
    have hok1 := jm_ok J1
    obtain ⟨z, rfl⟩ := hqk
    refine ax_istore dL_law__1658 (by decide) rfl ?_
    refine ax_aload_n dL_law__1660 rfl ?_
    refine ax_aload_n dL_law__1661 rfl ?_
    refine ax_iload dL_law__1662 rfl ?_
    refine ax_iconst (v := 1) dL_law__1664 (by decide) ?_
    refine ax_iadd dL_law__1665 ?_
    rw [show nI (6 * j) + 1 = nI (6 * j + 1) from nI_add _ _]
    refine ax_sld dL_law__1666 (pk_in (6 * j + 1) N (by omega)) ?_
    rw [h1]
    refine ax_callV (As := [av_i a1]) (d2 := _) (c1 := c) (n1 := n) (c_old (M := M1) hok1 J1.2.1 J1.1.1.2.2.1 a1) dL_law__1667 mX10_old wd_2083 acl_10 (lo_s hok1 90 rfl) rfl (by omega) (by omega) (by omega) rfl rfl (fun _ _ => rq_nx9) ?_
    intro r8 M2 hq2
    rw [hy] at hq2
    obtain ⟨e1, e2, e3, J2⟩ := ask_2 J1 R1 hq2
    cases e1
    have hok2 : lo_ok M2.2 := by rw [e3]; exact hok1
    have e4 : M2.2.2.1 432 (0 : Int32).toNatClampNeg = z.toInt64 := by rw [show M2.2.2.1 = M1.2.2.1 by rw [e3], hM1]; exact pL_rd
    refine ax_istore dL_law__1670 (by decide) rfl ?_
    refine ax_aload_n dL_law__1672 rfl ?_
    refine ax_callV (As := []) (d2 := _) (c1 := c) (n1 := n) (c_X10_thrown (d := 0) (M := M2) hok2) dL_law__1673 mX10_thrown wd_1760 acl_10 (lo_s hok2 90 rfl) rfl (by omega) (by omega) (by omega) rfl rfl (fun _ _ h => by cases h.1) ?_
    rintro r7 _ ⟨q7, rfl⟩; cases q7
    rw [e2]
    refine ax_iload dL_law__1676 rfl ?_
    refine ax_icmp_eq (tgt := 1683) dL_law__1678 (by decide) (fun hc => ?_) (fun hc => ?_)
    rotate_left
    · exact absurd rfl hc
    clear hc
    refine ax_iload dL_law__1683 rfl ?_
    refine ax_if_ne (tgt := 1700) dL_law__1685 (by decide) (fun hc => ?_) (fun hc => ?_)
    · exact absurd rfl hc
    clear hc
    refine ax_aload_n dL_law__1688 rfl ?_
    refine ax_iconst (v := 0) dL_law__1689 (by decide) ?_
    refine ax_lald dL_law__1690 (lo_s hok2 432 rfl) (by unfold vp_in; decide) ?_
    rw [e4]
    refine ax_iload dL_law__1691 rfl ?_
    refine ax_i2l dL_law__1693 ?_
    refine ax_lcmp dL_law__1694 ?_
    refine ax_if_eq (tgt := 1700) dL_law__1695 (by decide) (fun hc => ?_) (fun hc => ?_)
    · clear hc
      refine ax_goto (tgt := 2950) dL_law__1700 (by decide) ?_
      exact ax_weak (lw_weak _ _ _) (next _ J2)
    · exact absurd ((lg_cmp_eq _ _).mpr rfl) hc
  | inr qq =>
    rw [hy] at hq hqk
    obtain ⟨rfl, hxre⟩ := qw_e (tb := [(1, 1)]) (by decide) hqk hq
    have hw0 : ¬ nI qq.1 = 0 := tb_nz (tb := [(1, 1)]) (by decide) hqk
    obtain ⟨J1, R1⟩ := ask_1e J R hxre
    have hok1 := jm_ok J1
    refine ax_istore dL_law__1658 (by decide) rfl ?_
    refine ax_aload_n dL_law__1660 rfl ?_
    refine ax_aload_n dL_law__1661 rfl ?_
    refine ax_iload dL_law__1662 rfl ?_
    refine ax_iconst (v := 1) dL_law__1664 (by decide) ?_
    refine ax_iadd dL_law__1665 ?_
    rw [show nI (6 * j) + 1 = nI (6 * j + 1) from nI_add _ _]
    refine ax_sld dL_law__1666 (pk_in (6 * j + 1) N (by omega)) ?_
    rw [h1]
    refine ax_callV (As := [av_i a1]) (d2 := _) (c1 := c) (n1 := n) (c_old (M := M1) hok1 J1.2.1 J1.1.1.2.2.1 a1) dL_law__1667 mX10_old wd_2083 acl_10 (lo_s hok1 90 rfl) rfl (by omega) (by omega) (by omega) rfl rfl (fun _ _ => rq_nx9) ?_
    intro r8 M2 hq2
    rw [hy] at hq2
    obtain ⟨⟨u, e1⟩, e2, e3, J2⟩ := ask_2e J1 R1 hq2
    cases e1
    have hok2 : lo_ok M2.2 := by rw [e3]; exact hok1
    refine ax_istore dL_law__1670 (by decide) rfl ?_
    refine ax_aload_n dL_law__1672 rfl ?_
    refine ax_callV (As := []) (d2 := _) (c1 := c) (n1 := n) (c_X10_thrown (d := 0) (M := M2) hok2) dL_law__1673 mX10_thrown wd_1760 acl_10 (lo_s hok2 90 rfl) rfl (by omega) (by omega) (by omega) rfl rfl (fun _ _ h => by cases h.1) ?_
    rintro r7 _ ⟨q7, rfl⟩; cases q7
    rw [e2]
    refine ax_iload dL_law__1676 rfl ?_
    refine ax_icmp_eq (tgt := 1683) dL_law__1678 (by decide) (fun hc => ?_) (fun hc => ?_)
    rotate_left
    · exact absurd rfl hc
    clear hc
    refine ax_iload dL_law__1683 rfl ?_
    refine ax_if_ne (tgt := 1700) dL_law__1685 (by decide) (fun hc => ?_) (fun hc => ?_)
    rotate_left
    · exact absurd hc hw0
    clear hc
    refine ax_goto (tgt := 2950) dL_law__1700 (by decide) ?_
    exact ax_weak (lw_weak _ _ _) (next _ J2)
theorem lc_between {l : Launch} {G : ax_G} {b N j c n : Nat} {xs : Nat → Int32} {M : ax_M} {a1 a2 a3 a4 a5 : Int32} (hl9 : l.stackTraces = false) (hj : 6 * j + 6 ≤ N) (hN : N ≤ 3072) (h1 : xs (nI (6 * j + 1)).toNatClampNeg = a1) (h2 : xs (nI (6 * j + 2)).toNatClampNeg = a2) (h3 : xs (nI (6 * j + 3)).toNatClampNeg = a3) (h4 : xs (nI (6 * j + 4)).toNatClampNeg = a4) (h5 : xs (nI (6 * j + 5)).toNatClampNeg = a5) (J0 : jj M) (next : ∀ M2, jj M2 → ax_W l G kL_law_ (ax_FE G (ax_FL G b N xs)) 60 c n M2 2950 [some (av_o 998), some (av_r 1), some (av_r 90), some (av_r 432), some (av_i (nI (6 * j))), none, none, none] []) : ax_W l G kL_law_ (ax_FE G (ax_FL G b N xs)) 60 (c + 4) (n + 24) M 1703 [some (av_o 998), some (av_r 1), some (av_r 90), some (av_r 432), some (av_i (nI (6 * j))), none, none, none] [] := by
  obtain ⟨p, r, lw, es, t, n9, v9, q, J, R⟩ := J0
  have hok := jm_ok J
  refine ax_aload_n dL_law__1703 rfl ?_
  refine ax_aload_n dL_law__1704 rfl ?_
  refine ax_iload dL_law__1705 rfl ?_
  refine ax_iconst (v := 1) dL_law__1707 (by decide) ?_
  refine ax_iadd dL_law__1708 ?_
  rw [show nI (6 * j) + 1 = nI (6 * j + 1) from nI_add _ _]
  refine ax_sld dL_law__1709 (pk_in (6 * j + 1) N (by omega)) ?_
  rw [h1]
  refine ax_aload_n dL_law__1710 rfl ?_
  refine ax_iload dL_law__1711 rfl ?_
  refine ax_iconst (v := 2) dL_law__1713 (by decide) ?_
  refine ax_iadd dL_law__1714 ?_
  rw [show nI (6 * j) + 2 = nI (6 * j + 2) from nI_add _ _]
  refine ax_sld dL_law__1715 (pk_in (6 * j + 2) N (by omega)) ?_
  rw [h2]
  refine ax_aload_n dL_law__1716 rfl ?_
  refine ax_callSW (As := [av_r 1, av_i a1, av_i a2, av_r 432]) (c1 := c) (n1 := n) (w_between (d := 8) (c := 2) (n := 12) a1 a2 (x_between hl9 J.1 a1 a2) (lo_s hok 1 rfl) (xA_hB (qk_between r a1 a2)) (xA_hx (qk_between r a1 a2))) dL_law__1717 mwL_between wd_1402 rfl (by omega) (by omega) (by omega) rfl rfl (fun _ _ => qw_nx) ?_
  intro r9 M1 hq
  have hqk := qk_between r a1 a2
  cases hy : qa_between r a1 a2 with
  | inl vv =>
    rw [hy] at hq hqk
    obtain ⟨rfl, M0, hM1, f1, I1⟩ := qw_v hq
    obtain ⟨J1, R1⟩ := ask_1 (M1 := M1) J R f1 I1 (by rw [hM1]; exact sm_pL _ _ _)
    have hok1 := jm_ok J1
    obtain ⟨z, rfl, hz9⟩ : ∃ z, vv = av_i z ∧ (z = 0 ∨ z = 1) := by rcases hqk with h | h; exact ⟨0, h, Or.inl rfl⟩; exact ⟨1, h, Or.inr rfl⟩
    refine ax_istore dL_law__1720 (by decide) rfl ?_
    refine ax_aload_n dL_law__1722 rfl ?_
    refine ax_aload_n dL_law__1723 rfl ?_
    refine ax_iload dL_law__1724 rfl ?_
    refine ax_iconst (v := 1) dL_law__1726 (by decide) ?_
    refine ax_iadd dL_law__1727 ?_
    rw [show nI (6 * j) + 1 = nI (6 * j + 1) from nI_add _ _]
    refine ax_sld dL_law__1728 (pk_in (6 * j + 1) N (by omega)) ?_
    rw [h1]
    refine ax_aload_n dL_law__1729 rfl ?_
    refine ax_iload dL_law__1730 rfl ?_
    refine ax_iconst (v := 2) dL_law__1732 (by decide) ?_
    refine ax_iadd dL_law__1733 ?_
    rw [show nI (6 * j) + 2 = nI (6 * j + 2) from nI_add _ _]
    refine ax_sld dL_law__1734 (pk_in (6 * j + 2) N (by omega)) ?_
    rw [h2]
    refine ax_callV (As := [av_i a1, av_i a2]) (d2 := _) (c1 := c) (n1 := n) (c_between (M := M1) hok1 J1.2.1 J1.1.1.2.2.1 a1 a2) dL_law__1735 mX10_between wd_2087 acl_10 (lo_s hok1 90 rfl) rfl (by omega) (by omega) (by omega) rfl rfl (fun _ _ => rq_nx9) ?_
    intro r8 M2 hq2
    rw [hy] at hq2
    obtain ⟨e1, e2, e3, J2⟩ := ask_2 J1 R1 hq2
    cases e1
    have hok2 : lo_ok M2.2 := by rw [e3]; exact hok1
    have e4 : M2.2.2.1 432 (0 : Int32).toNatClampNeg = z.toInt64 := by rw [show M2.2.2.1 = M1.2.2.1 by rw [e3], hM1]; exact pL_rd
    refine ax_istore dL_law__1738 (by decide) rfl ?_
    refine ax_aload_n dL_law__1740 rfl ?_
    refine ax_callV (As := []) (d2 := _) (c1 := c) (n1 := n) (c_X10_thrown (d := 0) (M := M2) hok2) dL_law__1741 mX10_thrown wd_1760 acl_10 (lo_s hok2 90 rfl) rfl (by omega) (by omega) (by omega) rfl rfl (fun _ _ h => by cases h.1) ?_
    rintro r7 _ ⟨q7, rfl⟩; cases q7
    rw [e2]
    refine ax_iload dL_law__1744 rfl ?_
    refine ax_icmp_eq (tgt := 1751) dL_law__1746 (by decide) (fun hc => ?_) (fun hc => ?_)
    rotate_left
    · exact absurd rfl hc
    clear hc
    refine ax_iload dL_law__1751 rfl ?_
    refine ax_if_ne (tgt := 1775) dL_law__1753 (by decide) (fun hc => ?_) (fun hc => ?_)
    · exact absurd rfl hc
    clear hc
    refine ax_aload_n dL_law__1756 rfl ?_
    refine ax_iconst (v := 0) dL_law__1757 (by decide) ?_
    refine ax_lald dL_law__1758 (lo_s hok2 432 rfl) (by unfold vp_in; decide) ?_
    rw [e4]
    refine ax_iload dL_law__1759 rfl ?_
    rcases hz9 with hz9 | hz9
    · subst hz9
      refine ax_if_eq (tgt := 1768) dL_law__1761 (by decide) (fun hc => ?_) (fun hc => ?_)
      · clear hc
        refine ax_lconst (v := 0) dL_law__1768 (by decide) ?_
        refine ax_lcmp dL_law__1769 ?_
        refine ax_if_eq (tgt := 1775) dL_law__1770 (by decide) (fun hc => ?_) (fun hc => ?_)
        · clear hc
          refine ax_goto (tgt := 2950) dL_law__1775 (by decide) ?_
          exact ax_weak (lw_weak _ _ _) (next _ J2)
        · exact absurd ((lg_cmp_eq _ _).mpr rfl) hc
      · exact absurd rfl hc
    · subst hz9
      refine ax_if_eq (tgt := 1768) dL_law__1761 (by decide) (fun hc => ?_) (fun hc => ?_)
      · exact absurd hc (by decide)
      · clear hc
        refine ax_lconst (v := 1) dL_law__1764 (by decide) ?_
        refine ax_goto (tgt := 1769) dL_law__1765 (by decide) ?_
        refine ax_lcmp dL_law__1769 ?_
        refine ax_if_eq (tgt := 1775) dL_law__1770 (by decide) (fun hc => ?_) (fun hc => ?_)
        · clear hc
          refine ax_goto (tgt := 2950) dL_law__1775 (by decide) ?_
          exact ax_weak (lw_weak _ _ _) (next _ J2)
        · exact absurd ((lg_cmp_eq _ _).mpr rfl) hc
  | inr qq =>
    rw [hy] at hq hqk
    obtain ⟨rfl, hxre⟩ := qw_e (tb := [(1, 1)]) (by decide) hqk hq
    have hw0 : ¬ nI qq.1 = 0 := tb_nz (tb := [(1, 1)]) (by decide) hqk
    obtain ⟨J1, R1⟩ := ask_1e J R hxre
    have hok1 := jm_ok J1
    refine ax_istore dL_law__1720 (by decide) rfl ?_
    refine ax_aload_n dL_law__1722 rfl ?_
    refine ax_aload_n dL_law__1723 rfl ?_
    refine ax_iload dL_law__1724 rfl ?_
    refine ax_iconst (v := 1) dL_law__1726 (by decide) ?_
    refine ax_iadd dL_law__1727 ?_
    rw [show nI (6 * j) + 1 = nI (6 * j + 1) from nI_add _ _]
    refine ax_sld dL_law__1728 (pk_in (6 * j + 1) N (by omega)) ?_
    rw [h1]
    refine ax_aload_n dL_law__1729 rfl ?_
    refine ax_iload dL_law__1730 rfl ?_
    refine ax_iconst (v := 2) dL_law__1732 (by decide) ?_
    refine ax_iadd dL_law__1733 ?_
    rw [show nI (6 * j) + 2 = nI (6 * j + 2) from nI_add _ _]
    refine ax_sld dL_law__1734 (pk_in (6 * j + 2) N (by omega)) ?_
    rw [h2]
    refine ax_callV (As := [av_i a1, av_i a2]) (d2 := _) (c1 := c) (n1 := n) (c_between (M := M1) hok1 J1.2.1 J1.1.1.2.2.1 a1 a2) dL_law__1735 mX10_between wd_2087 acl_10 (lo_s hok1 90 rfl) rfl (by omega) (by omega) (by omega) rfl rfl (fun _ _ => rq_nx9) ?_
    intro r8 M2 hq2
    rw [hy] at hq2
    obtain ⟨⟨u, e1⟩, e2, e3, J2⟩ := ask_2e J1 R1 hq2
    cases e1
    have hok2 : lo_ok M2.2 := by rw [e3]; exact hok1
    refine ax_istore dL_law__1738 (by decide) rfl ?_
    refine ax_aload_n dL_law__1740 rfl ?_
    refine ax_callV (As := []) (d2 := _) (c1 := c) (n1 := n) (c_X10_thrown (d := 0) (M := M2) hok2) dL_law__1741 mX10_thrown wd_1760 acl_10 (lo_s hok2 90 rfl) rfl (by omega) (by omega) (by omega) rfl rfl (fun _ _ h => by cases h.1) ?_
    rintro r7 _ ⟨q7, rfl⟩; cases q7
    rw [e2]
    refine ax_iload dL_law__1744 rfl ?_
    refine ax_icmp_eq (tgt := 1751) dL_law__1746 (by decide) (fun hc => ?_) (fun hc => ?_)
    rotate_left
    · exact absurd rfl hc
    clear hc
    refine ax_iload dL_law__1751 rfl ?_
    refine ax_if_ne (tgt := 1775) dL_law__1753 (by decide) (fun hc => ?_) (fun hc => ?_)
    rotate_left
    · exact absurd hc hw0
    clear hc
    refine ax_goto (tgt := 2950) dL_law__1775 (by decide) ?_
    exact ax_weak (lw_weak _ _ _) (next _ J2)
theorem lc_gets {l : Launch} {G : ax_G} {b N j c n : Nat} {xs : Nat → Int32} {M : ax_M} {a1 a2 a3 a4 a5 : Int32} (hl9 : l.stackTraces = false) (hj : 6 * j + 6 ≤ N) (hN : N ≤ 3072) (h1 : xs (nI (6 * j + 1)).toNatClampNeg = a1) (h2 : xs (nI (6 * j + 2)).toNatClampNeg = a2) (h3 : xs (nI (6 * j + 3)).toNatClampNeg = a3) (h4 : xs (nI (6 * j + 4)).toNatClampNeg = a4) (h5 : xs (nI (6 * j + 5)).toNatClampNeg = a5) (J0 : jj M) (next : ∀ M2, jj M2 → ax_W l G kL_law_ (ax_FE G (ax_FL G b N xs)) 60 c n M2 2950 [some (av_o 998), some (av_r 1), some (av_r 90), some (av_r 432), some (av_i (nI (6 * j))), none, none, none] []) : ax_W l G kL_law_ (ax_FE G (ax_FL G b N xs)) 60 (c + 4) (n + 24) M 1778 [some (av_o 998), some (av_r 1), some (av_r 90), some (av_r 432), some (av_i (nI (6 * j))), none, none, none] [] := by
  obtain ⟨p, r, lw, es, t, n9, v9, q, J, R⟩ := J0
  have hok := jm_ok J
  refine ax_aload_n dL_law__1778 rfl ?_
  refine ax_aload_n dL_law__1779 rfl ?_
  refine ax_iload dL_law__1780 rfl ?_
  refine ax_iconst (v := 1) dL_law__1782 (by decide) ?_
  refine ax_iadd dL_law__1783 ?_
  rw [show nI (6 * j) + 1 = nI (6 * j + 1) from nI_add _ _]
  refine ax_sld dL_law__1784 (pk_in (6 * j + 1) N (by omega)) ?_
  rw [h1]
  refine ax_aload_n dL_law__1785 rfl ?_
  refine ax_iload dL_law__1786 rfl ?_
  refine ax_iconst (v := 2) dL_law__1788 (by decide) ?_
  refine ax_iadd dL_law__1789 ?_
  rw [show nI (6 * j) + 2 = nI (6 * j + 2) from nI_add _ _]
  refine ax_sld dL_law__1790 (pk_in (6 * j + 2) N (by omega)) ?_
  rw [h2]
  refine ax_aload_n dL_law__1791 rfl ?_
  refine ax_callSW (As := [av_r 1, av_i a1, av_i a2, av_r 432]) (c1 := c) (n1 := n) (w_gets (d := 8) (c := 2) (n := 12) a1 a2 (x_gets hl9 J.1 a1 a2) (lo_s hok 1 rfl) (xA_hI (qk_gets a1 a2)) (xA_hx (qk_gets a1 a2))) dL_law__1792 mwL_gets wd_1409 rfl (by omega) (by omega) (by omega) rfl rfl (fun _ _ => qw_nx) ?_
  intro r9 M1 hq
  have hqk := qk_gets a1 a2
  cases hy : qa_gets a1 a2 with
  | inl vv =>
    rw [hy] at hq hqk
    obtain ⟨rfl, M0, hM1, f1, I1⟩ := qw_v hq
    obtain ⟨J1, R1⟩ := ask_1 (M1 := M1) J R f1 I1 (by rw [hM1]; exact sm_pL _ _ _)
    have hok1 := jm_ok J1
    obtain ⟨z, rfl⟩ := hqk
    refine ax_istore dL_law__1795 (by decide) rfl ?_
    refine ax_aload_n dL_law__1797 rfl ?_
    refine ax_aload_n dL_law__1798 rfl ?_
    refine ax_iload dL_law__1799 rfl ?_
    refine ax_iconst (v := 1) dL_law__1801 (by decide) ?_
    refine ax_iadd dL_law__1802 ?_
    rw [show nI (6 * j) + 1 = nI (6 * j + 1) from nI_add _ _]
    refine ax_sld dL_law__1803 (pk_in (6 * j + 1) N (by omega)) ?_
    rw [h1]
    refine ax_aload_n dL_law__1804 rfl ?_
    refine ax_iload dL_law__1805 rfl ?_
    refine ax_iconst (v := 2) dL_law__1807 (by decide) ?_
    refine ax_iadd dL_law__1808 ?_
    rw [show nI (6 * j) + 2 = nI (6 * j + 2) from nI_add _ _]
    refine ax_sld dL_law__1809 (pk_in (6 * j + 2) N (by omega)) ?_
    rw [h2]
    refine ax_callV (As := [av_i a1, av_i a2]) (d2 := _) (c1 := c) (n1 := n) (c_gets (M := M1) hok1 J1.2.1 a1 a2) dL_law__1810 mX10_gets wd_2091 acl_10 (lo_s hok1 90 rfl) rfl (by omega) (by omega) (by omega) rfl rfl (fun _ _ => rq_nx9) ?_
    intro r8 M2 hq2
    rw [hy] at hq2
    obtain ⟨e1, e2, e3, J2⟩ := ask_2 J1 R1 hq2
    cases e1
    have hok2 : lo_ok M2.2 := by rw [e3]; exact hok1
    have e4 : M2.2.2.1 432 (0 : Int32).toNatClampNeg = z.toInt64 := by rw [show M2.2.2.1 = M1.2.2.1 by rw [e3], hM1]; exact pL_rd
    refine ax_istore dL_law__1813 (by decide) rfl ?_
    refine ax_aload_n dL_law__1815 rfl ?_
    refine ax_callV (As := []) (d2 := _) (c1 := c) (n1 := n) (c_X10_thrown (d := 0) (M := M2) hok2) dL_law__1816 mX10_thrown wd_1760 acl_10 (lo_s hok2 90 rfl) rfl (by omega) (by omega) (by omega) rfl rfl (fun _ _ h => by cases h.1) ?_
    rintro r7 _ ⟨q7, rfl⟩; cases q7
    rw [e2]
    refine ax_iload dL_law__1819 rfl ?_
    refine ax_icmp_eq (tgt := 1826) dL_law__1821 (by decide) (fun hc => ?_) (fun hc => ?_)
    rotate_left
    · exact absurd rfl hc
    clear hc
    refine ax_iload dL_law__1826 rfl ?_
    refine ax_if_ne (tgt := 1843) dL_law__1828 (by decide) (fun hc => ?_) (fun hc => ?_)
    · exact absurd rfl hc
    clear hc
    refine ax_aload_n dL_law__1831 rfl ?_
    refine ax_iconst (v := 0) dL_law__1832 (by decide) ?_
    refine ax_lald dL_law__1833 (lo_s hok2 432 rfl) (by unfold vp_in; decide) ?_
    rw [e4]
    refine ax_iload dL_law__1834 rfl ?_
    refine ax_i2l dL_law__1836 ?_
    refine ax_lcmp dL_law__1837 ?_
    refine ax_if_eq (tgt := 1843) dL_law__1838 (by decide) (fun hc => ?_) (fun hc => ?_)
    · clear hc
      refine ax_goto (tgt := 2950) dL_law__1843 (by decide) ?_
      exact ax_weak (lw_weak _ _ _) (next _ J2)
    · exact absurd ((lg_cmp_eq _ _).mpr rfl) hc
  | inr qq =>
    rw [hy] at hq hqk
    obtain ⟨rfl, hxre⟩ := qw_e (tb := [(1, 1)]) (by decide) hqk hq
    have hw0 : ¬ nI qq.1 = 0 := tb_nz (tb := [(1, 1)]) (by decide) hqk
    obtain ⟨J1, R1⟩ := ask_1e J R hxre
    have hok1 := jm_ok J1
    refine ax_istore dL_law__1795 (by decide) rfl ?_
    refine ax_aload_n dL_law__1797 rfl ?_
    refine ax_aload_n dL_law__1798 rfl ?_
    refine ax_iload dL_law__1799 rfl ?_
    refine ax_iconst (v := 1) dL_law__1801 (by decide) ?_
    refine ax_iadd dL_law__1802 ?_
    rw [show nI (6 * j) + 1 = nI (6 * j + 1) from nI_add _ _]
    refine ax_sld dL_law__1803 (pk_in (6 * j + 1) N (by omega)) ?_
    rw [h1]
    refine ax_aload_n dL_law__1804 rfl ?_
    refine ax_iload dL_law__1805 rfl ?_
    refine ax_iconst (v := 2) dL_law__1807 (by decide) ?_
    refine ax_iadd dL_law__1808 ?_
    rw [show nI (6 * j) + 2 = nI (6 * j + 2) from nI_add _ _]
    refine ax_sld dL_law__1809 (pk_in (6 * j + 2) N (by omega)) ?_
    rw [h2]
    refine ax_callV (As := [av_i a1, av_i a2]) (d2 := _) (c1 := c) (n1 := n) (c_gets (M := M1) hok1 J1.2.1 a1 a2) dL_law__1810 mX10_gets wd_2091 acl_10 (lo_s hok1 90 rfl) rfl (by omega) (by omega) (by omega) rfl rfl (fun _ _ => rq_nx9) ?_
    intro r8 M2 hq2
    rw [hy] at hq2
    obtain ⟨⟨u, e1⟩, e2, e3, J2⟩ := ask_2e J1 R1 hq2
    cases e1
    have hok2 : lo_ok M2.2 := by rw [e3]; exact hok1
    refine ax_istore dL_law__1813 (by decide) rfl ?_
    refine ax_aload_n dL_law__1815 rfl ?_
    refine ax_callV (As := []) (d2 := _) (c1 := c) (n1 := n) (c_X10_thrown (d := 0) (M := M2) hok2) dL_law__1816 mX10_thrown wd_1760 acl_10 (lo_s hok2 90 rfl) rfl (by omega) (by omega) (by omega) rfl rfl (fun _ _ h => by cases h.1) ?_
    rintro r7 _ ⟨q7, rfl⟩; cases q7
    rw [e2]
    refine ax_iload dL_law__1819 rfl ?_
    refine ax_icmp_eq (tgt := 1826) dL_law__1821 (by decide) (fun hc => ?_) (fun hc => ?_)
    rotate_left
    · exact absurd rfl hc
    clear hc
    refine ax_iload dL_law__1826 rfl ?_
    refine ax_if_ne (tgt := 1843) dL_law__1828 (by decide) (fun hc => ?_) (fun hc => ?_)
    rotate_left
    · exact absurd hc hw0
    clear hc
    refine ax_goto (tgt := 2950) dL_law__1843 (by decide) ?_
    exact ax_weak (lw_weak _ _ _) (next _ J2)
theorem lc_bulbs {l : Launch} {G : ax_G} {b N j c n : Nat} {xs : Nat → Int32} {M : ax_M} {a1 a2 a3 a4 a5 : Int32} (hl9 : l.stackTraces = false) (hj : 6 * j + 6 ≤ N) (hN : N ≤ 3072) (h1 : xs (nI (6 * j + 1)).toNatClampNeg = a1) (h2 : xs (nI (6 * j + 2)).toNatClampNeg = a2) (h3 : xs (nI (6 * j + 3)).toNatClampNeg = a3) (h4 : xs (nI (6 * j + 4)).toNatClampNeg = a4) (h5 : xs (nI (6 * j + 5)).toNatClampNeg = a5) (J0 : jj M) (next : ∀ M2, jj M2 → ax_W l G kL_law_ (ax_FE G (ax_FL G b N xs)) 60 c n M2 2950 [some (av_o 998), some (av_r 1), some (av_r 90), some (av_r 432), some (av_i (nI (6 * j))), none, none, none] []) : ax_W l G kL_law_ (ax_FE G (ax_FL G b N xs)) 60 (c + 4) (n + 24) M 1846 [some (av_o 998), some (av_r 1), some (av_r 90), some (av_r 432), some (av_i (nI (6 * j))), none, none, none] [] := by
  obtain ⟨p, r, lw, es, t, n9, v9, q, J, R⟩ := J0
  have hok := jm_ok J
  refine ax_aload_n dL_law__1846 rfl ?_
  refine ax_aload_n dL_law__1847 rfl ?_
  refine ax_iload dL_law__1848 rfl ?_
  refine ax_iconst (v := 1) dL_law__1850 (by decide) ?_
  refine ax_iadd dL_law__1851 ?_
  rw [show nI (6 * j) + 1 = nI (6 * j + 1) from nI_add _ _]
  refine ax_sld dL_law__1852 (pk_in (6 * j + 1) N (by omega)) ?_
  rw [h1]
  refine ax_aload_n dL_law__1853 rfl ?_
  refine ax_iload dL_law__1854 rfl ?_
  refine ax_iconst (v := 2) dL_law__1856 (by decide) ?_
  refine ax_iadd dL_law__1857 ?_
  rw [show nI (6 * j) + 2 = nI (6 * j + 2) from nI_add _ _]
  refine ax_sld dL_law__1858 (pk_in (6 * j + 2) N (by omega)) ?_
  rw [h2]
  refine ax_aload_n dL_law__1859 rfl ?_
  refine ax_callSW (As := [av_r 1, av_i a1, av_i a2, av_r 432]) (c1 := c) (n1 := n) (w_bulbs (d := 8) (c := 2) (n := 12) a1 a2 (x_bulbs hl9 J.1 a1 a2) (lo_s hok 1 rfl) (xA_hI (qk_bulbs a1 a2)) (xA_hx (qk_bulbs a1 a2))) dL_law__1860 mwL_bulbs wd_1419 rfl (by omega) (by omega) (by omega) rfl rfl (fun _ _ => qw_nx) ?_
  intro r9 M1 hq
  have hqk := qk_bulbs a1 a2
  cases hy : qa_bulbs a1 a2 with
  | inl vv =>
    rw [hy] at hq hqk
    obtain ⟨rfl, M0, hM1, f1, I1⟩ := qw_v hq
    obtain ⟨J1, R1⟩ := ask_1 (M1 := M1) J R f1 I1 (by rw [hM1]; exact sm_pL _ _ _)
    have hok1 := jm_ok J1
    obtain ⟨z, rfl⟩ := hqk
    refine ax_istore dL_law__1863 (by decide) rfl ?_
    refine ax_aload_n dL_law__1865 rfl ?_
    refine ax_aload_n dL_law__1866 rfl ?_
    refine ax_iload dL_law__1867 rfl ?_
    refine ax_iconst (v := 1) dL_law__1869 (by decide) ?_
    refine ax_iadd dL_law__1870 ?_
    rw [show nI (6 * j) + 1 = nI (6 * j + 1) from nI_add _ _]
    refine ax_sld dL_law__1871 (pk_in (6 * j + 1) N (by omega)) ?_
    rw [h1]
    refine ax_aload_n dL_law__1872 rfl ?_
    refine ax_iload dL_law__1873 rfl ?_
    refine ax_iconst (v := 2) dL_law__1875 (by decide) ?_
    refine ax_iadd dL_law__1876 ?_
    rw [show nI (6 * j) + 2 = nI (6 * j + 2) from nI_add _ _]
    refine ax_sld dL_law__1877 (pk_in (6 * j + 2) N (by omega)) ?_
    rw [h2]
    refine ax_callV (As := [av_i a1, av_i a2]) (d2 := _) (c1 := c) (n1 := n) (c_bulbs (M := M1) hok1 J1.2.1 a1 a2) dL_law__1878 mX10_bulbs wd_2098 acl_10 (lo_s hok1 90 rfl) rfl (by omega) (by omega) (by omega) rfl rfl (fun _ _ => rq_nx9) ?_
    intro r8 M2 hq2
    rw [hy] at hq2
    obtain ⟨e1, e2, e3, J2⟩ := ask_2 J1 R1 hq2
    cases e1
    have hok2 : lo_ok M2.2 := by rw [e3]; exact hok1
    have e4 : M2.2.2.1 432 (0 : Int32).toNatClampNeg = z.toInt64 := by rw [show M2.2.2.1 = M1.2.2.1 by rw [e3], hM1]; exact pL_rd
    refine ax_istore dL_law__1881 (by decide) rfl ?_
    refine ax_aload_n dL_law__1883 rfl ?_
    refine ax_callV (As := []) (d2 := _) (c1 := c) (n1 := n) (c_X10_thrown (d := 0) (M := M2) hok2) dL_law__1884 mX10_thrown wd_1760 acl_10 (lo_s hok2 90 rfl) rfl (by omega) (by omega) (by omega) rfl rfl (fun _ _ h => by cases h.1) ?_
    rintro r7 _ ⟨q7, rfl⟩; cases q7
    rw [e2]
    refine ax_iload dL_law__1887 rfl ?_
    refine ax_icmp_eq (tgt := 1894) dL_law__1889 (by decide) (fun hc => ?_) (fun hc => ?_)
    rotate_left
    · exact absurd rfl hc
    clear hc
    refine ax_iload dL_law__1894 rfl ?_
    refine ax_if_ne (tgt := 1911) dL_law__1896 (by decide) (fun hc => ?_) (fun hc => ?_)
    · exact absurd rfl hc
    clear hc
    refine ax_aload_n dL_law__1899 rfl ?_
    refine ax_iconst (v := 0) dL_law__1900 (by decide) ?_
    refine ax_lald dL_law__1901 (lo_s hok2 432 rfl) (by unfold vp_in; decide) ?_
    rw [e4]
    refine ax_iload dL_law__1902 rfl ?_
    refine ax_i2l dL_law__1904 ?_
    refine ax_lcmp dL_law__1905 ?_
    refine ax_if_eq (tgt := 1911) dL_law__1906 (by decide) (fun hc => ?_) (fun hc => ?_)
    · clear hc
      refine ax_goto (tgt := 2950) dL_law__1911 (by decide) ?_
      exact ax_weak (lw_weak _ _ _) (next _ J2)
    · exact absurd ((lg_cmp_eq _ _).mpr rfl) hc
  | inr qq =>
    rw [hy] at hq hqk
    obtain ⟨rfl, hxre⟩ := qw_e (tb := [(1, 1)]) (by decide) hqk hq
    have hw0 : ¬ nI qq.1 = 0 := tb_nz (tb := [(1, 1)]) (by decide) hqk
    obtain ⟨J1, R1⟩ := ask_1e J R hxre
    have hok1 := jm_ok J1
    refine ax_istore dL_law__1863 (by decide) rfl ?_
    refine ax_aload_n dL_law__1865 rfl ?_
    refine ax_aload_n dL_law__1866 rfl ?_
    refine ax_iload dL_law__1867 rfl ?_
    refine ax_iconst (v := 1) dL_law__1869 (by decide) ?_
    refine ax_iadd dL_law__1870 ?_
    rw [show nI (6 * j) + 1 = nI (6 * j + 1) from nI_add _ _]
    refine ax_sld dL_law__1871 (pk_in (6 * j + 1) N (by omega)) ?_
    rw [h1]
    refine ax_aload_n dL_law__1872 rfl ?_
    refine ax_iload dL_law__1873 rfl ?_
    refine ax_iconst (v := 2) dL_law__1875 (by decide) ?_
    refine ax_iadd dL_law__1876 ?_
    rw [show nI (6 * j) + 2 = nI (6 * j + 2) from nI_add _ _]
    refine ax_sld dL_law__1877 (pk_in (6 * j + 2) N (by omega)) ?_
    rw [h2]
    refine ax_callV (As := [av_i a1, av_i a2]) (d2 := _) (c1 := c) (n1 := n) (c_bulbs (M := M1) hok1 J1.2.1 a1 a2) dL_law__1878 mX10_bulbs wd_2098 acl_10 (lo_s hok1 90 rfl) rfl (by omega) (by omega) (by omega) rfl rfl (fun _ _ => rq_nx9) ?_
    intro r8 M2 hq2
    rw [hy] at hq2
    obtain ⟨⟨u, e1⟩, e2, e3, J2⟩ := ask_2e J1 R1 hq2
    cases e1
    have hok2 : lo_ok M2.2 := by rw [e3]; exact hok1
    refine ax_istore dL_law__1881 (by decide) rfl ?_
    refine ax_aload_n dL_law__1883 rfl ?_
    refine ax_callV (As := []) (d2 := _) (c1 := c) (n1 := n) (c_X10_thrown (d := 0) (M := M2) hok2) dL_law__1884 mX10_thrown wd_1760 acl_10 (lo_s hok2 90 rfl) rfl (by omega) (by omega) (by omega) rfl rfl (fun _ _ h => by cases h.1) ?_
    rintro r7 _ ⟨q7, rfl⟩; cases q7
    rw [e2]
    refine ax_iload dL_law__1887 rfl ?_
    refine ax_icmp_eq (tgt := 1894) dL_law__1889 (by decide) (fun hc => ?_) (fun hc => ?_)
    rotate_left
    · exact absurd rfl hc
    clear hc
    refine ax_iload dL_law__1894 rfl ?_
    refine ax_if_ne (tgt := 1911) dL_law__1896 (by decide) (fun hc => ?_) (fun hc => ?_)
    rotate_left
    · exact absurd hc hw0
    clear hc
    refine ax_goto (tgt := 2950) dL_law__1911 (by decide) ?_
    exact ax_weak (lw_weak _ _ _) (next _ J2)
theorem lc_distances {l : Launch} {G : ax_G} {b N j c n : Nat} {xs : Nat → Int32} {M : ax_M} {a1 a2 a3 a4 a5 : Int32} (hl9 : l.stackTraces = false) (hj : 6 * j + 6 ≤ N) (hN : N ≤ 3072) (h1 : xs (nI (6 * j + 1)).toNatClampNeg = a1) (h2 : xs (nI (6 * j + 2)).toNatClampNeg = a2) (h3 : xs (nI (6 * j + 3)).toNatClampNeg = a3) (h4 : xs (nI (6 * j + 4)).toNatClampNeg = a4) (h5 : xs (nI (6 * j + 5)).toNatClampNeg = a5) (J0 : jj M) (next : ∀ M2, jj M2 → ax_W l G kL_law_ (ax_FE G (ax_FL G b N xs)) 60 c n M2 2950 [some (av_o 998), some (av_r 1), some (av_r 90), some (av_r 432), some (av_i (nI (6 * j))), none, none, none] []) : ax_W l G kL_law_ (ax_FE G (ax_FL G b N xs)) 60 (c + 4) (n + 24) M 1914 [some (av_o 998), some (av_r 1), some (av_r 90), some (av_r 432), some (av_i (nI (6 * j))), none, none, none] [] := by
  obtain ⟨p, r, lw, es, t, n9, v9, q, J, R⟩ := J0
  have hok := jm_ok J
  refine ax_aload_n dL_law__1914 rfl ?_
  refine ax_aload_n dL_law__1915 rfl ?_
  refine ax_callSW (As := [av_r 1, av_r 432]) (c1 := c) (n1 := n) (w_distances (d := 8) (c := 1) (n := 6) (x_distances hl9 J.1) (lo_s hok 1 rfl) (xA_hL (qk_distances r lw es.length (bkE es))) (xA_hx (qk_distances r lw es.length (bkE es)))) dL_law__1916 mwL_distances wd_1426 rfl (by omega) (by omega) (by omega) rfl rfl (fun _ _ => qw_nx) ?_
  intro r9 M1 hq
  have hqk := qk_distances r lw es.length (bkE es)
  cases hy : qa_distances r lw es.length (bkE es) with
  | inl vv =>
    rw [hy] at hq hqk
    obtain ⟨rfl, M0, hM1, f1, I1⟩ := qw_v hq
    obtain ⟨J1, R1⟩ := ask_1 (M1 := M1) J R f1 I1 (by rw [hM1]; exact sm_pL _ _ _)
    have hok1 := jm_ok J1
    obtain ⟨z, rfl⟩ := hqk
    refine ax_istore dL_law__1919 (by decide) rfl ?_
    refine ax_aload_n dL_law__1921 rfl ?_
    refine ax_callV (As := []) (d2 := _) (c1 := c) (n1 := n) (c_distances (M := M1) hok1 J1.2.1 J1.1.1.2.2.1 J1.2.2.1 J1.2.2.2.1) dL_law__1922 mX10_distances wd_2105 acl_10 (lo_s hok1 90 rfl) rfl (by omega) (by omega) (by omega) rfl rfl (fun _ _ => rql_nx9) ?_
    intro r8 M2 hq2
    rw [hy] at hq2
    obtain ⟨e1, e2, e3, J2⟩ := ask_2l J1 R1 hq2
    cases e1
    have hok2 : lo_ok M2.2 := by rw [e3]; exact hok1
    have e4 : M2.2.2.1 432 (0 : Int32).toNatClampNeg = z := by rw [show M2.2.2.1 = M1.2.2.1 by rw [e3], hM1]; exact pL_rd
    refine ax_lstore dL_law__1925 (by decide) rfl ?_
    refine ax_aload_n dL_law__1927 rfl ?_
    refine ax_callV (As := []) (d2 := _) (c1 := c) (n1 := n) (c_X10_thrown (d := 0) (M := M2) hok2) dL_law__1928 mX10_thrown wd_1760 acl_10 (lo_s hok2 90 rfl) rfl (by omega) (by omega) (by omega) rfl rfl (fun _ _ h => by cases h.1) ?_
    rintro r7 _ ⟨q7, rfl⟩; cases q7
    rw [e2]
    refine ax_iload dL_law__1931 rfl ?_
    refine ax_icmp_eq (tgt := 1938) dL_law__1933 (by decide) (fun hc => ?_) (fun hc => ?_)
    rotate_left
    · exact absurd rfl hc
    clear hc
    refine ax_iload dL_law__1938 rfl ?_
    refine ax_if_ne (tgt := 1954) dL_law__1940 (by decide) (fun hc => ?_) (fun hc => ?_)
    · exact absurd rfl hc
    clear hc
    refine ax_aload_n dL_law__1943 rfl ?_
    refine ax_iconst (v := 0) dL_law__1944 (by decide) ?_
    refine ax_lald dL_law__1945 (lo_s hok2 432 rfl) (by unfold vp_in; decide) ?_
    rw [e4]
    refine ax_lload dL_law__1946 rfl ?_
    refine ax_lcmp dL_law__1948 ?_
    refine ax_if_eq (tgt := 1954) dL_law__1949 (by decide) (fun hc => ?_) (fun hc => ?_)
    · clear hc
      refine ax_goto (tgt := 2950) dL_law__1954 (by decide) ?_
      exact ax_weak (lw_weak _ _ _) (next _ J2)
    · exact absurd ((lg_cmp_eq _ _).mpr rfl) hc
  | inr qq =>
    rw [hy] at hq hqk
    obtain ⟨rfl, hxre⟩ := qw_e (tb := [(2, 1)]) (by decide) hqk hq
    have hw0 : ¬ nI qq.1 = 0 := tb_nz (tb := [(2, 1)]) (by decide) hqk
    obtain ⟨J1, R1⟩ := ask_1e J R hxre
    have hok1 := jm_ok J1
    refine ax_istore dL_law__1919 (by decide) rfl ?_
    refine ax_aload_n dL_law__1921 rfl ?_
    refine ax_callV (As := []) (d2 := _) (c1 := c) (n1 := n) (c_distances (M := M1) hok1 J1.2.1 J1.1.1.2.2.1 J1.2.2.1 J1.2.2.2.1) dL_law__1922 mX10_distances wd_2105 acl_10 (lo_s hok1 90 rfl) rfl (by omega) (by omega) (by omega) rfl rfl (fun _ _ => rql_nx9) ?_
    intro r8 M2 hq2
    rw [hy] at hq2
    obtain ⟨⟨u, e1⟩, e2, e3, J2⟩ := ask_2le J1 R1 hq2
    cases e1
    have hok2 : lo_ok M2.2 := by rw [e3]; exact hok1
    refine ax_lstore dL_law__1925 (by decide) rfl ?_
    refine ax_aload_n dL_law__1927 rfl ?_
    refine ax_callV (As := []) (d2 := _) (c1 := c) (n1 := n) (c_X10_thrown (d := 0) (M := M2) hok2) dL_law__1928 mX10_thrown wd_1760 acl_10 (lo_s hok2 90 rfl) rfl (by omega) (by omega) (by omega) rfl rfl (fun _ _ h => by cases h.1) ?_
    rintro r7 _ ⟨q7, rfl⟩; cases q7
    rw [e2]
    refine ax_iload dL_law__1931 rfl ?_
    refine ax_icmp_eq (tgt := 1938) dL_law__1933 (by decide) (fun hc => ?_) (fun hc => ?_)
    rotate_left
    · exact absurd rfl hc
    clear hc
    refine ax_iload dL_law__1938 rfl ?_
    refine ax_if_ne (tgt := 1954) dL_law__1940 (by decide) (fun hc => ?_) (fun hc => ?_)
    rotate_left
    · exact absurd hc hw0
    clear hc
    refine ax_goto (tgt := 2950) dL_law__1954 (by decide) ?_
    exact ax_weak (lw_weak _ _ _) (next _ J2)
theorem lc_look {l : Launch} {G : ax_G} {b N j c n : Nat} {xs : Nat → Int32} {M : ax_M} {a1 a2 a3 a4 a5 : Int32} (hl9 : l.stackTraces = false) (hj : 6 * j + 6 ≤ N) (hN : N ≤ 3072) (h1 : xs (nI (6 * j + 1)).toNatClampNeg = a1) (h2 : xs (nI (6 * j + 2)).toNatClampNeg = a2) (h3 : xs (nI (6 * j + 3)).toNatClampNeg = a3) (h4 : xs (nI (6 * j + 4)).toNatClampNeg = a4) (h5 : xs (nI (6 * j + 5)).toNatClampNeg = a5) (J0 : jj M) (next : ∀ M2, jj M2 → ax_W l G kL_law_ (ax_FE G (ax_FL G b N xs)) 60 c n M2 2950 [some (av_o 998), some (av_r 1), some (av_r 90), some (av_r 432), some (av_i (nI (6 * j))), none, none, none] []) : ax_W l G kL_law_ (ax_FE G (ax_FL G b N xs)) 60 (c + 4) (n + 24) M 1957 [some (av_o 998), some (av_r 1), some (av_r 90), some (av_r 432), some (av_i (nI (6 * j))), none, none, none] [] := by
  obtain ⟨p, r, lw, es, t, n9, v9, q, J, R⟩ := J0
  have hok := jm_ok J
  refine ax_aload_n dL_law__1957 rfl ?_
  refine ax_aload_n dL_law__1958 rfl ?_
  refine ax_iload dL_law__1959 rfl ?_
  refine ax_iconst (v := 1) dL_law__1961 (by decide) ?_
  refine ax_iadd dL_law__1962 ?_
  rw [show nI (6 * j) + 1 = nI (6 * j + 1) from nI_add _ _]
  refine ax_sld dL_law__1963 (pk_in (6 * j + 1) N (by omega)) ?_
  rw [h1]
  refine ax_aload_n dL_law__1964 rfl ?_
  refine ax_callSW (As := [av_r 1, av_i a1, av_r 432]) (c1 := c) (n1 := n) (w_look (d := 8) (c := 2) (n := 12) a1 (x_look hl9 J.1 a1) (lo_s hok 1 rfl) (xA_hI (qk_look r lw es.length (bkE es) a1)) (xA_hx (qk_look r lw es.length (bkE es) a1))) dL_law__1965 mwL_look wd_1442 rfl (by omega) (by omega) (by omega) rfl rfl (fun _ _ => qw_nx) ?_
  intro r9 M1 hq
  have hqk := qk_look r lw es.length (bkE es) a1
  cases hy : qa_look r lw es.length (bkE es) a1 with
  | inl vv =>
    rw [hy] at hq hqk
    obtain ⟨rfl, M0, hM1, f1, I1⟩ := qw_v hq
    obtain ⟨J1, R1⟩ := ask_1 (M1 := M1) J R f1 I1 (by rw [hM1]; exact sm_pL _ _ _)
    have hok1 := jm_ok J1
    obtain ⟨z, rfl⟩ := hqk
    refine ax_istore dL_law__1968 (by decide) rfl ?_
    refine ax_aload_n dL_law__1970 rfl ?_
    refine ax_aload_n dL_law__1971 rfl ?_
    refine ax_iload dL_law__1972 rfl ?_
    refine ax_iconst (v := 1) dL_law__1974 (by decide) ?_
    refine ax_iadd dL_law__1975 ?_
    rw [show nI (6 * j) + 1 = nI (6 * j + 1) from nI_add _ _]
    refine ax_sld dL_law__1976 (pk_in (6 * j + 1) N (by omega)) ?_
    rw [h1]
    refine ax_callV (As := [av_i a1]) (d2 := _) (c1 := c) (n1 := n) (c_look (M := M1) hok1 J1.2.1 J1.1.1.2.2.1 J1.2.2.1 J1.2.2.2.1 a1) dL_law__1977 mX10_look wd_2121 acl_10 (lo_s hok1 90 rfl) rfl (by omega) (by omega) (by omega) rfl rfl (fun _ _ => rq_nx9) ?_
    intro r8 M2 hq2
    rw [hy] at hq2
    obtain ⟨e1, e2, e3, J2⟩ := ask_2 J1 R1 hq2
    cases e1
    have hok2 : lo_ok M2.2 := by rw [e3]; exact hok1
    have e4 : M2.2.2.1 432 (0 : Int32).toNatClampNeg = z.toInt64 := by rw [show M2.2.2.1 = M1.2.2.1 by rw [e3], hM1]; exact pL_rd
    refine ax_istore dL_law__1980 (by decide) rfl ?_
    refine ax_aload_n dL_law__1982 rfl ?_
    refine ax_callV (As := []) (d2 := _) (c1 := c) (n1 := n) (c_X10_thrown (d := 0) (M := M2) hok2) dL_law__1983 mX10_thrown wd_1760 acl_10 (lo_s hok2 90 rfl) rfl (by omega) (by omega) (by omega) rfl rfl (fun _ _ h => by cases h.1) ?_
    rintro r7 _ ⟨q7, rfl⟩; cases q7
    rw [e2]
    refine ax_iload dL_law__1986 rfl ?_
    refine ax_icmp_eq (tgt := 1993) dL_law__1988 (by decide) (fun hc => ?_) (fun hc => ?_)
    rotate_left
    · exact absurd rfl hc
    clear hc
    refine ax_iload dL_law__1993 rfl ?_
    refine ax_if_ne (tgt := 2010) dL_law__1995 (by decide) (fun hc => ?_) (fun hc => ?_)
    · exact absurd rfl hc
    clear hc
    refine ax_aload_n dL_law__1998 rfl ?_
    refine ax_iconst (v := 0) dL_law__1999 (by decide) ?_
    refine ax_lald dL_law__2000 (lo_s hok2 432 rfl) (by unfold vp_in; decide) ?_
    rw [e4]
    refine ax_iload dL_law__2001 rfl ?_
    refine ax_i2l dL_law__2003 ?_
    refine ax_lcmp dL_law__2004 ?_
    refine ax_if_eq (tgt := 2010) dL_law__2005 (by decide) (fun hc => ?_) (fun hc => ?_)
    · clear hc
      refine ax_goto (tgt := 2950) dL_law__2010 (by decide) ?_
      exact ax_weak (lw_weak _ _ _) (next _ J2)
    · exact absurd ((lg_cmp_eq _ _).mpr rfl) hc
  | inr qq =>
    rw [hy] at hq hqk
    obtain ⟨rfl, hxre⟩ := qw_e (tb := [(1, 1), (2, 2)]) (by decide) hqk hq
    have hw0 : ¬ nI qq.1 = 0 := tb_nz (tb := [(1, 1), (2, 2)]) (by decide) hqk
    obtain ⟨J1, R1⟩ := ask_1e J R hxre
    have hok1 := jm_ok J1
    refine ax_istore dL_law__1968 (by decide) rfl ?_
    refine ax_aload_n dL_law__1970 rfl ?_
    refine ax_aload_n dL_law__1971 rfl ?_
    refine ax_iload dL_law__1972 rfl ?_
    refine ax_iconst (v := 1) dL_law__1974 (by decide) ?_
    refine ax_iadd dL_law__1975 ?_
    rw [show nI (6 * j) + 1 = nI (6 * j + 1) from nI_add _ _]
    refine ax_sld dL_law__1976 (pk_in (6 * j + 1) N (by omega)) ?_
    rw [h1]
    refine ax_callV (As := [av_i a1]) (d2 := _) (c1 := c) (n1 := n) (c_look (M := M1) hok1 J1.2.1 J1.1.1.2.2.1 J1.2.2.1 J1.2.2.2.1 a1) dL_law__1977 mX10_look wd_2121 acl_10 (lo_s hok1 90 rfl) rfl (by omega) (by omega) (by omega) rfl rfl (fun _ _ => rq_nx9) ?_
    intro r8 M2 hq2
    rw [hy] at hq2
    obtain ⟨⟨u, e1⟩, e2, e3, J2⟩ := ask_2e J1 R1 hq2
    cases e1
    have hok2 : lo_ok M2.2 := by rw [e3]; exact hok1
    refine ax_istore dL_law__1980 (by decide) rfl ?_
    refine ax_aload_n dL_law__1982 rfl ?_
    refine ax_callV (As := []) (d2 := _) (c1 := c) (n1 := n) (c_X10_thrown (d := 0) (M := M2) hok2) dL_law__1983 mX10_thrown wd_1760 acl_10 (lo_s hok2 90 rfl) rfl (by omega) (by omega) (by omega) rfl rfl (fun _ _ h => by cases h.1) ?_
    rintro r7 _ ⟨q7, rfl⟩; cases q7
    rw [e2]
    refine ax_iload dL_law__1986 rfl ?_
    refine ax_icmp_eq (tgt := 1993) dL_law__1988 (by decide) (fun hc => ?_) (fun hc => ?_)
    rotate_left
    · exact absurd rfl hc
    clear hc
    refine ax_iload dL_law__1993 rfl ?_
    refine ax_if_ne (tgt := 2010) dL_law__1995 (by decide) (fun hc => ?_) (fun hc => ?_)
    rotate_left
    · exact absurd hc hw0
    clear hc
    refine ax_goto (tgt := 2950) dL_law__2010 (by decide) ?_
    exact ax_weak (lw_weak _ _ _) (next _ J2)
theorem lc_right {l : Launch} {G : ax_G} {b N j c n : Nat} {xs : Nat → Int32} {M : ax_M} {a1 a2 a3 a4 a5 : Int32} (hl9 : l.stackTraces = false) (hj : 6 * j + 6 ≤ N) (hN : N ≤ 3072) (h1 : xs (nI (6 * j + 1)).toNatClampNeg = a1) (h2 : xs (nI (6 * j + 2)).toNatClampNeg = a2) (h3 : xs (nI (6 * j + 3)).toNatClampNeg = a3) (h4 : xs (nI (6 * j + 4)).toNatClampNeg = a4) (h5 : xs (nI (6 * j + 5)).toNatClampNeg = a5) (J0 : jj M) (next : ∀ M2, jj M2 → ax_W l G kL_law_ (ax_FE G (ax_FL G b N xs)) 60 c n M2 2950 [some (av_o 998), some (av_r 1), some (av_r 90), some (av_r 432), some (av_i (nI (6 * j))), none, none, none] []) : ax_W l G kL_law_ (ax_FE G (ax_FL G b N xs)) 60 (c + 4) (n + 24) M 2013 [some (av_o 998), some (av_r 1), some (av_r 90), some (av_r 432), some (av_i (nI (6 * j))), none, none, none] [] := by
  obtain ⟨p, r, lw, es, t, n9, v9, q, J, R⟩ := J0
  have hok := jm_ok J
  refine ax_aload_n dL_law__2013 rfl ?_
  refine ax_aload_n dL_law__2014 rfl ?_
  refine ax_callSW (As := [av_r 1, av_r 432]) (c1 := c) (n1 := n) (w_right (d := 8) (c := 1) (n := 6) (x_right hl9 J.1) (lo_s hok 1 rfl) (xA_hI (qk_right r lw es.length (bkE es))) (xA_hx (qk_right r lw es.length (bkE es)))) dL_law__2015 mwL_right wd_1453 rfl (by omega) (by omega) (by omega) rfl rfl (fun _ _ => qw_nx) ?_
  intro r9 M1 hq
  have hqk := qk_right r lw es.length (bkE es)
  cases hy : qa_right r lw es.length (bkE es) with
  | inl vv =>
    rw [hy] at hq hqk
    obtain ⟨rfl, M0, hM1, f1, I1⟩ := qw_v hq
    obtain ⟨J1, R1⟩ := ask_1 (M1 := M1) J R f1 I1 (by rw [hM1]; exact sm_pL _ _ _)
    have hok1 := jm_ok J1
    obtain ⟨z, rfl⟩ := hqk
    refine ax_istore dL_law__2018 (by decide) rfl ?_
    refine ax_aload_n dL_law__2020 rfl ?_
    refine ax_callV (As := []) (d2 := _) (c1 := c) (n1 := n) (c_right (M := M1) hok1 J1.2.1 J1.1.1.2.2.1 J1.2.2.1 J1.2.2.2.1) dL_law__2021 mX10_right wd_2129 acl_10 (lo_s hok1 90 rfl) rfl (by omega) (by omega) (by omega) rfl rfl (fun _ _ => rq_nx9) ?_
    intro r8 M2 hq2
    rw [hy] at hq2
    obtain ⟨e1, e2, e3, J2⟩ := ask_2 J1 R1 hq2
    cases e1
    have hok2 : lo_ok M2.2 := by rw [e3]; exact hok1
    have e4 : M2.2.2.1 432 (0 : Int32).toNatClampNeg = z.toInt64 := by rw [show M2.2.2.1 = M1.2.2.1 by rw [e3], hM1]; exact pL_rd
    refine ax_istore dL_law__2024 (by decide) rfl ?_
    refine ax_aload_n dL_law__2026 rfl ?_
    refine ax_callV (As := []) (d2 := _) (c1 := c) (n1 := n) (c_X10_thrown (d := 0) (M := M2) hok2) dL_law__2027 mX10_thrown wd_1760 acl_10 (lo_s hok2 90 rfl) rfl (by omega) (by omega) (by omega) rfl rfl (fun _ _ h => by cases h.1) ?_
    rintro r7 _ ⟨q7, rfl⟩; cases q7
    rw [e2]
    refine ax_iload dL_law__2030 rfl ?_
    refine ax_icmp_eq (tgt := 2037) dL_law__2032 (by decide) (fun hc => ?_) (fun hc => ?_)
    rotate_left
    · exact absurd rfl hc
    clear hc
    refine ax_iload dL_law__2037 rfl ?_
    refine ax_if_ne (tgt := 2054) dL_law__2039 (by decide) (fun hc => ?_) (fun hc => ?_)
    · exact absurd rfl hc
    clear hc
    refine ax_aload_n dL_law__2042 rfl ?_
    refine ax_iconst (v := 0) dL_law__2043 (by decide) ?_
    refine ax_lald dL_law__2044 (lo_s hok2 432 rfl) (by unfold vp_in; decide) ?_
    rw [e4]
    refine ax_iload dL_law__2045 rfl ?_
    refine ax_i2l dL_law__2047 ?_
    refine ax_lcmp dL_law__2048 ?_
    refine ax_if_eq (tgt := 2054) dL_law__2049 (by decide) (fun hc => ?_) (fun hc => ?_)
    · clear hc
      refine ax_goto (tgt := 2950) dL_law__2054 (by decide) ?_
      exact ax_weak (lw_weak _ _ _) (next _ J2)
    · exact absurd ((lg_cmp_eq _ _).mpr rfl) hc
  | inr qq =>
    rw [hy] at hq hqk
    obtain ⟨rfl, hxre⟩ := qw_e (tb := [(2, 1)]) (by decide) hqk hq
    have hw0 : ¬ nI qq.1 = 0 := tb_nz (tb := [(2, 1)]) (by decide) hqk
    obtain ⟨J1, R1⟩ := ask_1e J R hxre
    have hok1 := jm_ok J1
    refine ax_istore dL_law__2018 (by decide) rfl ?_
    refine ax_aload_n dL_law__2020 rfl ?_
    refine ax_callV (As := []) (d2 := _) (c1 := c) (n1 := n) (c_right (M := M1) hok1 J1.2.1 J1.1.1.2.2.1 J1.2.2.1 J1.2.2.2.1) dL_law__2021 mX10_right wd_2129 acl_10 (lo_s hok1 90 rfl) rfl (by omega) (by omega) (by omega) rfl rfl (fun _ _ => rq_nx9) ?_
    intro r8 M2 hq2
    rw [hy] at hq2
    obtain ⟨⟨u, e1⟩, e2, e3, J2⟩ := ask_2e J1 R1 hq2
    cases e1
    have hok2 : lo_ok M2.2 := by rw [e3]; exact hok1
    refine ax_istore dL_law__2024 (by decide) rfl ?_
    refine ax_aload_n dL_law__2026 rfl ?_
    refine ax_callV (As := []) (d2 := _) (c1 := c) (n1 := n) (c_X10_thrown (d := 0) (M := M2) hok2) dL_law__2027 mX10_thrown wd_1760 acl_10 (lo_s hok2 90 rfl) rfl (by omega) (by omega) (by omega) rfl rfl (fun _ _ h => by cases h.1) ?_
    rintro r7 _ ⟨q7, rfl⟩; cases q7
    rw [e2]
    refine ax_iload dL_law__2030 rfl ?_
    refine ax_icmp_eq (tgt := 2037) dL_law__2032 (by decide) (fun hc => ?_) (fun hc => ?_)
    rotate_left
    · exact absurd rfl hc
    clear hc
    refine ax_iload dL_law__2037 rfl ?_
    refine ax_if_ne (tgt := 2054) dL_law__2039 (by decide) (fun hc => ?_) (fun hc => ?_)
    rotate_left
    · exact absurd hc hw0
    clear hc
    refine ax_goto (tgt := 2950) dL_law__2054 (by decide) ?_
    exact ax_weak (lw_weak _ _ _) (next _ J2)
theorem lc_nights {l : Launch} {G : ax_G} {b N j c n : Nat} {xs : Nat → Int32} {M : ax_M} {a1 a2 a3 a4 a5 : Int32} (hl9 : l.stackTraces = false) (hj : 6 * j + 6 ≤ N) (hN : N ≤ 3072) (h1 : xs (nI (6 * j + 1)).toNatClampNeg = a1) (h2 : xs (nI (6 * j + 2)).toNatClampNeg = a2) (h3 : xs (nI (6 * j + 3)).toNatClampNeg = a3) (h4 : xs (nI (6 * j + 4)).toNatClampNeg = a4) (h5 : xs (nI (6 * j + 5)).toNatClampNeg = a5) (J0 : jj M) (next : ∀ M2, jj M2 → ax_W l G kL_law_ (ax_FE G (ax_FL G b N xs)) 60 c n M2 2950 [some (av_o 998), some (av_r 1), some (av_r 90), some (av_r 432), some (av_i (nI (6 * j))), none, none, none] []) : ax_W l G kL_law_ (ax_FE G (ax_FL G b N xs)) 60 (c + 4) (n + 24) M 2057 [some (av_o 998), some (av_r 1), some (av_r 90), some (av_r 432), some (av_i (nI (6 * j))), none, none, none] [] := by
  obtain ⟨p, r, lw, es, t, n9, v9, q, J, R⟩ := J0
  have hok := jm_ok J
  refine ax_aload_n dL_law__2057 rfl ?_
  refine ax_aload_n dL_law__2058 rfl ?_
  refine ax_iload dL_law__2059 rfl ?_
  refine ax_iconst (v := 1) dL_law__2061 (by decide) ?_
  refine ax_iadd dL_law__2062 ?_
  rw [show nI (6 * j) + 1 = nI (6 * j + 1) from nI_add _ _]
  refine ax_sld dL_law__2063 (pk_in (6 * j + 1) N (by omega)) ?_
  rw [h1]
  refine ax_aload_n dL_law__2064 rfl ?_
  refine ax_iload dL_law__2065 rfl ?_
  refine ax_iconst (v := 2) dL_law__2067 (by decide) ?_
  refine ax_iadd dL_law__2068 ?_
  rw [show nI (6 * j) + 2 = nI (6 * j + 2) from nI_add _ _]
  refine ax_sld dL_law__2069 (pk_in (6 * j + 2) N (by omega)) ?_
  rw [h2]
  refine ax_aload_n dL_law__2070 rfl ?_
  refine ax_iload dL_law__2071 rfl ?_
  refine ax_iconst (v := 3) dL_law__2073 (by decide) ?_
  refine ax_iadd dL_law__2074 ?_
  rw [show nI (6 * j) + 3 = nI (6 * j + 3) from nI_add _ _]
  refine ax_sld dL_law__2075 (pk_in (6 * j + 3) N (by omega)) ?_
  rw [h3]
  refine ax_aload_n dL_law__2076 rfl ?_
  refine ax_callSW (As := [av_r 1, av_i a1, av_i a2, av_i a3, av_r 432]) (c1 := c) (n1 := n) (w_nights (d := 8) (c := 2) (n := 12) a1 a2 a3 (x_nights hl9 J.1 a1 a2 a3) (lo_s hok 1 rfl) (xA_hI (qk_nights r lw a1 a2 a3)) (xA_hx (qk_nights r lw a1 a2 a3))) dL_law__2077 mwL_nights wd_1460 rfl (by omega) (by omega) (by omega) rfl rfl (fun _ _ => qw_nx) ?_
  intro r9 M1 hq
  have hqk := qk_nights r lw a1 a2 a3
  cases hy : qa_nights r lw a1 a2 a3 with
  | inl vv =>
    rw [hy] at hq hqk
    obtain ⟨rfl, M0, hM1, f1, I1⟩ := qw_v hq
    obtain ⟨J1, R1⟩ := ask_1 (M1 := M1) J R f1 I1 (by rw [hM1]; exact sm_pL _ _ _)
    have hok1 := jm_ok J1
    obtain ⟨z, rfl⟩ := hqk
    refine ax_istore dL_law__2080 (by decide) rfl ?_
    refine ax_aload_n dL_law__2082 rfl ?_
    refine ax_aload_n dL_law__2083 rfl ?_
    refine ax_iload dL_law__2084 rfl ?_
    refine ax_iconst (v := 1) dL_law__2086 (by decide) ?_
    refine ax_iadd dL_law__2087 ?_
    rw [show nI (6 * j) + 1 = nI (6 * j + 1) from nI_add _ _]
    refine ax_sld dL_law__2088 (pk_in (6 * j + 1) N (by omega)) ?_
    rw [h1]
    refine ax_aload_n dL_law__2089 rfl ?_
    refine ax_iload dL_law__2090 rfl ?_
    refine ax_iconst (v := 2) dL_law__2092 (by decide) ?_
    refine ax_iadd dL_law__2093 ?_
    rw [show nI (6 * j) + 2 = nI (6 * j + 2) from nI_add _ _]
    refine ax_sld dL_law__2094 (pk_in (6 * j + 2) N (by omega)) ?_
    rw [h2]
    refine ax_aload_n dL_law__2095 rfl ?_
    refine ax_iload dL_law__2096 rfl ?_
    refine ax_iconst (v := 3) dL_law__2098 (by decide) ?_
    refine ax_iadd dL_law__2099 ?_
    rw [show nI (6 * j) + 3 = nI (6 * j + 3) from nI_add _ _]
    refine ax_sld dL_law__2100 (pk_in (6 * j + 3) N (by omega)) ?_
    rw [h3]
    refine ax_callV (As := [av_i a1, av_i a2, av_i a3]) (d2 := _) (c1 := c) (n1 := n) (c_nights (M := M1) hok1 J1.2.1 J1.1.1.2.2.1 J1.2.2.1 a1 a2 a3) dL_law__2101 mX10_nights wd_2133 acl_10 (lo_s hok1 90 rfl) rfl (by omega) (by omega) (by omega) rfl rfl (fun _ _ => rq_nx9) ?_
    intro r8 M2 hq2
    rw [hy] at hq2
    obtain ⟨e1, e2, e3, J2⟩ := ask_2 J1 R1 hq2
    cases e1
    have hok2 : lo_ok M2.2 := by rw [e3]; exact hok1
    have e4 : M2.2.2.1 432 (0 : Int32).toNatClampNeg = z.toInt64 := by rw [show M2.2.2.1 = M1.2.2.1 by rw [e3], hM1]; exact pL_rd
    refine ax_istore dL_law__2104 (by decide) rfl ?_
    refine ax_aload_n dL_law__2106 rfl ?_
    refine ax_callV (As := []) (d2 := _) (c1 := c) (n1 := n) (c_X10_thrown (d := 0) (M := M2) hok2) dL_law__2107 mX10_thrown wd_1760 acl_10 (lo_s hok2 90 rfl) rfl (by omega) (by omega) (by omega) rfl rfl (fun _ _ h => by cases h.1) ?_
    rintro r7 _ ⟨q7, rfl⟩; cases q7
    rw [e2]
    refine ax_iload dL_law__2110 rfl ?_
    refine ax_icmp_eq (tgt := 2117) dL_law__2112 (by decide) (fun hc => ?_) (fun hc => ?_)
    rotate_left
    · exact absurd rfl hc
    clear hc
    refine ax_iload dL_law__2117 rfl ?_
    refine ax_if_ne (tgt := 2134) dL_law__2119 (by decide) (fun hc => ?_) (fun hc => ?_)
    · exact absurd rfl hc
    clear hc
    refine ax_aload_n dL_law__2122 rfl ?_
    refine ax_iconst (v := 0) dL_law__2123 (by decide) ?_
    refine ax_lald dL_law__2124 (lo_s hok2 432 rfl) (by unfold vp_in; decide) ?_
    rw [e4]
    refine ax_iload dL_law__2125 rfl ?_
    refine ax_i2l dL_law__2127 ?_
    refine ax_lcmp dL_law__2128 ?_
    refine ax_if_eq (tgt := 2134) dL_law__2129 (by decide) (fun hc => ?_) (fun hc => ?_)
    · clear hc
      refine ax_goto (tgt := 2950) dL_law__2134 (by decide) ?_
      exact ax_weak (lw_weak _ _ _) (next _ J2)
    · exact absurd ((lg_cmp_eq _ _).mpr rfl) hc
  | inr qq =>
    rw [hy] at hq hqk
    obtain ⟨rfl, hxre⟩ := qw_e (tb := [(1, 1)]) (by decide) hqk hq
    have hw0 : ¬ nI qq.1 = 0 := tb_nz (tb := [(1, 1)]) (by decide) hqk
    obtain ⟨J1, R1⟩ := ask_1e J R hxre
    have hok1 := jm_ok J1
    refine ax_istore dL_law__2080 (by decide) rfl ?_
    refine ax_aload_n dL_law__2082 rfl ?_
    refine ax_aload_n dL_law__2083 rfl ?_
    refine ax_iload dL_law__2084 rfl ?_
    refine ax_iconst (v := 1) dL_law__2086 (by decide) ?_
    refine ax_iadd dL_law__2087 ?_
    rw [show nI (6 * j) + 1 = nI (6 * j + 1) from nI_add _ _]
    refine ax_sld dL_law__2088 (pk_in (6 * j + 1) N (by omega)) ?_
    rw [h1]
    refine ax_aload_n dL_law__2089 rfl ?_
    refine ax_iload dL_law__2090 rfl ?_
    refine ax_iconst (v := 2) dL_law__2092 (by decide) ?_
    refine ax_iadd dL_law__2093 ?_
    rw [show nI (6 * j) + 2 = nI (6 * j + 2) from nI_add _ _]
    refine ax_sld dL_law__2094 (pk_in (6 * j + 2) N (by omega)) ?_
    rw [h2]
    refine ax_aload_n dL_law__2095 rfl ?_
    refine ax_iload dL_law__2096 rfl ?_
    refine ax_iconst (v := 3) dL_law__2098 (by decide) ?_
    refine ax_iadd dL_law__2099 ?_
    rw [show nI (6 * j) + 3 = nI (6 * j + 3) from nI_add _ _]
    refine ax_sld dL_law__2100 (pk_in (6 * j + 3) N (by omega)) ?_
    rw [h3]
    refine ax_callV (As := [av_i a1, av_i a2, av_i a3]) (d2 := _) (c1 := c) (n1 := n) (c_nights (M := M1) hok1 J1.2.1 J1.1.1.2.2.1 J1.2.2.1 a1 a2 a3) dL_law__2101 mX10_nights wd_2133 acl_10 (lo_s hok1 90 rfl) rfl (by omega) (by omega) (by omega) rfl rfl (fun _ _ => rq_nx9) ?_
    intro r8 M2 hq2
    rw [hy] at hq2
    obtain ⟨⟨u, e1⟩, e2, e3, J2⟩ := ask_2e J1 R1 hq2
    cases e1
    have hok2 : lo_ok M2.2 := by rw [e3]; exact hok1
    refine ax_istore dL_law__2104 (by decide) rfl ?_
    refine ax_aload_n dL_law__2106 rfl ?_
    refine ax_callV (As := []) (d2 := _) (c1 := c) (n1 := n) (c_X10_thrown (d := 0) (M := M2) hok2) dL_law__2107 mX10_thrown wd_1760 acl_10 (lo_s hok2 90 rfl) rfl (by omega) (by omega) (by omega) rfl rfl (fun _ _ h => by cases h.1) ?_
    rintro r7 _ ⟨q7, rfl⟩; cases q7
    rw [e2]
    refine ax_iload dL_law__2110 rfl ?_
    refine ax_icmp_eq (tgt := 2117) dL_law__2112 (by decide) (fun hc => ?_) (fun hc => ?_)
    rotate_left
    · exact absurd rfl hc
    clear hc
    refine ax_iload dL_law__2117 rfl ?_
    refine ax_if_ne (tgt := 2134) dL_law__2119 (by decide) (fun hc => ?_) (fun hc => ?_)
    rotate_left
    · exact absurd hc hw0
    clear hc
    refine ax_goto (tgt := 2950) dL_law__2134 (by decide) ?_
    exact ax_weak (lw_weak _ _ _) (next _ J2)
theorem lc_darkest {l : Launch} {G : ax_G} {b N j c n : Nat} {xs : Nat → Int32} {M : ax_M} {a1 a2 a3 a4 a5 : Int32} (hl9 : l.stackTraces = false) (hj : 6 * j + 6 ≤ N) (hN : N ≤ 3072) (h1 : xs (nI (6 * j + 1)).toNatClampNeg = a1) (h2 : xs (nI (6 * j + 2)).toNatClampNeg = a2) (h3 : xs (nI (6 * j + 3)).toNatClampNeg = a3) (h4 : xs (nI (6 * j + 4)).toNatClampNeg = a4) (h5 : xs (nI (6 * j + 5)).toNatClampNeg = a5) (J0 : jj M) (next : ∀ M2, jj M2 → ax_W l G kL_law_ (ax_FE G (ax_FL G b N xs)) 60 c n M2 2950 [some (av_o 998), some (av_r 1), some (av_r 90), some (av_r 432), some (av_i (nI (6 * j))), none, none, none] []) : ax_W l G kL_law_ (ax_FE G (ax_FL G b N xs)) 60 (c + 4) (n + 24) M 2137 [some (av_o 998), some (av_r 1), some (av_r 90), some (av_r 432), some (av_i (nI (6 * j))), none, none, none] [] := by
  obtain ⟨p, r, lw, es, t, n9, v9, q, J, R⟩ := J0
  have hok := jm_ok J
  refine ax_aload_n dL_law__2137 rfl ?_
  refine ax_aload_n dL_law__2138 rfl ?_
  refine ax_iload dL_law__2139 rfl ?_
  refine ax_iconst (v := 1) dL_law__2141 (by decide) ?_
  refine ax_iadd dL_law__2142 ?_
  rw [show nI (6 * j) + 1 = nI (6 * j + 1) from nI_add _ _]
  refine ax_sld dL_law__2143 (pk_in (6 * j + 1) N (by omega)) ?_
  rw [h1]
  refine ax_aload_n dL_law__2144 rfl ?_
  refine ax_callSW (As := [av_r 1, av_i a1, av_r 432]) (c1 := c) (n1 := n) (w_darkest (d := 8) (c := 1) (n := 6) a1 (x_darkest hl9 J.1 a1) (lo_s hok 1 rfl) (xA_hI (qk_darkest r lw a1)) (xA_hx (qk_darkest r lw a1))) dL_law__2145 mwL_darkest wd_1476 rfl (by omega) (by omega) (by omega) rfl rfl (fun _ _ => qw_nx) ?_
  intro r9 M1 hq
  have hqk := qk_darkest r lw a1
  cases hy : qa_darkest r lw a1 with
  | inl vv =>
    rw [hy] at hq hqk
    obtain ⟨rfl, M0, hM1, f1, I1⟩ := qw_v hq
    obtain ⟨J1, R1⟩ := ask_1 (M1 := M1) J R f1 I1 (by rw [hM1]; exact sm_pL _ _ _)
    have hok1 := jm_ok J1
    obtain ⟨z, rfl⟩ := hqk
    refine ax_istore dL_law__2148 (by decide) rfl ?_
    refine ax_aload_n dL_law__2150 rfl ?_
    refine ax_aload_n dL_law__2151 rfl ?_
    refine ax_iload dL_law__2152 rfl ?_
    refine ax_iconst (v := 1) dL_law__2154 (by decide) ?_
    refine ax_iadd dL_law__2155 ?_
    rw [show nI (6 * j) + 1 = nI (6 * j + 1) from nI_add _ _]
    refine ax_sld dL_law__2156 (pk_in (6 * j + 1) N (by omega)) ?_
    rw [h1]
    refine ax_callV (As := [av_i a1]) (d2 := _) (c1 := c) (n1 := n) (c_darkest (M := M1) hok1 J1.2.1 J1.1.1.2.2.1 J1.2.2.1 a1) dL_law__2157 mX10_darkest wd_2146 acl_10 (lo_s hok1 90 rfl) rfl (by omega) (by omega) (by omega) rfl rfl (fun _ _ => rq_nx9) ?_
    intro r8 M2 hq2
    rw [hy] at hq2
    obtain ⟨e1, e2, e3, J2⟩ := ask_2 J1 R1 hq2
    cases e1
    have hok2 : lo_ok M2.2 := by rw [e3]; exact hok1
    have e4 : M2.2.2.1 432 (0 : Int32).toNatClampNeg = z.toInt64 := by rw [show M2.2.2.1 = M1.2.2.1 by rw [e3], hM1]; exact pL_rd
    refine ax_istore dL_law__2160 (by decide) rfl ?_
    refine ax_aload_n dL_law__2162 rfl ?_
    refine ax_callV (As := []) (d2 := _) (c1 := c) (n1 := n) (c_X10_thrown (d := 0) (M := M2) hok2) dL_law__2163 mX10_thrown wd_1760 acl_10 (lo_s hok2 90 rfl) rfl (by omega) (by omega) (by omega) rfl rfl (fun _ _ h => by cases h.1) ?_
    rintro r7 _ ⟨q7, rfl⟩; cases q7
    rw [e2]
    refine ax_iload dL_law__2166 rfl ?_
    refine ax_icmp_eq (tgt := 2173) dL_law__2168 (by decide) (fun hc => ?_) (fun hc => ?_)
    rotate_left
    · exact absurd rfl hc
    clear hc
    refine ax_iload dL_law__2173 rfl ?_
    refine ax_if_ne (tgt := 2190) dL_law__2175 (by decide) (fun hc => ?_) (fun hc => ?_)
    · exact absurd rfl hc
    clear hc
    refine ax_aload_n dL_law__2178 rfl ?_
    refine ax_iconst (v := 0) dL_law__2179 (by decide) ?_
    refine ax_lald dL_law__2180 (lo_s hok2 432 rfl) (by unfold vp_in; decide) ?_
    rw [e4]
    refine ax_iload dL_law__2181 rfl ?_
    refine ax_i2l dL_law__2183 ?_
    refine ax_lcmp dL_law__2184 ?_
    refine ax_if_eq (tgt := 2190) dL_law__2185 (by decide) (fun hc => ?_) (fun hc => ?_)
    · clear hc
      refine ax_goto (tgt := 2950) dL_law__2190 (by decide) ?_
      exact ax_weak (lw_weak _ _ _) (next _ J2)
    · exact absurd ((lg_cmp_eq _ _).mpr rfl) hc
  | inr qq =>
    rw [hy] at hq hqk
    obtain ⟨rfl, hxre⟩ := qw_e (tb := [(1, 1)]) (by decide) hqk hq
    have hw0 : ¬ nI qq.1 = 0 := tb_nz (tb := [(1, 1)]) (by decide) hqk
    obtain ⟨J1, R1⟩ := ask_1e J R hxre
    have hok1 := jm_ok J1
    refine ax_istore dL_law__2148 (by decide) rfl ?_
    refine ax_aload_n dL_law__2150 rfl ?_
    refine ax_aload_n dL_law__2151 rfl ?_
    refine ax_iload dL_law__2152 rfl ?_
    refine ax_iconst (v := 1) dL_law__2154 (by decide) ?_
    refine ax_iadd dL_law__2155 ?_
    rw [show nI (6 * j) + 1 = nI (6 * j + 1) from nI_add _ _]
    refine ax_sld dL_law__2156 (pk_in (6 * j + 1) N (by omega)) ?_
    rw [h1]
    refine ax_callV (As := [av_i a1]) (d2 := _) (c1 := c) (n1 := n) (c_darkest (M := M1) hok1 J1.2.1 J1.1.1.2.2.1 J1.2.2.1 a1) dL_law__2157 mX10_darkest wd_2146 acl_10 (lo_s hok1 90 rfl) rfl (by omega) (by omega) (by omega) rfl rfl (fun _ _ => rq_nx9) ?_
    intro r8 M2 hq2
    rw [hy] at hq2
    obtain ⟨⟨u, e1⟩, e2, e3, J2⟩ := ask_2e J1 R1 hq2
    cases e1
    have hok2 : lo_ok M2.2 := by rw [e3]; exact hok1
    refine ax_istore dL_law__2160 (by decide) rfl ?_
    refine ax_aload_n dL_law__2162 rfl ?_
    refine ax_callV (As := []) (d2 := _) (c1 := c) (n1 := n) (c_X10_thrown (d := 0) (M := M2) hok2) dL_law__2163 mX10_thrown wd_1760 acl_10 (lo_s hok2 90 rfl) rfl (by omega) (by omega) (by omega) rfl rfl (fun _ _ h => by cases h.1) ?_
    rintro r7 _ ⟨q7, rfl⟩; cases q7
    rw [e2]
    refine ax_iload dL_law__2166 rfl ?_
    refine ax_icmp_eq (tgt := 2173) dL_law__2168 (by decide) (fun hc => ?_) (fun hc => ?_)
    rotate_left
    · exact absurd rfl hc
    clear hc
    refine ax_iload dL_law__2173 rfl ?_
    refine ax_if_ne (tgt := 2190) dL_law__2175 (by decide) (fun hc => ?_) (fun hc => ?_)
    rotate_left
    · exact absurd hc hw0
    clear hc
    refine ax_goto (tgt := 2950) dL_law__2190 (by decide) ?_
    exact ax_weak (lw_weak _ _ _) (next _ J2)
theorem lc_dark {l : Launch} {G : ax_G} {b N j c n : Nat} {xs : Nat → Int32} {M : ax_M} {a1 a2 a3 a4 a5 : Int32} (hl9 : l.stackTraces = false) (hj : 6 * j + 6 ≤ N) (hN : N ≤ 3072) (h1 : xs (nI (6 * j + 1)).toNatClampNeg = a1) (h2 : xs (nI (6 * j + 2)).toNatClampNeg = a2) (h3 : xs (nI (6 * j + 3)).toNatClampNeg = a3) (h4 : xs (nI (6 * j + 4)).toNatClampNeg = a4) (h5 : xs (nI (6 * j + 5)).toNatClampNeg = a5) (J0 : jj M) (next : ∀ M2, jj M2 → ax_W l G kL_law_ (ax_FE G (ax_FL G b N xs)) 60 c n M2 2950 [some (av_o 998), some (av_r 1), some (av_r 90), some (av_r 432), some (av_i (nI (6 * j))), none, none, none] []) : ax_W l G kL_law_ (ax_FE G (ax_FL G b N xs)) 60 (c + 4) (n + 24) M 2193 [some (av_o 998), some (av_r 1), some (av_r 90), some (av_r 432), some (av_i (nI (6 * j))), none, none, none] [] := by
  obtain ⟨p, r, lw, es, t, n9, v9, q, J, R⟩ := J0
  have hok := jm_ok J
  refine ax_aload_n dL_law__2193 rfl ?_
  refine ax_aload_n dL_law__2194 rfl ?_
  refine ax_iload dL_law__2195 rfl ?_
  refine ax_iconst (v := 1) dL_law__2197 (by decide) ?_
  refine ax_iadd dL_law__2198 ?_
  rw [show nI (6 * j) + 1 = nI (6 * j + 1) from nI_add _ _]
  refine ax_sld dL_law__2199 (pk_in (6 * j + 1) N (by omega)) ?_
  rw [h1]
  refine ax_aload_n dL_law__2200 rfl ?_
  refine ax_iload dL_law__2201 rfl ?_
  refine ax_iconst (v := 2) dL_law__2203 (by decide) ?_
  refine ax_iadd dL_law__2204 ?_
  rw [show nI (6 * j) + 2 = nI (6 * j + 2) from nI_add _ _]
  refine ax_sld dL_law__2205 (pk_in (6 * j + 2) N (by omega)) ?_
  rw [h2]
  refine ax_aload_n dL_law__2206 rfl ?_
  refine ax_callSW (As := [av_r 1, av_i a1, av_i a2, av_r 432]) (c1 := c) (n1 := n) (w_dark (d := 8) (c := 2) (n := 12) a1 a2 (x_dark hl9 J.1 a1 a2) (lo_s hok 1 rfl) (xA_hI (qk_dark r lw a1 a2)) (xA_hx (qk_dark r lw a1 a2))) dL_law__2207 mwL_dark wd_1488 rfl (by omega) (by omega) (by omega) rfl rfl (fun _ _ => qw_nx) ?_
  intro r9 M1 hq
  have hqk := qk_dark r lw a1 a2
  cases hy : qa_dark r lw a1 a2 with
  | inl vv =>
    rw [hy] at hq hqk
    obtain ⟨rfl, M0, hM1, f1, I1⟩ := qw_v hq
    obtain ⟨J1, R1⟩ := ask_1 (M1 := M1) J R f1 I1 (by rw [hM1]; exact sm_pL _ _ _)
    have hok1 := jm_ok J1
    obtain ⟨z, rfl⟩ := hqk
    refine ax_istore dL_law__2210 (by decide) rfl ?_
    refine ax_aload_n dL_law__2212 rfl ?_
    refine ax_aload_n dL_law__2213 rfl ?_
    refine ax_iload dL_law__2214 rfl ?_
    refine ax_iconst (v := 1) dL_law__2216 (by decide) ?_
    refine ax_iadd dL_law__2217 ?_
    rw [show nI (6 * j) + 1 = nI (6 * j + 1) from nI_add _ _]
    refine ax_sld dL_law__2218 (pk_in (6 * j + 1) N (by omega)) ?_
    rw [h1]
    refine ax_aload_n dL_law__2219 rfl ?_
    refine ax_iload dL_law__2220 rfl ?_
    refine ax_iconst (v := 2) dL_law__2222 (by decide) ?_
    refine ax_iadd dL_law__2223 ?_
    rw [show nI (6 * j) + 2 = nI (6 * j + 2) from nI_add _ _]
    refine ax_sld dL_law__2224 (pk_in (6 * j + 2) N (by omega)) ?_
    rw [h2]
    refine ax_callV (As := [av_i a1, av_i a2]) (d2 := _) (c1 := c) (n1 := n) (c_dark (M := M1) hok1 J1.2.1 J1.1.1.2.2.1 J1.2.2.1 a1 a2) dL_law__2225 mX10_dark wd_2154 acl_10 (lo_s hok1 90 rfl) rfl (by omega) (by omega) (by omega) rfl rfl (fun _ _ => rq_nx9) ?_
    intro r8 M2 hq2
    rw [hy] at hq2
    obtain ⟨e1, e2, e3, J2⟩ := ask_2 J1 R1 hq2
    cases e1
    have hok2 : lo_ok M2.2 := by rw [e3]; exact hok1
    have e4 : M2.2.2.1 432 (0 : Int32).toNatClampNeg = z.toInt64 := by rw [show M2.2.2.1 = M1.2.2.1 by rw [e3], hM1]; exact pL_rd
    refine ax_istore dL_law__2228 (by decide) rfl ?_
    refine ax_aload_n dL_law__2230 rfl ?_
    refine ax_callV (As := []) (d2 := _) (c1 := c) (n1 := n) (c_X10_thrown (d := 0) (M := M2) hok2) dL_law__2231 mX10_thrown wd_1760 acl_10 (lo_s hok2 90 rfl) rfl (by omega) (by omega) (by omega) rfl rfl (fun _ _ h => by cases h.1) ?_
    rintro r7 _ ⟨q7, rfl⟩; cases q7
    rw [e2]
    refine ax_iload dL_law__2234 rfl ?_
    refine ax_icmp_eq (tgt := 2241) dL_law__2236 (by decide) (fun hc => ?_) (fun hc => ?_)
    rotate_left
    · exact absurd rfl hc
    clear hc
    refine ax_iload dL_law__2241 rfl ?_
    refine ax_if_ne (tgt := 2258) dL_law__2243 (by decide) (fun hc => ?_) (fun hc => ?_)
    · exact absurd rfl hc
    clear hc
    refine ax_aload_n dL_law__2246 rfl ?_
    refine ax_iconst (v := 0) dL_law__2247 (by decide) ?_
    refine ax_lald dL_law__2248 (lo_s hok2 432 rfl) (by unfold vp_in; decide) ?_
    rw [e4]
    refine ax_iload dL_law__2249 rfl ?_
    refine ax_i2l dL_law__2251 ?_
    refine ax_lcmp dL_law__2252 ?_
    refine ax_if_eq (tgt := 2258) dL_law__2253 (by decide) (fun hc => ?_) (fun hc => ?_)
    · clear hc
      refine ax_goto (tgt := 2950) dL_law__2258 (by decide) ?_
      exact ax_weak (lw_weak _ _ _) (next _ J2)
    · exact absurd ((lg_cmp_eq _ _).mpr rfl) hc
  | inr qq =>
    rw [hy] at hq hqk
    obtain ⟨rfl, hxre⟩ := qw_e (tb := [(0, 1), (1, 2)]) (by decide) hqk hq
    have hw0 : ¬ nI qq.1 = 0 := tb_nz (tb := [(0, 1), (1, 2)]) (by decide) hqk
    obtain ⟨J1, R1⟩ := ask_1e J R hxre
    have hok1 := jm_ok J1
    refine ax_istore dL_law__2210 (by decide) rfl ?_
    refine ax_aload_n dL_law__2212 rfl ?_
    refine ax_aload_n dL_law__2213 rfl ?_
    refine ax_iload dL_law__2214 rfl ?_
    refine ax_iconst (v := 1) dL_law__2216 (by decide) ?_
    refine ax_iadd dL_law__2217 ?_
    rw [show nI (6 * j) + 1 = nI (6 * j + 1) from nI_add _ _]
    refine ax_sld dL_law__2218 (pk_in (6 * j + 1) N (by omega)) ?_
    rw [h1]
    refine ax_aload_n dL_law__2219 rfl ?_
    refine ax_iload dL_law__2220 rfl ?_
    refine ax_iconst (v := 2) dL_law__2222 (by decide) ?_
    refine ax_iadd dL_law__2223 ?_
    rw [show nI (6 * j) + 2 = nI (6 * j + 2) from nI_add _ _]
    refine ax_sld dL_law__2224 (pk_in (6 * j + 2) N (by omega)) ?_
    rw [h2]
    refine ax_callV (As := [av_i a1, av_i a2]) (d2 := _) (c1 := c) (n1 := n) (c_dark (M := M1) hok1 J1.2.1 J1.1.1.2.2.1 J1.2.2.1 a1 a2) dL_law__2225 mX10_dark wd_2154 acl_10 (lo_s hok1 90 rfl) rfl (by omega) (by omega) (by omega) rfl rfl (fun _ _ => rq_nx9) ?_
    intro r8 M2 hq2
    rw [hy] at hq2
    obtain ⟨⟨u, e1⟩, e2, e3, J2⟩ := ask_2e J1 R1 hq2
    cases e1
    have hok2 : lo_ok M2.2 := by rw [e3]; exact hok1
    refine ax_istore dL_law__2228 (by decide) rfl ?_
    refine ax_aload_n dL_law__2230 rfl ?_
    refine ax_callV (As := []) (d2 := _) (c1 := c) (n1 := n) (c_X10_thrown (d := 0) (M := M2) hok2) dL_law__2231 mX10_thrown wd_1760 acl_10 (lo_s hok2 90 rfl) rfl (by omega) (by omega) (by omega) rfl rfl (fun _ _ h => by cases h.1) ?_
    rintro r7 _ ⟨q7, rfl⟩; cases q7
    rw [e2]
    refine ax_iload dL_law__2234 rfl ?_
    refine ax_icmp_eq (tgt := 2241) dL_law__2236 (by decide) (fun hc => ?_) (fun hc => ?_)
    rotate_left
    · exact absurd rfl hc
    clear hc
    refine ax_iload dL_law__2241 rfl ?_
    refine ax_if_ne (tgt := 2258) dL_law__2243 (by decide) (fun hc => ?_) (fun hc => ?_)
    rotate_left
    · exact absurd hc hw0
    clear hc
    refine ax_goto (tgt := 2950) dL_law__2258 (by decide) ?_
    exact ax_weak (lw_weak _ _ _) (next _ J2)
theorem lc_dips {l : Launch} {G : ax_G} {b N j c n : Nat} {xs : Nat → Int32} {M : ax_M} {a1 a2 a3 a4 a5 : Int32} (hl9 : l.stackTraces = false) (hj : 6 * j + 6 ≤ N) (hN : N ≤ 3072) (h1 : xs (nI (6 * j + 1)).toNatClampNeg = a1) (h2 : xs (nI (6 * j + 2)).toNatClampNeg = a2) (h3 : xs (nI (6 * j + 3)).toNatClampNeg = a3) (h4 : xs (nI (6 * j + 4)).toNatClampNeg = a4) (h5 : xs (nI (6 * j + 5)).toNatClampNeg = a5) (J0 : jj M) (next : ∀ M2, jj M2 → ax_W l G kL_law_ (ax_FE G (ax_FL G b N xs)) 60 c n M2 2950 [some (av_o 998), some (av_r 1), some (av_r 90), some (av_r 432), some (av_i (nI (6 * j))), none, none, none] []) : ax_W l G kL_law_ (ax_FE G (ax_FL G b N xs)) 60 (c + 4) (n + 24) M 2261 [some (av_o 998), some (av_r 1), some (av_r 90), some (av_r 432), some (av_i (nI (6 * j))), none, none, none] [] := by
  obtain ⟨p, r, lw, es, t, n9, v9, q, J, R⟩ := J0
  have hok := jm_ok J
  refine ax_aload_n dL_law__2261 rfl ?_
  refine ax_aload_n dL_law__2262 rfl ?_
  refine ax_iload dL_law__2263 rfl ?_
  refine ax_iconst (v := 1) dL_law__2265 (by decide) ?_
  refine ax_iadd dL_law__2266 ?_
  rw [show nI (6 * j) + 1 = nI (6 * j + 1) from nI_add _ _]
  refine ax_sld dL_law__2267 (pk_in (6 * j + 1) N (by omega)) ?_
  rw [h1]
  refine ax_aload_n dL_law__2268 rfl ?_
  refine ax_iload dL_law__2269 rfl ?_
  refine ax_iconst (v := 2) dL_law__2271 (by decide) ?_
  refine ax_iadd dL_law__2272 ?_
  rw [show nI (6 * j) + 2 = nI (6 * j + 2) from nI_add _ _]
  refine ax_sld dL_law__2273 (pk_in (6 * j + 2) N (by omega)) ?_
  rw [h2]
  refine ax_aload_n dL_law__2274 rfl ?_
  refine ax_callSW (As := [av_r 1, av_i a1, av_i a2, av_r 432]) (c1 := c) (n1 := n) (w_dips (d := 8) (c := 2) (n := 12) a1 a2 (x_dips hl9 J.1 a1 a2) (lo_s hok 1 rfl) (xA_hI (qk_dips r lw a1 a2)) (xA_hx (qk_dips r lw a1 a2))) dL_law__2275 mwL_dips wd_1495 rfl (by omega) (by omega) (by omega) rfl rfl (fun _ _ => qw_nx) ?_
  intro r9 M1 hq
  have hqk := qk_dips r lw a1 a2
  cases hy : qa_dips r lw a1 a2 with
  | inl vv =>
    rw [hy] at hq hqk
    obtain ⟨rfl, M0, hM1, f1, I1⟩ := qw_v hq
    obtain ⟨J1, R1⟩ := ask_1 (M1 := M1) J R f1 I1 (by rw [hM1]; exact sm_pL _ _ _)
    have hok1 := jm_ok J1
    obtain ⟨z, rfl⟩ := hqk
    refine ax_istore dL_law__2278 (by decide) rfl ?_
    refine ax_aload_n dL_law__2280 rfl ?_
    refine ax_aload_n dL_law__2281 rfl ?_
    refine ax_iload dL_law__2282 rfl ?_
    refine ax_iconst (v := 1) dL_law__2284 (by decide) ?_
    refine ax_iadd dL_law__2285 ?_
    rw [show nI (6 * j) + 1 = nI (6 * j + 1) from nI_add _ _]
    refine ax_sld dL_law__2286 (pk_in (6 * j + 1) N (by omega)) ?_
    rw [h1]
    refine ax_aload_n dL_law__2287 rfl ?_
    refine ax_iload dL_law__2288 rfl ?_
    refine ax_iconst (v := 2) dL_law__2290 (by decide) ?_
    refine ax_iadd dL_law__2291 ?_
    rw [show nI (6 * j) + 2 = nI (6 * j + 2) from nI_add _ _]
    refine ax_sld dL_law__2292 (pk_in (6 * j + 2) N (by omega)) ?_
    rw [h2]
    refine ax_callV (As := [av_i a1, av_i a2]) (d2 := _) (c1 := c) (n1 := n) (c_dips (M := M1) hok1 J1.2.1 J1.1.1.2.2.1 J1.2.2.1 a1 a2) dL_law__2293 mX10_dips wd_2162 acl_10 (lo_s hok1 90 rfl) rfl (by omega) (by omega) (by omega) rfl rfl (fun _ _ => rq_nx9) ?_
    intro r8 M2 hq2
    rw [hy] at hq2
    obtain ⟨e1, e2, e3, J2⟩ := ask_2 J1 R1 hq2
    cases e1
    have hok2 : lo_ok M2.2 := by rw [e3]; exact hok1
    have e4 : M2.2.2.1 432 (0 : Int32).toNatClampNeg = z.toInt64 := by rw [show M2.2.2.1 = M1.2.2.1 by rw [e3], hM1]; exact pL_rd
    refine ax_istore dL_law__2296 (by decide) rfl ?_
    refine ax_aload_n dL_law__2298 rfl ?_
    refine ax_callV (As := []) (d2 := _) (c1 := c) (n1 := n) (c_X10_thrown (d := 0) (M := M2) hok2) dL_law__2299 mX10_thrown wd_1760 acl_10 (lo_s hok2 90 rfl) rfl (by omega) (by omega) (by omega) rfl rfl (fun _ _ h => by cases h.1) ?_
    rintro r7 _ ⟨q7, rfl⟩; cases q7
    rw [e2]
    refine ax_iload dL_law__2302 rfl ?_
    refine ax_icmp_eq (tgt := 2309) dL_law__2304 (by decide) (fun hc => ?_) (fun hc => ?_)
    rotate_left
    · exact absurd rfl hc
    clear hc
    refine ax_iload dL_law__2309 rfl ?_
    refine ax_if_ne (tgt := 2326) dL_law__2311 (by decide) (fun hc => ?_) (fun hc => ?_)
    · exact absurd rfl hc
    clear hc
    refine ax_aload_n dL_law__2314 rfl ?_
    refine ax_iconst (v := 0) dL_law__2315 (by decide) ?_
    refine ax_lald dL_law__2316 (lo_s hok2 432 rfl) (by unfold vp_in; decide) ?_
    rw [e4]
    refine ax_iload dL_law__2317 rfl ?_
    refine ax_i2l dL_law__2319 ?_
    refine ax_lcmp dL_law__2320 ?_
    refine ax_if_eq (tgt := 2326) dL_law__2321 (by decide) (fun hc => ?_) (fun hc => ?_)
    · clear hc
      refine ax_goto (tgt := 2950) dL_law__2326 (by decide) ?_
      exact ax_weak (lw_weak _ _ _) (next _ J2)
    · exact absurd ((lg_cmp_eq _ _).mpr rfl) hc
  | inr qq =>
    rw [hy] at hq hqk
    obtain ⟨rfl, hxre⟩ := qw_e (tb := [(0, 1), (1, 2)]) (by decide) hqk hq
    have hw0 : ¬ nI qq.1 = 0 := tb_nz (tb := [(0, 1), (1, 2)]) (by decide) hqk
    obtain ⟨J1, R1⟩ := ask_1e J R hxre
    have hok1 := jm_ok J1
    refine ax_istore dL_law__2278 (by decide) rfl ?_
    refine ax_aload_n dL_law__2280 rfl ?_
    refine ax_aload_n dL_law__2281 rfl ?_
    refine ax_iload dL_law__2282 rfl ?_
    refine ax_iconst (v := 1) dL_law__2284 (by decide) ?_
    refine ax_iadd dL_law__2285 ?_
    rw [show nI (6 * j) + 1 = nI (6 * j + 1) from nI_add _ _]
    refine ax_sld dL_law__2286 (pk_in (6 * j + 1) N (by omega)) ?_
    rw [h1]
    refine ax_aload_n dL_law__2287 rfl ?_
    refine ax_iload dL_law__2288 rfl ?_
    refine ax_iconst (v := 2) dL_law__2290 (by decide) ?_
    refine ax_iadd dL_law__2291 ?_
    rw [show nI (6 * j) + 2 = nI (6 * j + 2) from nI_add _ _]
    refine ax_sld dL_law__2292 (pk_in (6 * j + 2) N (by omega)) ?_
    rw [h2]
    refine ax_callV (As := [av_i a1, av_i a2]) (d2 := _) (c1 := c) (n1 := n) (c_dips (M := M1) hok1 J1.2.1 J1.1.1.2.2.1 J1.2.2.1 a1 a2) dL_law__2293 mX10_dips wd_2162 acl_10 (lo_s hok1 90 rfl) rfl (by omega) (by omega) (by omega) rfl rfl (fun _ _ => rq_nx9) ?_
    intro r8 M2 hq2
    rw [hy] at hq2
    obtain ⟨⟨u, e1⟩, e2, e3, J2⟩ := ask_2e J1 R1 hq2
    cases e1
    have hok2 : lo_ok M2.2 := by rw [e3]; exact hok1
    refine ax_istore dL_law__2296 (by decide) rfl ?_
    refine ax_aload_n dL_law__2298 rfl ?_
    refine ax_callV (As := []) (d2 := _) (c1 := c) (n1 := n) (c_X10_thrown (d := 0) (M := M2) hok2) dL_law__2299 mX10_thrown wd_1760 acl_10 (lo_s hok2 90 rfl) rfl (by omega) (by omega) (by omega) rfl rfl (fun _ _ h => by cases h.1) ?_
    rintro r7 _ ⟨q7, rfl⟩; cases q7
    rw [e2]
    refine ax_iload dL_law__2302 rfl ?_
    refine ax_icmp_eq (tgt := 2309) dL_law__2304 (by decide) (fun hc => ?_) (fun hc => ?_)
    rotate_left
    · exact absurd rfl hc
    clear hc
    refine ax_iload dL_law__2309 rfl ?_
    refine ax_if_ne (tgt := 2326) dL_law__2311 (by decide) (fun hc => ?_) (fun hc => ?_)
    rotate_left
    · exact absurd hc hw0
    clear hc
    refine ax_goto (tgt := 2950) dL_law__2326 (by decide) ?_
    exact ax_weak (lw_weak _ _ _) (next _ J2)
theorem lc_gap {l : Launch} {G : ax_G} {b N j c n : Nat} {xs : Nat → Int32} {M : ax_M} {a1 a2 a3 a4 a5 : Int32} (hl9 : l.stackTraces = false) (hj : 6 * j + 6 ≤ N) (hN : N ≤ 3072) (h1 : xs (nI (6 * j + 1)).toNatClampNeg = a1) (h2 : xs (nI (6 * j + 2)).toNatClampNeg = a2) (h3 : xs (nI (6 * j + 3)).toNatClampNeg = a3) (h4 : xs (nI (6 * j + 4)).toNatClampNeg = a4) (h5 : xs (nI (6 * j + 5)).toNatClampNeg = a5) (J0 : jj M) (next : ∀ M2, jj M2 → ax_W l G kL_law_ (ax_FE G (ax_FL G b N xs)) 60 c n M2 2950 [some (av_o 998), some (av_r 1), some (av_r 90), some (av_r 432), some (av_i (nI (6 * j))), none, none, none] []) : ax_W l G kL_law_ (ax_FE G (ax_FL G b N xs)) 60 (c + 4) (n + 24) M 2329 [some (av_o 998), some (av_r 1), some (av_r 90), some (av_r 432), some (av_i (nI (6 * j))), none, none, none] [] := by
  obtain ⟨p, r, lw, es, t, n9, v9, q, J, R⟩ := J0
  have hok := jm_ok J
  refine ax_aload_n dL_law__2329 rfl ?_
  refine ax_aload_n dL_law__2330 rfl ?_
  refine ax_iload dL_law__2331 rfl ?_
  refine ax_iconst (v := 1) dL_law__2333 (by decide) ?_
  refine ax_iadd dL_law__2334 ?_
  rw [show nI (6 * j) + 1 = nI (6 * j + 1) from nI_add _ _]
  refine ax_sld dL_law__2335 (pk_in (6 * j + 1) N (by omega)) ?_
  rw [h1]
  refine ax_aload_n dL_law__2336 rfl ?_
  refine ax_iload dL_law__2337 rfl ?_
  refine ax_iconst (v := 2) dL_law__2339 (by decide) ?_
  refine ax_iadd dL_law__2340 ?_
  rw [show nI (6 * j) + 2 = nI (6 * j + 2) from nI_add _ _]
  refine ax_sld dL_law__2341 (pk_in (6 * j + 2) N (by omega)) ?_
  rw [h2]
  refine ax_aload_n dL_law__2342 rfl ?_
  refine ax_callSW (As := [av_r 1, av_i a1, av_i a2, av_r 432]) (c1 := c) (n1 := n) (w_gap (d := 8) (c := 2) (n := 12) a1 a2 (x_gap hl9 J.1 a1 a2) (lo_s hok 1 rfl) (xA_hI (qk_gap r lw a1 a2)) (xA_hx (qk_gap r lw a1 a2))) dL_law__2343 mwL_gap wd_1506 rfl (by omega) (by omega) (by omega) rfl rfl (fun _ _ => qw_nx) ?_
  intro r9 M1 hq
  have hqk := qk_gap r lw a1 a2
  cases hy : qa_gap r lw a1 a2 with
  | inl vv =>
    rw [hy] at hq hqk
    obtain ⟨rfl, M0, hM1, f1, I1⟩ := qw_v hq
    obtain ⟨J1, R1⟩ := ask_1 (M1 := M1) J R f1 I1 (by rw [hM1]; exact sm_pL _ _ _)
    have hok1 := jm_ok J1
    obtain ⟨z, rfl⟩ := hqk
    refine ax_istore dL_law__2346 (by decide) rfl ?_
    refine ax_aload_n dL_law__2348 rfl ?_
    refine ax_aload_n dL_law__2349 rfl ?_
    refine ax_iload dL_law__2350 rfl ?_
    refine ax_iconst (v := 1) dL_law__2352 (by decide) ?_
    refine ax_iadd dL_law__2353 ?_
    rw [show nI (6 * j) + 1 = nI (6 * j + 1) from nI_add _ _]
    refine ax_sld dL_law__2354 (pk_in (6 * j + 1) N (by omega)) ?_
    rw [h1]
    refine ax_aload_n dL_law__2355 rfl ?_
    refine ax_iload dL_law__2356 rfl ?_
    refine ax_iconst (v := 2) dL_law__2358 (by decide) ?_
    refine ax_iadd dL_law__2359 ?_
    rw [show nI (6 * j) + 2 = nI (6 * j + 2) from nI_add _ _]
    refine ax_sld dL_law__2360 (pk_in (6 * j + 2) N (by omega)) ?_
    rw [h2]
    refine ax_callV (As := [av_i a1, av_i a2]) (d2 := _) (c1 := c) (n1 := n) (c_gap (M := M1) hok1 J1.2.1 J1.1.1.2.2.1 J1.2.2.1 a1 a2) dL_law__2361 mX10_gap wd_2166 acl_10 (lo_s hok1 90 rfl) rfl (by omega) (by omega) (by omega) rfl rfl (fun _ _ => rq_nx9) ?_
    intro r8 M2 hq2
    rw [hy] at hq2
    obtain ⟨e1, e2, e3, J2⟩ := ask_2 J1 R1 hq2
    cases e1
    have hok2 : lo_ok M2.2 := by rw [e3]; exact hok1
    have e4 : M2.2.2.1 432 (0 : Int32).toNatClampNeg = z.toInt64 := by rw [show M2.2.2.1 = M1.2.2.1 by rw [e3], hM1]; exact pL_rd
    refine ax_istore dL_law__2364 (by decide) rfl ?_
    refine ax_aload_n dL_law__2366 rfl ?_
    refine ax_callV (As := []) (d2 := _) (c1 := c) (n1 := n) (c_X10_thrown (d := 0) (M := M2) hok2) dL_law__2367 mX10_thrown wd_1760 acl_10 (lo_s hok2 90 rfl) rfl (by omega) (by omega) (by omega) rfl rfl (fun _ _ h => by cases h.1) ?_
    rintro r7 _ ⟨q7, rfl⟩; cases q7
    rw [e2]
    refine ax_iload dL_law__2370 rfl ?_
    refine ax_icmp_eq (tgt := 2377) dL_law__2372 (by decide) (fun hc => ?_) (fun hc => ?_)
    rotate_left
    · exact absurd rfl hc
    clear hc
    refine ax_iload dL_law__2377 rfl ?_
    refine ax_if_ne (tgt := 2394) dL_law__2379 (by decide) (fun hc => ?_) (fun hc => ?_)
    · exact absurd rfl hc
    clear hc
    refine ax_aload_n dL_law__2382 rfl ?_
    refine ax_iconst (v := 0) dL_law__2383 (by decide) ?_
    refine ax_lald dL_law__2384 (lo_s hok2 432 rfl) (by unfold vp_in; decide) ?_
    rw [e4]
    refine ax_iload dL_law__2385 rfl ?_
    refine ax_i2l dL_law__2387 ?_
    refine ax_lcmp dL_law__2388 ?_
    refine ax_if_eq (tgt := 2394) dL_law__2389 (by decide) (fun hc => ?_) (fun hc => ?_)
    · clear hc
      refine ax_goto (tgt := 2950) dL_law__2394 (by decide) ?_
      exact ax_weak (lw_weak _ _ _) (next _ J2)
    · exact absurd ((lg_cmp_eq _ _).mpr rfl) hc
  | inr qq =>
    rw [hy] at hq hqk
    obtain ⟨rfl, hxre⟩ := qw_e (tb := [(0, 1), (1, 2)]) (by decide) hqk hq
    have hw0 : ¬ nI qq.1 = 0 := tb_nz (tb := [(0, 1), (1, 2)]) (by decide) hqk
    obtain ⟨J1, R1⟩ := ask_1e J R hxre
    have hok1 := jm_ok J1
    refine ax_istore dL_law__2346 (by decide) rfl ?_
    refine ax_aload_n dL_law__2348 rfl ?_
    refine ax_aload_n dL_law__2349 rfl ?_
    refine ax_iload dL_law__2350 rfl ?_
    refine ax_iconst (v := 1) dL_law__2352 (by decide) ?_
    refine ax_iadd dL_law__2353 ?_
    rw [show nI (6 * j) + 1 = nI (6 * j + 1) from nI_add _ _]
    refine ax_sld dL_law__2354 (pk_in (6 * j + 1) N (by omega)) ?_
    rw [h1]
    refine ax_aload_n dL_law__2355 rfl ?_
    refine ax_iload dL_law__2356 rfl ?_
    refine ax_iconst (v := 2) dL_law__2358 (by decide) ?_
    refine ax_iadd dL_law__2359 ?_
    rw [show nI (6 * j) + 2 = nI (6 * j + 2) from nI_add _ _]
    refine ax_sld dL_law__2360 (pk_in (6 * j + 2) N (by omega)) ?_
    rw [h2]
    refine ax_callV (As := [av_i a1, av_i a2]) (d2 := _) (c1 := c) (n1 := n) (c_gap (M := M1) hok1 J1.2.1 J1.1.1.2.2.1 J1.2.2.1 a1 a2) dL_law__2361 mX10_gap wd_2166 acl_10 (lo_s hok1 90 rfl) rfl (by omega) (by omega) (by omega) rfl rfl (fun _ _ => rq_nx9) ?_
    intro r8 M2 hq2
    rw [hy] at hq2
    obtain ⟨⟨u, e1⟩, e2, e3, J2⟩ := ask_2e J1 R1 hq2
    cases e1
    have hok2 : lo_ok M2.2 := by rw [e3]; exact hok1
    refine ax_istore dL_law__2364 (by decide) rfl ?_
    refine ax_aload_n dL_law__2366 rfl ?_
    refine ax_callV (As := []) (d2 := _) (c1 := c) (n1 := n) (c_X10_thrown (d := 0) (M := M2) hok2) dL_law__2367 mX10_thrown wd_1760 acl_10 (lo_s hok2 90 rfl) rfl (by omega) (by omega) (by omega) rfl rfl (fun _ _ h => by cases h.1) ?_
    rintro r7 _ ⟨q7, rfl⟩; cases q7
    rw [e2]
    refine ax_iload dL_law__2370 rfl ?_
    refine ax_icmp_eq (tgt := 2377) dL_law__2372 (by decide) (fun hc => ?_) (fun hc => ?_)
    rotate_left
    · exact absurd rfl hc
    clear hc
    refine ax_iload dL_law__2377 rfl ?_
    refine ax_if_ne (tgt := 2394) dL_law__2379 (by decide) (fun hc => ?_) (fun hc => ?_)
    rotate_left
    · exact absurd hc hw0
    clear hc
    refine ax_goto (tgt := 2950) dL_law__2394 (by decide) ?_
    exact ax_weak (lw_weak _ _ _) (next _ J2)
theorem lc_needs {l : Launch} {G : ax_G} {b N j c n : Nat} {xs : Nat → Int32} {M : ax_M} {a1 a2 a3 a4 a5 : Int32} (hl9 : l.stackTraces = false) (hj : 6 * j + 6 ≤ N) (hN : N ≤ 3072) (h1 : xs (nI (6 * j + 1)).toNatClampNeg = a1) (h2 : xs (nI (6 * j + 2)).toNatClampNeg = a2) (h3 : xs (nI (6 * j + 3)).toNatClampNeg = a3) (h4 : xs (nI (6 * j + 4)).toNatClampNeg = a4) (h5 : xs (nI (6 * j + 5)).toNatClampNeg = a5) (J0 : jj M) (next : ∀ M2, jj M2 → ax_W l G kL_law_ (ax_FE G (ax_FL G b N xs)) 60 c n M2 2950 [some (av_o 998), some (av_r 1), some (av_r 90), some (av_r 432), some (av_i (nI (6 * j))), none, none, none] []) : ax_W l G kL_law_ (ax_FE G (ax_FL G b N xs)) 60 (c + 4) (n + 24) M 2397 [some (av_o 998), some (av_r 1), some (av_r 90), some (av_r 432), some (av_i (nI (6 * j))), none, none, none] [] := by
  obtain ⟨p, r, lw, es, t, n9, v9, q, J, R⟩ := J0
  have hok := jm_ok J
  refine ax_aload_n dL_law__2397 rfl ?_
  refine ax_aload_n dL_law__2398 rfl ?_
  refine ax_iload dL_law__2399 rfl ?_
  refine ax_iconst (v := 1) dL_law__2401 (by decide) ?_
  refine ax_iadd dL_law__2402 ?_
  rw [show nI (6 * j) + 1 = nI (6 * j + 1) from nI_add _ _]
  refine ax_sld dL_law__2403 (pk_in (6 * j + 1) N (by omega)) ?_
  rw [h1]
  refine ax_aload_n dL_law__2404 rfl ?_
  refine ax_callSW (As := [av_r 1, av_i a1, av_r 432]) (c1 := c) (n1 := n) (w_needs (d := 8) (c := 1) (n := 6) a1 (x_needs hl9 J.1 a1) (lo_s hok 1 rfl) (xA_hI (qk_needs r lw a1)) (xA_hx (qk_needs r lw a1))) dL_law__2405 mwL_needs wd_1513 rfl (by omega) (by omega) (by omega) rfl rfl (fun _ _ => qw_nx) ?_
  intro r9 M1 hq
  have hqk := qk_needs r lw a1
  cases hy : qa_needs r lw a1 with
  | inl vv =>
    rw [hy] at hq hqk
    obtain ⟨rfl, M0, hM1, f1, I1⟩ := qw_v hq
    obtain ⟨J1, R1⟩ := ask_1 (M1 := M1) J R f1 I1 (by rw [hM1]; exact sm_pL _ _ _)
    have hok1 := jm_ok J1
    obtain ⟨z, rfl⟩ := hqk
    refine ax_istore dL_law__2408 (by decide) rfl ?_
    refine ax_aload_n dL_law__2410 rfl ?_
    refine ax_aload_n dL_law__2411 rfl ?_
    refine ax_iload dL_law__2412 rfl ?_
    refine ax_iconst (v := 1) dL_law__2414 (by decide) ?_
    refine ax_iadd dL_law__2415 ?_
    rw [show nI (6 * j) + 1 = nI (6 * j + 1) from nI_add _ _]
    refine ax_sld dL_law__2416 (pk_in (6 * j + 1) N (by omega)) ?_
    rw [h1]
    refine ax_callV (As := [av_i a1]) (d2 := _) (c1 := c) (n1 := n) (c_needs (M := M1) hok1 J1.2.1 J1.1.1.2.2.1 J1.2.2.1 a1) dL_law__2417 mX10_needs wd_2158 acl_10 (lo_s hok1 90 rfl) rfl (by omega) (by omega) (by omega) rfl rfl (fun _ _ => rq_nx9) ?_
    intro r8 M2 hq2
    rw [hy] at hq2
    obtain ⟨e1, e2, e3, J2⟩ := ask_2 J1 R1 hq2
    cases e1
    have hok2 : lo_ok M2.2 := by rw [e3]; exact hok1
    have e4 : M2.2.2.1 432 (0 : Int32).toNatClampNeg = z.toInt64 := by rw [show M2.2.2.1 = M1.2.2.1 by rw [e3], hM1]; exact pL_rd
    refine ax_istore dL_law__2420 (by decide) rfl ?_
    refine ax_aload_n dL_law__2422 rfl ?_
    refine ax_callV (As := []) (d2 := _) (c1 := c) (n1 := n) (c_X10_thrown (d := 0) (M := M2) hok2) dL_law__2423 mX10_thrown wd_1760 acl_10 (lo_s hok2 90 rfl) rfl (by omega) (by omega) (by omega) rfl rfl (fun _ _ h => by cases h.1) ?_
    rintro r7 _ ⟨q7, rfl⟩; cases q7
    rw [e2]
    refine ax_iload dL_law__2426 rfl ?_
    refine ax_icmp_eq (tgt := 2433) dL_law__2428 (by decide) (fun hc => ?_) (fun hc => ?_)
    rotate_left
    · exact absurd rfl hc
    clear hc
    refine ax_iload dL_law__2433 rfl ?_
    refine ax_if_ne (tgt := 2450) dL_law__2435 (by decide) (fun hc => ?_) (fun hc => ?_)
    · exact absurd rfl hc
    clear hc
    refine ax_aload_n dL_law__2438 rfl ?_
    refine ax_iconst (v := 0) dL_law__2439 (by decide) ?_
    refine ax_lald dL_law__2440 (lo_s hok2 432 rfl) (by unfold vp_in; decide) ?_
    rw [e4]
    refine ax_iload dL_law__2441 rfl ?_
    refine ax_i2l dL_law__2443 ?_
    refine ax_lcmp dL_law__2444 ?_
    refine ax_if_eq (tgt := 2450) dL_law__2445 (by decide) (fun hc => ?_) (fun hc => ?_)
    · clear hc
      refine ax_goto (tgt := 2950) dL_law__2450 (by decide) ?_
      exact ax_weak (lw_weak _ _ _) (next _ J2)
    · exact absurd ((lg_cmp_eq _ _).mpr rfl) hc
  | inr qq =>
    rw [hy] at hq hqk
    obtain ⟨rfl, hxre⟩ := qw_e (tb := [(1, 1)]) (by decide) hqk hq
    have hw0 : ¬ nI qq.1 = 0 := tb_nz (tb := [(1, 1)]) (by decide) hqk
    obtain ⟨J1, R1⟩ := ask_1e J R hxre
    have hok1 := jm_ok J1
    refine ax_istore dL_law__2408 (by decide) rfl ?_
    refine ax_aload_n dL_law__2410 rfl ?_
    refine ax_aload_n dL_law__2411 rfl ?_
    refine ax_iload dL_law__2412 rfl ?_
    refine ax_iconst (v := 1) dL_law__2414 (by decide) ?_
    refine ax_iadd dL_law__2415 ?_
    rw [show nI (6 * j) + 1 = nI (6 * j + 1) from nI_add _ _]
    refine ax_sld dL_law__2416 (pk_in (6 * j + 1) N (by omega)) ?_
    rw [h1]
    refine ax_callV (As := [av_i a1]) (d2 := _) (c1 := c) (n1 := n) (c_needs (M := M1) hok1 J1.2.1 J1.1.1.2.2.1 J1.2.2.1 a1) dL_law__2417 mX10_needs wd_2158 acl_10 (lo_s hok1 90 rfl) rfl (by omega) (by omega) (by omega) rfl rfl (fun _ _ => rq_nx9) ?_
    intro r8 M2 hq2
    rw [hy] at hq2
    obtain ⟨⟨u, e1⟩, e2, e3, J2⟩ := ask_2e J1 R1 hq2
    cases e1
    have hok2 : lo_ok M2.2 := by rw [e3]; exact hok1
    refine ax_istore dL_law__2420 (by decide) rfl ?_
    refine ax_aload_n dL_law__2422 rfl ?_
    refine ax_callV (As := []) (d2 := _) (c1 := c) (n1 := n) (c_X10_thrown (d := 0) (M := M2) hok2) dL_law__2423 mX10_thrown wd_1760 acl_10 (lo_s hok2 90 rfl) rfl (by omega) (by omega) (by omega) rfl rfl (fun _ _ h => by cases h.1) ?_
    rintro r7 _ ⟨q7, rfl⟩; cases q7
    rw [e2]
    refine ax_iload dL_law__2426 rfl ?_
    refine ax_icmp_eq (tgt := 2433) dL_law__2428 (by decide) (fun hc => ?_) (fun hc => ?_)
    rotate_left
    · exact absurd rfl hc
    clear hc
    refine ax_iload dL_law__2433 rfl ?_
    refine ax_if_ne (tgt := 2450) dL_law__2435 (by decide) (fun hc => ?_) (fun hc => ?_)
    rotate_left
    · exact absurd hc hw0
    clear hc
    refine ax_goto (tgt := 2950) dL_law__2450 (by decide) ?_
    exact ax_weak (lw_weak _ _ _) (next _ J2)
theorem lc_clear {l : Launch} {G : ax_G} {b N j c n : Nat} {xs : Nat → Int32} {M : ax_M} {a1 a2 a3 a4 a5 : Int32} (hl9 : l.stackTraces = false) (hj : 6 * j + 6 ≤ N) (hN : N ≤ 3072) (h1 : xs (nI (6 * j + 1)).toNatClampNeg = a1) (h2 : xs (nI (6 * j + 2)).toNatClampNeg = a2) (h3 : xs (nI (6 * j + 3)).toNatClampNeg = a3) (h4 : xs (nI (6 * j + 4)).toNatClampNeg = a4) (h5 : xs (nI (6 * j + 5)).toNatClampNeg = a5) (J0 : jj M) (next : ∀ M2, jj M2 → ax_W l G kL_law_ (ax_FE G (ax_FL G b N xs)) 60 c n M2 2950 [some (av_o 998), some (av_r 1), some (av_r 90), some (av_r 432), some (av_i (nI (6 * j))), none, none, none] []) : ax_W l G kL_law_ (ax_FE G (ax_FL G b N xs)) 60 (c + 4) (n + 24) M 2453 [some (av_o 998), some (av_r 1), some (av_r 90), some (av_r 432), some (av_i (nI (6 * j))), none, none, none] [] := by
  obtain ⟨p, r, lw, es, t, n9, v9, q, J, R⟩ := J0
  have hok := jm_ok J
  refine ax_aload_n dL_law__2453 rfl ?_
  refine ax_aload_n dL_law__2454 rfl ?_
  refine ax_iload dL_law__2455 rfl ?_
  refine ax_iconst (v := 1) dL_law__2457 (by decide) ?_
  refine ax_iadd dL_law__2458 ?_
  rw [show nI (6 * j) + 1 = nI (6 * j + 1) from nI_add _ _]
  refine ax_sld dL_law__2459 (pk_in (6 * j + 1) N (by omega)) ?_
  rw [h1]
  refine ax_aload_n dL_law__2460 rfl ?_
  refine ax_callSW (As := [av_r 1, av_i a1, av_r 432]) (c1 := c) (n1 := n) (w_clear (d := 8) (c := 1) (n := 6) a1 (x_clear hl9 J.1 a1) (lo_s hok 1 rfl) (xA_hI (qk_clear r lw a1)) (xA_hx (qk_clear r lw a1))) dL_law__2461 mwL_clear wd_1520 rfl (by omega) (by omega) (by omega) rfl rfl (fun _ _ => qw_nx) ?_
  intro r9 M1 hq
  have hqk := qk_clear r lw a1
  cases hy : qa_clear r lw a1 with
  | inl vv =>
    rw [hy] at hq hqk
    obtain ⟨rfl, M0, hM1, f1, I1⟩ := qw_v hq
    obtain ⟨J1, R1⟩ := ask_1 (M1 := M1) J R f1 I1 (by rw [hM1]; exact sm_pL _ _ _)
    have hok1 := jm_ok J1
    obtain ⟨z, rfl⟩ := hqk
    refine ax_istore dL_law__2464 (by decide) rfl ?_
    refine ax_aload_n dL_law__2466 rfl ?_
    refine ax_aload_n dL_law__2467 rfl ?_
    refine ax_iload dL_law__2468 rfl ?_
    refine ax_iconst (v := 1) dL_law__2470 (by decide) ?_
    refine ax_iadd dL_law__2471 ?_
    rw [show nI (6 * j) + 1 = nI (6 * j + 1) from nI_add _ _]
    refine ax_sld dL_law__2472 (pk_in (6 * j + 1) N (by omega)) ?_
    rw [h1]
    refine ax_callV (As := [av_i a1]) (d2 := _) (c1 := c) (n1 := n) (c_clear (M := M1) hok1 J1.2.1 J1.1.1.2.2.1 J1.2.2.1 a1) dL_law__2473 mX10_clear wd_2170 acl_10 (lo_s hok1 90 rfl) rfl (by omega) (by omega) (by omega) rfl rfl (fun _ _ => rq_nx9) ?_
    intro r8 M2 hq2
    rw [hy] at hq2
    obtain ⟨e1, e2, e3, J2⟩ := ask_2 J1 R1 hq2
    cases e1
    have hok2 : lo_ok M2.2 := by rw [e3]; exact hok1
    have e4 : M2.2.2.1 432 (0 : Int32).toNatClampNeg = z.toInt64 := by rw [show M2.2.2.1 = M1.2.2.1 by rw [e3], hM1]; exact pL_rd
    refine ax_istore dL_law__2476 (by decide) rfl ?_
    refine ax_aload_n dL_law__2478 rfl ?_
    refine ax_callV (As := []) (d2 := _) (c1 := c) (n1 := n) (c_X10_thrown (d := 0) (M := M2) hok2) dL_law__2479 mX10_thrown wd_1760 acl_10 (lo_s hok2 90 rfl) rfl (by omega) (by omega) (by omega) rfl rfl (fun _ _ h => by cases h.1) ?_
    rintro r7 _ ⟨q7, rfl⟩; cases q7
    rw [e2]
    refine ax_iload dL_law__2482 rfl ?_
    refine ax_icmp_eq (tgt := 2489) dL_law__2484 (by decide) (fun hc => ?_) (fun hc => ?_)
    rotate_left
    · exact absurd rfl hc
    clear hc
    refine ax_iload dL_law__2489 rfl ?_
    refine ax_if_ne (tgt := 2506) dL_law__2491 (by decide) (fun hc => ?_) (fun hc => ?_)
    · exact absurd rfl hc
    clear hc
    refine ax_aload_n dL_law__2494 rfl ?_
    refine ax_iconst (v := 0) dL_law__2495 (by decide) ?_
    refine ax_lald dL_law__2496 (lo_s hok2 432 rfl) (by unfold vp_in; decide) ?_
    rw [e4]
    refine ax_iload dL_law__2497 rfl ?_
    refine ax_i2l dL_law__2499 ?_
    refine ax_lcmp dL_law__2500 ?_
    refine ax_if_eq (tgt := 2506) dL_law__2501 (by decide) (fun hc => ?_) (fun hc => ?_)
    · clear hc
      refine ax_goto (tgt := 2950) dL_law__2506 (by decide) ?_
      exact ax_weak (lw_weak _ _ _) (next _ J2)
    · exact absurd ((lg_cmp_eq _ _).mpr rfl) hc
  | inr qq =>
    rw [hy] at hq hqk
    obtain ⟨rfl, hxre⟩ := qw_e (tb := [(0, 1)]) (by decide) hqk hq
    have hw0 : ¬ nI qq.1 = 0 := tb_nz (tb := [(0, 1)]) (by decide) hqk
    obtain ⟨J1, R1⟩ := ask_1e J R hxre
    have hok1 := jm_ok J1
    refine ax_istore dL_law__2464 (by decide) rfl ?_
    refine ax_aload_n dL_law__2466 rfl ?_
    refine ax_aload_n dL_law__2467 rfl ?_
    refine ax_iload dL_law__2468 rfl ?_
    refine ax_iconst (v := 1) dL_law__2470 (by decide) ?_
    refine ax_iadd dL_law__2471 ?_
    rw [show nI (6 * j) + 1 = nI (6 * j + 1) from nI_add _ _]
    refine ax_sld dL_law__2472 (pk_in (6 * j + 1) N (by omega)) ?_
    rw [h1]
    refine ax_callV (As := [av_i a1]) (d2 := _) (c1 := c) (n1 := n) (c_clear (M := M1) hok1 J1.2.1 J1.1.1.2.2.1 J1.2.2.1 a1) dL_law__2473 mX10_clear wd_2170 acl_10 (lo_s hok1 90 rfl) rfl (by omega) (by omega) (by omega) rfl rfl (fun _ _ => rq_nx9) ?_
    intro r8 M2 hq2
    rw [hy] at hq2
    obtain ⟨⟨u, e1⟩, e2, e3, J2⟩ := ask_2e J1 R1 hq2
    cases e1
    have hok2 : lo_ok M2.2 := by rw [e3]; exact hok1
    refine ax_istore dL_law__2476 (by decide) rfl ?_
    refine ax_aload_n dL_law__2478 rfl ?_
    refine ax_callV (As := []) (d2 := _) (c1 := c) (n1 := n) (c_X10_thrown (d := 0) (M := M2) hok2) dL_law__2479 mX10_thrown wd_1760 acl_10 (lo_s hok2 90 rfl) rfl (by omega) (by omega) (by omega) rfl rfl (fun _ _ h => by cases h.1) ?_
    rintro r7 _ ⟨q7, rfl⟩; cases q7
    rw [e2]
    refine ax_iload dL_law__2482 rfl ?_
    refine ax_icmp_eq (tgt := 2489) dL_law__2484 (by decide) (fun hc => ?_) (fun hc => ?_)
    rotate_left
    · exact absurd rfl hc
    clear hc
    refine ax_iload dL_law__2489 rfl ?_
    refine ax_if_ne (tgt := 2506) dL_law__2491 (by decide) (fun hc => ?_) (fun hc => ?_)
    rotate_left
    · exact absurd hc hw0
    clear hc
    refine ax_goto (tgt := 2950) dL_law__2506 (by decide) ?_
    exact ax_weak (lw_weak _ _ _) (next _ J2)
theorem lc_paces {l : Launch} {G : ax_G} {b N j c n : Nat} {xs : Nat → Int32} {M : ax_M} {a1 a2 a3 a4 a5 : Int32} (hl9 : l.stackTraces = false) (hj : 6 * j + 6 ≤ N) (hN : N ≤ 3072) (h1 : xs (nI (6 * j + 1)).toNatClampNeg = a1) (h2 : xs (nI (6 * j + 2)).toNatClampNeg = a2) (h3 : xs (nI (6 * j + 3)).toNatClampNeg = a3) (h4 : xs (nI (6 * j + 4)).toNatClampNeg = a4) (h5 : xs (nI (6 * j + 5)).toNatClampNeg = a5) (J0 : jj M) (next : ∀ M2, jj M2 → ax_W l G kL_law_ (ax_FE G (ax_FL G b N xs)) 60 c n M2 2950 [some (av_o 998), some (av_r 1), some (av_r 90), some (av_r 432), some (av_i (nI (6 * j))), none, none, none] []) : ax_W l G kL_law_ (ax_FE G (ax_FL G b N xs)) 60 (c + 4) (n + 24) M 2509 [some (av_o 998), some (av_r 1), some (av_r 90), some (av_r 432), some (av_i (nI (6 * j))), none, none, none] [] := by
  obtain ⟨p, r, lw, es, t, n9, v9, q, J, R⟩ := J0
  have hok := jm_ok J
  refine ax_aload_n dL_law__2509 rfl ?_
  refine ax_aload_n dL_law__2510 rfl ?_
  refine ax_iload dL_law__2511 rfl ?_
  refine ax_iconst (v := 1) dL_law__2513 (by decide) ?_
  refine ax_iadd dL_law__2514 ?_
  rw [show nI (6 * j) + 1 = nI (6 * j + 1) from nI_add _ _]
  refine ax_sld dL_law__2515 (pk_in (6 * j + 1) N (by omega)) ?_
  rw [h1]
  refine ax_aload_n dL_law__2516 rfl ?_
  refine ax_callSW (As := [av_r 1, av_i a1, av_r 432]) (c1 := c) (n1 := n) (w_paces (d := 9) (c := 2) (n := 12) a1 (x_paces hl9 J.1 a1) (lo_s hok 1 rfl) (xA_hI (qk_paces r lw a1)) (xA_hx (qk_paces r lw a1))) dL_law__2517 mwL_paces wd_1527 rfl (by omega) (by omega) (by omega) rfl rfl (fun _ _ => qw_nx) ?_
  intro r9 M1 hq
  have hqk := qk_paces r lw a1
  cases hy : qa_paces r lw a1 with
  | inl vv =>
    rw [hy] at hq hqk
    obtain ⟨rfl, M0, hM1, f1, I1⟩ := qw_v hq
    obtain ⟨J1, R1⟩ := ask_1 (M1 := M1) J R f1 I1 (by rw [hM1]; exact sm_pL _ _ _)
    have hok1 := jm_ok J1
    obtain ⟨z, rfl⟩ := hqk
    refine ax_istore dL_law__2520 (by decide) rfl ?_
    refine ax_aload_n dL_law__2522 rfl ?_
    refine ax_aload_n dL_law__2523 rfl ?_
    refine ax_iload dL_law__2524 rfl ?_
    refine ax_iconst (v := 1) dL_law__2526 (by decide) ?_
    refine ax_iadd dL_law__2527 ?_
    rw [show nI (6 * j) + 1 = nI (6 * j + 1) from nI_add _ _]
    refine ax_sld dL_law__2528 (pk_in (6 * j + 1) N (by omega)) ?_
    rw [h1]
    refine ax_callV (As := [av_i a1]) (d2 := _) (c1 := c) (n1 := n) (c_paces (M := M1) hok1 J1.2.1 J1.1.1.2.2.1 J1.2.2.1 a1) dL_law__2529 mX10_paces wd_2174 acl_10 (lo_s hok1 90 rfl) rfl (by omega) (by omega) (by omega) rfl rfl (fun _ _ => rq_nx9) ?_
    intro r8 M2 hq2
    rw [hy] at hq2
    obtain ⟨e1, e2, e3, J2⟩ := ask_2 J1 R1 hq2
    cases e1
    have hok2 : lo_ok M2.2 := by rw [e3]; exact hok1
    have e4 : M2.2.2.1 432 (0 : Int32).toNatClampNeg = z.toInt64 := by rw [show M2.2.2.1 = M1.2.2.1 by rw [e3], hM1]; exact pL_rd
    refine ax_istore dL_law__2532 (by decide) rfl ?_
    refine ax_aload_n dL_law__2534 rfl ?_
    refine ax_callV (As := []) (d2 := _) (c1 := c) (n1 := n) (c_X10_thrown (d := 0) (M := M2) hok2) dL_law__2535 mX10_thrown wd_1760 acl_10 (lo_s hok2 90 rfl) rfl (by omega) (by omega) (by omega) rfl rfl (fun _ _ h => by cases h.1) ?_
    rintro r7 _ ⟨q7, rfl⟩; cases q7
    rw [e2]
    refine ax_iload dL_law__2538 rfl ?_
    refine ax_icmp_eq (tgt := 2545) dL_law__2540 (by decide) (fun hc => ?_) (fun hc => ?_)
    rotate_left
    · exact absurd rfl hc
    clear hc
    refine ax_iload dL_law__2545 rfl ?_
    refine ax_if_ne (tgt := 2562) dL_law__2547 (by decide) (fun hc => ?_) (fun hc => ?_)
    · exact absurd rfl hc
    clear hc
    refine ax_aload_n dL_law__2550 rfl ?_
    refine ax_iconst (v := 0) dL_law__2551 (by decide) ?_
    refine ax_lald dL_law__2552 (lo_s hok2 432 rfl) (by unfold vp_in; decide) ?_
    rw [e4]
    refine ax_iload dL_law__2553 rfl ?_
    refine ax_i2l dL_law__2555 ?_
    refine ax_lcmp dL_law__2556 ?_
    refine ax_if_eq (tgt := 2562) dL_law__2557 (by decide) (fun hc => ?_) (fun hc => ?_)
    · clear hc
      refine ax_goto (tgt := 2950) dL_law__2562 (by decide) ?_
      exact ax_weak (lw_weak _ _ _) (next _ J2)
    · exact absurd ((lg_cmp_eq _ _).mpr rfl) hc
  | inr qq =>
    rw [hy] at hq hqk
    obtain ⟨rfl, hxre⟩ := qw_e (tb := [(1, 1), (2, 2)]) (by decide) hqk hq
    have hw0 : ¬ nI qq.1 = 0 := tb_nz (tb := [(1, 1), (2, 2)]) (by decide) hqk
    obtain ⟨J1, R1⟩ := ask_1e J R hxre
    have hok1 := jm_ok J1
    refine ax_istore dL_law__2520 (by decide) rfl ?_
    refine ax_aload_n dL_law__2522 rfl ?_
    refine ax_aload_n dL_law__2523 rfl ?_
    refine ax_iload dL_law__2524 rfl ?_
    refine ax_iconst (v := 1) dL_law__2526 (by decide) ?_
    refine ax_iadd dL_law__2527 ?_
    rw [show nI (6 * j) + 1 = nI (6 * j + 1) from nI_add _ _]
    refine ax_sld dL_law__2528 (pk_in (6 * j + 1) N (by omega)) ?_
    rw [h1]
    refine ax_callV (As := [av_i a1]) (d2 := _) (c1 := c) (n1 := n) (c_paces (M := M1) hok1 J1.2.1 J1.1.1.2.2.1 J1.2.2.1 a1) dL_law__2529 mX10_paces wd_2174 acl_10 (lo_s hok1 90 rfl) rfl (by omega) (by omega) (by omega) rfl rfl (fun _ _ => rq_nx9) ?_
    intro r8 M2 hq2
    rw [hy] at hq2
    obtain ⟨⟨u, e1⟩, e2, e3, J2⟩ := ask_2e J1 R1 hq2
    cases e1
    have hok2 : lo_ok M2.2 := by rw [e3]; exact hok1
    refine ax_istore dL_law__2532 (by decide) rfl ?_
    refine ax_aload_n dL_law__2534 rfl ?_
    refine ax_callV (As := []) (d2 := _) (c1 := c) (n1 := n) (c_X10_thrown (d := 0) (M := M2) hok2) dL_law__2535 mX10_thrown wd_1760 acl_10 (lo_s hok2 90 rfl) rfl (by omega) (by omega) (by omega) rfl rfl (fun _ _ h => by cases h.1) ?_
    rintro r7 _ ⟨q7, rfl⟩; cases q7
    rw [e2]
    refine ax_iload dL_law__2538 rfl ?_
    refine ax_icmp_eq (tgt := 2545) dL_law__2540 (by decide) (fun hc => ?_) (fun hc => ?_)
    rotate_left
    · exact absurd rfl hc
    clear hc
    refine ax_iload dL_law__2545 rfl ?_
    refine ax_if_ne (tgt := 2562) dL_law__2547 (by decide) (fun hc => ?_) (fun hc => ?_)
    rotate_left
    · exact absurd hc hw0
    clear hc
    refine ax_goto (tgt := 2950) dL_law__2562 (by decide) ?_
    exact ax_weak (lw_weak _ _ _) (next _ J2)
theorem lc_finds {l : Launch} {G : ax_G} {b N j c n : Nat} {xs : Nat → Int32} {M : ax_M} {a1 a2 a3 a4 a5 : Int32} (hl9 : l.stackTraces = false) (hj : 6 * j + 6 ≤ N) (hN : N ≤ 3072) (h1 : xs (nI (6 * j + 1)).toNatClampNeg = a1) (h2 : xs (nI (6 * j + 2)).toNatClampNeg = a2) (h3 : xs (nI (6 * j + 3)).toNatClampNeg = a3) (h4 : xs (nI (6 * j + 4)).toNatClampNeg = a4) (h5 : xs (nI (6 * j + 5)).toNatClampNeg = a5) (J0 : jj M) (next : ∀ M2, jj M2 → ax_W l G kL_law_ (ax_FE G (ax_FL G b N xs)) 60 c n M2 2950 [some (av_o 998), some (av_r 1), some (av_r 90), some (av_r 432), some (av_i (nI (6 * j))), none, none, none] []) : ax_W l G kL_law_ (ax_FE G (ax_FL G b N xs)) 60 (c + 4) (n + 24) M 2565 [some (av_o 998), some (av_r 1), some (av_r 90), some (av_r 432), some (av_i (nI (6 * j))), none, none, none] [] := by
  obtain ⟨p, r, lw, es, t, n9, v9, q, J, R⟩ := J0
  have hok := jm_ok J
  refine ax_aload_n dL_law__2565 rfl ?_
  refine ax_aload_n dL_law__2566 rfl ?_
  refine ax_iload dL_law__2567 rfl ?_
  refine ax_iconst (v := 1) dL_law__2569 (by decide) ?_
  refine ax_iadd dL_law__2570 ?_
  rw [show nI (6 * j) + 1 = nI (6 * j + 1) from nI_add _ _]
  refine ax_sld dL_law__2571 (pk_in (6 * j + 1) N (by omega)) ?_
  rw [h1]
  refine ax_aload_n dL_law__2572 rfl ?_
  refine ax_iload dL_law__2573 rfl ?_
  refine ax_iconst (v := 2) dL_law__2575 (by decide) ?_
  refine ax_iadd dL_law__2576 ?_
  rw [show nI (6 * j) + 2 = nI (6 * j + 2) from nI_add _ _]
  refine ax_sld dL_law__2577 (pk_in (6 * j + 2) N (by omega)) ?_
  rw [h2]
  refine ax_aload_n dL_law__2578 rfl ?_
  refine ax_callSW (As := [av_r 1, av_i a1, av_i a2, av_r 432]) (c1 := c) (n1 := n) (w_finds (d := 8) (c := 2) (n := 12) a1 a2 (x_finds hl9 J.1 a1 a2) (lo_s hok 1 rfl) (xA_hI (qk_finds r lw a1 a2)) (xA_hx (qk_finds r lw a1 a2))) dL_law__2579 mwL_finds wd_1538 rfl (by omega) (by omega) (by omega) rfl rfl (fun _ _ => qw_nx) ?_
  intro r9 M1 hq
  have hqk := qk_finds r lw a1 a2
  cases hy : qa_finds r lw a1 a2 with
  | inl vv =>
    rw [hy] at hq hqk
    obtain ⟨rfl, M0, hM1, f1, I1⟩ := qw_v hq
    obtain ⟨J1, R1⟩ := ask_1 (M1 := M1) J R f1 I1 (by rw [hM1]; exact sm_pL _ _ _)
    have hok1 := jm_ok J1
    obtain ⟨z, rfl⟩ := hqk
    refine ax_istore dL_law__2582 (by decide) rfl ?_
    refine ax_aload_n dL_law__2584 rfl ?_
    refine ax_aload_n dL_law__2585 rfl ?_
    refine ax_iload dL_law__2586 rfl ?_
    refine ax_iconst (v := 1) dL_law__2588 (by decide) ?_
    refine ax_iadd dL_law__2589 ?_
    rw [show nI (6 * j) + 1 = nI (6 * j + 1) from nI_add _ _]
    refine ax_sld dL_law__2590 (pk_in (6 * j + 1) N (by omega)) ?_
    rw [h1]
    refine ax_aload_n dL_law__2591 rfl ?_
    refine ax_iload dL_law__2592 rfl ?_
    refine ax_iconst (v := 2) dL_law__2594 (by decide) ?_
    refine ax_iadd dL_law__2595 ?_
    rw [show nI (6 * j) + 2 = nI (6 * j + 2) from nI_add _ _]
    refine ax_sld dL_law__2596 (pk_in (6 * j + 2) N (by omega)) ?_
    rw [h2]
    refine ax_callV (As := [av_i a1, av_i a2]) (d2 := _) (c1 := c) (n1 := n) (c_finds (M := M1) hok1 J1.2.1 J1.1.1.2.2.1 J1.2.2.1 a1 a2) dL_law__2597 mX10_finds wd_2178 acl_10 (lo_s hok1 90 rfl) rfl (by omega) (by omega) (by omega) rfl rfl (fun _ _ => rq_nx9) ?_
    intro r8 M2 hq2
    rw [hy] at hq2
    obtain ⟨e1, e2, e3, J2⟩ := ask_2 J1 R1 hq2
    cases e1
    have hok2 : lo_ok M2.2 := by rw [e3]; exact hok1
    have e4 : M2.2.2.1 432 (0 : Int32).toNatClampNeg = z.toInt64 := by rw [show M2.2.2.1 = M1.2.2.1 by rw [e3], hM1]; exact pL_rd
    refine ax_istore dL_law__2600 (by decide) rfl ?_
    refine ax_aload_n dL_law__2602 rfl ?_
    refine ax_callV (As := []) (d2 := _) (c1 := c) (n1 := n) (c_X10_thrown (d := 0) (M := M2) hok2) dL_law__2603 mX10_thrown wd_1760 acl_10 (lo_s hok2 90 rfl) rfl (by omega) (by omega) (by omega) rfl rfl (fun _ _ h => by cases h.1) ?_
    rintro r7 _ ⟨q7, rfl⟩; cases q7
    rw [e2]
    refine ax_iload dL_law__2606 rfl ?_
    refine ax_icmp_eq (tgt := 2613) dL_law__2608 (by decide) (fun hc => ?_) (fun hc => ?_)
    rotate_left
    · exact absurd rfl hc
    clear hc
    refine ax_iload dL_law__2613 rfl ?_
    refine ax_if_ne (tgt := 2630) dL_law__2615 (by decide) (fun hc => ?_) (fun hc => ?_)
    · exact absurd rfl hc
    clear hc
    refine ax_aload_n dL_law__2618 rfl ?_
    refine ax_iconst (v := 0) dL_law__2619 (by decide) ?_
    refine ax_lald dL_law__2620 (lo_s hok2 432 rfl) (by unfold vp_in; decide) ?_
    rw [e4]
    refine ax_iload dL_law__2621 rfl ?_
    refine ax_i2l dL_law__2623 ?_
    refine ax_lcmp dL_law__2624 ?_
    refine ax_if_eq (tgt := 2630) dL_law__2625 (by decide) (fun hc => ?_) (fun hc => ?_)
    · clear hc
      refine ax_goto (tgt := 2950) dL_law__2630 (by decide) ?_
      exact ax_weak (lw_weak _ _ _) (next _ J2)
    · exact absurd ((lg_cmp_eq _ _).mpr rfl) hc
  | inr qq =>
    rw [hy] at hq hqk
    obtain ⟨rfl, hxre⟩ := qw_e (tb := [(0, 1), (1, 2)]) (by decide) hqk hq
    have hw0 : ¬ nI qq.1 = 0 := tb_nz (tb := [(0, 1), (1, 2)]) (by decide) hqk
    obtain ⟨J1, R1⟩ := ask_1e J R hxre
    have hok1 := jm_ok J1
    refine ax_istore dL_law__2582 (by decide) rfl ?_
    refine ax_aload_n dL_law__2584 rfl ?_
    refine ax_aload_n dL_law__2585 rfl ?_
    refine ax_iload dL_law__2586 rfl ?_
    refine ax_iconst (v := 1) dL_law__2588 (by decide) ?_
    refine ax_iadd dL_law__2589 ?_
    rw [show nI (6 * j) + 1 = nI (6 * j + 1) from nI_add _ _]
    refine ax_sld dL_law__2590 (pk_in (6 * j + 1) N (by omega)) ?_
    rw [h1]
    refine ax_aload_n dL_law__2591 rfl ?_
    refine ax_iload dL_law__2592 rfl ?_
    refine ax_iconst (v := 2) dL_law__2594 (by decide) ?_
    refine ax_iadd dL_law__2595 ?_
    rw [show nI (6 * j) + 2 = nI (6 * j + 2) from nI_add _ _]
    refine ax_sld dL_law__2596 (pk_in (6 * j + 2) N (by omega)) ?_
    rw [h2]
    refine ax_callV (As := [av_i a1, av_i a2]) (d2 := _) (c1 := c) (n1 := n) (c_finds (M := M1) hok1 J1.2.1 J1.1.1.2.2.1 J1.2.2.1 a1 a2) dL_law__2597 mX10_finds wd_2178 acl_10 (lo_s hok1 90 rfl) rfl (by omega) (by omega) (by omega) rfl rfl (fun _ _ => rq_nx9) ?_
    intro r8 M2 hq2
    rw [hy] at hq2
    obtain ⟨⟨u, e1⟩, e2, e3, J2⟩ := ask_2e J1 R1 hq2
    cases e1
    have hok2 : lo_ok M2.2 := by rw [e3]; exact hok1
    refine ax_istore dL_law__2600 (by decide) rfl ?_
    refine ax_aload_n dL_law__2602 rfl ?_
    refine ax_callV (As := []) (d2 := _) (c1 := c) (n1 := n) (c_X10_thrown (d := 0) (M := M2) hok2) dL_law__2603 mX10_thrown wd_1760 acl_10 (lo_s hok2 90 rfl) rfl (by omega) (by omega) (by omega) rfl rfl (fun _ _ h => by cases h.1) ?_
    rintro r7 _ ⟨q7, rfl⟩; cases q7
    rw [e2]
    refine ax_iload dL_law__2606 rfl ?_
    refine ax_icmp_eq (tgt := 2613) dL_law__2608 (by decide) (fun hc => ?_) (fun hc => ?_)
    rotate_left
    · exact absurd rfl hc
    clear hc
    refine ax_iload dL_law__2613 rfl ?_
    refine ax_if_ne (tgt := 2630) dL_law__2615 (by decide) (fun hc => ?_) (fun hc => ?_)
    rotate_left
    · exact absurd hc hw0
    clear hc
    refine ax_goto (tgt := 2950) dL_law__2630 (by decide) ?_
    exact ax_weak (lw_weak _ _ _) (next _ J2)

