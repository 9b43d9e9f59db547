/-! ===== the law's loop, its start, the claim (the end as the kit's skeleton has it) ===== -/
theorem ax_less {l : Launch} {G : ax_G} {k : ax_K} {F : ax_F} {d c n c2 n2 : Nat} {M : ax_M} {pc : Nat} {L : List (Option ax_V)} {S : List ax_V} (h : ax_W l G k F d c n M pc L S) : ax_W l G k F d (c + c2) (n + n2) M pc L S := fun p e R s m args below meth cd Z H locs cells slots ls q => h p e R s m args below meth cd Z H locs cells slots ls ⟨q.1, q.2.1, ⟨q.2.2.1.1, q.2.2.1.2.1, by have := q.2.2.1.2.2.1; omega, by have := q.2.2.1.2.2.2; omega⟩, q.2.2.2⟩
section LOOP
variable {l : Launch} {G : ax_G} {b N : Nat} {xs : Nat → Int32}
theorem lw_case {j c n : Nat} {M : ax_M} (hl9 : l.stackTraces = false) (hj : 6 * j + 6 ≤ N) (hN : N ≤ 3072) (J : jj M) (next : ∀ M2, jj M2 → ax_W l G kL_law_ (ax_FE G (ax_FL G b N xs)) 60 c n M2 2950 [some (av_o 998), some (av_r 1), some (av_r 90), some (av_r 432), some (av_i (nI (6 * j))), none, none, none] []) {m : Nat} (hm : m < 64) : ax_W l G kL_law_ (ax_FE G (ax_FL G b N xs)) 60 (c + 4) (n + 24) M 40 [some (av_o 998), some (av_r 1), some (av_r 90), some (av_r 432), some (av_i (nI (6 * j))), none, none, none] [av_i (nI m)] := by
  by_cases h0 : m = 0
  · subst h0
    refine ax_tableIn (off := 204) (tgt := 244) dL_law__40 (by decide) (by decide) rfl (by decide) ?_
    exact lc_feed hl9 hj hN rfl rfl rfl rfl rfl J next
  by_cases h1 : m = 1
  · subst h1
    refine ax_tableIn (off := 277) (tgt := 317) dL_law__40 (by decide) (by decide) rfl (by decide) ?_
    exact lc_road hl9 hj hN rfl rfl rfl rfl rfl J next
  by_cases h2 : m = 2
  · subst h2
    refine ax_tableIn (off := 333) (tgt := 373) dL_law__40 (by decide) (by decide) rfl (by decide) ?_
    exact lc_law hl9 hj hN rfl rfl rfl rfl rfl J next
  by_cases h3 : m = 3
  · subst h3
    refine ax_tableIn (off := 389) (tgt := 429) dL_law__40 (by decide) (by decide) rfl (by decide) ?_
    exact lc_rule hl9 hj hN rfl rfl rfl rfl rfl J next
  by_cases h4 : m = 4
  · subst h4
    refine ax_tableIn (off := 457) (tgt := 497) dL_law__40 (by decide) (by decide) rfl (by decide) ?_
    exact lc_book hl9 hj hN rfl rfl rfl rfl rfl J next
  by_cases h5 : m = 5
  · subst h5
    refine ax_tableIn (off := 513) (tgt := 553) dL_law__40 (by decide) (by decide) rfl (by decide) ?_
    exact lc_fault hl9 hj hN rfl rfl rfl rfl rfl J next
  by_cases h6 : m = 6
  · subst h6
    refine ax_tableIn (off := 526) (tgt := 566) dL_law__40 (by decide) (by decide) rfl (by decide) ?_
    exact lc_told hl9 hj hN rfl rfl rfl rfl rfl J next
  by_cases h7 : m = 7
  · subst h7
    refine ax_tableIn (off := 582) (tgt := 622) dL_law__40 (by decide) (by decide) rfl (by decide) ?_
    exact lc_car hl9 hj hN rfl rfl rfl rfl rfl J next
  by_cases h8 : m = 8
  · subst h8
    refine ax_tableIn (off := 650) (tgt := 690) dL_law__40 (by decide) (by decide) rfl (by decide) ?_
    exact lc_coat hl9 hj hN rfl rfl rfl rfl rfl J next
  by_cases h9 : m = 9
  · subst h9
    refine ax_tableIn (off := 718) (tgt := 758) dL_law__40 (by decide) (by decide) rfl (by decide) ?_
    exact lc_tenths hl9 hj hN rfl rfl rfl rfl rfl J next
  by_cases h10 : m = 10
  · subst h10
    refine ax_tableIn (off := 731) (tgt := 771) dL_law__40 (by decide) (by decide) rfl (by decide) ?_
    exact lc_at hl9 hj hN rfl rfl rfl rfl rfl J next
  by_cases h11 : m = 11
  · subst h11
    refine ax_tableIn (off := 811) (tgt := 851) dL_law__40 (by decide) (by decide) rfl (by decide) ?_
    exact lc_passes hl9 hj hN rfl rfl rfl rfl rfl J next
  by_cases h12 : m = 12
  · subst h12
    refine ax_tableIn (off := 824) (tgt := 864) dL_law__40 (by decide) (by decide) rfl (by decide) ?_
    exact lc_hits hl9 hj hN rfl rfl rfl rfl rfl J next
  by_cases h13 : m = 13
  · subst h13
    refine ax_tableIn (off := 880) (tgt := 920) dL_law__40 (by decide) (by decide) rfl (by decide) ?_
    exact lc_sees hl9 hj hN rfl rfl rfl rfl rfl J next
  by_cases h14 : m = 14
  · subst h14
    refine ax_tableIn (off := 948) (tgt := 988) dL_law__40 (by decide) (by decide) rfl (by decide) ?_
    exact lc_sums hl9 hj hN rfl rfl rfl rfl rfl J next
  by_cases h15 : m = 15
  · subst h15
    refine ax_tableIn (off := 1016) (tgt := 1056) dL_law__40 (by decide) (by decide) rfl (by decide) ?_
    exact lc_would hl9 hj hN rfl rfl rfl rfl rfl J next
  by_cases h16 : m = 16
  · subst h16
    refine ax_tableIn (off := 1108) (tgt := 1148) dL_law__40 (by decide) (by decide) rfl (by decide) ?_
    exact lc_cost hl9 hj hN rfl rfl rfl rfl rfl J next
  by_cases h17 : m = 17
  · subst h17
    refine ax_tableIn (off := 1188) (tgt := 1228) dL_law__40 (by decide) (by decide) rfl (by decide) ?_
    exact lc_duel hl9 hj hN rfl rfl rfl rfl rfl J next
  by_cases h18 : m = 18
  · subst h18
    refine ax_tableIn (off := 1256) (tgt := 1296) dL_law__40 (by decide) (by decide) rfl (by decide) ?_
    exact lc_answer hl9 hj hN rfl rfl rfl rfl rfl J next
  by_cases h19 : m = 19
  · subst h19
    refine ax_tableIn (off := 1324) (tgt := 1364) dL_law__40 (by decide) (by decide) rfl (by decide) ?_
    exact lc_habit hl9 hj hN rfl rfl rfl rfl rfl J next
  by_cases h20 : m = 20
  · subst h20
    refine ax_tableIn (off := 1392) (tgt := 1432) dL_law__40 (by decide) (by decide) rfl (by decide) ?_
    exact lc_safe hl9 hj hN rfl rfl rfl rfl rfl J next
  by_cases h21 : m = 21
  · subst h21
    refine ax_tableIn (off := 1460) (tgt := 1500) dL_law__40 (by decide) (by decide) rfl (by decide) ?_
    exact lc_loaded hl9 hj hN rfl rfl rfl rfl rfl J next
  by_cases h22 : m = 22
  · subst h22
    refine ax_tableIn (off := 1551) (tgt := 1591) dL_law__40 (by decide) (by decide) rfl (by decide) ?_
    exact lc_blinds hl9 hj hN rfl rfl rfl rfl rfl J next
  by_cases h23 : m = 23
  · subst h23
    refine ax_tableIn (off := 1607) (tgt := 1647) dL_law__40 (by decide) (by decide) rfl (by decide) ?_
    exact lc_old hl9 hj hN rfl rfl rfl rfl rfl J next
  by_cases h24 : m = 24
  · subst h24
    refine ax_tableIn (off := 1663) (tgt := 1703) dL_law__40 (by decide) (by decide) rfl (by decide) ?_
    exact lc_between hl9 hj hN rfl rfl rfl rfl rfl J next
  by_cases h25 : m = 25
  · subst h25
    refine ax_tableIn (off := 1738) (tgt := 1778) dL_law__40 (by decide) (by decide) rfl (by decide) ?_
    exact lc_gets hl9 hj hN rfl rfl rfl rfl rfl J next
  by_cases h26 : m = 26
  · subst h26
    refine ax_tableIn (off := 1806) (tgt := 1846) dL_law__40 (by decide) (by decide) rfl (by decide) ?_
    exact lc_bulbs hl9 hj hN rfl rfl rfl rfl rfl J next
  by_cases h27 : m = 27
  · subst h27
    refine ax_tableIn (off := 1874) (tgt := 1914) dL_law__40 (by decide) (by decide) rfl (by decide) ?_
    exact lc_distances hl9 hj hN rfl rfl rfl rfl rfl J next
  by_cases h28 : m = 28
  · subst h28
    refine ax_tableIn (off := 1917) (tgt := 1957) dL_law__40 (by decide) (by decide) rfl (by decide) ?_
    exact lc_look hl9 hj hN rfl rfl rfl rfl rfl J next
  by_cases h29 : m = 29
  · subst h29
    refine ax_tableIn (off := 1973) (tgt := 2013) dL_law__40 (by decide) (by decide) rfl (by decide) ?_
    exact lc_right hl9 hj hN rfl rfl rfl rfl rfl J next
  by_cases h30 : m = 30
  · subst h30
    refine ax_tableIn (off := 2017) (tgt := 2057) dL_law__40 (by decide) (by decide) rfl (by decide) ?_
    exact lc_nights hl9 hj hN rfl rfl rfl rfl rfl J next
  by_cases h31 : m = 31
  · subst h31
    refine ax_tableIn (off := 2097) (tgt := 2137) dL_law__40 (by decide) (by decide) rfl (by decide) ?_
    exact lc_darkest hl9 hj hN rfl rfl rfl rfl rfl J next
  by_cases h32 : m = 32
  · subst h32
    refine ax_tableIn (off := 2153) (tgt := 2193) dL_law__40 (by decide) (by decide) rfl (by decide) ?_
    exact lc_dark hl9 hj hN rfl rfl rfl rfl rfl J next
  by_cases h33 : m = 33
  · subst h33
    refine ax_tableIn (off := 2221) (tgt := 2261) dL_law__40 (by decide) (by decide) rfl (by decide) ?_
    exact lc_dips hl9 hj hN rfl rfl rfl rfl rfl J next
  by_cases h34 : m = 34
  · subst h34
    refine ax_tableIn (off := 2289) (tgt := 2329) dL_law__40 (by decide) (by decide) rfl (by decide) ?_
    exact lc_gap hl9 hj hN rfl rfl rfl rfl rfl J next
  by_cases h35 : m = 35
  · subst h35
    refine ax_tableIn (off := 2357) (tgt := 2397) dL_law__40 (by decide) (by decide) rfl (by decide) ?_
    exact lc_needs hl9 hj hN rfl rfl rfl rfl rfl J next
  by_cases h36 : m = 36
  · subst h36
    refine ax_tableIn (off := 2413) (tgt := 2453) dL_law__40 (by decide) (by decide) rfl (by decide) ?_
    exact lc_clear hl9 hj hN rfl rfl rfl rfl rfl J next
  by_cases h37 : m = 37
  · subst h37
    refine ax_tableIn (off := 2469) (tgt := 2509) dL_law__40 (by decide) (by decide) rfl (by decide) ?_
    exact lc_paces hl9 hj hN rfl rfl rfl rfl rfl J next
  by_cases h38 : m = 38
  · subst h38
    refine ax_tableIn (off := 2525) (tgt := 2565) dL_law__40 (by decide) (by decide) rfl (by decide) ?_
    exact lc_finds hl9 hj hN rfl rfl rfl rfl rfl J next
  by_cases h39 : m = 39
  · subst h39
    refine ax_tableIn (off := 2593) (tgt := 2633) dL_law__40 (by decide) (by decide) rfl (by decide) ?_
    exact lc_drives hl9 hj hN rfl rfl rfl rfl rfl J next
  by_cases h40 : m = 40
  · subst h40
    refine ax_tableIn (off := 2673) (tgt := 2713) dL_law__40 (by decide) (by decide) rfl (by decide) ?_
    exact lc_stands hl9 hj hN rfl rfl rfl rfl rfl J next
  by_cases h41 : m = 41
  · subst h41
    refine ax_tableIn (off := 2753) (tgt := 2793) dL_law__40 (by decide) (by decide) rfl (by decide) ?_
    exact lc_weather hl9 hj hN rfl rfl rfl rfl rfl J next
  by_cases h42 : m = 42
  · subst h42
    refine ax_tableIn (off := 2821) (tgt := 2861) dL_law__40 (by decide) (by decide) rfl (by decide) ?_
    exact lc_undo hl9 hj hN rfl rfl rfl rfl rfl J next
  by_cases h43 : m = 43
  · subst h43
    refine ax_tableIn (off := 2834) (tgt := 2874) dL_law__40 (by decide) (by decide) rfl (by decide) ?_
    exact lc_image hl9 hj hN rfl rfl rfl rfl rfl J next
  by_cases h44 : m = 44
  · subst h44
    refine ax_tableIn (off := 2847) (tgt := 2887) dL_law__40 (by decide) (by decide) rfl (by decide) ?_
    exact lc_restore hl9 hj hN rfl rfl rfl rfl rfl J next
  by_cases h45 : m = 45
  · subst h45
    refine ax_tableIn (off := 2860) (tgt := 2900) dL_law__40 (by decide) (by decide) rfl (by decide) ?_
    exact lc_status hl9 hj hN rfl rfl rfl rfl rfl J next
  by_cases h46 : m = 46
  · subst h46
    refine ax_tableIn (off := 2885) (tgt := 2925) dL_law__40 (by decide) (by decide) rfl (by decide) ?_
    exact lc_count hl9 hj hN rfl rfl rfl rfl rfl J next
  refine ax_tableOut (tgt := 2950) dL_law__40 (Or.inr (by rw [nI_toInt (by omega)]; omega)) (by decide) ?_
  exact ax_less (next M J)
theorem lw_key {j : Nat} (hN : N ≤ 3072) (hj : 6 * j ≤ 4000) : nI N - 6 < nI (6 * j) ↔ ¬ 6 * j + 6 ≤ N := by
  have e : (nI N - 6).toInt = (N : Int) - 6 := pk_sub_toInt (a := N) (b := 6) (by omega) (by omega)
  rw [iv_lt, e, nI_toInt (by omega)]
  omega
theorem lw_loop (hl9 : l.stackTraces = false) (hN : N ≤ 3072) : ∀ (rem j : Nat) (M : ax_M), N / 6 ≤ j + rem → 6 * j ≤ 3072 → jj M → ax_W l G kL_law_ (ax_FE G (ax_FL G b N xs)) 60 (4 * rem) (24 * rem) M 23 [some (av_o 998), some (av_r 1), some (av_r 90), some (av_r 432), some (av_i (nI (6 * j))), none, none, none] [] := by
  intro rem
  induction rem with
  | zero =>
    intro j M hr hj3 J
    refine ax_iload dL_law__23 rfl ?_
    refine ax_aload_n dL_law__25 rfl ?_
    refine ax_slen dL_law__26 ?_
    refine ax_bipush (v := 6) dL_law__27 (by decide) ?_
    refine ax_isub dL_law__29 ?_
    refine ax_icmp_gt (tgt := 2956) dL_law__30 (by decide) (fun hc => ?_) (fun hc => ?_)
    · refine ax_iconst (v := 1) dL_law__2956 (by decide) ?_
      exact ax_lwret rfl rfl dL_law__2957
    · exact absurd ((lw_key hN (by omega)).mpr (by omega)) hc
  | succ rem ih =>
    intro j M hr hj3 J
    refine ax_iload dL_law__23 rfl ?_
    refine ax_aload_n dL_law__25 rfl ?_
    refine ax_slen dL_law__26 ?_
    refine ax_bipush (v := 6) dL_law__27 (by decide) ?_
    refine ax_isub dL_law__29 ?_
    refine ax_icmp_gt (tgt := 2956) dL_law__30 (by decide) (fun hc => ?_) (fun hc => ?_)
    · refine ax_iconst (v := 1) dL_law__2956 (by decide) ?_
      exact ax_lwret rfl rfl dL_law__2957
    · have hj : 6 * j + 6 ≤ N := by
        by_cases z : 6 * j + 6 ≤ N
        · exact z
        · exact absurd ((lw_key hN (by omega)).mpr z) hc
      refine ax_aload_n dL_law__33 rfl ?_
      refine ax_iload dL_law__34 rfl ?_
      refine ax_sld dL_law__36 (pk_in (6 * j) N (by omega)) ?_
      refine ax_bipush (v := 63) dL_law__37 (by decide) ?_
      refine ax_iand dL_law__39 ?_
      obtain ⟨m, hm, em⟩ := pk_andE (xs (nI (6 * j)).toNatClampNeg) (m := 63) 6 (by decide)
      rw [em]
      rw [show 4 * (rem + 1) = 4 * rem + 4 by omega, show 24 * (rem + 1) = 24 * rem + 24 by omega]
      refine lw_case hl9 hj hN J (fun M2 J2 => ?_) hm
      refine ax_iinc (v := 6) dL_law__2950 rfl (by decide) (by decide) rfl ?_
      refine ax_goto (tgt := 23) dL_law__2953 (by decide) ?_
      have e6 : nI (6 * j) + 6 = nI (6 * (j + 1)) := by rw [show 6 * (j + 1) = 6 * j + 6 by omega]; exact nI_add (6 * j) 6
      have key := ih (j + 1) M2 (by omega) (by omega) J2
      rw [← e6] at key
      exact key
end LOOP
section START
variable {l : Launch} {G : ax_G} {b N : Nat} {xs : Nat → Int32}
theorem lw_go (hl9 : l.stackTraces = false) (hN : N ≤ 3072) : ax_W l G kL_law_ (ax_FE G (ax_FL G b N xs)) 60 2480 25820 ax_Z 0 [some (av_o 998), none, none, none, none, none, none, none] [] := by
  have hC : ∀ c1 n1 : Nat, c1 = c1 := fun _ _ => rfl
  refine ax_newo (c1 := 2479) (n1 := 25805) dL_law__0 acl_9 wd_191 (ax_in1 (List.mem_of_getElem? (i := 26) rfl)) (ax_in1 (List.mem_of_getElem? (i := 1) rfl)) (by decide) (by omega) (by omega) ?_
  refine ax_gen (fun A1 hA1 => ?_)
  have i0 : ic ax_Z ax_Z 0 [] [] [] := ic_0 rfl (fun _ _ => rfl)
  have i1 := ic_new i0 hA1 (by decide +kernel) (by decide +kernel)
  have n1 : A1.2.2.2.2 = 0 + 1 := ic_n i1 (by decide +kernel)
  have s1 : A1.2.2.2.1 1 = some (.inr 9) := i1.2.2.2.1 0 (.inr 9) (by decide +kernel)
  have z1 : ∀ i k, A1.1 (1 + i) k = 0 := fun i k => by have := ic_z (m := 1) i1 (by decide +kernel) i k; rw [Nat.zero_add] at this; exact this
  show ax_W _ _ _ _ _ _ _ _ _ _ [av_r 1]
  refine ax_dup dL_law__3 (by first | rfl | exact ax_crf _) ?_
  refine ax_callIE (As := []) (a := 1) (c1 := 2391) (n1 := 19283) (i_X9_init (M := A1) (a := 1) (by rw [n1]) s1 (by decide) z1) dL_law__4 mX9_init wd_193 (by decide) rfl rfl (by omega) (by omega) (by omega) rfl rfl (fun _ _ h => by cases h.1) ?_
  rintro r9 A2 ⟨q9, j9⟩
  cases q9
  have i2 := ic_ch (a := 0) (m := 1) i1 (show ic A1 A2 (0 + 1) _ _ _ by rw [Nat.zero_add]; exact j9) (by decide +kernel) (by decide +kernel) (by decide +kernel)
  refine ax_astore_n dL_law__7 (by decide) rfl ?_
  refine ax_newo (c1 := 2390) (n1 := 19230) dL_law__8 acl_10 wd_1580 (ax_in6 (List.mem_of_getElem? (i := 215) rfl)) (ax_in1 (List.mem_of_getElem? (i := 11) rfl)) (by decide) (by omega) (by omega) ?_
  refine ax_gen (fun A3 hA3 => ?_)
  have n2 : A2.2.2.2.2 = 0 + 89 := ic_n i2 (by decide +kernel)
  have i3 := ic_new i2 hA3 (by decide +kernel) (by decide +kernel)
  replace i3 := ic_eq (sh2 := x_s) (rf2 := x_r) (w2 := x_w) i3 (by decide +kernel) (by decide +kernel) (by decide +kernel)
  have n3 : A3.2.2.2.2 = 0 + 90 := ic_n i3 (by decide +kernel)
  have s3 : A3.2.2.2.1 90 = some (.inr 10) := i3.2.2.2.1 89 (.inr 10) (by decide +kernel)
  have z3 : ∀ i k, A3.1 (90 + i) k = 0 := fun i k => by have := ic_z (m := 90) i3 (by decide +kernel) i k; rw [Nat.zero_add] at this; exact this
  rw [show A2.2.2.2.2 + 1 = 90 by omega]
  refine ax_dup dL_law__11 (by first | rfl | exact ax_crf _) ?_
  refine ax_callIE (As := []) (a := 90) (c1 := 2049) (n1 := 12289) (i_X10_init (M := A3) (a := 90) rfl i3 (by rw [n3]) s3 (by decide) z3) dL_law__12 mX10_init wd_1582 (by decide) rfl rfl (by omega) (by omega) (by omega) rfl rfl (fun _ _ h => by cases h.1) ?_
  rintro r9 A4 ⟨q9, A, hA, hA4⟩
  cases q9
  refine ax_astore_n dL_law__15 (by decide) rfl ?_
  refine ax_iconst (v := 1) dL_law__16 (by decide) ?_
  refine ax_newa (kd := 1) (len := 1) (c1 := 2048) (n1 := 12288) dL_law__17 rfl (by decide) (ax_in9 (List.mem_of_getElem? (i := 140) rfl)) (by decide) (by decide) (by decide) (by omega) (by omega) ?_
  have h432 : A4.2.2.2.2 + 1 = 432 := by
    rw [hA4]
    have e2 : (mk_stands (mk_tells A)).2 = A.2 := by unfold mk_stands; show (mk_wets _ 4).2 = _; rw [mk_wets_2]; rfl
    rw [e2, hA.1, all_len]
  refine ax_gen (fun A5 hA5 => ?_)
  rw [h432]
  have J : jj A5 := new_jj hA (by rw [hA5, hA4])
  refine ax_astore_n dL_law__19 (by decide) rfl ?_
  refine ax_iconst (v := 0) dL_law__20 (by decide) ?_
  refine ax_istore dL_law__21 (by decide) rfl ?_
  have key := lw_loop (l := l) (G := G) (b := b) (N := N) (xs := xs) hl9 hN 512 0 A5 (by omega) (by omega) J
  exact key
end START
theorem whole_start {p : Program} {e : Env} {s : State} {m : MethodId} {below : List Frame} {meth : Method} {c : Code} (l : Launch) (hl9 : l.stackTraces = false) {b L : Nat} {xs : Nat → Int32} (hL : L ≤ 3072) (C0 : lw_At p s m meth c b L xs) (hname : meth.name = "law") : W p l e room_1 s m #[Value.ref b] below meth c s.heap [] 0 0 (lw_Z below #[Value.ref b] s) (entryFrame m ([Value.ref b] : List Value).toArray 8) := by
  obtain ⟨hx, hb, hr, hml, hown, hts, hX, hbl, hlocks, hgv⟩ := id C0
  obtain ⟨G, hG1, hGb, hC, hE⟩ := ax_begin hts hgv
  have hl := ax_entry (G := G) (As := [av_o 998]) (nL := 8) (Nat.le_of_ble_eq_true rfl)
  have e9 : [av_o 998].map (ax_tv G) = [Value.ref b] := by show [Value.ref (G.2.2.2 998)] = _; rw [hGb]
  rw [e9] at hl
  rw [lg_entry_eq]
  exact lw_go (l := l) (G := G) (b := b) (N := L) (xs := xs) hl9 hL p e room_1 s m #[Value.ref b] below meth c _ s.heap [] 0 0 _ ⟨⟨hx, hb, hml, hown, hlocks, hr, hname, hC⟩, ⟨⟨rfl, rfl, rfl, hX, by rw [hG1]; exact hbl, hG1, hGb⟩, hE⟩, ⟨by decide, by decide, by decide, by decide⟩, va_S.rf, ⟨by rw [hG1]; rfl, rfl, fun n x h => by cases h⟩, hl⟩
set_option maxHeartbeats 4000000 in
theorem lw_walk (l : Launch) (hl9 : l.stackTraces = false) (b : Addr) (xs : List Int32) : MetFree l x (headSpec (Jvm.Cond.code x code maxLocals ret :: tables_1) room_1) (lw_P b xs) (fun _ _ _ _ _ => True) lw_Q := by
  refine MetFree.of_bodyS (code := code) (maxLocals := maxLocals) (ret := ret) (by decide) ?_ ?_
  · intro args s m h hn
    obtain ⟨meth, c, h1, h2, h3, h4, h5, h6, -, -⟩ := Cond.code_spec hn (atoms_spec (ws := Jvm.Cond.code x code maxLocals ret :: tables_1) h _ List.mem_cons_self)
    exact ⟨meth, c, h1, h2, h3, h4, h5, h6⟩
  · intro p e s m args below meth c s₁ B hml0 hP _
    obtain ⟨rfl, hx, hbd, hgv⟩ := hP
    obtain ⟨scr, harrAt, hlist, hof, hsmall⟩ := hx
    obtain ⟨hcb, hkn, -, -⟩ := State.arrayAt?_spec harrAt
    have hown : s.vm.findClass R_law = some m.cls := findClass_of_methodNamed B.named
    have hts0 : ∀ c ∈ (Jvm.Cond.code x code maxLocals ret :: tables_1), c.before #[Value.ref b] s = true := atoms_spec (ws := Jvm.Cond.code x code maxLocals ret :: tables_1) B.pre
    have hts : ∀ w ∈ lw_tbl, w.before #[Value.ref b] s = true := k2_hts_sels lw_privs (fun w hw => hts0 w (List.mem_cons_of_mem _ hw)) lw_privs_ok
    have hml : c.maxLocals = 8 := B.maxLocals_eq (hts0 _ List.mem_cons_self)
    have X₀ : Stand p l e room_1 s m #[Value.ref b] below meth c s₁ [] 0 0 := Stand.of_body B
    have hh0 : s₁.heap = s.heap := by rw [B.state]; rfl
    have hsz : scr.slots.size = xs.length := by rw [← Array.length_toList, hlist, List.length_map]
    have hval : ∀ j : Nat, j < xs.length → scr.slots[j]? = some (.int (xs.getD j 0)) := fun j hj => by
      rw [← Array.getElem?_toList, hlist]
      simp [hj]
    have hbl : b < s.heap.size := (Array.getElem?_eq_some_iff.mp hcb).1
    have hX : va_X b xs.length (fun j => xs.getD j 0) s s.heap := ⟨scr, hcb, hof, hkn, hsz, hval⟩
    have K : W p l e room_1 s m #[Value.ref b] below meth c s₁.heap [] 0 0 (lw_Z below #[Value.ref b] s) (entryFrame m ([Value.ref b] : List Value).toArray 8) := by
      rw [hh0]
      exact whole_start l hl9 hbd ⟨B.exec, B.bytes, B.returns, hml, hown, hts, hX, hbl, B.notSynchronized, hgv⟩ (name_of_methodNamed B.named B.method).1
    obtain ⟨t, a1, o, b1, b2, b3⟩ := K s₁ rfl X₀
    exact ⟨t, o, a1, b1, b2, b3⟩
theorem lw_pre_spec {args : Array Value} {s : State} (h : (Jvm.Cond.and given_1 narrow_1).before args s = true) (hr : rest_1_c.before args s = true) : ∃ (b : Addr) (xs : List Int32), lw_P b xs args s := by
  have hs := flat_of_before _ h
  have hq := flat_of_before _ hr
  have hc : (Cond.count 1).before args s = true := hs _ (by decide +kernel)
  have harr : (Cond.arrayOf (.arg 0) .int).before args s = true := hs _ (by decide +kernel)
  have hle : (Cond.le (.length (.arg 0)) (.int 3072)).before args s = true := hs _ (by decide +kernel)
  have hlen : (Cond.isInt (.length (.arg 0))).before args s = true := hq _ (by decide +kernel)
  have hall : (Cond.all (.arg 0) (.isInt (.elem (.arg 0) (.index 0)))).before args s = true := hq _ (by decide +kernel)
  obtain ⟨b, xs, hb, hx⟩ := State.ints_of_pre rfl harr hlen hall
  have hsm : xs.length < 2 ^ 31 := hx.choose_spec.2.2.2
  have hev : (Term.length (.arg 0)).eval args s none [] s = some (.int xs.length.toInt32) := hx.length_eval hb
  have hv := Cond.le_ints hev (show (Term.int 3072).eval args s none [] s = some (.int 3072) from rfl)
  have hd : xs.length.toInt32 ≤ 3072 := by
    simpa [Cond.before, Cond.holds, hv] using hle
  have hN : xs.length ≤ 3072 := (Int32.ofNat_le_ofNat hsm (by decide)).mp (show Int32.ofNat xs.length ≤ Int32.ofNat 3072 from hd)
  exact ⟨b, xs, Cond.one_arg hc (show args[0]? = some (.ref b) from hb), hx, hN, h⟩
theorem lw_comes (l : Launch) (hl9 : l.stackTraces = false) : Comes l x (Jvm.Cond.code x code maxLocals ret :: tables_1) room_1 (fun tb e args s => Calls_1 tb e args s ∧ rest_1 tb e args s ∧ Pre_1 tb e args s)
    (fun _ _ args s o t => lw_Q args s o t) := by
  intro p e ha hc hk s m args below hf hfit hheap happ hpre
  obtain ⟨b, xs, hP⟩ := lw_pre_spec hpre.2.2 hpre.2.1
  obtain ⟨k, o, h1, h2, h3, hQ⟩ := lw_walk l hl9 b xs p e ha hc hk s m args below hf ((Spec.applies_iff_loose hf).mp happ).1 hP trivial
  exact ⟨k, o, h1, h2, h3, hQ⟩
theorem lw_frame {s t : State} {o : Outcome} {args : Array Value} (h : Framed s o t [] 601024 7293034) :
    Framed s o t (fieldLocs frame_1_writes args s ++ arrayLocs frame_1_arrays args s ++ staticLocs frame_1_statics s) 601024 7293034 := h
theorem lw_limb (L : Cond) (hL : ∀ (args : Array Value) (s t : State), L.after args s (.returned (some (.int 1))) t = true) :
    ArmFor flags0 classFile x code maxLocals ret World_1 tables_1 room_1 Calls_1 rest_1 Pre_1
      (fun tb e a s o t => postC L tb e a s o t ∧ Framed s o t (fieldLocs frame_1_writes a s ++ arrayLocs frame_1_arrays a s ++ staticLocs frame_1_statics s) 601024 7293034) := by
  intro l hfl _ _ p e ha hc hk s m args below hf hfit hheap happ hpre
  have hl9 : l.stackTraces = false := by unfold Launch.stackTraces; rw [hfl]; decide +kernel
  obtain ⟨k, o, h1, h2, h3, rfl, hF⟩ := lw_comes l hl9 p e ha hc hk s m args below hf hfit hheap happ hpre
  exact ⟨k, _, h1, h2, h3, hL args s _, lw_frame hF⟩
theorem i_vc : Claimed_1_1 ∧ Claimed_1_2 := ⟨lw_limb limb_1_1 (fun args s t => by simp [limb_1_1, Cond.after, Cond.holds, Cond.value]), lw_limb limb_1_2 (fun args s t => Cond.after_iff.mpr (by
  first | (rw [show limb_1_2 = Cond.eq .result (.int 1) from rfl, Cond.eq_ints (x := 1) (y := 1) rfl rfl]; simp; done) | (simp [limb_1_2, Cond.value, Term.eval]; done)))⟩

