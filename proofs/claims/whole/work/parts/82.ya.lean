/-! ===== asks of the class: answers, ages, pay, safe paces ===== -/
theorem bl_iI {r : Nat → Int} {y : Int} (h0 : 0 ≤ y) (h1 : y ≤ 1000) : iI (r 35) + iI y / 20 = iI (r 35 + y / 20) := by
  rw [show (20 : Int32) = iI 20 from rfl, iI_div h0 (by omega) (by decide) (by decide), iI_add]
section X82
variable {l : Launch} {G : ax_G} {M : ax_M} {p : Nat → Nat} {r : Nat → Int} {lw : mt_L} {es : List (Nat × Nat)}
theorem x_blinds (hl9 : l.stackTraces = false) (hI : xI M p r lw es) (y : Int32) : ax_Met l G kX9_blinds 8 1 6 M [av_r 1, av_i y] (xA p r lw es M (qa_blinds r y)) := by
  have hx := hI.1.1
  have hok := hx.1
  have hr := hI.1.2.1
  have ho := hI.1.2.2.1
  have h0 := ho.1
  refine ax_body (by decide) (Nat.le_of_ble_eq_true rfl) ?_
  refine ax_aload_n dX9_blinds_0 rfl ?_
  refine ax_iload_n dX9_blinds_1 rfl ?_
  refine ax_bipush (v := 17) dX9_blinds_2 (by decide) ?_
  refine ax_bipush (v := 99) dX9_blinds_4 (by decide) ?_
  refine ax_callVX (As := _) (d2 := _) (c1 := 0) (n1 := 0) (c_needRange (M := M) hl9 hok) dX9_blinds_6 mX9_needRange wd_1121 acl_9 (lo_s hok 1 rfl) rfl (by omega) (by omega) (by omega) rfl rfl (fun E M2 h => xA_ex h (fun z => by unfold qa_blinds; rw [if_pos z])) ?_
  refine xN_k (fun g1 => ?_)
  have hy := iv_in g1
  have h17 : (17 : Int32).toInt = 17 := rfl
  have h99 : (99 : Int32).toInt = 99 := rfl
  refine ax_aload_n dX9_blinds_9 rfl ?_
  refine ax_getK (f := 1) 4 dX9_blinds_10 acl_9 wd_548 (by decide) rfl (lo_s hok 1 rfl) (lo_r hok 1 rfl) ?_
  refine ax_getKN (f := 0) (p 0) dX9_blinds_13 acl_7 wd_367 (by decide) rfl (lo_s hok 4 rfl) (xk_r0 hx) ?_
  refine ax_iload_n dX9_blinds_16 rfl ?_
  refine ax_callVN (As := _) (d2 := _) (c1 := 0) (n1 := 0) (c_blindFor (d := 6) (M := M) hok (xk_b0 hx) hr y) dX9_blinds_17 mX5_blindFor wd_1394 acl_5 (xs_R_0 (xk_b0 hx) hok) rfl (by omega) (by omega) (by omega) rfl rfl (fun _ _ h => by cases h.1) ?_
  rintro r M9 ⟨h1, h9⟩; cases h1; rw [h9]; clear h9 M9
  refine ax_iret dX9_blinds_20 rfl ?_
  have e := bl_iI (r := r) (y := y.toInt) (by omega) (by omega)
  rw [iI_of] at e
  unfold qa_blinds
  rw [if_neg (fun z => z g1), e]
  exact xA_in (qf_refl M) hI
theorem x_between (hl9 : l.stackTraces = false) (hI : xI M p r lw es) (y t : Int32) : ax_Met l G kX9_between 8 2 12 M [av_r 1, av_i y, av_i t] (xA p r lw es M (qa_between r y t)) := by
  have hx := hI.1.1
  have hok := hx.1
  have hr := hI.1.2.1
  have ho := hI.1.2.2.1
  have h0 := ho.1
  refine ax_body (by decide) (Nat.le_of_ble_eq_true rfl) ?_
  refine ax_aload_n dX9_between_0 rfl ?_
  refine ax_iload_n dX9_between_1 rfl ?_
  refine ax_bipush (v := 17) dX9_between_2 (by decide) ?_
  refine ax_bipush (v := 99) dX9_between_4 (by decide) ?_
  refine ax_callVX (As := _) (d2 := _) (c1 := 1) (n1 := 6) (c_needRange (M := M) hl9 hok) dX9_between_6 mX9_needRange wd_1121 acl_9 (lo_s hok 1 rfl) rfl (by omega) (by omega) (by omega) rfl rfl (fun E M2 h => xA_ex h (fun z => by unfold qa_between; rw [if_pos (Or.inl z)])) ?_
  refine xN_k (fun g1 => ?_)
  refine ax_aload_n dX9_between_9 rfl ?_
  refine ax_iload_n dX9_between_10 rfl ?_
  refine ax_iconst (v := 0) dX9_between_11 (by decide) ?_
  refine ax_bipush (v := 60) dX9_between_12 (by decide) ?_
  refine ax_callVX (As := _) (d2 := _) (c1 := 0) (n1 := 0) (c_needRange (M := M) hl9 hok) dX9_between_14 mX9_needRange wd_1121 acl_9 (lo_s hok 1 rfl) rfl (by omega) (by omega) (by omega) rfl rfl (fun E M2 h => xA_ex h (fun z => by unfold qa_between; rw [if_pos (Or.inr z)])) ?_
  refine xN_k (fun g2 => ?_)
  have hy := iv_in g1
  have h17 : (17 : Int32).toInt = 17 := rfl
  have h99 : (99 : Int32).toInt = 99 := rfl
  have e := bl_iI (r := r) (y := y.toInt) (by omega) (by omega)
  rw [iI_of] at e
  refine ax_iload_n dX9_between_17 rfl ?_
  refine ax_aload_n dX9_between_18 rfl ?_
  refine ax_getK (f := 1) 4 dX9_between_19 acl_9 wd_548 (by decide) rfl (lo_s hok 1 rfl) (lo_r hok 1 rfl) ?_
  refine ax_getKN (f := 0) (p 0) dX9_between_22 acl_7 wd_367 (by decide) rfl (lo_s hok 4 rfl) (xk_r0 hx) ?_
  refine ax_iload_n dX9_between_25 rfl ?_
  refine ax_callVN (As := _) (d2 := _) (c1 := 0) (n1 := 0) (c_blindFor (d := 6) (M := M) hok (xk_b0 hx) hr y) dX9_between_26 mX5_blindFor wd_1394 acl_5 (xs_R_0 (xk_b0 hx) hok) rfl (by omega) (by omega) (by omega) rfl rfl (fun _ _ h => by cases h.1) ?_
  rintro r M9 ⟨h1, h9⟩; cases h1; rw [h9]; clear h9 M9
  rw [e]
  refine ax_isub dX9_between_29 ?_
  refine ax_iconst (v := 3) dX9_between_30 (by decide) ?_
  refine ax_isub dX9_between_31 ?_
  refine ax_iconst (v := 2) dX9_between_32 (by decide) ?_
  refine ax_join2 (t - iI (r 35 + y.toInt / 20) - 3 < 2) 41 (0) (1) ?_ (fun ja jb => ?_)
  rotate_left
  · refine ax_icmp_lt (tgt := 40) dX9_between_33 (by decide) (fun h33 => ?_) (fun h33 => ?_)
    · refine ax_iconst (v := 0) dX9_between_40 (by decide) ?_
      first | exact ja h33 | exact jb h33
    · refine ax_iconst (v := 1) dX9_between_36 (by decide) ?_
      refine ax_goto (tgt := 41) dX9_between_37 (by decide) ?_
      first | exact ja h33 | exact jb h33
  refine ax_zret dX9_between_41 rfl ?_ ?_
  · split
    · exact Or.inl rfl
    · exact Or.inr rfl
  · unfold qa_between
    rw [if_neg (fun z => z.elim (fun q => q g1) (fun q => q g2))]
    exact xA_in (qf_refl M) hI
theorem x_old (hl9 : l.stackTraces = false) (hI : xI M p r lw es) (n : Int32) : ax_Met l G kX9_old 8 1 6 M [av_r 1, av_i n] (xA p r lw es M (qa_old r n)) := by
  have hx := hI.1.1
  have hok := hx.1
  have hr := hI.1.2.1
  have ho := hI.1.2.2.1
  have h0 := ho.1
  refine ax_body (by decide) (Nat.le_of_ble_eq_true rfl) ?_
  refine ax_aload_n dX9_old_0 rfl ?_
  refine ax_iload_n dX9_old_1 rfl ?_
  refine ax_iconst (v := 0) dX9_old_2 (by decide) ?_
  refine ax_bipush (v := 20) dX9_old_3 (by decide) ?_
  refine ax_callVX (As := _) (d2 := _) (c1 := 0) (n1 := 0) (c_needRange (M := M) hl9 hok) dX9_old_5 mX9_needRange wd_1121 acl_9 (lo_s hok 1 rfl) rfl (by omega) (by omega) (by omega) rfl rfl (fun E M2 h => xA_ex h (fun z => by unfold qa_old; rw [if_pos z])) ?_
  refine xN_k (fun g1 => ?_)
  obtain ⟨m, hm, rfl⟩ := in_nat g1 (n := 20) rfl (by decide)
  have hmi : (nI m).toInt = (m : Int) := nI_toInt (by omega)
  refine ax_bipush (v := 17) dX9_old_8 (by decide) ?_
  refine ax_istore_n dX9_old_10 (by decide) rfl ?_
  refine ax_for 100 (fun y N L => N = M ∧ L = [some (av_r 1), some (av_i (nI m)), some (av_i (nI y))] ∧ 17 ≤ y ∧ ∀ q, q < y → (decide (17 ≤ q) && decide ((nI m).toInt < r 35 + (q : Int) / 20)) = false) 11 ?_ ?_ (i := 17) (by omega) ⟨rfl, rfl, by omega, fun q z => by simp; omega⟩
  · rintro y N L hy ⟨rfl, rfl, h17, hq⟩ next
    have e := bl_iI (r := r) (y := (y : Int)) (by omega) (by omega)
    rw [← iI_nI] at e
    refine ax_iload_n dX9_old_11 rfl ?_
    refine ax_bipush (v := 99) dX9_old_12 (by decide) ?_
    refine ax_icmp_gt (tgt := 40) dX9_old_14 (by decide) (fun hc => absurd ((nI_ltI (a := 99) (by omega) (by omega)).mp hc) (by omega)) (fun hc => ?_)
    refine ax_aload_n dX9_old_17 rfl ?_
    refine ax_getK (f := 1) 4 dX9_old_18 acl_9 wd_548 (by decide) rfl (lo_s hok 1 rfl) (lo_r hok 1 rfl) ?_
    refine ax_getKN (f := 0) (p 0) dX9_old_21 acl_7 wd_367 (by decide) rfl (lo_s hok 4 rfl) (xk_r0 hx) ?_
    refine ax_iload_n dX9_old_24 rfl ?_
    refine ax_callVN (As := _) (d2 := _) (c1 := 0) (n1 := 0) (c_blindFor (d := 6) (M := N) hok (xk_b0 hx) hr (nI y)) dX9_old_25 mX5_blindFor wd_1394 acl_5 (xs_R_0 (xk_b0 hx) hok) rfl (by omega) (by omega) (by omega) rfl rfl (fun _ _ h => by cases h.1) ?_
    rintro r M9 ⟨h1, h9⟩; cases h1; rw [h9]; clear h9 M9
    rw [e]
    have hle : iI (r 35 + (y : Int) / 20) ≤ nI m ↔ r 35 + (y : Int) / 20 ≤ (m : Int) := by rw [iI_nI m]; exact iI_le (by unfold iI_b; omega) (by unfold iI_b; omega)
    refine ax_iload_n dX9_old_28 rfl ?_
    refine ax_icmp_le (tgt := 34) dX9_old_29 (by decide) (fun hc => ?_) (fun hc => ?_)
    · have := hle.mp hc
      refine ax_iinc (v := 1) dX9_old_34 rfl (by decide) (by decide) rfl ?_
      refine ax_goto (tgt := 11) dX9_old_37 (by decide) ?_
      refine next _ _ ⟨rfl, by rw [nI_1]; rfl, by omega, fun q z => ?_⟩
      by_cases e : q = y
      · subst e; simp only [hmi, Bool.and_eq_false_iff, decide_eq_false_iff_not]; omega
      · exact hq q (by omega)
    · have : ¬ r 35 + (y : Int) / 20 ≤ (m : Int) := fun z => hc (hle.mpr z)
      refine ax_iload_n dX9_old_32 rfl ?_
      refine ax_iret dX9_old_33 rfl ?_
      unfold qa_old
      rw [if_neg (fun z => z g1), mt_first_of (p := fun y => decide (17 ≤ y) && decide ((nI m).toInt < r 35 + (y : Int) / 20)) (u := y) (by simp only [hmi, Bool.and_eq_true, decide_eq_true_eq]; omega) hq hy]
      exact xA_in (qf_refl N) hI
  · rintro N L ⟨rfl, rfl, h17, hq⟩
    refine ax_iload_n dX9_old_11 rfl ?_
    refine ax_bipush (v := 99) dX9_old_12 (by decide) ?_
    refine ax_icmp_gt (tgt := 40) dX9_old_14 (by decide) (fun hc => ?_) (fun hc => absurd ((nI_ltI (a := 99) (by omega) (by omega)).mpr (by omega)) hc)
    refine ax_iconst (v := (-1)) dX9_old_40 (by decide) ?_
    refine ax_iret dX9_old_41 rfl ?_
    unfold qa_old
    rw [if_neg (fun z => z g1), mt_first_no hq]
    exact xA_in (qf_refl N) hI
theorem c_gain (a b : Int32) : ax_Met l G kX9_gain 2 0 0 M [av_i a, av_i b] (ax_p (av_i (gby a b)) M) := by
  refine ax_body (by decide) (Nat.le_of_ble_eq_true rfl) ?_
  refine ax_iconst (v := 0) dX9_gain_0 (by decide) ?_
  refine ax_iload_n dX9_gain_1 rfl ?_
  refine ax_iload_n dX9_gain_2 rfl ?_
  refine ax_isub dX9_gain_3 ?_
  refine ax_mmax dX9_gain_4 wd_1357 wd_maxs wd_182 wd_maxc (by decide) rfl ?_
  refine ax_istore_n dX9_gain_7 (by decide) rfl ?_
  refine ax_iconst (v := 3) dX9_gain_8 (by decide) ?_
  refine ax_iload_n dX9_gain_9 rfl ?_
  refine ax_imul dX9_gain_10 ?_
  refine ax_iload_n dX9_gain_11 rfl ?_
  refine ax_iload_n dX9_gain_12 rfl ?_
  refine ax_imul dX9_gain_13 ?_
  refine ax_isub dX9_gain_14 ?_
  refine ax_iload_n dX9_gain_15 rfl ?_
  refine ax_iload_n dX9_gain_16 rfl ?_
  refine ax_iadd dX9_gain_17 ?_
  refine ax_iconst (v := 2) dX9_gain_18 (by decide) ?_
  refine ax_idiv dX9_gain_19 (by decide) ?_
  refine ax_isub dX9_gain_20 ?_
  refine ax_iret dX9_gain_21 rfl ?_
  have e : ∀ z : Int32, (if 0 < z then z else 0) = (if z < 0 then 0 else z) := by
    intro z
    have h00 : (0 : Int32).toInt = 0 := rfl
    by_cases h1 : 0 < z
    · rw [if_pos h1, if_neg (fun h2 => by rw [iv_lt] at h1 h2; omega)]
    · rw [if_neg h1]
      by_cases h2 : z < 0
      · rw [if_pos h2]
      · rw [if_neg h2]
        rw [iv_lt] at h1 h2
        exact Int32.toInt_inj.mp (by omega)
  rw [e]
  exact ⟨rfl, rfl⟩
theorem x_gets (hl9 : l.stackTraces = false) (hI : xI M p r lw es) (a b : Int32) : ax_Met l G kX9_gets 8 2 12 M [av_r 1, av_i a, av_i b] (xA p r lw es M (qa_gets a b)) := by
  have hx := hI.1.1
  have hok := hx.1
  have hr := hI.1.2.1
  have ho := hI.1.2.2.1
  have h0 := ho.1
  refine ax_body (by decide) (Nat.le_of_ble_eq_true rfl) ?_
  refine ax_aload_n dX9_gets_0 rfl ?_
  refine ax_iload_n dX9_gets_1 rfl ?_
  refine ax_iconst (v := 1) dX9_gets_2 (by decide) ?_
  refine ax_bipush (v := 40) dX9_gets_3 (by decide) ?_
  refine ax_callVX (As := _) (d2 := _) (c1 := 1) (n1 := 6) (c_needRange (M := M) hl9 hok) dX9_gets_5 mX9_needRange wd_1121 acl_9 (lo_s hok 1 rfl) rfl (by omega) (by omega) (by omega) rfl rfl (fun E M2 h => xA_ex h (fun z => by unfold qa_gets; rw [if_pos (Or.inl z)])) ?_
  refine xN_k (fun g1 => ?_)
  refine ax_aload_n dX9_gets_8 rfl ?_
  refine ax_iload_n dX9_gets_9 rfl ?_
  refine ax_iconst (v := 1) dX9_gets_10 (by decide) ?_
  refine ax_bipush (v := 40) dX9_gets_11 (by decide) ?_
  refine ax_callVX (As := _) (d2 := _) (c1 := 0) (n1 := 0) (c_needRange (M := M) hl9 hok) dX9_gets_13 mX9_needRange wd_1121 acl_9 (lo_s hok 1 rfl) rfl (by omega) (by omega) (by omega) rfl rfl (fun E M2 h => xA_ex h (fun z => by unfold qa_gets; rw [if_pos (Or.inr z)])) ?_
  refine xN_k (fun g2 => ?_)
  refine ax_iload_n dX9_gets_16 rfl ?_
  refine ax_iload_n dX9_gets_17 rfl ?_
  refine ax_callS (As := _) (c1 := 0) (n1 := 0) (c_gain (M := M) a b) dX9_gets_18 mX9_gain wd_1416 rfl (by omega) (by omega) (by omega) rfl rfl (fun _ _ h => by cases h.1) ?_
  rintro r M9 ⟨h1, h9⟩; cases h1; rw [h9]; clear h9 M9
  refine ax_iret dX9_gets_21 rfl ?_
  unfold qa_gets
  rw [if_neg (fun z => z.elim (fun q => q g1) (fun q => q g2))]
  exact xA_in (qf_refl M) hI
theorem x_answer (hl9 : l.stackTraces = false) (hI : xI M p r lw es) (x n : Int32) : ax_Met l G kX9_answer 9 3 18 M [av_r 1, av_i x, av_i n] (xA p r lw es M (qa_answer r lw x n)) := by
  have hx := hI.1.1
  have hok := hx.1
  have hr := hI.1.2.1
  have ho := hI.1.2.2.1
  have h0 := ho.1
  refine ax_body (by decide) (Nat.le_of_ble_eq_true rfl) ?_
  refine ax_aload_n dX9_answer_0 rfl ?_
  refine ax_iload_n dX9_answer_1 rfl ?_
  refine ax_callVX (As := _) (d2 := _) (c1 := 2) (n1 := 12) (c_needCar (M := M) hl9 hx hr ho) dX9_answer_2 mX9_needCar wd_1136 acl_9 (lo_s hok 1 rfl) rfl (by omega) (by omega) (by omega) rfl rfl (fun E M2 h => xA_ex h (fun z => by unfold qa_answer; rw [if_pos z])) ?_
  refine xN_k (fun g1 => ?_)
  refine ax_aload_n dX9_answer_5 rfl ?_
  refine ax_iload_n dX9_answer_6 rfl ?_
  refine ax_iconst (v := 0) dX9_answer_7 (by decide) ?_
  refine ax_bipush (v := 20) dX9_answer_8 (by decide) ?_
  refine ax_callVX (As := _) (d2 := _) (c1 := 1) (n1 := 6) (c_needRange (M := M) hl9 hok) dX9_answer_10 mX9_needRange wd_1121 acl_9 (lo_s hok 1 rfl) rfl (by omega) (by omega) (by omega) rfl rfl (fun E M2 h => xA_ex h (fun z => by unfold qa_answer; rw [if_neg (fun q => q g1), if_pos z])) ?_
  refine xN_k (fun g2 => ?_)
  refine ax_aload_n dX9_answer_13 rfl ?_
  refine ax_callVX (As := _) (d2 := _) (c1 := 0) (n1 := 0) (c_needTwoCars (M := M) hl9 hx hr ho) dX9_answer_14 mX9_needTwoCars wd_1254 acl_9 (lo_s hok 1 rfl) rfl (by omega) (by omega) (by omega) rfl rfl (fun E M2 h => xA_ex h (fun z => by unfold qa_answer; rw [if_neg (fun q => q g1), if_neg (fun q => q g2), if_pos (dn z)])) ?_
  refine xN_k (fun g3 => ?_)
  obtain ⟨c, hc1, rfl⟩ := in_car g1 (by omega) (by omega)
  have hc2 : c < 2 := by omega
  obtain ⟨n, hn, rfl⟩ := in_nat g2 (n := 20) rfl (by decide)
  obtain ⟨v, hv⟩ : ∃ v, v = fun d => mt_cost r lw (mt_c2 c (nI d) (-1)) c := ⟨_, rfl⟩
  have hvl : ∀ d, v d ≤ 199 := fun d => by rw [hv]; exact mt_cost_le _ _ _ _
  refine ax_iconst (v := 0) dX9_answer_17 (by decide) ?_
  refine ax_istore_n dX9_answer_18 (by decide) rfl ?_
  refine ax_ldc_w dX9_answer_19 wd_1344 ?_
  refine ax_istore dX9_answer_22 (by decide) rfl ?_
  refine ax_iconst (v := 0) dX9_answer_24 (by decide) ?_
  refine ax_istore dX9_answer_25 (by decide) rfl ?_
  refine ax_for (n + 1) (fun d N L => ∃ bs ls y6, L = [some (av_r 1), some (av_i (nI c)), some (av_i (nI n)), some (av_i bs), some (av_i ls), some (av_i (nI d)), y6] ∧ qf M N ∧ xI N p r lw es ∧ (d = 0 → bs = 0 ∧ ls = 1000000) ∧ ∀ q, d = q + 1 → bs = nI (am v q) ∧ ls = nI (v (am v q))) 27 ?_ ?_ (i := 0) (by omega) ⟨_, _, _, rfl, qf_refl M, hI, fun _ => ⟨rfl, rfl⟩, fun q z => by omega⟩
  · rintro d N L ht ⟨bs, ls, y6, rfl, fr, I, i0, i1⟩ next
    have hx := I.1.1
    have hok := hx.1
    have run : ∀ y0 y1 : Int32, mt_d y0 y1 = mt_c2 c (nI d) (-1) → ax_W l G kX9_answer (ax_FQ G (xA p r lw es M (qa_answer r lw (nI c) (nI n)))) 9 0 0 N 61 [some (av_r 1), some (av_i (nI c)), some (av_i (nI n)), some (av_i bs), some (av_i ls), some (av_i (nI d)), y6] [av_i y1, av_i y0, av_r 4, av_r 56] := by
      intro y0 y1 hy
      refine ax_callVN (As := _) (d2 := _) (c1 := 0) (n1 := 0) (x_run (M := N) I y0 y1) dX9_answer_61 mX4_run wd_613 acl_4 (lo_s hok 56 rfl) rfl (by omega) (by omega) (by omega) rfl rfl (fun _ _ h => by cases h.1) ?_
      rintro _ M1 ⟨h1, f1, I1, m1, -⟩
      cases h1
      have hx := I1.1.1
      have hok := hx.1
      have hfr := qf_trans fr f1
      refine ax_aload_n dX9_answer_64 rfl ?_
      refine ax_getK (f := 8) 56 dX9_answer_65 acl_9 wd_555 (by decide) rfl (lo_s hok 1 rfl) (lo_r hok 3 rfl) ?_
      refine ax_aload_n dX9_answer_68 rfl ?_
      refine ax_getK (f := 1) 4 dX9_answer_69 acl_9 wd_548 (by decide) rfl (lo_s hok 1 rfl) (lo_r hok 1 rfl) ?_
      refine ax_getKN (f := 0) (p 0) dX9_answer_72 acl_7 wd_367 (by decide) rfl (lo_s hok 4 rfl) (xk_r0 hx) ?_
      refine ax_iload_n dX9_answer_75 rfl ?_
      refine ax_callVN (As := _) (d2 := _) (c1 := 0) (n1 := 0) (c_xcostOf (M := M1) hok (Or.inr rfl) (xk_b0 hx) I1.1.2.1 ho m1 hc2 hc1 rfl) dX9_answer_76 mX4_costOf wd_1274 acl_4 (lo_s hok 56 rfl) rfl (by omega) (by omega) (by omega) rfl rfl (fun _ _ h => by cases h.1) ?_
      rintro r M9 ⟨h1, h9⟩; cases h1; rw [h9]; clear h9 M9
      have ev : mt_cost r lw (mt_d y0 y1) c = v d := by rw [hv, hy]
      rw [ev]
      have hd := hvl d
      have go : ∀ bs2 ls2 : Int32, bs2 = nI (am v d) → ls2 = nI (v (am v d)) → ax_W l G kX9_answer (ax_FQ G (xA p r lw es M (qa_answer r lw (nI c) (nI n)))) 9 0 0 M1 95 [some (av_r 1), some (av_i (nI c)), some (av_i (nI n)), some (av_i bs2), some (av_i ls2), some (av_i (nI d)), some (av_i (nI (v d)))] [] := by
        intro bs2 ls2 hb hl
        refine ax_iinc (v := 1) dX9_answer_95 rfl (by decide) (by decide) rfl ?_
        refine ax_goto (tgt := 27) dX9_answer_98 (by decide) ?_
        refine next _ _ ⟨bs2, ls2, _, by rw [nI_1]; rfl, hfr, I1, fun z => by omega, fun q z => ?_⟩
        have : q = d := by omega
        subst this
        exact ⟨hb, hl⟩
      refine ax_istore dX9_answer_79 (by decide) rfl ?_
      refine ax_iload dX9_answer_81 rfl ?_
      refine ax_iload dX9_answer_83 rfl ?_
      rcases Nat.eq_zero_or_pos d with q0 | q0
      · obtain ⟨rfl, rfl⟩ := i0 q0
        subst q0
        refine ax_icmp_ge (tgt := 95) dX9_answer_85 (by decide) (fun hc => ?_) (fun hc => ?_)
        · exact absurd hc (fun z => by rw [show (1000000 : Int32) = nI 1000000 from rfl] at z; have := (nI_leI (by omega) (by omega)).mp z; omega)
        · refine ax_iload dX9_answer_88 rfl ?_
          refine ax_istore dX9_answer_90 (by decide) rfl ?_
          refine ax_iload dX9_answer_92 rfl ?_
          refine ax_istore_n dX9_answer_94 (by decide) rfl ?_
          exact go _ _ rfl rfl
      · obtain ⟨q, rfl⟩ : ∃ q, d = q + 1 := ⟨d - 1, by omega⟩
        obtain ⟨rfl, rfl⟩ := i1 q rfl
        have hq := hvl (am v q)
        refine ax_icmp_ge (tgt := 95) dX9_answer_85 (by decide) (fun hc => ?_) (fun hc => ?_)
        · have h1 := (nI_leI (by omega) (by omega)).mp hc
          have e : am v (q + 1) = am v q := if_neg (by omega)
          exact go _ _ (by rw [e]) (by rw [e])
        · have h1 : ¬ v (am v q) ≤ v (q + 1) := fun z => hc ((nI_leI (by omega) (by omega)).mpr z)
          have e : am v (q + 1) = q + 1 := if_pos (by omega)
          refine ax_iload dX9_answer_88 rfl ?_
          refine ax_istore dX9_answer_90 (by decide) rfl ?_
          refine ax_iload dX9_answer_92 rfl ?_
          refine ax_istore_n dX9_answer_94 (by decide) rfl ?_
          exact go _ _ (by rw [e]) (by rw [e])
    refine ax_iload dX9_answer_27 rfl ?_
    refine ax_iload_n dX9_answer_29 rfl ?_
    refine ax_icmp_gt (tgt := 101) dX9_answer_30 (by decide) (fun hc => absurd ((nI_ltI (by omega) (by omega)).mp hc) (by omega)) (fun hc => ?_)
    refine ax_aload_n dX9_answer_33 rfl ?_
    refine ax_getK (f := 8) 56 dX9_answer_34 acl_9 wd_555 (by decide) rfl (lo_s hok 1 rfl) (lo_r hok 3 rfl) ?_
    refine ax_aload_n dX9_answer_37 rfl ?_
    refine ax_getK (f := 1) 4 dX9_answer_38 acl_9 wd_548 (by decide) rfl (lo_s hok 1 rfl) (lo_r hok 1 rfl) ?_
    refine ax_iload_n dX9_answer_41 rfl ?_
    rcases (show c = 0 ∨ c = 1 by omega) with rfl | rfl
    · refine ax_if_ne (tgt := 50) dX9_answer_42 (by decide) (fun hc => ?_) (fun hc => ?_)
      · exact absurd rfl hc
      · clear hc
        refine ax_iload dX9_answer_45 rfl ?_
        refine ax_goto (tgt := 51) dX9_answer_47 (by decide) ?_
        refine ax_iload_n dX9_answer_51 rfl ?_
        refine ax_if_ne (tgt := 59) dX9_answer_52 (by decide) (fun hc => ?_) (fun hc => ?_)
        · exact absurd rfl hc
        · refine ax_iconst (v := (-1)) dX9_answer_55 (by decide) ?_
          refine ax_goto (tgt := 61) dX9_answer_56 (by decide) ?_
          exact run _ _ rfl
    · refine ax_if_ne (tgt := 50) dX9_answer_42 (by decide) (fun hc => ?_) (fun hc => ?_)
      · clear hc
        refine ax_iconst (v := (-1)) dX9_answer_50 (by decide) ?_
        refine ax_iload_n dX9_answer_51 rfl ?_
        refine ax_if_ne (tgt := 59) dX9_answer_52 (by decide) (fun hc => ?_) (fun hc => ?_)
        · refine ax_iload dX9_answer_59 rfl ?_
          exact run _ _ rfl
        · exact absurd hc (by decide)
      · exact absurd hc (by decide)
  · rintro N L ⟨bs, ls, y6, rfl, fr, I, i0, i1⟩
    refine ax_iload dX9_answer_27 rfl ?_
    refine ax_iload_n dX9_answer_29 rfl ?_
    refine ax_icmp_gt (tgt := 101) dX9_answer_30 (by decide) (fun hc => ?_) (fun hc => absurd ((nI_ltI (by omega) (by omega)).mpr (by omega)) hc)
    refine ax_iload_n dX9_answer_101 rfl ?_
    refine ax_iret dX9_answer_102 rfl ?_
    rw [(i1 n rfl).1]
    unfold qa_answer
    rw [if_neg (fun z => z g1), if_neg (fun z => z g2), if_neg g3, nI_clamp (by omega), nI_clamp (by omega), ← hv]
    exact xA_in fr I
theorem x_safe (hl9 : l.stackTraces = false) (hI : xI M p r lw es) (x f : Int32) : ax_Met l G kX9_safe 8 2 12 M [av_r 1, av_i x, av_i f] (xA p r lw es M (qa_safe r lw x f)) := by
  have hx := hI.1.1
  have hok := hx.1
  have hr := hI.1.2.1
  have ho := hI.1.2.2.1
  have h0 := ho.1
  refine ax_body (by decide) (Nat.le_of_ble_eq_true rfl) ?_
  refine ax_aload_n dX9_safe_0 rfl ?_
  refine ax_iload_n dX9_safe_1 rfl ?_
  refine ax_callVX (As := _) (d2 := _) (c1 := 1) (n1 := 6) (c_needCar (M := M) hl9 hx hr ho) dX9_safe_2 mX9_needCar wd_1136 acl_9 (lo_s hok 1 rfl) rfl (by omega) (by omega) (by omega) rfl rfl (fun E M2 h => xA_ex h (fun z => by unfold qa_safe; rw [if_pos z])) ?_
  refine xN_k (fun g1 => ?_)
  refine ax_aload_n dX9_safe_5 rfl ?_
  refine ax_iload_n dX9_safe_6 rfl ?_
  refine ax_iconst (v := 0) dX9_safe_7 (by decide) ?_
  refine ax_iconst (v := 1) dX9_safe_8 (by decide) ?_
  refine ax_callVX (As := _) (d2 := _) (c1 := 0) (n1 := 0) (c_needRange (M := M) hl9 hok) dX9_safe_9 mX9_needRange wd_1121 acl_9 (lo_s hok 1 rfl) rfl (by omega) (by omega) (by omega) rfl rfl (fun E M2 h => xA_ex h (fun z => by unfold qa_safe; rw [if_neg (fun q => q g1), if_pos z])) ?_
  refine xN_k (fun g2 => ?_)
  obtain ⟨c, hc1, rfl⟩ := in_car g1 (by omega) (by omega)
  obtain ⟨s, hs⟩ : ∃ s, s = fun p => ev_sight (lw 0) (sf_kn r c f p) := ⟨_, rfl⟩
  have e : ∀ (v : Nat) (N : ax_M), v = sf_b s 10 → vf M N → xA p r lw es M (qa_safe r lw (nI c) f) (.inl (some (av_i (nI v)))) N := fun v N hv vv => by
    unfold qa_safe
    rw [if_neg (fun z => z g1), if_neg (fun z => z g2), nI_clamp (by omega), ← hs, hv]
    exact xA_in (qf_vf vv) (xI_vf hI vv)
  refine ax_aload_n dX9_safe_12 rfl ?_
  refine ax_getK (f := 1) 4 dX9_safe_13 acl_9 wd_548 (by decide) rfl (lo_s hok 1 rfl) (lo_r hok 1 rfl) ?_
  refine ax_getKN (f := 0) (p 0) dX9_safe_16 acl_7 wd_367 (by decide) rfl (lo_s hok 4 rfl) (xk_r0 hx) ?_
  refine ax_astore_n dX9_safe_19 (by decide) rfl ?_
  refine ax_aload_n dX9_safe_20 rfl ?_
  refine ax_getK (f := 1) 4 dX9_safe_21 acl_9 wd_548 (by decide) rfl (lo_s hok 1 rfl) (lo_r hok 1 rfl) ?_
  refine ax_callVN (As := _) (d2 := _) (c1 := 0) (n1 := 0) (c_valuesOfNobody (M := M) hx hr) dX9_safe_24 mX7_valuesOfNobody wd_1241 acl_7 (lo_s hok 4 rfl) rfl (by omega) (by omega) (by omega) rfl rfl (fun _ _ h => by cases h.1) ?_
  rintro _ N ⟨h1, n1, n2, n3⟩
  cases h1
  have hx : xk N.2 p := by rw [n1]; exact hx
  have hok := hx.1
  have hb0 := xk_b0 hx
  have fr22 : ∀ {A B : ax_M} {R : Nat}, xh_R R → xr A R r → (∀ n i, n ≠ 22 → B.1 n i = A.1 n i) → xr B R r := fun hR h q => xr_fr h (fun n i a b => q n i (by unfold xh_R at hR; omega))
  have hr : xr N (p 0) r := fr22 hb0 hr n2
  refine ax_astore dX9_safe_27 (by decide) rfl ?_
  refine ax_aload dX9_safe_29 rfl ?_
  refine ax_iconst (v := 0) dX9_safe_31 (by decide) ?_
  refine ax_aload_n dX9_safe_32 rfl ?_
  refine ax_iload_n dX9_safe_33 rfl ?_
  refine ax_callVN (As := _) (d2 := _) (c1 := 0) (n1 := 0) (c_reachBy (d := 6) (M := N) hok hb0 hr f) dX9_safe_34 mX5_reachBy wd_1373 acl_5 (xs_R_0 (xk_b0 hx) hok) rfl (by omega) (by omega) (by omega) rfl rfl (fun _ _ h => by cases h.1) ?_
  rintro r M9 ⟨h1, h9⟩; cases h1; rw [h9]; clear h9 M9
  obtain ⟨a1, -, a3⟩ := hr.2.1 c hc1
  refine ax_iastN (0) dX9_safe_37 (lo_s hok 22 rfl) (by decide) (by decide) (by decide) ?_
  refine ax_aload dX9_safe_38 rfl ?_
  refine ax_iconst (v := 3) dX9_safe_40 (by decide) ?_
  refine ax_aload_n dX9_safe_41 rfl ?_
  refine ax_getKN (f := 13) ((p 0) + 5) dX9_safe_42 acl_5 wd_285 (by decide) rfl (xs_R_0 (xk_b0 hx) hok) (xr_R_13 (xk_b0 hx) hok) ?_
  refine ax_iload_n dX9_safe_45 rfl ?_
  refine ax_ialdN (c) dX9_safe_46 (xs_R_5 (xk_b0 hx) hok) (by decide) (by first | with_reducible rfl | assumption | exact ax_nix (by simp only [nx_0, nx_1, nx_2, nx_3, nx_4, nx_10, nx_20, nx_21, nx_100, nI_add, pk_mul] <;> rfl) (by omega) | decide) (by omega) ?_
  refine ax_iastN (3) dX9_safe_47 (lo_s hok 22 rfl) (by decide) (by decide) (by decide) ?_
  refine ax_aload dX9_safe_48 rfl ?_
  refine ax_iconst (v := 5) dX9_safe_50 (by decide) ?_
  refine ax_aload_n dX9_safe_51 rfl ?_
  refine ax_getKN (f := 15) ((p 0) + 7) dX9_safe_52 acl_5 wd_293 (by decide) rfl (xs_R_0 (xk_b0 hx) hok) (xr_R_15 (xk_b0 hx) hok) ?_
  refine ax_iload_n dX9_safe_55 rfl ?_
  refine ax_ialdN (c) dX9_safe_56 (xs_R_7 (xk_b0 hx) hok) (by decide) (by first | with_reducible rfl | assumption | exact ax_nix (by simp only [nx_0, nx_1, nx_2, nx_3, nx_4, nx_10, nx_20, nx_21, nx_100, nI_add, pk_mul] <;> rfl) (by omega) | decide) (by omega) ?_
  refine ax_iastN (5) dX9_safe_57 (lo_s hok 22 rfl) (by decide) (by decide) (by decide) ?_
  refine ax_aload dX9_safe_58 rfl ?_
  refine ax_bipush (v := 11) dX9_safe_60 (by decide) ?_
  refine ax_iload_n dX9_safe_62 rfl ?_
  refine ax_iastN (11) dX9_safe_63 (lo_s hok 22 rfl) (by decide) (by decide) (by decide) ?_
  refine ax_bipush (v := 9) dX9_safe_64 (by decide) ?_
  refine ax_istore dX9_safe_66 (by decide) rfl ?_
  refine ax_gen (fun N9 hN9 => ?_)
  have e9 : ∀ n i, n ≠ 22 → N9.1 n i = N.1 n i := fun n i q => by rw [hN9]; simp [ax_pI, ax_u2, q]
  have n9 : N9.2 = N.2 := by rw [hN9]; rfl
  have p22 : p 0 + 5 ≠ 22 ∧ p 0 + 7 ≠ 22 := by unfold xh_R at hb0; omega
  have e22 : ∀ k, k < 12 → k ≠ 6 → N9.1 22 k = sf_kn r c f 0 k := by
    intro k hk hk6
    rw [hN9]
    have := n3 k hk
    rcases (show k = 0 ∨ k = 1 ∨ k = 2 ∨ k = 3 ∨ k = 4 ∨ k = 5 ∨ k = 7 ∨ k = 8 ∨ k = 9 ∨ k = 10 ∨ k = 11 by omega) with rfl | rfl | rfl | rfl | rfl | rfl | rfl | rfl | rfl | rfl | rfl <;> simp [ax_pI, ax_u2, sf_kn, a1, a3, p22.1, p22.2] at this ⊢ <;> exact this
  have v9 : vf M N9 := ⟨n9.trans n1, fun n i q1 q2 => (e9 n i q2).trans (n2 n i q2)⟩
  have hlaw : ∀ (A : ax_M), vf M A → xfm A (p 2) ((lw 0).getD cs_law) := fun A hA => (xT_qf hI.1 (qf_vf hA)).2.2.2.1.1
  clear hN9 e9
  refine ax_for 9 (fun i A L => L = [some (av_r 1), some (av_i (nI c)), some (av_i f), some (av_r (p 0)), some (av_r 22), some (av_i (nI (9 - i)))] ∧ vf M A ∧ sf_b s 10 = sf_b s (10 - i) ∧ ∀ k, k < 12 → k ≠ 6 → A.1 22 k = sf_kn r c f 0 k) 68 ?_ ?_ (i := 0) (by omega) ⟨rfl, v9, rfl, e22⟩
  · rintro i A L hi ⟨rfl, vA, eb, eA⟩ next
    have hx : xk A.2 p := by rw [vA.1]; exact hI.1.1
    have hok := hx.1
    obtain ⟨q, hq⟩ : ∃ q, 9 - i = q := ⟨_, rfl⟩
    rw [hq]
    refine ax_iload dX9_safe_68 rfl ?_
    refine ax_iconst (v := 1) dX9_safe_70 (by decide) ?_
    refine ax_icmp_lt (tgt := 104) dX9_safe_71 (by decide) (fun hc => ?_) (fun hc => ?_)
    · rw [show (1 : Int32) = nI 1 from rfl] at hc
      have := (nI_ltI (by omega) (by omega)).mp hc
      omega
    clear hc
    refine ax_aload dX9_safe_74 rfl ?_
    refine ax_bipush (v := 6) dX9_safe_76 (by decide) ?_
    refine ax_iload dX9_safe_78 rfl ?_
    refine ax_iastN (6) dX9_safe_80 (lo_s hok 22 rfl) (by decide) (by decide) (by decide) ?_
    refine ax_iconst (v := 2) dX9_safe_81 (by decide) ?_
    refine ax_iload dX9_safe_82 rfl ?_
    refine ax_imul dX9_safe_84 ?_
    refine ax_aload_n dX9_safe_85 rfl ?_
    refine ax_getK (f := 1) 4 dX9_safe_86 acl_9 wd_548 (by decide) rfl (lo_s hok 1 rfl) (lo_r hok 1 rfl) ?_
    refine ax_gen (fun B hB => ?_)
    have b9 : ∀ n i, ¬ (n = 22 ∧ i = 6) → B.1 n i = A.1 n i := fun n i z => by rw [hB]; exact if_neg z
    have vB : vf M B := ⟨by rw [hB]; exact vA.1, fun n i q1 q2 => (b9 n i (by omega)).trans (vA.2 n i q1 q2)⟩
    have kB : ∀ k, k < 12 → B.1 22 k = sf_kn r c f q k := by
      intro k hk
      by_cases k6 : k = 6
      · subst k6; rw [hB]; rfl
      · rw [b9 22 k (by omega), eA k hk k6]
        unfold sf_kn
        simp [k6]
    have hx : xk B.2 p := by rw [hB]; exact hx
    have hok := hx.1
    refine ax_callVN (As := _) (d2 := _) (c1 := 0) (n1 := 0) (c_sightByLaw (lw := lw) (M := B) hx (hlaw B vB) (by rw [kB 2 (by omega), show sf_kn r c f q 2 = 0 from rfl]; decide)) dX9_safe_89 mX7_sightByLaw wd_1245 acl_7 (lo_s hok 4 rfl) rfl (by omega) (by omega) (by omega) rfl rfl (fun _ _ h => by cases h.1) ?_
    rintro _ B2 ⟨h1, k1, k2⟩
    cases h1
    have hok : lo_ok B2.2 := by rw [k1]; exact hok
    have vB2 : vf M B2 := ⟨k1.trans vB.1, fun n i q1 q2 => (k2 n i q1).trans (vB.2 n i q1 q2)⟩
    rw [ev_sight_cong kB (xlw_ev hI.1.2.2.2.1 0 (by omega)), nx_2, pk_mul]
    have esp : ev_sight (lw 0) (sf_kn r c f q) = s q := by rw [hs]
    rw [esp]
    have hlt : s q < nI (2 * q) ↔ (s q).toInt < ((2 * q : Nat) : Int) := by rw [iv_lt, nI_toInt (by omega)]
    have hstep : sf_b s (10 - i) = if 1 ≤ q ∧ ((2 * q : Nat) : Int) ≤ (s q).toInt then q else sf_b s q := by rw [show 10 - i = q + 1 by omega]; rfl
    refine ax_icmp_gt (tgt := 98) dX9_safe_92 (by decide) (fun hc => ?_) (fun hc => ?_)
    · have h1 := hlt.mp hc
      rw [if_neg (by omega)] at hstep
      refine ax_iinc (v := (-1)) dX9_safe_98 rfl (by decide) (by decide) rfl ?_
      refine ax_goto (tgt := 68) dX9_safe_101 (by decide) ?_
      refine next _ _ ⟨?_, vB2, ?_, fun k hk k6 => ?_⟩
      · rw [show nI q + (-1) = nI (9 - (i + 1)) by rw [show (9 - (i + 1)) = q - 1 by omega]; exact (show ∀ q, q < 10 → 1 ≤ q → nI q + (-1) = nI (q - 1) by decide) q (by omega) (by omega)]; rfl
      · rw [eb, hstep]; congr 1; omega
      · rw [k2 22 k (by unfold fs; omega), b9 22 k (by omega), eA k hk k6]
    · have h1 : ¬ (s q).toInt < ((2 * q : Nat) : Int) := fun z => hc (hlt.mpr z)
      rw [if_pos (by omega)] at hstep
      refine ax_iload dX9_safe_95 rfl ?_
      refine ax_iret dX9_safe_97 rfl ?_
      exact e _ _ (eb.trans hstep).symm vB2
  · rintro A L ⟨rfl, vA, eb, eA⟩
    refine ax_iload dX9_safe_68 rfl ?_
    refine ax_iconst (v := 1) dX9_safe_70 (by decide) ?_
    refine ax_icmp_lt (tgt := 104) dX9_safe_71 (by decide) (fun hc => ?_) (fun hc => ?_)
    · refine ax_iconst (v := 0) dX9_safe_104 (by decide) ?_
      refine ax_iret dX9_safe_105 rfl ?_
      exact e 0 _ (by rw [eb]; rfl) vA
    · exact absurd (show nI (9 - 9) < 1 by decide) hc
end X82

