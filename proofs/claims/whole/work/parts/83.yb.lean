/-! ===== asks of the class: dips, gaps, the dark ===== -/
theorem gp_cong {p q : Nat → Bool} : ∀ n, (∀ t, t < n → p t = q t) → gp p n = gp q n
  | 0, _ => rfl
  | n + 1, h => by
    unfold gp
    rw [gp_cong n (fun t ht => h t (by omega)), h n (by omega)]
theorem gp_off {p : Nat → Bool} {a : Nat} : ∀ n, a ≤ n → (∀ t, a ≤ t → t < n → p t = false) → (gp p n).1 = (gp p a).1 ∧ (gp p n).2.1 = (gp p a).2.1
  | 0, h, _ => by rw [show a = 0 by omega]; exact ⟨rfl, rfl⟩
  | n + 1, h, hp => by
    by_cases e : a = n + 1
    · rw [e]; exact ⟨rfl, rfl⟩
    · have ih := gp_off (p := p) n (by omega) (fun t h1 h2 => hp t h1 (by omega))
      have st : gp p (n + 1) = if (gp p n).1 < (if p n = true then (gp p n).2.2 + 1 else 0) then ((if p n = true then (gp p n).2.2 + 1 else 0), nI n - nI (if p n = true then (gp p n).2.2 + 1 else 0) + 1, (if p n = true then (gp p n).2.2 + 1 else 0)) else ((gp p n).1, (gp p n).2.1, (if p n = true then (gp p n).2.2 + 1 else 0)) := rfl
      rw [st, hp n (by omega) (by omega), if_neg (show ¬ (false = true) by decide), if_neg (by omega)]
      exact ih
def dkf (r : Nat → Int) (lw : mt_L) (c : Nat) (h : Int) (q : Nat) : Bool := hx r lw c (q : Int) h
def ndf (r : Nat → Int) (lw : mt_L) (x : Int) (h : Nat) : Bool := !hx r lw 0 x (h : Int) && !hx r lw 1 x (h : Int)
theorem dk_eq {r : Nat → Int} {lw : mt_L} {x h : Int32} : qa_dark r lw x h = if ¬ (0 ≤ x ∧ x ≤ iI (r 1) - 1) then .inr (1, 0) else if ¬ (0 ≤ h ∧ h ≤ 9) then .inr (2, 1) else .inl (av_i (nI (mt_cnt (dkf r lw x.toNatClampNeg h.toInt) (r 0).toNat))) := rfl
theorem nd_eq {r : Nat → Int} {lw : mt_L} {x : Int32} : qa_needs r lw x = if ¬ (0 ≤ x ∧ x ≤ iI (r 0) - 1) then .inr (1, 1) else .inl (av_i (mt_sb (mt_first (ndf r lw x.toInt) 10))) := rfl
section X83
variable {l : Launch} {G : ax_G} {M : ax_M} {p : Nat → Nat} {r : Nat → Int} {lw : mt_L} {es : List (Nat × Nat)}
theorem x_dips (hl9 : l.stackTraces = false) (hI : xI M p r lw es) (x y : Int32) : ax_Met l G kX9_dips 8 2 12 M [av_r 1, av_i x, av_i y] (xA p r lw es M (qa_dips r lw x y)) := by
  have hx := hI.1.1
  have hok := hx.1
  have hr := hI.1.2.1
  have ho := hI.1.2.2.1
  have h0 := ho.1
  refine ax_body (by decide) (Nat.le_of_ble_eq_true rfl) ?_
  refine ax_aload_n dX9_dips_0 rfl ?_
  refine ax_iload_n dX9_dips_1 rfl ?_
  refine ax_callVX (As := _) (d2 := _) (c1 := 1) (n1 := 6) (c_needCar (M := M) hl9 hx hr ho) dX9_dips_2 mX9_needCar wd_1136 acl_9 (lo_s hok 1 rfl) rfl (by omega) (by omega) (by omega) rfl rfl (fun E M2 h => xA_ex h (fun z => by unfold qa_dips; rw [if_pos z])) ?_
  refine xN_k (fun g1 => ?_)
  refine ax_aload_n dX9_dips_5 rfl ?_
  refine ax_iload_n dX9_dips_6 rfl ?_
  refine ax_iconst (v := 0) dX9_dips_7 (by decide) ?_
  refine ax_iconst (v := 1) dX9_dips_8 (by decide) ?_
  refine ax_callVX (As := _) (d2 := _) (c1 := 0) (n1 := 0) (c_needRange (M := M) hl9 hok) dX9_dips_9 mX9_needRange wd_1121 acl_9 (lo_s hok 1 rfl) rfl (by omega) (by omega) (by omega) rfl rfl (fun E M2 h => xA_ex h (fun z => by unfold qa_dips; rw [if_neg (fun q => q g1), if_pos z])) ?_
  refine xN_k (fun g2 => ?_)
  obtain ⟨c, hc1, rfl⟩ := in_car g1 (by omega) (by omega)
  obtain ⟨k, hk, rfl⟩ := in_nat g2 (n := 1) rfl (by decide)
  have hc2 : c < 2 := by omega
  have h60 := tn_60 ho hc2
  have hT := tn_T ho hc2
  refine ax_aload_n dX9_dips_12 rfl ?_
  refine ax_callV (As := _) (d2 := _) (c1 := 0) (n1 := 0) (c_freshMeeting (M := M) hI) dX9_dips_13 mX9_freshMeeting wd_609 acl_9 (lo_s hok 1 rfl) rfl (by omega) (by omega) (by omega) rfl rfl (fun _ _ h => by cases h.1) ?_
  rintro _ M1 ⟨h1, f1, I1, -, m1, -⟩
  cases h1
  have hx := I1.1.1
  have hok := hx.1
  have hr := I1.1.2.1
  have e : ∀ v, v = qv_dips r lw c k → xA p r lw es M (qa_dips r lw (nI c) (nI k)) (.inl (some (av_i v))) M1 := fun v hv => by
    unfold qa_dips
    rw [if_neg (fun z => z g1), if_neg (fun z => z g2), nI_clamp (by omega), nI_clamp (by omega), hv]
    exact xA_in f1 I1
  refine ax_iload_n dX9_dips_16 rfl ?_
  refine ax_callVN (As := _) (d2 := _) (c1 := 0) (n1 := 0) (c_tripOf (d := 6) (M := M1) hok (Or.inl rfl) hc2 rfl) dX9_dips_17 mX4_tripOf wd_1159 acl_4 (xs_U_0 (Or.inl rfl) hok) rfl (by omega) (by omega) (by omega) rfl rfl (fun _ _ h => by cases h.1) ?_
  rintro r M9 ⟨h1, h9⟩; cases h1; rw [h9]; clear h9 M9
  have tp := xmt_tp m1 hc2
  have hTT : xh_T (40 + 1 + 7 * c) := xh_UT (Or.inl rfl) hc2
  refine ax_astore_n dX9_dips_20 (by decide) rfl ?_
  refine ax_aload_n dX9_dips_21 rfl ?_
  refine ax_iconst (v := 0) dX9_dips_22 (by decide) ?_
  refine ax_iconst (v := 0) dX9_dips_23 (by decide) ?_
  refine ax_callVN (As := _) (d2 := _) (c1 := 0) (n1 := 0) (c_firstBeams (M := M1) hok hTT ho hc2 tp (w := 0) (a := 0) (by omega) rfl) dX9_dips_24 mX8_firstBeams wd_1502 acl_8 (xs_T_0 (xh_UT (Or.inl rfl) hc2) hok) rfl (by omega) (by omega) (by omega) rfl rfl (fun _ _ h => by cases h.1) ?_
  rintro r M9 ⟨h1, h9⟩; cases h1; rw [h9]; clear h9 M9
  have e0 : mt_first (dp_0 r lw c) (mt_T r) = mt_first (fun t => decide (0 ≤ t) && decide (mt_f r lw mt_n c t = 0)) (tn r c) := by
    show mt_first (fun t => mt_on r c t && decide (mt_f r lw mt_n c t = 0)) (mt_T r) = _
    rw [first_tn ho hc2, Nat.min_eq_right hT]
    congr 1
  refine ax_istore dX9_dips_27 (by decide) rfl ?_
  refine ax_iload_n dX9_dips_29 rfl ?_
  rw [← e0]
  rcases (show k = 0 ∨ k = 1 by omega) with rfl | rfl
  · refine ax_if_eq (tgt := 39) dX9_dips_30 (by decide) (fun hc => ?_) (fun hc => ?_)
    · refine ax_iload dX9_dips_39 rfl ?_
      refine ax_iret dX9_dips_41 rfl ?_
      exact e _ rfl
    · exact absurd rfl hc
  · refine ax_if_eq (tgt := 39) dX9_dips_30 (by decide) (fun hc => ?_) (fun hc => ?_)
    · exact absurd hc (by decide)
    clear hc
    refine ax_iload dX9_dips_33 rfl ?_
    refine ax_iconst (v := (-1)) dX9_dips_35 (by decide) ?_
    cases hf : mt_first (dp_0 r lw c) (mt_T r) with
    | none =>
      refine ax_icmp_ne (tgt := 42) dX9_dips_36 (by decide) (fun hc => ?_) (fun hc => ?_)
      · exact absurd rfl hc
      · refine ax_iload dX9_dips_39 rfl ?_
        refine ax_iret dX9_dips_41 rfl ?_
        refine e _ ?_
        show _ = mt_sb (mt_first (dp_1 r lw c) (mt_T r))
        rw [mt_first_no (fun t ht => ?_)]
        unfold dp_1
        have : (mt_first (dp_0 r lw c) t).isSome = false := by
          rw [mt_first_no (fun u hu => (mt_first_none hf) u (by omega))]; rfl
        rw [this]; simp
    | some u =>
      obtain ⟨u1, u2, u3⟩ := mt_first_some hf
      have u4 : u < tn r c := (tn_on ho hc2 u).mp (by unfold dp_0 at u2; rw [Bool.and_eq_true] at u2; exact u2.1)
      show ax_W l G kX9_dips _ _ _ _ _ _ _ [av_i (-1), av_i (nI u)]
      refine ax_icmp_ne (tgt := 42) dX9_dips_36 (by decide) (fun hc => ?_) (fun hc => ?_)
      · show ax_W l G kX9_dips _ _ _ _ _ _ [_, _, _, _, some (av_i (nI u))] _
        refine ax_aload_n dX9_dips_42 rfl ?_
        refine ax_iconst (v := 1) dX9_dips_43 (by decide) ?_
        refine ax_iload dX9_dips_44 rfl ?_
        refine ax_callVN (As := _) (d2 := _) (c1 := 0) (n1 := 0) (c_firstBeams (M := M1) hok hTT ho hc2 tp (w := 1) (a := u) (by omega) rfl) dX9_dips_46 mX8_firstBeams wd_1502 acl_8 (xs_T_0 (xh_UT (Or.inl rfl) hc2) hok) rfl (by omega) (by omega) (by omega) rfl rfl (fun _ _ h => by cases h.1) ?_
        rintro r M9 ⟨h1, h9⟩; cases h1; rw [h9]; clear h9 M9
        refine ax_iret dX9_dips_49 rfl ?_
        refine e _ ?_
        show _ = mt_sb (mt_first (fun t => mt_on r c t && (decide (mt_f r lw mt_n c t = 1) && (mt_first (dp_0 r lw c) t).isSome)) (mt_T r))
        rw [first_tn ho hc2, Nat.min_eq_right hT]
        congr 2
        funext t
        have fu : mt_f r lw mt_n c u = 0 := by unfold dp_0 at u2; rw [Bool.and_eq_true] at u2; exact of_decide_eq_true u2.2
        rcases Nat.lt_trichotomy t u with q | q | q
        · rw [mt_first_no (fun w hw => u3 w (by omega)), decide_eq_false (show ¬ u ≤ t by omega)]; simp
        · subst q; rw [decide_eq_false (show ¬ mt_f r lw mt_n c t = 1 by rw [fu]; decide)]; simp
        · rw [mt_first_of u2 u3 q, decide_eq_true (show u ≤ t by omega)]; simp
      · exact absurd hc (nI_m1 (by omega))
theorem x_gap (hl9 : l.stackTraces = false) (hI : xI M p r lw es) (x y : Int32) : ax_Met l G kX9_gap 8 2 12 M [av_r 1, av_i x, av_i y] (xA p r lw es M (qa_gap r lw x y)) := by
  have hx := hI.1.1
  have hok := hx.1
  have hr := hI.1.2.1
  have ho := hI.1.2.2.1
  have h0 := ho.1
  refine ax_body (by decide) (Nat.le_of_ble_eq_true rfl) ?_
  refine ax_aload_n dX9_gap_0 rfl ?_
  refine ax_iload_n dX9_gap_1 rfl ?_
  refine ax_callVX (As := _) (d2 := _) (c1 := 1) (n1 := 6) (c_needCar (M := M) hl9 hx hr ho) dX9_gap_2 mX9_needCar wd_1136 acl_9 (lo_s hok 1 rfl) rfl (by omega) (by omega) (by omega) rfl rfl (fun E M2 h => xA_ex h (fun z => by unfold qa_gap; rw [if_pos z])) ?_
  refine xN_k (fun g1 => ?_)
  refine ax_aload_n dX9_gap_5 rfl ?_
  refine ax_iload_n dX9_gap_6 rfl ?_
  refine ax_iconst (v := 0) dX9_gap_7 (by decide) ?_
  refine ax_iconst (v := 1) dX9_gap_8 (by decide) ?_
  refine ax_callVX (As := _) (d2 := _) (c1 := 0) (n1 := 0) (c_needRange (M := M) hl9 hok) dX9_gap_9 mX9_needRange wd_1121 acl_9 (lo_s hok 1 rfl) rfl (by omega) (by omega) (by omega) rfl rfl (fun E M2 h => xA_ex h (fun z => by unfold qa_gap; rw [if_neg (fun q => q g1), if_pos z])) ?_
  refine xN_k (fun g2 => ?_)
  obtain ⟨c, hc1, rfl⟩ := in_car g1 (by omega) (by omega)
  obtain ⟨k, hk, rfl⟩ := in_nat g2 (n := 1) rfl (by decide)
  have hc2 : c < 2 := by omega
  have h60 := tn_60 ho hc2
  have hT := tn_T ho hc2
  refine ax_aload_n dX9_gap_12 rfl ?_
  refine ax_callV (As := _) (d2 := _) (c1 := 0) (n1 := 0) (c_freshMeeting (M := M) hI) dX9_gap_13 mX9_freshMeeting wd_609 acl_9 (lo_s hok 1 rfl) rfl (by omega) (by omega) (by omega) rfl rfl (fun _ _ h => by cases h.1) ?_
  rintro _ M1 ⟨h1, f1, I1, -, m1, -⟩
  cases h1
  have hx := I1.1.1
  have hok := hx.1
  have hr := I1.1.2.1
  have e : ∀ v, v = qv_gap r lw c k → xA p r lw es M (qa_gap r lw (nI c) (nI k)) (.inl (some (av_i v))) M1 := fun v hv => by
    unfold qa_gap
    rw [if_neg (fun z => z g1), if_neg (fun z => z g2), nI_clamp (by omega), nI_clamp (by omega), hv]
    exact xA_in f1 I1
  refine ax_iload_n dX9_gap_16 rfl ?_
  refine ax_callVN (As := _) (d2 := _) (c1 := 0) (n1 := 0) (c_tripOf (d := 6) (M := M1) hok (Or.inl rfl) hc2 rfl) dX9_gap_17 mX4_tripOf wd_1159 acl_4 (xs_U_0 (Or.inl rfl) hok) rfl (by omega) (by omega) (by omega) rfl rfl (fun _ _ h => by cases h.1) ?_
  rintro r M9 ⟨h1, h9⟩; cases h1; rw [h9]; clear h9 M9
  have tp := xmt_tp m1 hc2
  have hTT : xh_T (40 + 1 + 7 * c) := xh_UT (Or.inl rfl) hc2
  obtain ⟨u, hu⟩ : ∃ u, u = mt_un r lw mt_n c := ⟨_, rfl⟩
  have eT := gp_off (p := u) (a := tn r c) (mt_T r) hT (fun t h1 h2 => by rw [hu]; unfold mt_un; cases hh : mt_on r c t; rfl; exact absurd ((tn_on ho hc2 t).mp hh) (by omega))
  refine ax_astore_n dX9_gap_20 (by decide) rfl ?_
  refine ax_iconst (v := 0) dX9_gap_21 (by decide) ?_
  refine ax_istore dX9_gap_22 (by decide) rfl ?_
  refine ax_iconst (v := (-1)) dX9_gap_24 (by decide) ?_
  refine ax_istore dX9_gap_25 (by decide) rfl ?_
  refine ax_iconst (v := 0) dX9_gap_27 (by decide) ?_
  refine ax_istore dX9_gap_28 (by decide) rfl ?_
  refine ax_iconst (v := 0) dX9_gap_30 (by decide) ?_
  refine ax_istore dX9_gap_31 (by decide) rfl ?_
  refine ax_for (tn r c) (fun t N L => N = M1 ∧ L = [some (av_r 1), some (av_i (nI c)), some (av_i (nI k)), some (av_r (40 + 1 + 7 * c)), some (av_i (nI (gp u t).1)), some (av_i (gp u t).2.1), some (av_i (nI (gp u t).2.2)), some (av_i (nI t))]) 33 ?_ ?_ (i := 0) (by omega) ⟨rfl, rfl⟩
  · rintro t N L ht ⟨rfl, rfl⟩ next
    have hg := gp_le u t
    have eu : u t = true ↔ mt_si r lw mt_n c t < mt_stop r c t := by
      rw [hu]; unfold mt_un; rw [(tn_on ho hc2 t).mpr ht]; simp
    refine ax_iload dX9_gap_33 rfl ?_
    refine ax_aload_n dX9_gap_35 rfl ?_
    refine ax_getIN (f := 9) dX9_gap_36 acl_8 wd_437 (by decide) rfl (xs_T_0 (xh_UT (Or.inl rfl) hc2) hok) ?_
    rw [tp.2.1]
    refine ax_icmp_ge (tgt := 88) dX9_gap_39 (by decide) (fun hc => absurd ((nI_leI (by omega) (by omega)).mp hc) (by omega)) (fun hc => ?_)
    refine ax_aload_n dX9_gap_42 rfl ?_
    refine ax_iload dX9_gap_43 rfl ?_
    refine ax_callVN (As := _) (d2 := _) (c1 := 0) (n1 := 0) (c_xunsafe (d := 6) (M := N) hok hTT ho hc2 tp ht rfl) dX9_gap_45 mX8_unsafe wd_1160 acl_8 (xs_T_0 (xh_UT (Or.inl rfl) hc2) hok) rfl (by omega) (by omega) (by omega) rfl rfl (fun _ _ h => by cases h.1) ?_
    rintro r M9 ⟨h1, h9⟩; cases h1; rw [h9]; clear h9 M9
    refine ax_iconst (v := 1) dX9_gap_48 (by decide) ?_
    have ee : (if mt_si r lw mt_n c t < mt_stop r c t then (1 : Int32) else 0) = if u t = true then 1 else 0 := by
      by_cases q : u t = true
      · rw [if_pos q, if_pos (eu.mp q)]
      · rw [if_neg q, if_neg (fun z => q (eu.mpr z))]
    rw [ee]
    refine ax_join2 (u t = true) 60 (nI (gp u t).2.2 + 1) (0) ?_ (fun ja jb => ?_)
    rotate_left
    · refine ax_icmp_ne (tgt := 59) dX9_gap_49 (by decide) (fun h49 => ?_) (fun h49 => ?_)
      · refine ax_iconst (v := 0) dX9_gap_59 (by decide) ?_
        first | exact jb (fun z => h49 (by rw [if_pos z])) | exact ja (by by_cases z : u t = true; exact z; rw [if_neg z] at h49; exact absurd h49 (by decide))
      · refine ax_iload dX9_gap_52 rfl ?_
        refine ax_iconst (v := 1) dX9_gap_54 (by decide) ?_
        refine ax_iadd dX9_gap_55 ?_
        refine ax_goto (tgt := 60) dX9_gap_56 (by decide) ?_
        first | exact jb (fun z => h49 (by rw [if_pos z])) | exact ja (by by_cases z : u t = true; exact z; rw [if_neg z] at h49; exact absurd h49 (by decide))
    obtain ⟨w, hw⟩ : ∃ w, w = if u t = true then (gp u t).2.2 + 1 else 0 := ⟨_, rfl⟩
    have ew : (if u t = true then nI (gp u t).2.2 + 1 else 0) = nI w := by
      rw [hw]
      by_cases q : u t = true
      · rw [if_pos q, if_pos q, nI_1]
      · rw [if_neg q, if_neg q]; rfl
    have wl : w ≤ t + 1 := by rw [hw]; split <;> omega
    have st : gp u (t + 1) = if (gp u t).1 < w then (w, nI t - nI w + 1, w) else ((gp u t).1, (gp u t).2.1, w) := by rw [hw]; rfl
    rw [ew]
    refine ax_istore dX9_gap_60 (by decide) rfl ?_
    refine ax_iload dX9_gap_62 rfl ?_
    refine ax_iload dX9_gap_64 rfl ?_
    refine ax_icmp_le (tgt := 82) dX9_gap_66 (by decide) (fun hc => ?_) (fun hc => ?_)
    · have h1 := (nI_leI (by omega) (by omega)).mp hc
      rw [if_neg (by omega)] at st
      refine ax_iinc (v := 1) dX9_gap_82 rfl (by decide) (by decide) rfl ?_
      refine ax_goto (tgt := 33) dX9_gap_85 (by decide) ?_
      exact next _ _ ⟨rfl, by rw [st, nI_1]; rfl⟩
    · have h1 : ¬ w ≤ (gp u t).1 := fun z => hc ((nI_leI (by omega) (by omega)).mpr z)
      rw [if_pos (by omega)] at st
      refine ax_iload dX9_gap_69 rfl ?_
      refine ax_istore dX9_gap_71 (by decide) rfl ?_
      refine ax_iload dX9_gap_73 rfl ?_
      refine ax_iload dX9_gap_75 rfl ?_
      refine ax_isub dX9_gap_77 ?_
      refine ax_iconst (v := 1) dX9_gap_78 (by decide) ?_
      refine ax_iadd dX9_gap_79 ?_
      refine ax_istore dX9_gap_80 (by decide) rfl ?_
      refine ax_iinc (v := 1) dX9_gap_82 rfl (by decide) (by decide) rfl ?_
      refine ax_goto (tgt := 33) dX9_gap_85 (by decide) ?_
      exact next _ _ ⟨rfl, by rw [st, nI_1]; rfl⟩
  · rintro N L ⟨rfl, rfl⟩
    refine ax_iload dX9_gap_33 rfl ?_
    refine ax_aload_n dX9_gap_35 rfl ?_
    refine ax_getIN (f := 9) dX9_gap_36 acl_8 wd_437 (by decide) rfl (xs_T_0 (xh_UT (Or.inl rfl) hc2) hok) ?_
    rw [tp.2.1]
    refine ax_icmp_ge (tgt := 88) dX9_gap_39 (by decide) (fun hc => ?_) (fun hc => absurd ((nI_leI (by omega) (by omega)).mpr (by omega)) hc)
    refine ax_iload_n dX9_gap_88 rfl ?_
    rcases (show k = 0 ∨ k = 1 by omega) with rfl | rfl
    · refine ax_if_ne (tgt := 97) dX9_gap_89 (by decide) (fun hc => ?_) (fun hc => ?_)
      · exact absurd rfl hc
      · refine ax_iload dX9_gap_92 rfl ?_
        refine ax_goto (tgt := 99) dX9_gap_94 (by decide) ?_
        refine ax_iret dX9_gap_99 rfl ?_
        exact e _ (by show _ = nI (gp (mt_un r lw mt_n c) (mt_T r)).1; rw [← hu, eT.1])
    · refine ax_if_ne (tgt := 97) dX9_gap_89 (by decide) (fun hc => ?_) (fun hc => ?_)
      · refine ax_iload dX9_gap_97 rfl ?_
        refine ax_iret dX9_gap_99 rfl ?_
        exact e _ (by show _ = (gp (mt_un r lw mt_n c) (mt_T r)).2.1; rw [← hu, eT.2])
      · exact absurd hc (by decide)
theorem x_darkest (hl9 : l.stackTraces = false) (hI : xI M p r lw es) (h : Int32) : ax_Met l G kX9_darkest 8 1 6 M [av_r 1, av_i h] (xA p r lw es M (qa_darkest r lw h)) := by
  have hx := hI.1.1
  have hok := hx.1
  have hr := hI.1.2.1
  have ho := hI.1.2.2.1
  have h0 := ho.1
  refine ax_body (by decide) (Nat.le_of_ble_eq_true rfl) ?_
  refine ax_aload_n dX9_darkest_0 rfl ?_
  refine ax_iload_n dX9_darkest_1 rfl ?_
  refine ax_iconst (v := 0) dX9_darkest_2 (by decide) ?_
  refine ax_bipush (v := 9) dX9_darkest_3 (by decide) ?_
  refine ax_callVX (As := _) (d2 := _) (c1 := 0) (n1 := 0) (c_needRange (M := M) hl9 hok) dX9_darkest_5 mX9_needRange wd_1121 acl_9 (lo_s hok 1 rfl) rfl (by omega) (by omega) (by omega) rfl rfl (fun E M2 h => xA_ex h (fun z => by unfold qa_darkest; rw [if_pos z])) ?_
  refine xN_k (fun g1 => ?_)
  have hh := iv_in g1
  have h99 : (9 : Int32).toInt = 9 := rfl
  have h00 : (0 : Int32).toInt = 0 := rfl
  obtain ⟨v, hv⟩ : ∃ v, v = dk_v r lw h.toInt := ⟨_, rfl⟩
  have vle : ∀ x, v x ≤ 2 := fun x => by rw [hv]; exact dk_v_le _ _ _ _
  refine ax_iconst (v := (-1)) dX9_darkest_8 (by decide) ?_
  refine ax_istore_n dX9_darkest_9 (by decide) rfl ?_
  refine ax_iconst (v := 0) dX9_darkest_10 (by decide) ?_
  refine ax_istore_n dX9_darkest_11 (by decide) rfl ?_
  refine ax_iconst (v := 0) dX9_darkest_12 (by decide) ?_
  refine ax_istore dX9_darkest_13 (by decide) rfl ?_
  refine ax_for (r 0).toNat (fun x N L => ∃ y5, L = [some (av_r 1), some (av_i h), some (av_i (dk_s v x).1), some (av_i (nI (dk_s v x).2)), some (av_i (nI x)), y5] ∧ qf M N ∧ xI N p r lw es) 15 ?_ ?_ (i := 0) (by omega) ⟨_, rfl, qf_refl M, hI⟩
  · rintro x N L hxt ⟨y5, rfl, fr, I⟩ next
    have hx := I.1.1
    have hok := hx.1
    have hr := I.1.2.1
    have s2 := dk_s_le vle x
    have vx := vle x
    refine ax_iload dX9_darkest_15 rfl ?_
    refine ax_aload_n dX9_darkest_17 rfl ?_
    refine ax_getK (f := 1) 4 dX9_darkest_18 acl_9 wd_548 (by decide) rfl (lo_s hok 1 rfl) (lo_r hok 1 rfl) ?_
    refine ax_getKN (f := 0) (p 0) dX9_darkest_21 acl_7 wd_367 (by decide) rfl (lo_s hok 4 rfl) (xk_r0 hx) ?_
    refine ax_getIN (f := 0) dX9_darkest_24 acl_5 wd_253 (by decide) rfl (xs_R_0 (xk_b0 hx) hok) ?_
    rw [hr.1.1, iI_tn (show 0 ≤ r 0 by omega)]
    refine ax_icmp_ge (tgt := 67) dX9_darkest_27 (by decide) (fun hc => absurd ((nI_leI (by omega) (by omega)).mp hc) (by omega)) (fun hc => ?_)
    refine ax_aload_n dX9_darkest_30 rfl ?_
    refine ax_callV (As := _) (d2 := _) (c1 := 0) (n1 := 0) (c_freshMeeting (M := N) I) dX9_darkest_31 mX9_freshMeeting wd_609 acl_9 (lo_s hok 1 rfl) rfl (by omega) (by omega) (by omega) rfl rfl (fun _ _ h => by cases h.1) ?_
    rintro _ M1 ⟨h1, f1, I1, -, m1, -⟩
    cases h1
    have hx := I1.1.1
    have hok := hx.1
    have hr := I1.1.2.1
    have fr := qf_trans fr f1
    refine ax_aload_n dX9_darkest_34 rfl ?_
    refine ax_getK (f := 1) 4 dX9_darkest_35 acl_9 wd_548 (by decide) rfl (lo_s hok 1 rfl) (lo_r hok 1 rfl) ?_
    refine ax_getKN (f := 0) (p 0) dX9_darkest_38 acl_7 wd_367 (by decide) rfl (lo_s hok 4 rfl) (xk_r0 hx) ?_
    refine ax_iload dX9_darkest_41 rfl ?_
    refine ax_iload_n dX9_darkest_43 rfl ?_
    refine ax_callVN (As := _) (d2 := _) (c1 := 0) (n1 := 0) (c_hitByCars (M := M1) hok (Or.inl rfl) (xk_b0 hx) hr ho m1 (x := (x : Int)) (h := h.toInt) (by omega) (by omega) (iI_nI x) (iI_of h).symm) dX9_darkest_44 mX4_hitByCars wd_1483 acl_4 (xs_U_0 (Or.inl rfl) hok) rfl (by omega) (by omega) (by omega) rfl rfl (fun _ _ h => by cases h.1) ?_
    rintro r M9 ⟨h1, h9⟩; cases h1; rw [h9]; clear h9 M9
    have ev : (if mt_hits r lw mt_n 0 (x : Int) h.toInt (mt_T r) = true then 1 else 0) + (if mt_hits r lw mt_n 1 (x : Int) h.toInt (mt_T r) = true then 1 else 0) = v x := by rw [hv]; rfl
    rw [ev]
    refine ax_istore dX9_darkest_47 (by decide) rfl ?_
    refine ax_iload dX9_darkest_49 rfl ?_
    refine ax_iload_n dX9_darkest_51 rfl ?_
    refine ax_icmp_le (tgt := 61) dX9_darkest_52 (by decide) (fun hc => ?_) (fun hc => ?_)
    · have hlt := (nI_leI (by omega) (by omega)).mp hc
      refine ax_iinc (v := 1) dX9_darkest_61 rfl (by decide) (by decide) rfl ?_
      refine ax_goto (tgt := 15) dX9_darkest_64 (by decide) ?_
      have e : dk_s v (x + 1) = dk_s v x := if_neg (by omega)
      exact next _ _ ⟨some (av_i (nI (v x))), by rw [e, nI_1]; rfl, fr, I1⟩
    · have hlt : ¬ v x ≤ (dk_s v x).2 := fun z => hc ((nI_leI (by omega) (by omega)).mpr z)
      refine ax_iload dX9_darkest_55 rfl ?_
      refine ax_istore_n dX9_darkest_57 (by decide) rfl ?_
      refine ax_iload dX9_darkest_58 rfl ?_
      refine ax_istore_n dX9_darkest_60 (by decide) rfl ?_
      refine ax_iinc (v := 1) dX9_darkest_61 rfl (by decide) (by decide) rfl ?_
      refine ax_goto (tgt := 15) dX9_darkest_64 (by decide) ?_
      have e : dk_s v (x + 1) = (nI x, v x) := if_pos (by omega)
      exact next _ _ ⟨some (av_i (nI (v x))), by rw [e, nI_1]; rfl, fr, I1⟩
  · rintro N L ⟨y5, rfl, fr, I⟩
    have hx := I.1.1
    have hok := hx.1
    have hr := I.1.2.1
    refine ax_iload dX9_darkest_15 rfl ?_
    refine ax_aload_n dX9_darkest_17 rfl ?_
    refine ax_getK (f := 1) 4 dX9_darkest_18 acl_9 wd_548 (by decide) rfl (lo_s hok 1 rfl) (lo_r hok 1 rfl) ?_
    refine ax_getKN (f := 0) (p 0) dX9_darkest_21 acl_7 wd_367 (by decide) rfl (lo_s hok 4 rfl) (xk_r0 hx) ?_
    refine ax_getIN (f := 0) dX9_darkest_24 acl_5 wd_253 (by decide) rfl (xs_R_0 (xk_b0 hx) hok) ?_
    rw [hr.1.1, iI_tn (show 0 ≤ r 0 by omega)]
    refine ax_icmp_ge (tgt := 67) dX9_darkest_27 (by decide) (fun hc => ?_) (fun hc => absurd ((nI_leI (by omega) (by omega)).mpr (by omega)) hc)
    refine ax_iload_n dX9_darkest_67 rfl ?_
    refine ax_iret dX9_darkest_68 rfl ?_
    unfold qa_darkest
    rw [if_neg (fun z => z g1), ← hv]
    exact xA_in fr I
theorem x_dark (hl9 : l.stackTraces = false) (hI : xI M p r lw es) (x h : Int32) : ax_Met l G kX9_dark 8 2 12 M [av_r 1, av_i x, av_i h] (xA p r lw es M (qa_dark r lw x h)) := by
  have hx := hI.1.1
  have hok := hx.1
  have hr := hI.1.2.1
  have ho := hI.1.2.2.1
  have h0 := ho.1
  refine ax_body (by decide) (Nat.le_of_ble_eq_true rfl) ?_
  refine ax_aload_n dX9_dark_0 rfl ?_
  refine ax_iload_n dX9_dark_1 rfl ?_
  refine ax_callVX (As := _) (d2 := _) (c1 := 1) (n1 := 6) (c_needCar (M := M) hl9 hx hr ho) dX9_dark_2 mX9_needCar wd_1136 acl_9 (lo_s hok 1 rfl) rfl (by omega) (by omega) (by omega) rfl rfl (fun E M2 h => xA_ex h (fun z => by unfold qa_dark; rw [if_pos z])) ?_
  refine xN_k (fun g1 => ?_)
  refine ax_aload_n dX9_dark_5 rfl ?_
  refine ax_iload_n dX9_dark_6 rfl ?_
  refine ax_iconst (v := 0) dX9_dark_7 (by decide) ?_
  refine ax_bipush (v := 9) dX9_dark_8 (by decide) ?_
  refine ax_callVX (As := _) (d2 := _) (c1 := 0) (n1 := 0) (c_needRange (M := M) hl9 hok) dX9_dark_10 mX9_needRange wd_1121 acl_9 (lo_s hok 1 rfl) rfl (by omega) (by omega) (by omega) rfl rfl (fun E M2 h => xA_ex h (fun z => by unfold qa_dark; rw [if_neg (fun q => q g1), if_pos z])) ?_
  refine xN_k (fun g2 => ?_)
  obtain ⟨c, hc1, rfl⟩ := in_car g1 (by omega) (by omega)
  have hc2 : c < 2 := by omega
  have hh := iv_in g2
  have h99 : (9 : Int32).toInt = 9 := rfl
  have h00 : (0 : Int32).toInt = 0 := rfl
  obtain ⟨v, hv⟩ : ∃ v : Nat → Bool, v = dkf r lw c h.toInt := ⟨_, rfl⟩
  refine ax_iconst (v := 0) dX9_dark_13 (by decide) ?_
  refine ax_istore_n dX9_dark_14 (by decide) rfl ?_
  refine ax_iconst (v := 0) dX9_dark_15 (by decide) ?_
  refine ax_istore dX9_dark_16 (by decide) rfl ?_
  refine ax_for (r 0).toNat (fun x N L => L = [some (av_r 1), some (av_i (nI c)), some (av_i h), some (av_i (nI (mt_cnt v x))), some (av_i (nI x))] ∧ qf M N ∧ xI N p r lw es) 18 ?_ ?_ (i := 0) (by omega) ⟨rfl, qf_refl M, hI⟩
  · rintro x N L hxt ⟨rfl, fr, I⟩ next
    have hx := I.1.1
    have hok := hx.1
    have hr := I.1.2.1
    refine ax_iload dX9_dark_18 rfl ?_
    refine ax_aload_n dX9_dark_20 rfl ?_
    refine ax_getK (f := 1) 4 dX9_dark_21 acl_9 wd_548 (by decide) rfl (lo_s hok 1 rfl) (lo_r hok 1 rfl) ?_
    refine ax_getKN (f := 0) (p 0) dX9_dark_24 acl_7 wd_367 (by decide) rfl (lo_s hok 4 rfl) (xk_r0 hx) ?_
    refine ax_getIN (f := 0) dX9_dark_27 acl_5 wd_253 (by decide) rfl (xs_R_0 (xk_b0 hx) hok) ?_
    rw [hr.1.1, iI_tn (show 0 ≤ r 0 by omega)]
    refine ax_icmp_ge (tgt := 60) dX9_dark_30 (by decide) (fun hc => absurd ((nI_leI (by omega) (by omega)).mp hc) (by omega)) (fun hc => ?_)
    refine ax_iload_n dX9_dark_33 rfl ?_
    refine ax_aload_n dX9_dark_34 rfl ?_
    refine ax_callV (As := _) (d2 := _) (c1 := 0) (n1 := 0) (c_freshMeeting (M := N) I) dX9_dark_35 mX9_freshMeeting wd_609 acl_9 (lo_s hok 1 rfl) rfl (by omega) (by omega) (by omega) rfl rfl (fun _ _ h => by cases h.1) ?_
    rintro _ M1 ⟨h1, f1, I1, -, m1, -⟩
    cases h1
    have hx := I1.1.1
    have hok := hx.1
    have hr := I1.1.2.1
    have fr := qf_trans fr f1
    refine ax_aload_n dX9_dark_38 rfl ?_
    refine ax_getK (f := 1) 4 dX9_dark_39 acl_9 wd_548 (by decide) rfl (lo_s hok 1 rfl) (lo_r hok 1 rfl) ?_
    refine ax_getKN (f := 0) (p 0) dX9_dark_42 acl_7 wd_367 (by decide) rfl (lo_s hok 4 rfl) (xk_r0 hx) ?_
    refine ax_iload_n dX9_dark_45 rfl ?_
    refine ax_iload dX9_dark_46 rfl ?_
    refine ax_iload_n dX9_dark_48 rfl ?_
    refine ax_callVN (As := _) (d2 := _) (c1 := 0) (n1 := 0) (c_hitBy (M := M1) hok (Or.inl rfl) (xk_b0 hx) hr ho m1 hc2 (x := (x : Int)) (h := h.toInt) (by omega) (by omega) rfl (iI_nI x) (iI_of h).symm) dX9_dark_49 mX4_hitBy wd_1472 acl_4 (xs_U_0 (Or.inl rfl) hok) rfl (by omega) (by omega) (by omega) rfl rfl (fun _ _ h => by cases h.1) ?_
    rintro r M9 ⟨h1, h9⟩; cases h1; rw [h9]; clear h9 M9
    refine ax_iadd dX9_dark_52 ?_
    refine ax_istore_n dX9_dark_53 (by decide) rfl ?_
    refine ax_iinc (v := 1) dX9_dark_54 rfl (by decide) (by decide) rfl ?_
    refine ax_goto (tgt := 18) dX9_dark_57 (by decide) ?_
    refine next _ _ ⟨?_, fr, I1⟩
    have ev : nI (mt_cnt v x) + (if mt_hits r lw mt_n c (x : Int) h.toInt (mt_T r) = true then 1 else 0) = nI (mt_cnt v (x + 1)) := by
      show _ = nI (mt_cnt v x + if v x = true then 1 else 0)
      rw [← nI_add]
      congr 1
      rw [hv]
      show _ = nI (if mt_hits r lw mt_n c (x : Int) h.toInt (mt_T r) = true then 1 else 0)
      split <;> rfl
    rw [ev, nI_1]; rfl
  · rintro N L ⟨rfl, fr, I⟩
    have hx := I.1.1
    have hok := hx.1
    have hr := I.1.2.1
    refine ax_iload dX9_dark_18 rfl ?_
    refine ax_aload_n dX9_dark_20 rfl ?_
    refine ax_getK (f := 1) 4 dX9_dark_21 acl_9 wd_548 (by decide) rfl (lo_s hok 1 rfl) (lo_r hok 1 rfl) ?_
    refine ax_getKN (f := 0) (p 0) dX9_dark_24 acl_7 wd_367 (by decide) rfl (lo_s hok 4 rfl) (xk_r0 hx) ?_
    refine ax_getIN (f := 0) dX9_dark_27 acl_5 wd_253 (by decide) rfl (xs_R_0 (xk_b0 hx) hok) ?_
    rw [hr.1.1, iI_tn (show 0 ≤ r 0 by omega)]
    refine ax_icmp_ge (tgt := 60) dX9_dark_30 (by decide) (fun hc => ?_) (fun hc => absurd ((nI_leI (by omega) (by omega)).mpr (by omega)) hc)
    refine ax_iload_n dX9_dark_60 rfl ?_
    refine ax_iret dX9_dark_61 rfl ?_
    rw [dk_eq, if_neg (fun z => z g1), if_neg (fun z => z g2), nI_clamp (by omega), ← hv]
    exact xA_in fr I
theorem x_needs (hl9 : l.stackTraces = false) (hI : xI M p r lw es) (x : Int32) : ax_Met l G kX9_needs 8 1 6 M [av_r 1, av_i x] (xA p r lw es M (qa_needs r lw x)) := by
  have hx := hI.1.1
  have hok := hx.1
  have hr := hI.1.2.1
  have ho := hI.1.2.2.1
  have h0 := ho.1
  refine ax_body (by decide) (Nat.le_of_ble_eq_true rfl) ?_
  refine ax_aload_n dX9_needs_0 rfl ?_
  refine ax_iload_n dX9_needs_1 rfl ?_
  refine ax_iconst (v := 0) dX9_needs_2 (by decide) ?_
  refine ax_aload_n dX9_needs_3 rfl ?_
  refine ax_getK (f := 1) 4 dX9_needs_4 acl_9 wd_548 (by decide) rfl (lo_s hok 1 rfl) (lo_r hok 1 rfl) ?_
  refine ax_getKN (f := 0) (p 0) dX9_needs_7 acl_7 wd_367 (by decide) rfl (lo_s hok 4 rfl) (xk_r0 hx) ?_
  refine ax_getIN (f := 0) dX9_needs_10 acl_5 wd_253 (by decide) rfl (xs_R_0 (xk_b0 hx) hok) ?_
  refine ax_iconst (v := 1) dX9_needs_13 (by decide) ?_
  refine ax_isub dX9_needs_14 ?_
  refine ax_callVX (As := _) (d2 := _) (c1 := 0) (n1 := 0) (c_needRange (M := M) hl9 hok) dX9_needs_15 mX9_needRange wd_1121 acl_9 (lo_s hok 1 rfl) rfl (by omega) (by omega) (by omega) rfl rfl (fun E M2 h => xA_ex h (fun z => by unfold qa_needs; rw [← hr.1.1, if_pos z])) ?_
  refine xN_k (fun g1 => ?_)
  rw [hr.1.1] at g1
  obtain ⟨x, hx1, rfl⟩ := in_car g1 (by omega) (by omega)
  have hxi : (nI x).toInt = (x : Int) := nI_toInt (by omega)
  obtain ⟨q, hq⟩ : ∃ q : Nat → Bool, q = ndf r lw (nI x).toInt := ⟨_, rfl⟩
  have e : ∀ v N, v = mt_sb (mt_first q 10) → qf M N → xI N p r lw es → xA p r lw es M (qa_needs r lw (nI x)) (.inl (some (av_i v))) N := fun v N hv f I => by
    rw [nd_eq, if_neg (fun z => z g1), ← hq, hv]
    exact xA_in f I
  refine ax_iconst (v := 0) dX9_needs_18 (by decide) ?_
  refine ax_istore_n dX9_needs_19 (by decide) rfl ?_
  refine ax_for 10 (fun h N L => L = [some (av_r 1), some (av_i (nI x)), some (av_i (nI h))] ∧ qf M N ∧ xI N p r lw es ∧ ∀ w, w < h → q w = false) 20 ?_ ?_ (i := 0) (by omega) ⟨rfl, qf_refl M, hI, fun w hw => by omega⟩
  · rintro h N L hh ⟨rfl, fr, I, hno⟩ next
    have hx := I.1.1
    have hok := hx.1
    have hr := I.1.2.1
    refine ax_iload_n dX9_needs_20 rfl ?_
    refine ax_bipush (v := 9) dX9_needs_21 (by decide) ?_
    refine ax_icmp_gt (tgt := 53) dX9_needs_23 (by decide) (fun hc => absurd ((nI_ltI (a := 9) (by omega) (by omega)).mp hc) (by omega)) (fun hc => ?_)
    refine ax_aload_n dX9_needs_26 rfl ?_
    refine ax_callV (As := _) (d2 := _) (c1 := 0) (n1 := 0) (c_freshMeeting (M := N) I) dX9_needs_27 mX9_freshMeeting wd_609 acl_9 (lo_s hok 1 rfl) rfl (by omega) (by omega) (by omega) rfl rfl (fun _ _ h => by cases h.1) ?_
    rintro _ M1 ⟨h1, f1, I1, -, m1, -⟩
    cases h1
    have hx := I1.1.1
    have hok := hx.1
    have hr := I1.1.2.1
    have fr := qf_trans fr f1
    refine ax_aload_n dX9_needs_30 rfl ?_
    refine ax_getK (f := 1) 4 dX9_needs_31 acl_9 wd_548 (by decide) rfl (lo_s hok 1 rfl) (lo_r hok 1 rfl) ?_
    refine ax_getKN (f := 0) (p 0) dX9_needs_34 acl_7 wd_367 (by decide) rfl (lo_s hok 4 rfl) (xk_r0 hx) ?_
    refine ax_iload_n dX9_needs_37 rfl ?_
    refine ax_iload_n dX9_needs_38 rfl ?_
    refine ax_callVN (As := _) (d2 := _) (c1 := 0) (n1 := 0) (c_hitByCars (M := M1) hok (Or.inl rfl) (xk_b0 hx) hr ho m1 (x := (x : Int)) (h := (h : Int)) (by omega) (by omega) (iI_nI x) (iI_nI h)) dX9_needs_39 mX4_hitByCars wd_1483 acl_4 (xs_U_0 (Or.inl rfl) hok) rfl (by omega) (by omega) (by omega) rfl rfl (fun _ _ h => by cases h.1) ?_
    rintro r M9 ⟨h1, h9⟩; cases h1; rw [h9]; clear h9 M9
    have eq9 : q h = true ↔ ¬ mt_hits r lw mt_n 0 (x : Int) (h : Int) (mt_T r) = true ∧ ¬ mt_hits r lw mt_n 1 (x : Int) (h : Int) (mt_T r) = true := by
      rw [hq]
      show (!mt_hits r lw mt_n 0 (nI x).toInt (h : Int) (mt_T r) && !mt_hits r lw mt_n 1 (nI x).toInt (h : Int) (mt_T r)) = true ↔ _
      rw [hxi]; simp
    refine ax_if_ne (tgt := 47) dX9_needs_42 (by decide) (fun hc => ?_) (fun hc => ?_)
    · refine ax_iinc (v := 1) dX9_needs_47 rfl (by decide) (by decide) rfl ?_
      refine ax_goto (tgt := 20) dX9_needs_50 (by decide) ?_
      refine next _ _ ⟨by rw [nI_1]; rfl, fr, I1, fun w hw => ?_⟩
      by_cases z : w = h
      · subst z
        refine Bool.eq_false_iff.mpr (fun z => hc ?_)
        obtain ⟨z1, z2⟩ := eq9.mp z
        rw [if_neg z1, if_neg z2]; rfl
      · exact hno w (by omega)
    · refine ax_iload_n dX9_needs_45 rfl ?_
      refine ax_iret dX9_needs_46 rfl ?_
      refine e _ _ ?_ fr I1
      rw [mt_first_of (u := h) (eq9.mpr ?_) hno hh]
      · rfl
      · refine ⟨fun z => ?_, fun z => ?_⟩
        · rw [if_pos z] at hc; revert hc; split <;> decide
        · rw [if_pos z] at hc; revert hc; split <;> decide
  · rintro N L ⟨rfl, fr, I, hno⟩
    refine ax_iload_n dX9_needs_20 rfl ?_
    refine ax_bipush (v := 9) dX9_needs_21 (by decide) ?_
    refine ax_icmp_gt (tgt := 53) dX9_needs_23 (by decide) (fun hc => ?_) (fun hc => absurd ((nI_ltI (a := 9) (by omega) (by omega)).mpr (by omega)) hc)
    refine ax_iconst (v := (-1)) dX9_needs_53 (by decide) ?_
    refine ax_iret dX9_needs_54 rfl ?_
    exact e _ _ (by rw [mt_first_no hno]; rfl) fr I
end X83

