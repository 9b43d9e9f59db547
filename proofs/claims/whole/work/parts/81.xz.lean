/-! ===== asks of the class: what a car sees, sums, costs ===== -/
section X81
variable {l : Launch} {G : ax_G} {M : ax_M} {p : Nat → Nat} {r : Nat → Int} {lw : mt_L} {es : List (Nat × Nat)}
theorem x_run (hI : xI M p r lw es) (y0 y1 : Int32) : ax_Met l G kX4_run 4 0 0 M [av_r 56, av_r 4, av_i y0, av_i y1] (fun o M2 => o = .inl none ∧ qf M M2 ∧ xI M2 p r lw es ∧ xmt M2 56 r lw (mt_d y0 y1) ∧ uf 56 M M2) :=
  ax_mono (c_run hI.1.1 (Or.inr rfl) hI.1.2.1 hI.1.2.2.1 hI.1.2.2.2.1 hI.2.1.2 y0 y1) (fun o M2 h => ⟨h.1, qf_uf (Or.inr rfl) h.2.1, xI_uf hI h.2.1 h.2.2, h.2.2, h.2.1⟩)
theorem x_sees (hl9 : l.stackTraces = false) (hI : xI M p r lw es) (x y : Int32) : ax_Met l G kX9_sees 8 2 12 M [av_r 1, av_i x, av_i y] (xA p r lw es M (qa_sees r lw x y)) := by
  have hx := hI.1.1
  have hok := hx.1
  have hr := hI.1.2.1
  have ho := hI.1.2.2.1
  have h0 := ho.1
  refine ax_body (by decide) (Nat.le_of_ble_eq_true rfl) ?_
  refine ax_aload_n dX9_sees_0 rfl ?_
  refine ax_iload_n dX9_sees_1 rfl ?_
  refine ax_callVX (As := _) (d2 := _) (c1 := 1) (n1 := 6) (c_needCar (M := M) hl9 hx hr ho) dX9_sees_2 mX9_needCar wd_1136 acl_9 (lo_s hok 1 rfl) rfl (by omega) (by omega) (by omega) rfl rfl (fun E M2 h => xA_ex h (fun z => by unfold qa_sees; rw [if_pos (Or.inl z)])) ?_
  refine xN_k (fun g1 => ?_)
  refine ax_aload_n dX9_sees_5 rfl ?_
  refine ax_iload_n dX9_sees_6 rfl ?_
  refine ax_callVX (As := _) (d2 := _) (c1 := 0) (n1 := 0) (c_needCoat (M := M) hl9 hx hr ho) dX9_sees_7 mX9_needCoat wd_1148 acl_9 (lo_s hok 1 rfl) rfl (by omega) (by omega) (by omega) rfl rfl (fun E M2 h => xA_ex h (fun z => by unfold qa_sees; rw [if_pos (Or.inr z)])) ?_
  refine xN_k (fun g2 => ?_)
  obtain ⟨c, hc1, rfl⟩ := in_car g1 (by omega) (by omega)
  obtain ⟨k, hk1, rfl⟩ := in_car g2 (by omega) (by omega)
  have hc2 : c < 2 := by omega
  have h60 := tn_60 ho hc2
  have hT := tn_T ho hc2
  have ok := ho.2.2.1 k (by omega)
  refine ax_aload_n dX9_sees_10 rfl ?_
  refine ax_callV (As := _) (d2 := _) (c1 := 0) (n1 := 0) (c_freshMeeting (M := M) hI) dX9_sees_11 mX9_freshMeeting wd_609 acl_9 (lo_s hok 1 rfl) rfl (by omega) (by omega) (by omega) rfl rfl (fun _ _ h => by cases h.1) ?_
  rintro _ M1 ⟨h1, f1, I1, -, m1, -⟩
  cases h1
  have hx := I1.1.1
  have hok := hx.1
  have hr := I1.1.2.1
  refine ax_iload_n dX9_sees_14 rfl ?_
  have e : ∀ v, v = mt_sa r c k (mt_sk r lw mt_n c k (mt_T r)) → xA p r lw es M (qa_sees r lw (nI c) (nI k)) (.inl (some (av_i v))) M1 := fun v hv => by
    unfold qa_sees
    rw [if_neg (fun z => z.elim (fun q => q g1) (fun q => q g2)), nI_clamp (by omega), nI_clamp (by omega), hv]
    exact xA_in f1 I1
  have es9 : mt_sk r lw mt_n c k (mt_T r) = mt_first (mt_sees r lw mt_n c (r (14 + 2 * k)) (r (15 + 2 * k))) (tn r c) := by
    unfold mt_sk mt_seen
    rw [if_pos hk1, first_tn ho hc2, Nat.min_eq_right hT]
  rw [es9] at e
  refine ax_callVN (As := _) (d2 := _) (c1 := 0) (n1 := 0) (c_tripOf (d := 6) (M := M1) hok (Or.inl rfl) hc2 rfl) dX9_sees_15 mX4_tripOf wd_1159 acl_4 (xs_U_0 (Or.inl rfl) hok) rfl (by omega) (by omega) (by omega) rfl rfl (fun _ _ h => by cases h.1) ?_
  rintro r M9 ⟨h1, h9⟩; cases h1; rw [h9]; clear h9 M9
  have tp := xmt_tp m1 hc2
  have hTT : xh_T (40 + 1 + 7 * c) := xh_UT (Or.inl rfl) hc2
  obtain ⟨a1, a2⟩ := hr.2.2.1 k hk1
  refine ax_astore_n dX9_sees_18 (by decide) rfl ?_
  refine ax_aload_n dX9_sees_19 rfl ?_
  refine ax_getK (f := 1) 4 dX9_sees_20 acl_9 wd_548 (by decide) rfl (lo_s hok 1 rfl) (lo_r hok 1 rfl) ?_
  refine ax_getKN (f := 0) (p 0) dX9_sees_23 acl_7 wd_367 (by decide) rfl (lo_s hok 4 rfl) (xk_r0 hx) ?_
  refine ax_getKN (f := 6) ((p 0) + 3) dX9_sees_26 acl_5 wd_262 (by decide) rfl (xs_R_0 (xk_b0 hx) hok) (xr_R_6 (xk_b0 hx) hok) ?_
  refine ax_iload_n dX9_sees_29 rfl ?_
  refine ax_ialdN (k) dX9_sees_30 (xs_R_3 (xk_b0 hx) hok) (by decide) (by first | with_reducible rfl | assumption | exact ax_nix (by simp only [nx_0, nx_1, nx_2, nx_3, nx_4, nx_10, nx_20, nx_21, nx_100, nI_add, pk_mul] <;> rfl) (by omega) | decide) (by omega) ?_
  refine ax_istore dX9_sees_31 (by decide) rfl ?_
  refine ax_aload_n dX9_sees_33 rfl ?_
  refine ax_aload_n dX9_sees_34 rfl ?_
  refine ax_getK (f := 1) 4 dX9_sees_35 acl_9 wd_548 (by decide) rfl (lo_s hok 1 rfl) (lo_r hok 1 rfl) ?_
  refine ax_getKN (f := 0) (p 0) dX9_sees_38 acl_7 wd_367 (by decide) rfl (lo_s hok 4 rfl) (xk_r0 hx) ?_
  refine ax_iload dX9_sees_41 rfl ?_
  refine ax_aload_n dX9_sees_43 rfl ?_
  refine ax_getK (f := 1) 4 dX9_sees_44 acl_9 wd_548 (by decide) rfl (lo_s hok 1 rfl) (lo_r hok 1 rfl) ?_
  refine ax_getKN (f := 0) (p 0) dX9_sees_47 acl_7 wd_367 (by decide) rfl (lo_s hok 4 rfl) (xk_r0 hx) ?_
  refine ax_getKN (f := 7) ((p 0) + 4) dX9_sees_50 acl_5 wd_266 (by decide) rfl (xs_R_0 (xk_b0 hx) hok) (xr_R_7 (xk_b0 hx) hok) ?_
  refine ax_iload_n dX9_sees_53 rfl ?_
  refine ax_ialdN (k) dX9_sees_54 (xs_R_4 (xk_b0 hx) hok) (by decide) (by first | with_reducible rfl | assumption | exact ax_nix (by simp only [nx_0, nx_1, nx_2, nx_3, nx_4, nx_10, nx_20, nx_21, nx_100, nI_add, pk_mul] <;> rfl) (by omega) | decide) (by omega) ?_
  rw [a1, a2]
  refine ax_callVN (As := _) (d2 := _) (c1 := 0) (n1 := 0) (c_seenIn (M := M1) hok hTT (xk_b0 hx) hr ho hc2 tp (x := r (14 + 2 * k)) (h := r (15 + 2 * k)) (by omega) (by omega) rfl rfl) dX9_sees_55 mX8_seenIn wd_1200 acl_8 (xs_T_0 (xh_UT (Or.inl rfl) hc2) hok) rfl (by omega) (by omega) (by omega) rfl rfl (fun _ _ h => by cases h.1) ?_
  rintro r M9 ⟨h1, h9⟩; cases h1; rw [h9]; clear h9 M9
  refine ax_istore dX9_sees_58 (by decide) rfl ?_
  refine ax_iload dX9_sees_60 rfl ?_
  refine ax_iconst (v := (-1)) dX9_sees_62 (by decide) ?_
  cases hf : mt_first (mt_sees r lw mt_n c (r (14 + 2 * k)) (r (15 + 2 * k))) (tn r c) with
  | none =>
    rw [hf] at e
    refine ax_icmp_ne (tgt := 70) dX9_sees_63 (by decide) (fun hc => ?_) (fun hc => ?_)
    · exact absurd rfl hc
    · refine ax_iconst (v := (-1)) dX9_sees_66 (by decide) ?_
      refine ax_goto (tgt := 78) dX9_sees_67 (by decide) ?_
      refine ax_iret dX9_sees_78 rfl ?_
      exact e _ rfl
  | some u =>
    rw [hf] at e
    have hu := (mt_first_some hf).1
    show ax_W l G kX9_sees _ _ _ _ _ _ _ [av_i (-1), av_i (nI u)]
    refine ax_icmp_ne (tgt := 70) dX9_sees_63 (by decide) (fun hc => ?_) (fun hc => ?_)
    · refine ax_aload_n dX9_sees_70 rfl ?_
      refine ax_iload dX9_sees_71 rfl ?_
      refine ax_iload dX9_sees_73 rfl ?_
      refine ax_callVN (As := _) (d2 := _) (c1 := 0) (n1 := 0) (c_ahead (d := 6) (M := M1) hok hTT ho hc2 tp (t := u) hu (x := r (14 + 2 * k)) rfl rfl) dX9_sees_75 mX8_ahead wd_1201 acl_8 (xs_T_0 (xh_UT (Or.inl rfl) hc2) hok) rfl (by omega) (by omega) (by omega) rfl rfl (fun _ _ h => by cases h.1) ?_
      rintro r M9 ⟨h1, h9⟩; cases h1; rw [h9]; clear h9 M9
      refine ax_iret dX9_sees_78 rfl ?_
      exact e _ rfl
    · exact absurd hc (nI_m1 (by omega))
theorem x_sums (hl9 : l.stackTraces = false) (hI : xI M p r lw es) (x y : Int32) : ax_Met l G kX9_sums 8 2 12 M [av_r 1, av_i x, av_i y] (xA p r lw es M (qa_sums r lw x y)) := by
  have hx := hI.1.1
  have hok := hx.1
  have hr := hI.1.2.1
  have ho := hI.1.2.2.1
  have h0 := ho.1
  refine ax_body (by decide) (Nat.le_of_ble_eq_true rfl) ?_
  refine ax_aload_n dX9_sums_0 rfl ?_
  refine ax_iload_n dX9_sums_1 rfl ?_
  refine ax_callVX (As := _) (d2 := _) (c1 := 1) (n1 := 6) (c_needCar (M := M) hl9 hx hr ho) dX9_sums_2 mX9_needCar wd_1136 acl_9 (lo_s hok 1 rfl) rfl (by omega) (by omega) (by omega) rfl rfl (fun E M2 h => xA_ex h (fun z => by unfold qa_sums; rw [if_pos z])) ?_
  refine xN_k (fun g1 => ?_)
  refine ax_aload_n dX9_sums_5 rfl ?_
  refine ax_iload_n dX9_sums_6 rfl ?_
  refine ax_iconst (v := 0) dX9_sums_7 (by decide) ?_
  refine ax_iconst (v := 5) dX9_sums_8 (by decide) ?_
  refine ax_callVX (As := _) (d2 := _) (c1 := 0) (n1 := 0) (c_needRange (M := M) hl9 hok) dX9_sums_9 mX9_needRange wd_1121 acl_9 (lo_s hok 1 rfl) rfl (by omega) (by omega) (by omega) rfl rfl (fun E M2 h => xA_ex h (fun z => by unfold qa_sums; rw [if_neg (fun q => q g1), if_pos z])) ?_
  refine xN_k (fun g2 => ?_)
  obtain ⟨c, hc1, rfl⟩ := in_car g1 (by omega) (by omega)
  obtain ⟨k, hk, rfl⟩ := in_nat g2 (n := 5) rfl (by decide)
  have hc2 : c < 2 := by omega
  refine ax_aload_n dX9_sums_12 rfl ?_
  refine ax_callV (As := _) (d2 := _) (c1 := 0) (n1 := 0) (c_freshMeeting (M := M) hI) dX9_sums_13 mX9_freshMeeting wd_609 acl_9 (lo_s hok 1 rfl) rfl (by omega) (by omega) (by omega) rfl rfl (fun _ _ h => by cases h.1) ?_
  rintro _ M1 ⟨h1, f1, I1, -, m1, -⟩
  cases h1
  have hx := I1.1.1
  have hok := hx.1
  have hr := I1.1.2.1
  refine ax_iload_n dX9_sums_16 rfl ?_
  have e : ∀ v, v = qv_sums r lw c k → xA p r lw es M (qa_sums r lw (nI c) (nI k)) (.inl (some (av_i v))) M1 := fun v hv => by
    unfold qa_sums
    rw [if_neg (fun z => z g1), if_neg (fun z => z g2), nI_clamp (by omega), nI_clamp (by omega), hv]
    exact xA_in f1 I1
  refine ax_callVN (As := _) (d2 := _) (c1 := 0) (n1 := 0) (c_tripOf (d := 6) (M := M1) hok (Or.inl rfl) hc2 rfl) dX9_sums_17 mX4_tripOf wd_1159 acl_4 (xs_U_0 (Or.inl rfl) hok) rfl (by omega) (by omega) (by omega) rfl rfl (fun _ _ h => by cases h.1) ?_
  rintro r M9 ⟨h1, h9⟩; cases h1; rw [h9]; clear h9 M9
  have tp := xmt_tp m1 hc2
  have hTT : xh_T (40 + 1 + 7 * c) := xh_UT (Or.inl rfl) hc2
  refine ax_astore_n dX9_sums_20 (by decide) rfl ?_
  refine ax_iload_n dX9_sums_21 rfl ?_
  rcases (show k = 0 ∨ k = 1 ∨ k = 2 ∨ k = 3 ∨ k = 4 ∨ k = 5 by omega) with rfl | rfl | rfl | rfl | rfl | rfl
  · refine ax_tableIn (off := 34) (tgt := 56) dX9_sums_22 (by decide) (by decide) rfl (by decide) ?_
    refine ax_aload_n dX9_sums_56 rfl ?_
    refine ax_callVN (As := _) (d2 := _) (c1 := 0) (n1 := 0) (c_unsafeTenths (M := M1) hok hTT ho hc2 tp) dX9_sums_57 mX8_unsafeTenths wd_1209 acl_8 (xs_T_0 (xh_UT (Or.inl rfl) hc2) hok) rfl (by omega) (by omega) (by omega) rfl rfl (fun _ _ h => by cases h.1) ?_
    rintro r M9 ⟨h1, h9⟩; cases h1; rw [h9]; clear h9 M9
    refine ax_iret dX9_sums_60 rfl ?_
    exact e _ rfl
  · refine ax_tableIn (off := 39) (tgt := 61) dX9_sums_22 (by decide) (by decide) rfl (by decide) ?_
    refine ax_aload_n dX9_sums_61 rfl ?_
    refine ax_callVN (As := _) (d2 := _) (c1 := 0) (n1 := 0) (c_glareTenths (d := 6) (M := M1) hok hTT ho hc2 tp) dX9_sums_62 mX8_glareTenths wd_1214 acl_8 (xs_T_0 (xh_UT (Or.inl rfl) hc2) hok) rfl (by omega) (by omega) (by omega) rfl rfl (fun _ _ h => by cases h.1) ?_
    rintro r M9 ⟨h1, h9⟩; cases h1; rw [h9]; clear h9 M9
    refine ax_iret dX9_sums_65 rfl ?_
    exact e _ rfl
  · refine ax_tableIn (off := 44) (tgt := 66) dX9_sums_22 (by decide) (by decide) rfl (by decide) ?_
    refine ax_aload_n dX9_sums_66 rfl ?_
    refine ax_callVN (As := _) (d2 := _) (c1 := 0) (n1 := 0) (c_blindTenths (d := 6) (M := M1) hok hTT ho hc2 tp) dX9_sums_67 mX8_blindTenths wd_1218 acl_8 (xs_T_0 (xh_UT (Or.inl rfl) hc2) hok) rfl (by omega) (by omega) (by omega) rfl rfl (fun _ _ h => by cases h.1) ?_
    rintro r M9 ⟨h1, h9⟩; cases h1; rw [h9]; clear h9 M9
    refine ax_iret dX9_sums_70 rfl ?_
    exact e _ rfl
  · refine ax_tableIn (off := 49) (tgt := 71) dX9_sums_22 (by decide) (by decide) rfl (by decide) ?_
    refine ax_aload_n dX9_sums_71 rfl ?_
    refine ax_callVN (As := _) (d2 := _) (c1 := 0) (n1 := 0) (c_fullTenths (d := 6) (M := M1) hok hTT ho hc2 tp) dX9_sums_72 mX8_fullTenths wd_1222 acl_8 (xs_T_0 (xh_UT (Or.inl rfl) hc2) hok) rfl (by omega) (by omega) (by omega) rfl rfl (fun _ _ h => by cases h.1) ?_
    rintro r M9 ⟨h1, h9⟩; cases h1; rw [h9]; clear h9 M9
    refine ax_iret dX9_sums_75 rfl ?_
    exact e _ rfl
  · refine ax_tableIn (off := 54) (tgt := 76) dX9_sums_22 (by decide) (by decide) rfl (by decide) ?_
    refine ax_aload_n dX9_sums_76 rfl ?_
    refine ax_callVN (As := _) (d2 := _) (c1 := 0) (n1 := 0) (c_beamChanges (d := 6) (M := M1) hok hTT ho hc2 tp) dX9_sums_77 mX8_beamChanges wd_1226 acl_8 (xs_T_0 (xh_UT (Or.inl rfl) hc2) hok) rfl (by omega) (by omega) (by omega) rfl rfl (fun _ _ h => by cases h.1) ?_
    rintro r M9 ⟨h1, h9⟩; cases h1; rw [h9]; clear h9 M9
    refine ax_iret dX9_sums_80 rfl ?_
    exact e _ rfl
  · refine ax_tableOut (tgt := 81) dX9_sums_22 (by decide) (by decide) ?_
    refine ax_aload_n dX9_sums_81 rfl ?_
    refine ax_callVN (As := _) (d2 := _) (c1 := 0) (n1 := 0) (c_leastSight (d := 6) (M := M1) hok hTT ho hc2 tp) dX9_sums_82 mX8_leastSight wd_1230 acl_8 (xs_T_0 (xh_UT (Or.inl rfl) hc2) hok) rfl (by omega) (by omega) (by omega) rfl rfl (fun _ _ h => by cases h.1) ?_
    rintro r M9 ⟨h1, h9⟩; cases h1; rw [h9]; clear h9 M9
    refine ax_iret dX9_sums_85 rfl ?_
    exact e _ rfl
theorem x_would (hl9 : l.stackTraces = false) (hI : xI M p r lw es) (a b y w : Int32) : ax_Met l G kX9_would 8 4 24 M [av_r 1, av_i a, av_i b, av_i y, av_i w] (xA p r lw es M (qa_would r lw a b y w)) := by
  have hx := hI.1.1
  have hok := hx.1
  have hr := hI.1.2.1
  have ho := hI.1.2.2.1
  have h0 := ho.1
  refine ax_body (by decide) (Nat.le_of_ble_eq_true rfl) ?_
  refine ax_aload_n dX9_would_0 rfl ?_
  refine ax_iload_n dX9_would_1 rfl ?_
  refine ax_iconst (v := 0) dX9_would_2 (by decide) ?_
  refine ax_bipush (v := 60) dX9_would_3 (by decide) ?_
  refine ax_callVX (As := _) (d2 := _) (c1 := 3) (n1 := 18) (c_needRange (M := M) hl9 hok) dX9_would_5 mX9_needRange wd_1121 acl_9 (lo_s hok 1 rfl) rfl (by omega) (by omega) (by omega) rfl rfl (fun E M2 h => xA_ex h (fun z => by unfold qa_would; rw [if_pos (Or.inl z)])) ?_
  refine xN_k (fun g1 => ?_)
  refine ax_aload_n dX9_would_8 rfl ?_
  refine ax_iload_n dX9_would_9 rfl ?_
  refine ax_iconst (v := 0) dX9_would_10 (by decide) ?_
  refine ax_bipush (v := 20) dX9_would_11 (by decide) ?_
  refine ax_callVX (As := _) (d2 := _) (c1 := 2) (n1 := 12) (c_needRange (M := M) hl9 hok) dX9_would_13 mX9_needRange wd_1121 acl_9 (lo_s hok 1 rfl) rfl (by omega) (by omega) (by omega) rfl rfl (fun E M2 h => xA_ex h (fun z => by unfold qa_would; rw [if_pos (Or.inr (Or.inl z))])) ?_
  refine xN_k (fun g2 => ?_)
  refine ax_aload_n dX9_would_16 rfl ?_
  refine ax_iload_n dX9_would_17 rfl ?_
  refine ax_bipush (v := 17) dX9_would_18 (by decide) ?_
  refine ax_bipush (v := 99) dX9_would_20 (by decide) ?_
  refine ax_callVX (As := _) (d2 := _) (c1 := 1) (n1 := 6) (c_needRange (M := M) hl9 hok) dX9_would_22 mX9_needRange wd_1121 acl_9 (lo_s hok 1 rfl) rfl (by omega) (by omega) (by omega) rfl rfl (fun E M2 h => xA_ex h (fun z => by unfold qa_would; rw [if_pos (Or.inr (Or.inr (Or.inl z)))])) ?_
  refine xN_k (fun g3 => ?_)
  refine ax_aload_n dX9_would_25 rfl ?_
  refine ax_iload dX9_would_26 rfl ?_
  refine ax_iconst (v := 0) dX9_would_28 (by decide) ?_
  refine ax_iconst (v := 1) dX9_would_29 (by decide) ?_
  refine ax_callVX (As := _) (d2 := _) (c1 := 0) (n1 := 0) (c_needRange (M := M) hl9 hok) dX9_would_30 mX9_needRange wd_1121 acl_9 (lo_s hok 1 rfl) rfl (by omega) (by omega) (by omega) rfl rfl (fun E M2 h => xA_ex h (fun z => by unfold qa_would; rw [if_pos (Or.inr (Or.inr (Or.inr z)))])) ?_
  refine xN_k (fun g4 => ?_)
  obtain ⟨bb, hbb, rfl⟩ := in_nat g2 (n := 20) rfl (by decide)
  refine ax_aload_n dX9_would_33 rfl ?_
  refine ax_getK (f := 1) 4 dX9_would_34 acl_9 wd_548 (by decide) rfl (lo_s hok 1 rfl) (lo_r hok 1 rfl) ?_
  refine ax_callVN (As := _) (d2 := _) (c1 := 0) (n1 := 0) (c_valuesOfNobody (M := M) hx hr) dX9_would_37 mX7_valuesOfNobody wd_1241 acl_7 (lo_s hok 4 rfl) rfl (by omega) (by omega) (by omega) rfl rfl (fun _ _ h => by cases h.1) ?_
  rintro _ N ⟨h1, n1, n2, n3⟩
  cases h1
  have hx : xk N.2 p := by rw [n1]; exact hx
  have hok := hx.1
  have hl : xfm N (p 2) ((lw 0).getD cs_law) := xfm_fr hI.1.2.2.2.1.1 (fun n i z => n2 n i (by have := xk_b2 hx; unfold xh_F at this; omega))
  refine ax_astore dX9_would_40 (by decide) rfl ?_
  refine ax_aload dX9_would_42 rfl ?_
  refine ax_iconst (v := 0) dX9_would_44 (by decide) ?_
  refine ax_iload_n dX9_would_45 rfl ?_
  refine ax_iastN (0) dX9_would_46 (lo_s hok 22 rfl) (by decide) (by decide) (by decide) ?_
  refine ax_aload dX9_would_47 rfl ?_
  refine ax_iconst (v := 2) dX9_would_49 (by decide) ?_
  refine ax_iload_n dX9_would_50 rfl ?_
  refine ax_iastN (2) dX9_would_51 (lo_s hok 22 rfl) (by decide) (by decide) (by decide) ?_
  refine ax_aload dX9_would_52 rfl ?_
  refine ax_iconst (v := 3) dX9_would_54 (by decide) ?_
  refine ax_iload_n dX9_would_55 rfl ?_
  refine ax_iastN (3) dX9_would_56 (lo_s hok 22 rfl) (by decide) (by decide) (by decide) ?_
  refine ax_aload dX9_would_57 rfl ?_
  refine ax_iconst (v := 4) dX9_would_59 (by decide) ?_
  refine ax_iload dX9_would_60 rfl ?_
  refine ax_iastN (4) dX9_would_62 (lo_s hok 22 rfl) (by decide) (by decide) (by decide) ?_
  refine ax_aload_n dX9_would_63 rfl ?_
  refine ax_getK (f := 1) 4 dX9_would_64 acl_9 wd_548 (by decide) rfl (lo_s hok 1 rfl) (lo_r hok 1 rfl) ?_
  refine ax_gen (fun N9 hN9 => ?_)
  have e9 : ∀ n i, n ≠ 22 → N9.1 n i = N.1 n i := fun n i q => by rw [hN9]; simp [ax_pI, ax_u2, q]
  have e22 : ∀ k, k < 12 → N9.1 22 k = wd_kn r a (nI bb) y w k := by
    intro k hk
    rw [hN9]
    have := n3 k hk
    rcases (show k = 0 ∨ k = 1 ∨ k = 2 ∨ k = 3 ∨ k = 4 ∨ k = 5 ∨ k = 6 ∨ k = 7 ∨ k = 8 ∨ k = 9 ∨ k = 10 ∨ k = 11 by omega) with rfl | rfl | rfl | rfl | rfl | rfl | rfl | rfl | rfl | rfl | rfl | rfl <;> simp [ax_pI, ax_u2, wd_kn] at this ⊢ <;> exact this
  have n9 : N9.2 = N.2 := by rw [hN9]; rfl
  have hx : xk N9.2 p := by rw [n9]; exact hx
  have hok := hx.1
  refine ax_callVN (As := _) (d2 := _) (c1 := 0) (n1 := 0) (c_sightByLaw (lw := lw) (M := N9) hx (xfm_fr hl (fun n i z => e9 n i (by have := xk_b2 hx; unfold xh_F at this; omega))) (by rw [e22 2 (by omega)]; show ¬ nI bb + 1 = 0; rw [nI_1]; exact nI_ne0 (by omega) (by omega))) dX9_would_67 mX7_sightByLaw wd_1245 acl_7 (lo_s hok 4 rfl) rfl (by omega) (by omega) (by omega) rfl rfl (fun _ _ h => by cases h.1) ?_
  rintro _ N2 ⟨h1, k1, k2⟩
  cases h1
  refine ax_iret dX9_would_70 rfl ?_
  rw [ev_sight_cong e22 (xlw_ev hI.1.2.2.2.1 0 (by omega))]
  unfold qa_would
  rw [if_neg (fun z => by rcases z with z | z | z | z; exact z g1; exact z g2; exact z g3; exact z g4)]
  have vv : vf M N2 := ⟨(k1.trans n9).trans n1, fun n i q1 q2 => (k2 n i q1).trans ((e9 n i q2).trans (n2 n i q2))⟩
  exact xA_in (qf_vf vv) (xI_vf hI vv)
theorem x_cost (hl9 : l.stackTraces = false) (hI : xI M p r lw es) (x a b : Int32) : ax_Met l G kX9_cost 9 4 24 M [av_r 1, av_i x, av_i a, av_i b] (xA p r lw es M (qa_cost r lw x a b)) := by
  have hx := hI.1.1
  have hok := hx.1
  have hr := hI.1.2.1
  have ho := hI.1.2.2.1
  have h0 := ho.1
  refine ax_body (by decide) (Nat.le_of_ble_eq_true rfl) ?_
  refine ax_aload_n dX9_cost_0 rfl ?_
  refine ax_iload_n dX9_cost_1 rfl ?_
  refine ax_callVX (As := _) (d2 := _) (c1 := 3) (n1 := 18) (c_needCar (M := M) hl9 hx hr ho) dX9_cost_2 mX9_needCar wd_1136 acl_9 (lo_s hok 1 rfl) rfl (by omega) (by omega) (by omega) rfl rfl (fun E M2 h => xA_ex h (fun z => by unfold qa_cost; rw [if_pos z])) ?_
  refine xN_k (fun g1 => ?_)
  refine ax_aload_n dX9_cost_5 rfl ?_
  refine ax_iload_n dX9_cost_6 rfl ?_
  refine ax_iconst (v := 0) dX9_cost_7 (by decide) ?_
  refine ax_bipush (v := 60) dX9_cost_8 (by decide) ?_
  refine ax_callVX (As := _) (d2 := _) (c1 := 2) (n1 := 12) (c_needRange (M := M) hl9 hok) dX9_cost_10 mX9_needRange wd_1121 acl_9 (lo_s hok 1 rfl) rfl (by omega) (by omega) (by omega) rfl rfl (fun E M2 h => xA_ex h (fun z => by unfold qa_cost; rw [if_neg (fun q => q g1), if_pos (Or.inl z)])) ?_
  refine xN_k (fun g2 => ?_)
  refine ax_aload_n dX9_cost_13 rfl ?_
  refine ax_iload_n dX9_cost_14 rfl ?_
  refine ax_iconst (v := 0) dX9_cost_15 (by decide) ?_
  refine ax_bipush (v := 60) dX9_cost_16 (by decide) ?_
  refine ax_callVX (As := _) (d2 := _) (c1 := 1) (n1 := 6) (c_needRange (M := M) hl9 hok) dX9_cost_18 mX9_needRange wd_1121 acl_9 (lo_s hok 1 rfl) rfl (by omega) (by omega) (by omega) rfl rfl (fun E M2 h => xA_ex h (fun z => by unfold qa_cost; rw [if_neg (fun q => q g1), if_pos (Or.inr z)])) ?_
  refine xN_k (fun g3 => ?_)
  refine ax_aload_n dX9_cost_21 rfl ?_
  refine ax_callVX (As := _) (d2 := _) (c1 := 0) (n1 := 0) (c_needTwoCars (M := M) hl9 hx hr ho) dX9_cost_22 mX9_needTwoCars wd_1254 acl_9 (lo_s hok 1 rfl) rfl (by omega) (by omega) (by omega) rfl rfl (fun E M2 h => xA_ex h (fun z => by unfold qa_cost; rw [if_neg (fun q => q g1), if_neg (fun q => q.elim (fun t => t g2) (fun t => t g3)), if_pos (dn z)])) ?_
  refine xN_k (fun g4 => ?_)
  obtain ⟨c, hc1, rfl⟩ := in_car g1 (by omega) (by omega)
  have hc2 : c < 2 := by omega
  have run : ∀ y0 y1 : Int32, mt_d y0 y1 = mt_c2 c a b → ax_W l G kX9_cost (ax_FQ G (xA p r lw es M (qa_cost r lw (nI c) a b))) 9 0 0 M 51 [some (av_r 1), some (av_i (nI c)), some (av_i a), some (av_i b)] [av_i y1, av_i y0, av_r 4, av_r 56] := by
    intro y0 y1 hy
    refine ax_callVN (As := _) (d2 := _) (c1 := 0) (n1 := 0) (x_run (M := M) hI y0 y1) dX9_cost_51 mX4_run wd_613 acl_4 (lo_s hok 56 rfl) rfl (by omega) (by omega) (by omega) rfl rfl (fun _ _ h => by cases h.1) ?_
    rintro _ M1 ⟨h1, f1, I1, m1, -⟩
    cases h1
    have hx := I1.1.1
    have hok := hx.1
    refine ax_aload_n dX9_cost_54 rfl ?_
    refine ax_getK (f := 8) 56 dX9_cost_55 acl_9 wd_555 (by decide) rfl (lo_s hok 1 rfl) (lo_r hok 3 rfl) ?_
    refine ax_aload_n dX9_cost_58 rfl ?_
    refine ax_getK (f := 1) 4 dX9_cost_59 acl_9 wd_548 (by decide) rfl (lo_s hok 1 rfl) (lo_r hok 1 rfl) ?_
    refine ax_getKN (f := 0) (p 0) dX9_cost_62 acl_7 wd_367 (by decide) rfl (lo_s hok 4 rfl) (xk_r0 hx) ?_
    refine ax_iload_n dX9_cost_65 rfl ?_
    refine ax_callVN (As := _) (d2 := _) (c1 := 0) (n1 := 0) (c_xcostOf (M := M1) hok (Or.inr rfl) (xk_b0 hx) I1.1.2.1 ho m1 hc2 hc1 rfl) dX9_cost_66 mX4_costOf wd_1274 acl_4 (lo_s hok 56 rfl) rfl (by omega) (by omega) (by omega) rfl rfl (fun _ _ h => by cases h.1) ?_
    rintro r M9 ⟨h1, h9⟩; cases h1; rw [h9]; clear h9 M9
    refine ax_iret dX9_cost_69 rfl ?_
    unfold qa_cost
    rw [if_neg (fun z => z g1), if_neg (fun z => z.elim (fun q => q g2) (fun q => q g3)), if_neg g4, nI_clamp (by omega), hy]
    exact xA_in f1 I1
  refine ax_aload_n dX9_cost_25 rfl ?_
  refine ax_getK (f := 8) 56 dX9_cost_26 acl_9 wd_555 (by decide) rfl (lo_s hok 1 rfl) (lo_r hok 3 rfl) ?_
  refine ax_aload_n dX9_cost_29 rfl ?_
  refine ax_getK (f := 1) 4 dX9_cost_30 acl_9 wd_548 (by decide) rfl (lo_s hok 1 rfl) (lo_r hok 1 rfl) ?_
  refine ax_iload_n dX9_cost_33 rfl ?_
  rcases (show c = 0 ∨ c = 1 by omega) with rfl | rfl
  · refine ax_if_ne (tgt := 41) dX9_cost_34 (by decide) (fun hc => ?_) (fun hc => ?_)
    · exact absurd rfl hc
    · clear hc
      refine ax_iload_n dX9_cost_37 rfl ?_
      refine ax_goto (tgt := 42) dX9_cost_38 (by decide) ?_
      refine ax_iload_n dX9_cost_42 rfl ?_
      refine ax_if_ne (tgt := 50) dX9_cost_43 (by decide) (fun hc => ?_) (fun hc => ?_)
      · exact absurd rfl hc
      · refine ax_iload_n dX9_cost_46 rfl ?_
        refine ax_goto (tgt := 51) dX9_cost_47 (by decide) ?_
        exact run _ _ rfl
  · refine ax_if_ne (tgt := 41) dX9_cost_34 (by decide) (fun hc => ?_) (fun hc => ?_)
    · clear hc
      refine ax_iload_n dX9_cost_41 rfl ?_
      refine ax_iload_n dX9_cost_42 rfl ?_
      refine ax_if_ne (tgt := 50) dX9_cost_43 (by decide) (fun hc => ?_) (fun hc => ?_)
      · refine ax_iload_n dX9_cost_50 rfl ?_
        exact run _ _ rfl
      · exact absurd hc (by decide)
    · exact absurd hc (by decide)
end X81

