/-! ===== asks of the class: the book ===== -/
def bkE (es : List (Nat × Nat)) : bk_T := fun k => ((es.getD k (0, 0)).1, nI (es.getD k (0, 0)).2)
theorem bkE_of {M : ax_M} {K : Nat} {es : List (Nat × Nat)} (h : xbk M K es) {k : Nat} (hk : k < es.length) : (bkE es k).1 ≤ 99 ∧ M.1 (K + 1) k = nI (bkE es k).1 ∧ M.1 (K + 2) k = (bkE es k).2 := by
  have e : es[k]? = some (es.getD k (0, 0)) := by simp [List.getD, List.getElem?_eq_getElem hk]
  exact h.2.2 k _ e
theorem fby {r : Nat → Int} {lw : mt_L} {t d : Nat} (h : mt_on r 1 t = true) (hd : d ≤ 100) : mt_f r lw (mt_d (-1) (nI d)) 1 t = if 0 < (if mt_view r t = true then iI (mt_far r t) else 99) - nI d then 1 else 0 := by
  show mt_F r lw (mt_d (-1) (nI d)) t (mt_s r lw (mt_d (-1) (nI d)) t) 1 = _
  unfold mt_F
  rw [if_pos h]
  unfold ev_beam
  rw [show mt_d (-1) (nI d) 1 = nI d from rfl, if_neg (nI_m1 (by omega))]
  rfl
theorem ln_tn {r : Nat → Int} {lw : mt_L} {dd : Nat → Int32} {bk : bk_T} (ho : rd_ok r) {k : Nat} : ln r lw dd bk k = true ↔ (bk k).1 < tn r 1 ∧ mt_f r lw dd 1 (bk k).1 = (bk k).2 := by
  have h1 := tn_on ho (show 1 < 2 by omega) (bk k).1
  have h2 := tn_T ho (show 1 < 2 by omega)
  unfold ln
  rw [Bool.and_eq_true, Bool.and_eq_true, decide_eq_true_eq, decide_eq_true_eq, h1]
  constructor
  · rintro ⟨-, a, b⟩; exact ⟨a, b⟩
  · rintro ⟨a, b⟩; exact ⟨by omega, a, b⟩
section X84
variable {l : Launch} {G : ax_G} {M : ax_M} {p : Nat → Nat} {r : Nat → Int} {lw : mt_L} {es : List (Nat × Nat)}
theorem x_right (hl9 : l.stackTraces = false) (hI : xI M p r lw es) : ax_Met l G kX9_right 8 1 6 M [av_r 1] (xA p r lw es M (qa_right r lw es.length (bkE es))) := by
  have hx := hI.1.1
  have hok := hx.1
  have hr := hI.1.2.1
  have ho := hI.1.2.2.1
  have h0 := ho.1
  refine ax_body (by decide) (Nat.le_of_ble_eq_true rfl) ?_
  refine ax_aload_n dX9_right_0 rfl ?_
  refine ax_callVX (As := _) (d2 := _) (c1 := 0) (n1 := 0) (c_needTwoCars (M := M) hl9 hx hr ho) dX9_right_1 mX9_needTwoCars wd_1254 acl_9 (lo_s hok 1 rfl) rfl (by omega) (by omega) (by omega) rfl rfl (fun E M2 h => xA_ex h (fun z => by unfold qa_right; rw [if_pos (dn z)])) ?_
  refine xN_k (fun g1 => ?_)
  have hc2 : 1 < 2 := by omega
  have h60 := tn_60 ho hc2
  have h12 := hI.1.2.2.2.2.2.1
  refine ax_aload_n dX9_right_4 rfl ?_
  refine ax_callV (As := _) (d2 := _) (c1 := 0) (n1 := 0) (c_freshMeeting (M := M) hI) dX9_right_5 mX9_freshMeeting wd_609 acl_9 (lo_s hok 1 rfl) rfl (by omega) (by omega) (by omega) rfl rfl (fun _ _ h => by cases h.1) ?_
  rintro _ M1 ⟨h1, f1, I1, -, m1, -⟩
  cases h1
  have hx := I1.1.1
  have hok := hx.1
  have hr := I1.1.2.1
  have e : ∀ v, v = nI ((rl r lw mt_n es.length (bkE es)).getD es.length) → xA p r lw es M (qa_right r lw es.length (bkE es)) (.inl (some (av_i v))) M1 := fun v hv => by
    unfold qa_right
    rw [if_neg g1, hv]
    exact xA_in f1 I1
  refine ax_iconst (v := 1) dX9_right_8 (by decide) ?_
  refine ax_callVN (As := _) (d2 := _) (c1 := 0) (n1 := 0) (c_tripOf (d := 6) (M := M1) hok (Or.inl rfl) (c := 1) hc2 rfl) dX9_right_9 mX4_tripOf wd_1159 acl_4 (xs_U_0 (Or.inl rfl) hok) rfl (by omega) (by omega) (by omega) rfl rfl (fun _ _ h => by cases h.1) ?_
  rintro r M9 ⟨h1, h9⟩; cases h1; rw [h9]; clear h9 M9
  have tp := xmt_tp m1 hc2
  have hTT : xh_T (40 + 1 + 7 * 1) := xh_UT (Or.inl rfl) hc2
  have hb := I1.1.2.2.2.2
  refine ax_astore_n dX9_right_12 (by decide) rfl ?_
  refine ax_iconst (v := 0) dX9_right_13 (by decide) ?_
  refine ax_istore_n dX9_right_14 (by decide) rfl ?_
  refine ax_for es.length (fun k N L => N = M1 ∧ (∃ y, L = [some (av_r 1), some (av_r (40 + 1 + 7 * 1)), some (av_i (nI k)), y]) ∧ ∀ w, w < k → (fun k => !ln r lw mt_n (bkE es) k) w = false) 15 ?_ ?_ (i := 0) (by omega) ⟨rfl, ⟨_, rfl⟩, fun w hw => by omega⟩
  · rintro k N L hk ⟨rfl, ⟨y, rfl⟩, hno⟩ next
    obtain ⟨b1, b2, b3⟩ := bkE_of hb hk
    have hln := ln_tn (lw := lw) (dd := mt_n) (bk := bkE es) ho (k := k)
    have done : ¬ ln r lw mt_n (bkE es) k = true → ∀ y, ax_W l G kX9_right (ax_FQ G (xA p r lw es M (qa_right r lw es.length (bkE es)))) 8 0 0 N 62 [some (av_r 1), some (av_r (40 + 1 + 7 * 1)), some (av_i (nI k)), y] [] := by
      intro hf y
      refine ax_iload_n dX9_right_62 rfl ?_
      refine ax_iret dX9_right_63 rfl ?_
      refine e _ ?_
      unfold rl
      rw [mt_first_of (u := k) (by simp [hf]) hno hk]
      rfl
    refine ax_iload_n dX9_right_15 rfl ?_
    refine ax_aload_n dX9_right_16 rfl ?_
    refine ax_getK (f := 4) (p 6) dX9_right_17 acl_9 wd_551 (by decide) rfl (lo_s hok 1 rfl) (xk_r6 hx) ?_
    refine ax_getIN (f := 2) dX9_right_20 acl_0 wd_400 (by decide) rfl (xs_K_0 (xk_b6 hx) hok) ?_
    rw [hb.1]
    refine ax_icmp_ge (tgt := 70) dX9_right_23 (by decide) (fun hc => absurd ((nI_leI (by omega) (by omega)).mp hc) (by omega)) (fun hc => ?_)
    refine ax_aload_n dX9_right_26 rfl ?_
    refine ax_getK (f := 4) (p 6) dX9_right_27 acl_9 wd_551 (by decide) rfl (lo_s hok 1 rfl) (xk_r6 hx) ?_
    refine ax_getKN (f := 0) ((p 6) + 1) dX9_right_30 acl_0 wd_396 (by decide) rfl (xs_K_0 (xk_b6 hx) hok) (xr_K_0 (xk_b6 hx) hok) ?_
    refine ax_iload_n dX9_right_33 rfl ?_
    refine ax_ialdN (k) dX9_right_34 (xs_K_1 (xk_b6 hx) hok) (by decide) (by first | with_reducible rfl | assumption | exact ax_nix (by simp only [nx_0, nx_1, nx_2, nx_3, nx_4, nx_10, nx_20, nx_21, nx_100, nI_add, pk_mul] <;> rfl) (by omega) | decide) (by omega) ?_
    rw [b2]
    refine ax_istore_n dX9_right_35 (by decide) rfl ?_
    refine ax_iload_n dX9_right_36 rfl ?_
    refine ax_aload_n dX9_right_37 rfl ?_
    refine ax_getIN (f := 9) dX9_right_38 acl_8 wd_437 (by decide) rfl (xs_T_0 (xh_UT (Or.inl rfl) (by omega)) hok) ?_
    rw [tp.2.1]
    refine ax_icmp_ge (tgt := 62) dX9_right_41 (by decide) (fun hc => ?_) (fun hc => ?_)
    · have h1 := (nI_leI (by omega) (by omega)).mp hc
      exact done (fun z => by have := (hln.mp z).1; omega) _
    · have h1 : ¬ tn r 1 ≤ (bkE es k).1 := fun z => hc ((nI_leI (by omega) (by omega)).mpr z)
      clear hc
      have hrow := (tp.2.2 (bkE es k).1 (by omega)).2.1
      refine ax_aload_n dX9_right_44 rfl ?_
      refine ax_getKN (f := 11) ((40 + 1 + 7 * 1) + 2) dX9_right_45 acl_8 wd_441 (by decide) rfl (xs_T_0 (xh_UT (Or.inl rfl) (by omega)) hok) (xr_T_11 (xh_UT (Or.inl rfl) (by omega)) hok) ?_
      refine ax_iload_n dX9_right_48 rfl ?_
      refine ax_ialdN (((bkE es k).1)) dX9_right_49 (xs_T_2 (xh_UT (Or.inl rfl) (by omega)) hok) (by decide) (by first | with_reducible rfl | assumption | exact ax_nix (by simp only [nx_0, nx_1, nx_2, nx_3, nx_4, nx_10, nx_20, nx_21, nx_100, nI_add, pk_mul] <;> rfl) (by omega) | decide) (by omega) ?_
      refine ax_aload_n dX9_right_50 rfl ?_
      refine ax_getK (f := 4) (p 6) dX9_right_51 acl_9 wd_551 (by decide) rfl (lo_s hok 1 rfl) (xk_r6 hx) ?_
      refine ax_getKN (f := 1) ((p 6) + 2) dX9_right_54 acl_0 wd_398 (by decide) rfl (xs_K_0 (xk_b6 hx) hok) (xr_K_1 (xk_b6 hx) hok) ?_
      refine ax_iload_n dX9_right_57 rfl ?_
      refine ax_ialdN (k) dX9_right_58 (xs_K_2 (xk_b6 hx) hok) (by decide) (by first | with_reducible rfl | assumption | exact ax_nix (by simp only [nx_0, nx_1, nx_2, nx_3, nx_4, nx_10, nx_20, nx_21, nx_100, nI_add, pk_mul] <;> rfl) (by omega) | decide) (by omega) ?_
      rw [hrow, b3]
      refine ax_icmp_eq (tgt := 64) dX9_right_59 (by decide) (fun hc => ?_) (fun hc => ?_)
      · refine ax_iinc (v := 1) dX9_right_64 rfl (by decide) (by decide) rfl ?_
        refine ax_goto (tgt := 15) dX9_right_67 (by decide) ?_
        refine next _ _ ⟨rfl, ⟨_, by rw [nI_1]; rfl⟩, fun w hw => ?_⟩
        by_cases z : w = k
        · subst z; simp [hln.mpr ⟨by omega, hc⟩]
        · exact hno w (by omega)
      · exact done (fun z => hc (hln.mp z).2) _
  · rintro N L ⟨rfl, ⟨y, rfl⟩, hno⟩
    refine ax_iload_n dX9_right_15 rfl ?_
    refine ax_aload_n dX9_right_16 rfl ?_
    refine ax_getK (f := 4) (p 6) dX9_right_17 acl_9 wd_551 (by decide) rfl (lo_s hok 1 rfl) (xk_r6 hx) ?_
    refine ax_getIN (f := 2) dX9_right_20 acl_0 wd_400 (by decide) rfl (xs_K_0 (xk_b6 hx) hok) ?_
    rw [hb.1]
    refine ax_icmp_ge (tgt := 70) dX9_right_23 (by decide) (fun hc => ?_) (fun hc => absurd ((nI_leI (by omega) (by omega)).mpr (by omega)) hc)
    refine ax_iload_n dX9_right_70 rfl ?_
    refine ax_iret dX9_right_71 rfl ?_
    refine e _ ?_
    unfold rl
    rw [mt_first_no hno]
    rfl
theorem x_bookFits (hT : xT M p r lw es) (m1 : xmt M 40 r lw mt_n) {d : Nat} (hd : d ≤ 40) {x : Int32} (hxd : x = nI d) : ax_Met l G kX9_bookFits 4 0 0 M [av_r 1, av_r 40, av_i x] (ax_p (av_i (if fit r lw es.length (bkE es) d = true then 1 else 0)) M) := by
  subst hxd
  have hx := hT.1
  have hok := hx.1
  have ho := hT.2.2.1
  have hc2 : 1 < 2 := by omega
  have h60 := tn_60 ho hc2
  have hTn := tn_T ho hc2
  have hb := hT.2.2.2.2
  have h12 := hb.2.1
  have tp := xmt_tp m1 hc2
  have e : ∀ v : Prop, [Decidable v] → (v ↔ fit r lw es.length (bkE es) d = true) → ax_p (av_i (if fit r lw es.length (bkE es) d = true then 1 else 0)) M (.inl (some (av_i (if v then 1 else 0)))) M := fun v _ hv => by
    refine ⟨?_, rfl⟩
    by_cases z : v
    · rw [if_pos z, if_pos (hv.mp z)]
    · rw [if_neg z, if_neg (fun q => z (hv.mpr q))]
  refine ax_body (by decide) (Nat.le_of_ble_eq_true rfl) ?_
  refine ax_iconst (v := 0) dX9_bookFits_0 (by decide) ?_
  refine ax_istore_n dX9_bookFits_1 (by decide) rfl ?_
  refine ax_for es.length (fun k N L => N = M ∧ (∃ y, L = [some (av_r 1), some (av_r 40), some (av_i (nI d)), some (av_i (nI k)), y]) ∧ ∀ w, w < k → (fun k => !ln r lw (mt_d (-1) (nI d)) (bkE es) k) w = false) 2 ?_ ?_ (i := 0) (by omega) ⟨rfl, ⟨_, rfl⟩, fun w hw => by omega⟩
  · rintro k N L hk ⟨rfl, ⟨y, rfl⟩, hno⟩ next
    obtain ⟨b1, b2, b3⟩ := bkE_of hb hk
    have hln := ln_tn (lw := lw) (dd := mt_d (-1) (nI d)) (bk := bkE es) ho (k := k)
    have done : ¬ ln r lw (mt_d (-1) (nI d)) (bkE es) k = true → ∀ y, ax_W l G kX9_bookFits (ax_FQ G (ax_p (av_i (if fit r lw es.length (bkE es) d = true then 1 else 0)) N)) 4 0 0 N 56 [some (av_r 1), some (av_r 40), some (av_i (nI d)), some (av_i (nI k)), y] [] := by
      intro hf y
      refine ax_iconst (v := 0) dX9_bookFits_56 (by decide) ?_
      refine ax_zret dX9_bookFits_57 rfl ?_ ?_
      · exact Or.inl rfl
      · refine e False (iff_of_false id (fun z => ?_))
        unfold fit rl at z
        rw [mt_first_of (u := k) (by simp [hf]) hno hk] at z
        cases z
    refine ax_iload_n dX9_bookFits_2 rfl ?_
    refine ax_aload_n dX9_bookFits_3 rfl ?_
    refine ax_getK (f := 4) (p 6) dX9_bookFits_4 acl_9 wd_551 (by decide) rfl (lo_s hok 1 rfl) (xk_r6 hx) ?_
    refine ax_getIN (f := 2) dX9_bookFits_7 acl_0 wd_400 (by decide) rfl (xs_K_0 (xk_b6 hx) hok) ?_
    rw [hb.1]
    refine ax_icmp_ge (tgt := 64) dX9_bookFits_10 (by decide) (fun hc => absurd ((nI_leI (by omega) (by omega)).mp hc) (by omega)) (fun hc => ?_)
    refine ax_aload_n dX9_bookFits_13 rfl ?_
    refine ax_getK (f := 4) (p 6) dX9_bookFits_14 acl_9 wd_551 (by decide) rfl (lo_s hok 1 rfl) (xk_r6 hx) ?_
    refine ax_getKN (f := 0) ((p 6) + 1) dX9_bookFits_17 acl_0 wd_396 (by decide) rfl (xs_K_0 (xk_b6 hx) hok) (xr_K_0 (xk_b6 hx) hok) ?_
    refine ax_iload_n dX9_bookFits_20 rfl ?_
    refine ax_ialdN (k) dX9_bookFits_21 (xs_K_1 (xk_b6 hx) hok) (by decide) (by first | with_reducible rfl | assumption | exact ax_nix (by simp only [nx_0, nx_1, nx_2, nx_3, nx_4, nx_10, nx_20, nx_21, nx_100, nI_add, pk_mul] <;> rfl) (by omega) | decide) (by omega) ?_
    rw [b2]
    refine ax_istore dX9_bookFits_22 (by decide) rfl ?_
    refine ax_iload dX9_bookFits_24 rfl ?_
    refine ax_aload_n dX9_bookFits_26 rfl ?_
    refine ax_iconst (v := 1) dX9_bookFits_27 (by decide) ?_
    refine ax_callVN (As := _) (d2 := _) (c1 := 0) (n1 := 0) (c_tripOf (d := 3) (M := N) hok (Or.inl rfl) (c := 1) hc2 rfl) dX9_bookFits_28 mX4_tripOf wd_1159 acl_4 (xs_U_0 (Or.inl rfl) hok) rfl (by omega) (by omega) (by omega) rfl rfl (fun _ _ h => by cases h.1) ?_
    rintro r M9 ⟨h1, h9⟩; cases h1; rw [h9]; clear h9 M9
    refine ax_getIN (f := 9) dX9_bookFits_31 acl_8 wd_437 (by decide) rfl (xs_T_0 (xh_UT (Or.inl rfl) (by omega)) hok) ?_
    rw [tp.2.1]
    refine ax_icmp_ge (tgt := 56) dX9_bookFits_34 (by decide) (fun hc => ?_) (fun hc => ?_)
    · have h1 := (nI_leI (by omega) (by omega)).mp hc
      exact done (fun z => by have := (hln.mp z).1; omega) _
    · have h1 : ¬ tn r 1 ≤ (bkE es k).1 := fun z => hc ((nI_leI (by omega) (by omega)).mpr z)
      clear hc
      have hon := (tn_on ho hc2 (bkE es k).1).mpr (by omega)
      rw [fby hon (by omega)] at hln
      refine ax_aload_n dX9_bookFits_37 rfl ?_
      refine ax_iload_n dX9_bookFits_38 rfl ?_
      refine ax_iload dX9_bookFits_39 rfl ?_
      refine ax_callVN (As := _) (d2 := _) (c1 := 0) (n1 := 0) (c_xbeamsBy (M := N) hok (Or.inl rfl) ho (t := (bkE es k).1) (by omega) (m1.2.2.1 _ (by omega)) (y := nI d) rfl) dX9_bookFits_41 mX4_beamsBy wd_1441 acl_4 (xs_U_0 (Or.inl rfl) hok) rfl (by omega) (by omega) (by omega) rfl rfl (fun _ _ h => by cases h.1) ?_
      rintro r M9 ⟨h1, h9⟩; cases h1; rw [h9]; clear h9 M9
      refine ax_aload_n dX9_bookFits_44 rfl ?_
      refine ax_getK (f := 4) (p 6) dX9_bookFits_45 acl_9 wd_551 (by decide) rfl (lo_s hok 1 rfl) (xk_r6 hx) ?_
      refine ax_getKN (f := 1) ((p 6) + 2) dX9_bookFits_48 acl_0 wd_398 (by decide) rfl (xs_K_0 (xk_b6 hx) hok) (xr_K_1 (xk_b6 hx) hok) ?_
      refine ax_iload_n dX9_bookFits_51 rfl ?_
      refine ax_ialdN (k) dX9_bookFits_52 (xs_K_2 (xk_b6 hx) hok) (by decide) (by first | with_reducible rfl | assumption | exact ax_nix (by simp only [nx_0, nx_1, nx_2, nx_3, nx_4, nx_10, nx_20, nx_21, nx_100, nI_add, pk_mul] <;> rfl) (by omega) | decide) (by omega) ?_
      rw [b3]
      refine ax_icmp_eq (tgt := 58) dX9_bookFits_53 (by decide) (fun hc => ?_) (fun hc => ?_)
      · refine ax_iinc (v := 1) dX9_bookFits_58 rfl (by decide) (by decide) rfl ?_
        refine ax_goto (tgt := 2) dX9_bookFits_61 (by decide) ?_
        refine next _ _ ⟨rfl, ⟨_, by rw [nI_1]; rfl⟩, fun w hw => ?_⟩
        by_cases z : w = k
        · subst z; simp [hln.mpr ⟨by omega, hc⟩]
        · exact hno w (by omega)
      · exact done (fun z => hc (hln.mp z).2) _
  · rintro N L ⟨rfl, ⟨y, rfl⟩, hno⟩
    refine ax_iload_n dX9_bookFits_2 rfl ?_
    refine ax_aload_n dX9_bookFits_3 rfl ?_
    refine ax_getK (f := 4) (p 6) dX9_bookFits_4 acl_9 wd_551 (by decide) rfl (lo_s hok 1 rfl) (xk_r6 hx) ?_
    refine ax_getIN (f := 2) dX9_bookFits_7 acl_0 wd_400 (by decide) rfl (xs_K_0 (xk_b6 hx) hok) ?_
    rw [hb.1]
    refine ax_icmp_ge (tgt := 64) dX9_bookFits_10 (by decide) (fun hc => ?_) (fun hc => absurd ((nI_leI (by omega) (by omega)).mpr (by omega)) hc)
    refine ax_iconst (v := 1) dX9_bookFits_64 (by decide) ?_
    refine ax_zret dX9_bookFits_65 rfl ?_ ?_
    · exact Or.inr rfl
    · refine e True (iff_of_true trivial ?_)
      unfold fit rl
      rw [mt_first_no hno]
      rfl
theorem x_distanceBits (hT : xT M p r lw es) (m1 : xmt M 40 r lw mt_n) : ax_Met l G kX9_distanceBits 5 0 0 M [av_r 1, av_r 40] (ax_p (av_l (db (fit r lw es.length (bkE es)) 41)) M) := by
  have hx := hT.1
  have hok := hx.1
  refine ax_body (by decide) (Nat.le_of_ble_eq_true rfl) ?_
  refine ax_lconst (v := 0) dX9_distanceBits_0 (by decide) ?_
  refine ax_lstore_n dX9_distanceBits_1 (by decide) rfl ?_
  refine ax_iconst (v := 0) dX9_distanceBits_2 (by decide) ?_
  refine ax_istore dX9_distanceBits_3 (by decide) rfl ?_
  refine ax_for 41 (fun d N L => N = M ∧ L = [some (av_r 1), some (av_r 40), some (av_l (db (fit r lw es.length (bkE es)) d)), none, some (av_i (nI d))]) 5 ?_ ?_ (i := 0) (by omega) ⟨rfl, rfl⟩
  · rintro d N L hd ⟨rfl, rfl⟩ next
    have fin : ∀ v : Int64, v = db (fit r lw es.length (bkE es)) (d + 1) → ax_W l G kX9_distanceBits (ax_FQ G (ax_p (av_l (db (fit r lw es.length (bkE es)) 41)) N)) 5 0 0 N 29 [some (av_r 1), some (av_r 40), some (av_l v), none, some (av_i (nI d))] [] := by
      intro v hv
      refine ax_iinc (v := 1) dX9_distanceBits_29 rfl (by decide) (by decide) rfl ?_
      refine ax_goto (tgt := 5) dX9_distanceBits_32 (by decide) ?_
      exact next _ _ ⟨rfl, by rw [nI_1, hv]; rfl⟩
    have st : db (fit r lw es.length (bkE es)) (d + 1) = db (fit r lw es.length (bkE es)) d ||| (if fit r lw es.length (bkE es) d = true then 1 <<< ((nI d).toInt64 &&& 63) else 0) := rfl
    refine ax_iload dX9_distanceBits_5 rfl ?_
    refine ax_bipush (v := 40) dX9_distanceBits_7 (by decide) ?_
    refine ax_icmp_gt (tgt := 35) dX9_distanceBits_9 (by decide) (fun hc => absurd ((nI_ltI (a := 40) (by omega) (by omega)).mp hc) (by omega)) (fun hc => ?_)
    refine ax_aload_n dX9_distanceBits_12 rfl ?_
    refine ax_aload_n dX9_distanceBits_13 rfl ?_
    refine ax_iload dX9_distanceBits_14 rfl ?_
    refine ax_callV (As := _) (d2 := _) (c1 := 0) (n1 := 0) (x_bookFits (M := N) hT m1 (d := d) (by omega) rfl) dX9_distanceBits_16 mX9_bookFits wd_1437 acl_9 (lo_s hok 1 rfl) rfl (by omega) (by omega) (by omega) rfl rfl (fun _ _ h => by cases h.1) ?_
    rintro r M9 ⟨h1, h9⟩; cases h1; rw [h9]; clear h9 M9
    refine ax_ifB_eq (tgt := 29) dX9_distanceBits_19 (by decide) (fun hc => ?_) (fun hc => ?_)
    · exact fin _ (by rw [st, if_neg hc]; simp)
    · refine ax_lload_n dX9_distanceBits_22 rfl ?_
      refine ax_lconst (v := 1) dX9_distanceBits_23 (by decide) ?_
      refine ax_iload dX9_distanceBits_24 rfl ?_
      refine ax_lshl dX9_distanceBits_26 ?_
      refine ax_lor dX9_distanceBits_27 ?_
      refine ax_lstore_n dX9_distanceBits_28 (by decide) rfl ?_
      exact fin _ (by rw [st, if_pos hc])
  · rintro N L ⟨rfl, rfl⟩
    refine ax_iload dX9_distanceBits_5 rfl ?_
    refine ax_bipush (v := 40) dX9_distanceBits_7 (by decide) ?_
    refine ax_icmp_gt (tgt := 35) dX9_distanceBits_9 (by decide) (fun hc => ?_) (fun hc => absurd ((nI_ltI (a := 40) (by omega) (by omega)).mpr (by omega)) hc)
    refine ax_lload_n dX9_distanceBits_35 rfl ?_
    refine ax_lret dX9_distanceBits_36 rfl ?_
    exact ⟨rfl, rfl⟩
theorem x_distances (hl9 : l.stackTraces = false) (hI : xI M p r lw es) : ax_Met l G kX9_distances 8 1 6 M [av_r 1] (xA p r lw es M (qa_distances r lw es.length (bkE es))) := by
  have hx := hI.1.1
  have hok := hx.1
  have hr := hI.1.2.1
  have ho := hI.1.2.2.1
  have h0 := ho.1
  refine ax_body (by decide) (Nat.le_of_ble_eq_true rfl) ?_
  refine ax_aload_n dX9_distances_0 rfl ?_
  refine ax_callVX (As := _) (d2 := _) (c1 := 0) (n1 := 0) (c_needTwoCars (M := M) hl9 hx hr ho) dX9_distances_1 mX9_needTwoCars wd_1254 acl_9 (lo_s hok 1 rfl) rfl (by omega) (by omega) (by omega) rfl rfl (fun E M2 h => xA_ex h (fun z => by unfold qa_distances; rw [if_pos (dn z)])) ?_
  refine xN_k (fun g1 => ?_)
  refine ax_aload_n dX9_distances_4 rfl ?_
  refine ax_aload_n dX9_distances_5 rfl ?_
  refine ax_callV (As := _) (d2 := _) (c1 := 0) (n1 := 0) (c_freshMeeting (M := M) hI) dX9_distances_6 mX9_freshMeeting wd_609 acl_9 (lo_s hok 1 rfl) rfl (by omega) (by omega) (by omega) rfl rfl (fun _ _ h => by cases h.1) ?_
  rintro _ M1 ⟨h1, f1, I1, -, m1, -⟩
  cases h1
  have hx := I1.1.1
  have hok := hx.1
  have hr := I1.1.2.1
  refine ax_callV (As := _) (d2 := _) (c1 := 0) (n1 := 0) (x_distanceBits (M := M1) I1.1 m1) dX9_distances_9 mX9_distanceBits wd_1433 acl_9 (lo_s hok 1 rfl) rfl (by omega) (by omega) (by omega) rfl rfl (fun _ _ h => by cases h.1) ?_
  rintro r M9 ⟨h1, h9⟩; cases h1; rw [h9]; clear h9 M9
  refine ax_lret dX9_distances_12 rfl ?_
  unfold qa_distances
  rw [if_neg g1]
  exact xA_in f1 I1
end X84

