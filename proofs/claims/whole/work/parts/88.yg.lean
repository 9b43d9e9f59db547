/-! ===== asks of the class: clear, paces ===== -/
theorem xI_uw {M M2 : ax_M} {p : Nat → Nat} {r : Nat → Int} {lw : mt_L} {es : List (Nat × Nat)} (h : xI M p r lw es) (hf : uf 56 M M2) (hw : xw M2 56) : xI M2 p r lw es := by
  obtain ⟨h1, h2, h3, h4⟩ := h
  have e : ∀ n i, 40 ≤ n ∧ n ≤ 40 + 15 → M2.1 n i = M.1 n i := fun n i q => hf.2 n i (by unfold fs; omega) (by omega) (by omega)
  refine ⟨xT_qf h1 (qf_uf (Or.inr rfl) hf), ⟨xw_fr h2.1 e, hw⟩, ?_, xD_fr h4 (hf.2 1 10 (by unfold fs; omega) (by omega) (by omega)) (fun n i q => hf.2 n i (by unfold fs; omega) (by omega) (by omega))⟩
  have e7 := hf.2 1 7 (by unfold fs; omega) (by omega) (by omega)
  rcases h3 with h3 | ⟨h3, h5⟩
  · exact Or.inl (e7.trans h3)
  · exact Or.inr ⟨e7.trans h3, xmt_fr h5 e⟩
theorem xlw_f2 {M M2 : ax_M} {p : Nat → Nat} {lw : mt_L} (hx : xp p) (h : xlw M p lw) (hf : ∀ n i, n = 13 ∨ n = 14 ∨ n = 16 ∨ n = 17 ∨ n = 19 ∨ n = 20 ∨ n = 31 ∨ n = 32 → M2.1 n i = M.1 n i) : xlw M2 p lw := by
  obtain ⟨-, -, ⟨q2, q3, q4, -⟩, -⟩ := hx
  unfold xh_F at q2 q3 q4
  exact ⟨xfm_fr h.1 (fun n i z => hf n i (by omega)), xfm_fr h.2.1 (fun n i z => hf n i (by omega)), xfm_fr h.2.2 (fun n i z => hf n i (by omega))⟩
theorem fg_up (r : Nat → Int) (f : Int) : fg r f = up r 34 f := rfl
theorem pc2_up (r : Nat → Int) (a b : Int) : pc2 r a b = up (up r 12 b) 10 a := rfl
theorem xr_pc2 {M M2 : ax_M} {R : Nat} {r : Nat → Int} {a b : Int} (h : xr M R r) (ho : rd_ok r) (e0 : M2.1 (R + 6) 0 = iI a) (e1 : M2.1 (R + 6) 1 = iI b) (ef : ∀ n i, R ≤ n → n ≤ R + 7 → n ≠ R + 6 → M2.1 n i = M.1 n i) : xr M2 R (pc2 r a b) := by
  have o1 := ho.1
  have pn : ∀ i, i ≠ 10 → i ≠ 12 → pc2 r a b i = r i := fun i z1 z2 => by unfold pc2; rw [if_neg z1, if_neg z2]
  obtain ⟨⟨a0, a1, a2, a3, a4, a5, a6, a7, a8⟩, h2, h3, h4, nb, bs, b1, b2, b3, b4, b5, b6⟩ := h
  refine ⟨?_, fun c hc => ?_, fun k hk => ?_, fun x hx => ?_, nb, bs, ?_, ?_, fun i hi => ?_, b4, fun i hi => ?_, fun k hk => ?_⟩
  · simp (disch := omega) only [pn]
    refine ⟨?_, ?_, ?_, ?_, ?_, ?_, ?_, ?_, ?_⟩ <;> (rw [ef _ _ (by omega) (by omega) (by omega)]; assumption)
  · rw [pn 1 (by omega) (by omega)] at hc
    obtain ⟨z1, -, z3⟩ := h2 c hc
    rw [pn (40 + c) (by omega) (by omega), pn (11 + 2 * c) (by omega) (by omega), ef _ _ (by omega) (by omega) (by omega), ef (R + 7) _ (by omega) (by omega) (by omega)]
    refine ⟨z1, ?_, z3⟩
    rcases (show c = 0 ∨ c = 1 by omega) with rfl | rfl
    · exact e0
    · exact e1
  · rw [pn 2 (by omega) (by omega)] at hk
    rw [pn (14 + 2 * k) (by omega) (by omega), pn (15 + 2 * k) (by omega) (by omega), ef _ _ (by omega) (by omega) (by omega), ef (R + 4) _ (by omega) (by omega) (by omega)]
    exact h3 k hk
  · rw [ef _ _ (by omega) (by omega) (by omega), pc2_up, rd_wet_up (by omega) (by omega), rd_wet_up (by omega) (by omega)]; exact h4 x hx
  · rw [pn 3 (by omega) (by omega)]; exact b1
  · rw [ef _ _ (by omega) (by omega) (by omega)]; exact b2
  · rw [ef _ _ (by omega) (by omega) (by omega), pn 0 (by omega) (by omega)]; exact b3 i hi
  · obtain ⟨k, k1, k2⟩ := b5 i hi
    exact ⟨k, by rw [pn 3 (by omega) (by omega)]; exact k1, by rw [pn (50 + k) (by omega) (by omega)]; exact k2⟩
  · rw [pn 3 (by omega) (by omega)] at hk
    obtain ⟨i, i1, i2⟩ := b6 k hk
    exact ⟨i, i1, by rw [pn (50 + k) (by omega) (by omega)]; exact i2⟩
section X88
variable {l : Launch} {G : ax_G} {M : ax_M} {p : Nat → Nat} {r : Nat → Int} {lw : mt_L} {es : List (Nat × Nat)}
theorem x_clear (hl9 : l.stackTraces = false) (hI : xI M p r lw es) (x : Int32) : ax_Met l G kX9_clear 8 1 6 M [av_r 1, av_i x] (xA p r lw es M (qa_clear r lw x)) := by
  have hx := hI.1.1
  have hok := hx.1
  have hr := hI.1.2.1
  have ho := hI.1.2.2.1
  have h0 := ho.1
  refine ax_body (by decide) (Nat.le_of_ble_eq_true rfl) ?_
  refine ax_aload_n dX9_clear_0 rfl ?_
  refine ax_iload_n dX9_clear_1 rfl ?_
  refine ax_callVX (As := _) (d2 := _) (c1 := 0) (n1 := 0) (c_needCar (M := M) hl9 hx hr ho) dX9_clear_2 mX9_needCar wd_1136 acl_9 (lo_s hok 1 rfl) rfl (by omega) (by omega) (by omega) rfl rfl (fun E M2 h => xA_ex h (fun z => by unfold qa_clear; rw [if_pos z])) ?_
  refine xN_k (fun g1 => ?_)
  obtain ⟨c, hc1, rfl⟩ := in_car g1 (by omega) (by omega)
  have hc2 : c < 2 := by omega
  have hb0 := xk_b0 hx
  have hp0 : p 0 = 5 ∨ p 0 = 23 := hb0
  obtain ⟨q, hq⟩ : ∃ q : Nat → Bool, q = cl_p r lw c := ⟨_, rfl⟩
  have e34 : M.1 (p 0) 9 = iI (r 34) := hr.1.2.2.2.2.2.2.2.1
  refine ax_aload_n dX9_clear_5 rfl ?_
  refine ax_getK (f := 1) 4 dX9_clear_6 acl_9 wd_548 (by decide) rfl (lo_s hok 1 rfl) (lo_r hok 1 rfl) ?_
  refine ax_getKN (f := 0) (p 0) dX9_clear_9 acl_7 wd_367 (by decide) rfl (lo_s hok 4 rfl) (xk_r0 hx) ?_
  refine ax_astore_n dX9_clear_12 (by decide) rfl ?_
  refine ax_aload_n dX9_clear_13 rfl ?_
  refine ax_getIN (f := 9) dX9_clear_14 acl_5 wd_275 (by decide) rfl (xs_R_0 (xk_b0 hx) hok) ?_
  rw [e34]
  refine ax_istore_n dX9_clear_17 (by decide) rfl ?_
  refine ax_iconst (v := (-1)) dX9_clear_18 (by decide) ?_
  refine ax_istore dX9_clear_19 (by decide) rfl ?_
  refine ax_iconst (v := 0) dX9_clear_21 (by decide) ?_
  refine ax_istore dX9_clear_22 (by decide) rfl ?_
  refine ax_for 10 (fun i N L => N.2 = M.2 ∧ (∀ n i, ¬ fs n → n ≠ 22 → ¬ (56 ≤ n ∧ n ≤ 56 + 15) → ¬ (n = p 0 ∧ i = 9) → N.1 n i = M.1 n i) ∧ xw N 56 ∧ L = [some (av_r 1), some (av_i (nI c)), some (av_r (p 0)), some (av_i (iI (r 34))), some (av_i (pl q i)), some (av_i (nI i))]) 24 ?_ ?_ (i := 0) (by omega) ⟨rfl, fun _ _ _ _ _ _ => rfl, hI.2.1.2, rfl⟩
  · rintro i N L hi ⟨n1, n2, n3, rfl⟩ next
    have hx : xk N.2 p := by rw [n1]; exact hx
    have hok := hx.1
    refine ax_iload dX9_clear_24 rfl ?_
    refine ax_bipush (v := 9) dX9_clear_26 (by decide) ?_
    refine ax_icmp_gt (tgt := 72) dX9_clear_28 (by decide) (fun hc => absurd ((nI_ltI (a := 9) (by omega) (by omega)).mp hc) (by omega)) (fun hc => ?_)
    refine ax_aload_n dX9_clear_31 rfl ?_
    refine ax_iload dX9_clear_32 rfl ?_
    refine ax_putIN (f := 9) dX9_clear_34 acl_5 wd_275 (by decide) rfl rfl (ax_nfI rfl) (xs_R_0 (xk_b0 hx) hok) ?_
    refine ax_gen (fun A hA => ?_)
    have a1 : A.2 = M.2 := by rw [hA]; exact n1
    have a2 : ∀ n i, ¬ fs n → n ≠ 22 → ¬ (56 ≤ n ∧ n ≤ 56 + 15) → ¬ (n = p 0 ∧ i = 9) → A.1 n i = M.1 n i := fun n i z1 z2 z3 z4 => by rw [hA, ax_pn (by omega)]; exact n2 n i z1 z2 z3 z4
    have a3 : A.1 (p 0) 9 = iI (i : Int) := by rw [hA, ax_pa, iI_nI]
    have a4 : xw A 56 := xw_fr n3 (fun n i z => by rw [hA, ax_pn (by omega)])
    have hx : xk A.2 p := by rw [a1]; exact hI.1.1
    have hok := hx.1
    have hrA : xr A (p 0) (fg r (i : Int)) := by
      rw [fg_up]
      refine xr_fr (xr_fld (j := 34) (f := 9) (v := (i : Int)) hr ho (by omega) rfl) (fun n j z1 z2 => ?_)
      by_cases z : n = p 0 ∧ j = 9
      · rw [z.1, z.2, a3, ax_pa]
      · rw [ax_pn (by omega)]; exact a2 n j (by unfold fs; omega) (by omega) (by omega) z
    have hlA : xlw A p lw := xlw_f2 hx.2.1 hI.1.2.2.2.1 (fun n i z => a2 n i (by unfold fs; omega) (by omega) (by omega) (by omega))
    have hoF : rd_ok (fg r (i : Int)) := fg_ok ho (by omega)
    refine ax_aload_n dX9_clear_37 rfl ?_
    refine ax_getK (f := 8) 56 dX9_clear_38 acl_9 wd_555 (by decide) rfl (lo_s hok 1 rfl) (lo_r hok 3 rfl) ?_
    refine ax_aload_n dX9_clear_41 rfl ?_
    refine ax_getK (f := 1) 4 dX9_clear_42 acl_9 wd_548 (by decide) rfl (lo_s hok 1 rfl) (lo_r hok 1 rfl) ?_
    refine ax_iconst (v := (-1)) dX9_clear_45 (by decide) ?_
    refine ax_iconst (v := (-1)) dX9_clear_46 (by decide) ?_
    refine ax_callVN (As := _) (d2 := _) (c1 := 0) (n1 := 0) (c_run (M := A) hx (Or.inr rfl) hrA hoF hlA a4 (-1) (-1)) dX9_clear_47 mX4_run wd_613 acl_4 (lo_s hok 56 rfl) rfl (by omega) (by omega) (by omega) rfl rfl (fun _ _ h => by cases h.1) ?_
    rintro _ M1 ⟨h1, u1, m1⟩
    cases h1
    have hx : xk M1.2 p := by rw [u1.1]; exact hx
    have hok := hx.1
    have hrM : xr M1 (p 0) (fg r (i : Int)) := xr_fr hrA (fun n j z1 z2 => u1.2 n j (by unfold fs; omega) (by omega) (by omega))
    refine ax_aload_n dX9_clear_50 rfl ?_
    refine ax_getK (f := 8) 56 dX9_clear_51 acl_9 wd_555 (by decide) rfl (lo_s hok 1 rfl) (lo_r hok 3 rfl) ?_
    refine ax_aload_n dX9_clear_54 rfl ?_
    refine ax_iload_n dX9_clear_55 rfl ?_
    refine ax_callVN (As := _) (d2 := _) (c1 := 0) (n1 := 0) (c_hitBits (M := M1) hok (Or.inr rfl) hb0 hrM hoF m1 hc2 (by unfold fg; rw [if_neg (by decide)]; exact hc1) rfl) dX9_clear_56 mX4_hitBits wd_1172 acl_4 (lo_s hok 56 rfl) rfl (by omega) (by omega) (by omega) rfl rfl (fun _ _ h => by cases h.1) ?_
    rintro r M9 ⟨h1, h9⟩; cases h1; rw [h9]; clear h9 M9
    have eq9 : q i = true ↔ mt_hit (fg r (i : Int)) lw (mt_d (-1) (-1)) c (mt_T (fg r (i : Int))) = 0 := by
      rw [hq]; unfold cl_p; rw [decide_eq_true_eq]; exact Iff.rfl
    have st : pl q (i + 1) = if q i = true then nI i else pl q i := rfl
    have fin : ∀ v, v = pl q (i + 1) → ax_W l G kX9_clear (ax_FQ G (xA p r lw es M (qa_clear r lw (nI c)))) 8 0 0 M1 66 [some (av_r 1), some (av_i (nI c)), some (av_r (p 0)), some (av_i (iI (r 34))), some (av_i v), some (av_i (nI i))] [] := by
      intro v hv
      refine ax_iinc (v := 1) dX9_clear_66 rfl (by decide) (by decide) rfl ?_
      refine ax_goto (tgt := 24) dX9_clear_69 (by decide) ?_
      exact next _ _ ⟨u1.1.trans a1, fun n i z1 z2 z3 z4 => (u1.2 n i z1 z2 z3).trans (a2 n i z1 z2 z3 z4), xw_xmt m1, by rw [nI_1, hv]; rfl⟩
    refine ax_if_ne (tgt := 66) dX9_clear_59 (by decide) (fun hc => ?_) (fun hc => ?_)
    · exact fin _ (by rw [st, if_neg (fun z => hc (eq9.mp z))])
    · refine ax_iload dX9_clear_62 rfl ?_
      refine ax_istore dX9_clear_64 (by decide) rfl ?_
      exact fin _ (by rw [st, if_pos (eq9.mpr hc)])
  · rintro N L ⟨n1, n2, n3, rfl⟩
    have hx : xk N.2 p := by rw [n1]; exact hx
    have hok := hx.1
    refine ax_iload dX9_clear_24 rfl ?_
    refine ax_bipush (v := 9) dX9_clear_26 (by decide) ?_
    refine ax_icmp_gt (tgt := 72) dX9_clear_28 (by decide) (fun hc => ?_) (fun hc => absurd ((nI_ltI (a := 9) (by omega) (by omega)).mpr (by omega)) hc)
    refine ax_aload_n dX9_clear_72 rfl ?_
    refine ax_iload_n dX9_clear_73 rfl ?_
    refine ax_putIN (f := 9) dX9_clear_74 acl_5 wd_275 (by decide) rfl rfl (ax_nfI rfl) (xs_R_0 (xk_b0 hx) hok) ?_
    refine ax_iload dX9_clear_77 rfl ?_
    refine ax_iret dX9_clear_79 rfl ?_
    have u : uf 56 M (ax_pI N (p 0) 9 (iI (r 34))) := ⟨n1, fun n i z1 z2 z3 => by
      by_cases z : n = p 0 ∧ i = 9
      · rw [z.1, z.2, ax_pa, e34]
      · rw [ax_pn (by omega)]; exact n2 n i z1 z2 z3 z⟩
    unfold qa_clear
    rw [if_neg (fun z => z g1), nI_clamp (by omega), ← hq]
    exact xA_in (qf_uf (Or.inr rfl) u) (xI_uw hI u (xw_fr n3 (fun n i z => by rw [ax_pn (by omega)])))
theorem x_paces (hl9 : l.stackTraces = false) (hI : xI M p r lw es) (x : Int32) : ax_Met l G kX9_paces 9 2 12 M [av_r 1, av_i x] (xA p r lw es M (qa_paces r lw x)) := by
  have hx := hI.1.1
  have hok := hx.1
  have hr := hI.1.2.1
  have ho := hI.1.2.2.1
  have h0 := ho.1
  refine ax_body (by decide) (Nat.le_of_ble_eq_true rfl) ?_
  refine ax_aload_n dX9_paces_0 rfl ?_
  refine ax_iload_n dX9_paces_1 rfl ?_
  refine ax_iconst (v := 0) dX9_paces_2 (by decide) ?_
  refine ax_iconst (v := 1) dX9_paces_3 (by decide) ?_
  refine ax_callVX (As := _) (d2 := _) (c1 := 1) (n1 := 6) (c_needRange (M := M) hl9 hok) dX9_paces_4 mX9_needRange wd_1121 acl_9 (lo_s hok 1 rfl) rfl (by omega) (by omega) (by omega) rfl rfl (fun E M2 h => xA_ex h (fun z => by unfold qa_paces; rw [if_pos z])) ?_
  refine xN_k (fun g1 => ?_)
  refine ax_aload_n dX9_paces_7 rfl ?_
  refine ax_callVX (As := _) (d2 := _) (c1 := 0) (n1 := 0) (c_needTwoCars (M := M) hl9 hx hr ho) dX9_paces_8 mX9_needTwoCars wd_1254 acl_9 (lo_s hok 1 rfl) rfl (by omega) (by omega) (by omega) rfl rfl (fun E M2 h => xA_ex h (fun z => by unfold qa_paces; rw [if_neg (fun q => q g1), if_pos (dn z)])) ?_
  refine xN_k (fun g2 => ?_)
  obtain ⟨k, hk, rfl⟩ := in_nat g1 (n := 1) rfl (by decide)
  have hb0 := xk_b0 hx
  have hp0 : p 0 = 5 ∨ p 0 = 23 := hb0
  have ep0 : M.1 (p 0 + 6) 0 = iI (r 10) := (hr.2.1 0 (by omega)).2.1
  have ep1 : M.1 (p 0 + 6) 1 = iI (r 12) := (hr.2.1 1 (by omega)).2.1
  obtain ⟨v, hv⟩ : ∃ v, v = ps_v r lw := ⟨_, rfl⟩
  have vl : ∀ a b, v a b ≤ 20 := fun a b => by
    rw [hv]; unfold ps_v
    have q0 := mt_hn_le (pc2 r (a : Int) (b : Int)) lw mt_n 0
    have q1 := mt_hn_le (pc2 r (a : Int) (b : Int)) lw mt_n 1
    omega
  refine ax_aload_n dX9_paces_11 rfl ?_
  refine ax_getK (f := 1) 4 dX9_paces_12 acl_9 wd_548 (by decide) rfl (lo_s hok 1 rfl) (lo_r hok 1 rfl) ?_
  refine ax_getKN (f := 0) (p 0) dX9_paces_15 acl_7 wd_367 (by decide) rfl (lo_s hok 4 rfl) (xk_r0 hx) ?_
  refine ax_astore_n dX9_paces_18 (by decide) rfl ?_
  refine ax_aload_n dX9_paces_19 rfl ?_
  refine ax_getKN (f := 14) ((p 0) + 6) dX9_paces_20 acl_5 wd_289 (by decide) rfl (xs_R_0 (xk_b0 hx) hok) (xr_R_14 (xk_b0 hx) hok) ?_
  refine ax_iconst (v := 0) dX9_paces_23 (by decide) ?_
  refine ax_ialdN (0) dX9_paces_24 (xs_R_6 (xk_b0 hx) hok) (by decide) (by decide) (by decide) ?_
  refine ax_istore_n dX9_paces_25 (by decide) rfl ?_
  refine ax_aload_n dX9_paces_26 rfl ?_
  refine ax_getKN (f := 14) ((p 0) + 6) dX9_paces_27 acl_5 wd_289 (by decide) rfl (xs_R_0 (xk_b0 hx) hok) (xr_R_14 (xk_b0 hx) hok) ?_
  refine ax_iconst (v := 1) dX9_paces_30 (by decide) ?_
  refine ax_ialdN (1) dX9_paces_31 (xs_R_6 (xk_b0 hx) hok) (by decide) (by decide) (by decide) ?_
  refine ax_istore dX9_paces_32 (by decide) rfl ?_
  refine ax_iconst (v := 0) dX9_paces_34 (by decide) ?_
  refine ax_istore dX9_paces_35 (by decide) rfl ?_
  refine ax_iconst (v := 0) dX9_paces_37 (by decide) ?_
  refine ax_istore dX9_paces_38 (by decide) rfl ?_
  refine ax_ldc_w dX9_paces_40 wd_1344 ?_
  refine ax_istore dX9_paces_43 (by decide) rfl ?_
  refine ax_iconst (v := 1) dX9_paces_45 (by decide) ?_
  refine ax_istore dX9_paces_46 (by decide) rfl ?_
  rw [ep0, ep1]
  have J : ∃ J : Bool → Nat × Nat → Int32 → Int32 → Int32 → Prop, ∀ f st x5 x6 x7, J f st x5 x6 x7 ↔ (st.1 ≤ 3 ∧ st.2 ≤ 3 ∧ (f = true → st = (1, 1) ∧ x5 = 0 ∧ x6 = 0 ∧ x7 = 1000000) ∧ (f = false → x5 = nI (10 * st.1 + st.2) ∧ x6 = nI (st.1 + st.2) ∧ x7 = nI (v st.1 st.2))) := ⟨_, fun _ _ _ _ _ => Iff.rfl⟩
  obtain ⟨J, hJ⟩ := J
  refine ax_for 4 (fun a N L => 1 ≤ a ∧ ∃ x5 x6 x7 y9 y10, N.2 = M.2 ∧ (∀ n i, ¬ fs n → n ≠ 22 → ¬ (56 ≤ n ∧ n ≤ 56 + 15) → ¬ (n = p 0 + 6 ∧ (i = 0 ∨ i = 1)) → N.1 n i = M.1 n i) ∧ xw N 56 ∧ L = [some (av_r 1), some (av_i (nI k)), some (av_r (p 0)), some (av_i (iI (r 10))), some (av_i (iI (r 12))), some (av_i x5), some (av_i x6), some (av_i x7), some (av_i (nI a)), y9, y10] ∧ J (decide (a = 1)) (ps_a v (a - 1)) x5 x6 x7) 48 ?_ ?_ (i := 1) (by omega) ⟨by omega, _, _, _, _, _, rfl, fun _ _ _ _ _ _ => rfl, hI.2.1.2, rfl, (hJ _ _ _ _ _).mpr ⟨(show 1 ≤ 3 by decide), (show 1 ≤ 3 by decide), fun _ => ⟨rfl, rfl, rfl, rfl⟩, fun z => by cases z⟩⟩
  · rintro a N0 L ha ⟨ha1, x5, x6, x7, y9, y10, n1, n2, n3, rfl, hj⟩ next
    refine ax_iload dX9_paces_48 rfl ?_
    refine ax_iconst (v := 3) dX9_paces_50 (by decide) ?_
    refine ax_icmp_gt (tgt := 170) dX9_paces_51 (by decide) (fun hc => absurd ((nI_ltI (a := 3) (by omega) (by omega)).mp hc) (by omega)) (fun hc => ?_)
    refine ax_iconst (v := 1) dX9_paces_54 (by decide) ?_
    refine ax_istore dX9_paces_55 (by decide) rfl ?_
    refine ax_for 4 (fun b N L => 1 ≤ b ∧ ∃ x5 x6 x7 y10, N.2 = M.2 ∧ (∀ n i, ¬ fs n → n ≠ 22 → ¬ (56 ≤ n ∧ n ≤ 56 + 15) → ¬ (n = p 0 + 6 ∧ (i = 0 ∨ i = 1)) → N.1 n i = M.1 n i) ∧ xw N 56 ∧ L = [some (av_r 1), some (av_i (nI k)), some (av_r (p 0)), some (av_i (iI (r 10))), some (av_i (iI (r 12))), some (av_i x5), some (av_i x6), some (av_i x7), some (av_i (nI a)), some (av_i (nI b)), y10] ∧ J (decide (a = 1) && decide (b = 1)) (ps_r v a (ps_a v (a - 1)) (b - 1)) x5 x6 x7) 57 ?_ ?_ (i := 1) (by omega) ⟨by omega, _, _, _, _, n1, n2, n3, rfl, (by rw [decide_eq_true (show (1 : Nat) = 1 from rfl), Bool.and_true]; exact hj)⟩
    · clear hj n1 n2 n3
      rintro b N L hb ⟨hb1, x5, x6, x7, y10, n1, n2, n3, rfl, hj⟩ next2
      obtain ⟨j1, j2, j3, j4⟩ := (hJ _ _ _ _ _).mp hj
      have hx : xk N.2 p := by rw [n1]; exact hx
      have hok := hx.1
      refine ax_iload dX9_paces_57 rfl ?_
      refine ax_iconst (v := 3) dX9_paces_59 (by decide) ?_
      refine ax_icmp_gt (tgt := 164) dX9_paces_60 (by decide) (fun hc => absurd ((nI_ltI (a := 3) (by omega) (by omega)).mp hc) (by omega)) (fun hc => ?_)
      refine ax_aload_n dX9_paces_63 rfl ?_
      refine ax_getKN (f := 14) ((p 0) + 6) dX9_paces_64 acl_5 wd_289 (by decide) rfl (xs_R_0 (xk_b0 hx) hok) (xr_R_14 (xk_b0 hx) hok) ?_
      refine ax_iconst (v := 0) dX9_paces_67 (by decide) ?_
      refine ax_iload dX9_paces_68 rfl ?_
      refine ax_iastN (0) dX9_paces_70 (xs_R_6 (xk_b0 hx) hok) (by decide) (by decide) (by decide) ?_
      refine ax_aload_n dX9_paces_71 rfl ?_
      refine ax_getKN (f := 14) ((p 0) + 6) dX9_paces_72 acl_5 wd_289 (by decide) rfl (xs_R_0 (xk_b0 hx) hok) (xr_R_14 (xk_b0 hx) hok) ?_
      refine ax_iconst (v := 1) dX9_paces_75 (by decide) ?_
      refine ax_iload dX9_paces_76 rfl ?_
      refine ax_iastN (1) dX9_paces_78 (xs_R_6 (xk_b0 hx) hok) (by decide) (by decide) (by decide) ?_
      refine ax_gen (fun A hA => ?_)
      have a1 : A.2 = M.2 := by rw [hA]; exact n1
      have a2 : ∀ n i, ¬ fs n → n ≠ 22 → ¬ (56 ≤ n ∧ n ≤ 56 + 15) → ¬ (n = p 0 + 6 ∧ (i = 0 ∨ i = 1)) → A.1 n i = M.1 n i := fun n i z1 z2 z3 z4 => by rw [hA, ax_pn (by omega), ax_pn (by omega)]; exact n2 n i z1 z2 z3 z4
      have a3 : A.1 (p 0 + 6) 0 = iI (a : Int) := by rw [hA, ax_pn (by omega), ax_pa, iI_nI]
      have a4 : A.1 (p 0 + 6) 1 = iI (b : Int) := by rw [hA, ax_pa, iI_nI]
      have a5 : xw A 56 := xw_fr n3 (fun n i z => by rw [hA, ax_pn (by omega), ax_pn (by omega)])
      have hx : xk A.2 p := by rw [a1]; exact hI.1.1
      have hok := hx.1
      have hrA : xr A (p 0) (pc2 r (a : Int) (b : Int)) := xr_pc2 hr ho a3 a4 (fun n i z1 z2 z3 => a2 n i (by unfold fs; omega) (by omega) (by omega) (by omega))
      have hlA : xlw A p lw := xlw_f2 hx.2.1 hI.1.2.2.2.1 (fun n i z => a2 n i (by unfold fs; omega) (by omega) (by omega) (by omega))
      have hoF : rd_ok (pc2 r (a : Int) (b : Int)) := pc2_ok ho (by omega) (by omega)
      clear hA
      refine ax_aload_n dX9_paces_79 rfl ?_
      refine ax_getK (f := 8) 56 dX9_paces_80 acl_9 wd_555 (by decide) rfl (lo_s hok 1 rfl) (lo_r hok 3 rfl) ?_
      refine ax_aload_n dX9_paces_83 rfl ?_
      refine ax_getK (f := 1) 4 dX9_paces_84 acl_9 wd_548 (by decide) rfl (lo_s hok 1 rfl) (lo_r hok 1 rfl) ?_
      refine ax_iconst (v := (-1)) dX9_paces_87 (by decide) ?_
      refine ax_iconst (v := (-1)) dX9_paces_88 (by decide) ?_
      refine ax_callVN (As := _) (d2 := _) (c1 := 0) (n1 := 0) (c_run (M := A) hx (Or.inr rfl) hrA hoF hlA a5 (-1) (-1)) dX9_paces_89 mX4_run wd_613 acl_4 (lo_s hok 56 rfl) rfl (by omega) (by omega) (by omega) rfl rfl (fun _ _ h => by cases h.1) ?_
      rintro _ M1 ⟨h1, u1, m1⟩
      cases h1
      have hx : xk M1.2 p := by rw [u1.1]; exact hx
      have hok := hx.1
      have hrM : xr M1 (p 0) (pc2 r (a : Int) (b : Int)) := xr_fr hrA (fun n j z1 z2 => u1.2 n j (by unfold fs; omega) (by omega) (by omega))
      refine ax_aload_n dX9_paces_92 rfl ?_
      refine ax_getK (f := 8) 56 dX9_paces_93 acl_9 wd_555 (by decide) rfl (lo_s hok 1 rfl) (lo_r hok 3 rfl) ?_
      refine ax_aload_n dX9_paces_96 rfl ?_
      refine ax_iconst (v := 0) dX9_paces_97 (by decide) ?_
      refine ax_callVN (As := _) (d2 := _) (c1 := 0) (n1 := 0) (c_hitCount (M := M1) hok (Or.inr rfl) hb0 hrM hoF m1 (c := 0) (by omega) (by unfold pc2; rw [if_neg (by decide), if_neg (by decide)]; omega) rfl) dX9_paces_98 mX4_hitCount wd_1534 acl_4 (lo_s hok 56 rfl) rfl (by omega) (by omega) (by omega) rfl rfl (fun _ _ h => by cases h.1) ?_
      rintro r M9 ⟨h1, h9⟩; cases h1; rw [h9]; clear h9 M9
      refine ax_aload_n dX9_paces_101 rfl ?_
      refine ax_getK (f := 8) 56 dX9_paces_102 acl_9 wd_555 (by decide) rfl (lo_s hok 1 rfl) (lo_r hok 3 rfl) ?_
      refine ax_aload_n dX9_paces_105 rfl ?_
      refine ax_iconst (v := 1) dX9_paces_106 (by decide) ?_
      refine ax_callVN (As := _) (d2 := _) (c1 := 0) (n1 := 0) (c_hitCount (M := M1) hok (Or.inr rfl) hb0 hrM hoF m1 (c := 1) (by omega) (by unfold pc2; rw [if_neg (by decide), if_neg (by decide)]; omega) rfl) dX9_paces_107 mX4_hitCount wd_1534 acl_4 (lo_s hok 56 rfl) rfl (by omega) (by omega) (by omega) rfl rfl (fun _ _ h => by cases h.1) ?_
      rintro r M9 ⟨h1, h9⟩; cases h1; rw [h9]; clear h9 M9
      refine ax_iadd dX9_paces_110 ?_
      have ev : nI (mt_hn (pc2 r (a : Int) (b : Int)) lw (mt_d (-1) (-1)) 0) + nI (mt_hn (pc2 r (a : Int) (b : Int)) lw (mt_d (-1) (-1)) 1) = nI (v a b) := by rw [hv, nI_add]; rfl
      rw [ev]
      refine ax_istore dX9_paces_111 (by decide) rfl ?_
      refine ax_iload dX9_paces_113 rfl ?_
      refine ax_iload dX9_paces_115 rfl ?_
      have vab := vl a b
      obtain ⟨st, hst⟩ : ∃ st, st = ps_r v a (ps_a v (a - 1)) (b - 1) := ⟨_, rfl⟩
      rw [← hst] at j1 j2 j3 j4
      have stp : ps_r v a (ps_a v (a - 1)) b = if ps_lt v a b st = true then (a, b) else st := by
        obtain ⟨b9, rfl⟩ : ∃ b9, b = b9 + 1 := ⟨b - 1, by omega⟩
        rw [hst]; rfl
      have fin : ∀ (st2 : Nat × Nat) (z5 z6 z7 : Int32), st2 = ps_r v a (ps_a v (a - 1)) b → st2.1 ≤ 3 → st2.2 ≤ 3 → z5 = nI (10 * st2.1 + st2.2) → z6 = nI (st2.1 + st2.2) → z7 = nI (v st2.1 st2.2) → ax_W l G kX9_paces (ax_FQ G (xA p r lw es M (qa_paces r lw (nI k)))) 9 0 0 M1 158 [some (av_r 1), some (av_i (nI k)), some (av_r (p 0)), some (av_i (iI (r 10))), some (av_i (iI (r 12))), some (av_i z5), some (av_i z6), some (av_i z7), some (av_i (nI a)), some (av_i (nI b)), some (av_i (nI (v a b)))] [] := by
        intro st2 z5 z6 z7 e1 e2 e3 e4 e5 e6
        refine ax_iinc (v := 1) dX9_paces_158 rfl (by decide) (by decide) rfl ?_
        refine ax_goto (tgt := 57) dX9_paces_161 (by decide) ?_
        refine next2 _ _ ⟨by omega, z5, z6, z7, _, u1.1.trans a1, fun n i q1 q2 q3 q4 => (u1.2 n i q1 q2 q3).trans (a2 n i q1 q2 q3 q4), xw_xmt m1, (by rw [nI_1]; rfl), (hJ _ _ _ _ _).mpr ?_⟩
        rw [show b + 1 - 1 = b by omega, ← e1]
        exact ⟨e2, e3, fun z => by rw [decide_eq_false (show ¬ b + 1 = 1 by omega)] at z; simp at z, fun _ => ⟨e4, e5, e6⟩⟩
      have take : ps_r v a (ps_a v (a - 1)) b = (a, b) → ax_W l G kX9_paces (ax_FQ G (xA p r lw es M (qa_paces r lw (nI k)))) 9 0 0 M1 137 [some (av_r 1), some (av_i (nI k)), some (av_r (p 0)), some (av_i (iI (r 10))), some (av_i (iI (r 12))), some (av_i x5), some (av_i x6), some (av_i x7), some (av_i (nI a)), some (av_i (nI b)), some (av_i (nI (v a b)))] [] := by
        intro e1
        refine ax_iload dX9_paces_137 rfl ?_
        refine ax_istore dX9_paces_139 (by decide) rfl ?_
        refine ax_iload dX9_paces_141 rfl ?_
        refine ax_iload dX9_paces_143 rfl ?_
        refine ax_iadd dX9_paces_145 ?_
        refine ax_istore dX9_paces_146 (by decide) rfl ?_
        refine ax_bipush (v := 10) dX9_paces_148 (by decide) ?_
        refine ax_iload dX9_paces_150 rfl ?_
        refine ax_imul dX9_paces_152 ?_
        refine ax_iload dX9_paces_153 rfl ?_
        refine ax_iadd dX9_paces_155 ?_
        refine ax_istore dX9_paces_156 (by decide) rfl ?_
        refine fin (a, b) _ _ _ e1.symm (by show a ≤ 3; omega) (by show b ≤ 3; omega) ?_ ?_ rfl
        · rw [show (10 : Int32) = nI 10 from rfl, pk_mul, nI_add]
        · rw [nI_add]
      cases hf : (decide (a = 1) && decide (b = 1)) with
      | true =>
        obtain ⟨e1, rfl, rfl, rfl⟩ := j3 hf
        rw [Bool.and_eq_true, decide_eq_true_eq, decide_eq_true_eq] at hf
        obtain ⟨rfl, rfl⟩ := hf
        refine ax_icmp_lt (tgt := 137) dX9_paces_117 (by decide) (fun hc => ?_) (fun hc => ?_)
        · exact take (by rw [stp, e1]; split <;> rfl)
        · exact absurd ((nI_ltI (b := 1000000) (by omega) (by omega)).mpr (by omega)) hc
      | false =>
        obtain ⟨rfl, rfl, rfl⟩ := j4 hf
        have vst := vl st.1 st.2
        have lt : ps_lt v a b st = true ↔ v a b < v st.1 st.2 ∨ (v a b = v st.1 st.2 ∧ st.1 + st.2 < a + b) := by
          unfold ps_lt; rw [Bool.or_eq_true, Bool.and_eq_true, decide_eq_true_eq, decide_eq_true_eq, decide_eq_true_eq]
        refine ax_icmp_lt (tgt := 137) dX9_paces_117 (by decide) (fun hc => ?_) (fun hc => ?_)
        · have q := (nI_ltI (by omega) (by omega)).mp hc
          exact take (by rw [stp, if_pos (lt.mpr (Or.inl q))])
        have q : ¬ v a b < v st.1 st.2 := fun z => hc ((nI_ltI (by omega) (by omega)).mpr z)
        clear hc
        refine ax_iload dX9_paces_120 rfl ?_
        refine ax_iload dX9_paces_122 rfl ?_
        refine ax_icmp_ne (tgt := 158) dX9_paces_124 (by decide) (fun hc => ?_) (fun hc => ?_)
        · have q2 : ¬ v a b = v st.1 st.2 := fun z => hc (by rw [z])
          exact fin st _ _ _ (by rw [stp, if_neg (fun z => by have := lt.mp z; omega)]) j1 j2 rfl rfl rfl
        have q2 : v a b = v st.1 st.2 := (nI_eq (by omega) (by omega)).mp hc
        clear hc
        refine ax_iload dX9_paces_127 rfl ?_
        refine ax_iload dX9_paces_129 rfl ?_
        refine ax_iadd dX9_paces_131 ?_
        rw [nI_add]
        refine ax_iload dX9_paces_132 rfl ?_
        refine ax_icmp_le (tgt := 158) dX9_paces_134 (by decide) (fun hc => ?_) (fun hc => ?_)
        · have q3 := (nI_leI (by omega) (by omega)).mp hc
          exact fin st _ _ _ (by rw [stp, if_neg (fun z => by have := lt.mp z; omega)]) j1 j2 rfl rfl rfl
        · have q3 : ¬ a + b ≤ st.1 + st.2 := fun z => hc ((nI_leI (by omega) (by omega)).mpr z)
          exact take (by rw [stp, if_pos (lt.mpr (Or.inr ⟨q2, by omega⟩))])
    · clear hj n1 n2 n3
      rintro N L ⟨-, x5, x6, x7, y10, n1, n2, n3, rfl, hj⟩
      refine ax_iload dX9_paces_57 rfl ?_
      refine ax_iconst (v := 3) dX9_paces_59 (by decide) ?_
      refine ax_icmp_gt (tgt := 164) dX9_paces_60 (by decide) (fun hc => ?_) (fun hc => absurd ((nI_ltI (a := 3) (by omega) (by omega)).mpr (by omega)) hc)
      refine ax_iinc (v := 1) dX9_paces_164 rfl (by decide) (by decide) rfl ?_
      refine ax_goto (tgt := 48) dX9_paces_167 (by decide) ?_
      refine next _ _ ⟨by omega, x5, x6, x7, _, _, n1, n2, n3, (by rw [nI_1]; rfl), ?_⟩
      obtain ⟨a9, rfl⟩ : ∃ a9, a = a9 + 1 := ⟨a - 1, by omega⟩
      rw [decide_eq_false (show ¬ 4 = 1 by decide), Bool.and_false] at hj
      rw [decide_eq_false (show ¬ a9 + 1 + 1 = 1 by omega)]
      exact hj
  · rintro N L ⟨-, x5, x6, x7, y9, y10, n1, n2, n3, rfl, hj⟩
    have hx : xk N.2 p := by rw [n1]; exact hx
    have hok := hx.1
    obtain ⟨j1, j2, j3, j4⟩ := (hJ _ _ _ _ _).mp hj
    obtain ⟨rfl, rfl, rfl⟩ := j4 (by decide)
    have e : ∀ (B : ax_M) w, B = ax_pI (ax_pI N (p 0 + 6) 0 (iI (r 10))) (p 0 + 6) 1 (iI (r 12)) → w = qv_paces r lw k → xA p r lw es M (qa_paces r lw (nI k)) (.inl (some (av_i w))) B := fun B w hB hw => by
      have u : uf 56 M B := ⟨by rw [hB]; exact n1, fun n i z1 z2 z3 => by
        by_cases q0 : n = p 0 + 6 ∧ i = 0
        · rw [hB, ax_pn (by omega), q0.1, q0.2, ax_pa, ep0]
        · by_cases q1 : n = p 0 + 6 ∧ i = 1
          · rw [hB, q1.1, q1.2, ax_pa, ep1]
          · rw [hB, ax_pn (by omega), ax_pn (by omega)]; exact n2 n i z1 z2 z3 (by omega)⟩
      unfold qa_paces
      rw [if_neg (fun z => z g1), if_neg g2, nI_clamp (by omega), hw]
      exact xA_in (qf_uf (Or.inr rfl) u) (xI_uw hI u (xw_fr n3 (fun n i z => by rw [hB, ax_pn (by omega), ax_pn (by omega)])))
    refine ax_iload dX9_paces_48 rfl ?_
    refine ax_iconst (v := 3) dX9_paces_50 (by decide) ?_
    refine ax_icmp_gt (tgt := 170) dX9_paces_51 (by decide) (fun hc => ?_) (fun hc => absurd ((nI_ltI (a := 3) (by omega) (by omega)).mpr (by omega)) hc)
    refine ax_aload_n dX9_paces_170 rfl ?_
    refine ax_getKN (f := 14) ((p 0) + 6) dX9_paces_171 acl_5 wd_289 (by decide) rfl (xs_R_0 (xk_b0 hx) hok) (xr_R_14 (xk_b0 hx) hok) ?_
    refine ax_iconst (v := 0) dX9_paces_174 (by decide) ?_
    refine ax_iload_n dX9_paces_175 rfl ?_
    refine ax_iastN (0) dX9_paces_176 (xs_R_6 (xk_b0 hx) hok) (by decide) (by decide) (by decide) ?_
    refine ax_aload_n dX9_paces_177 rfl ?_
    refine ax_getKN (f := 14) ((p 0) + 6) dX9_paces_178 acl_5 wd_289 (by decide) rfl (xs_R_0 (xk_b0 hx) hok) (xr_R_14 (xk_b0 hx) hok) ?_
    refine ax_iconst (v := 1) dX9_paces_181 (by decide) ?_
    refine ax_iload dX9_paces_182 rfl ?_
    refine ax_iastN (1) dX9_paces_184 (xs_R_6 (xk_b0 hx) hok) (by decide) (by decide) (by decide) ?_
    refine ax_iload_n dX9_paces_185 rfl ?_
    rcases (show k = 0 ∨ k = 1 by omega) with rfl | rfl
    · refine ax_if_ne (tgt := 194) dX9_paces_186 (by decide) (fun hc => ?_) (fun hc => ?_)
      · exact absurd rfl hc
      · refine ax_iload dX9_paces_189 rfl ?_
        refine ax_goto (tgt := 196) dX9_paces_191 (by decide) ?_
        refine ax_iret dX9_paces_196 rfl ?_
        exact e _ _ rfl (by rw [hv]; rfl)
    · refine ax_if_ne (tgt := 194) dX9_paces_186 (by decide) (fun hc => ?_) (fun hc => ?_)
      · refine ax_iload dX9_paces_194 rfl ?_
        refine ax_iret dX9_paces_196 rfl ?_
        exact e _ _ rfl (by rw [hv]; rfl)
      · exact absurd hc (by decide)
end X88

