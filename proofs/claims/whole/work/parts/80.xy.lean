/-! ===== asks of the class: what is told, the meeting ===== -/
theorem xN_k {M : ax_M} {P : Prop} {k : Nat} {K : Option ax_V → ax_M → Prop} (h : P → K none M) : ∀ v M2, xN M P k (.inl v) M2 → K v M2 := by
  intro v M2 z
  obtain ⟨h1, rfl, rfl⟩ := xN_in z
  exact h h1
section X80
variable {l : Launch} {G : ax_G} {M : ax_M} {p : Nat → Nat} {r : Nat → Int} {lw : mt_L} {es : List (Nat × Nat)}
theorem x_told (hl9 : l.stackTraces = false) (hI : xI M p r lw es) (x : Int32) : ax_Met l G kX9_told 8 1 6 M [av_r 1, av_i x] (xA p r lw es M (qa_told r (nI es.length) x)) := by
  have hx := hI.1.1
  have hok := hx.1
  have hr := hI.1.2.1
  have ho := hI.1.2.2.1
  have h0 := ho.1
  refine ax_body (by decide) (Nat.le_of_ble_eq_true rfl) ?_
  refine ax_aload_n dX9_told_0 rfl ?_
  refine ax_iload_n dX9_told_1 rfl ?_
  refine ax_iconst (v := 0) dX9_told_2 (by decide) ?_
  refine ax_bipush (v := 9) dX9_told_3 (by decide) ?_
  refine ax_callVX (As := _) (d2 := _) (c1 := 0) (n1 := 0) (c_needRange (M := M) hl9 hok) dX9_told_5 mX9_needRange wd_1121 acl_9 (lo_s hok 1 rfl) rfl (by omega) (by omega) (by omega) rfl rfl (fun E M2 h => xA_ex h (fun z => by unfold qa_told; rw [if_pos z])) ?_
  refine xN_k (fun g1 => ?_)
  obtain ⟨k, hk, rfl⟩ := in_nat g1 (n := 9) rfl (by decide)
  have e : ∀ v, v = qv_told r (nI es.length) k → xA p r lw es M (qa_told r (nI es.length) (nI k)) (.inl (some (av_i v))) M := fun v hv => by
    unfold qa_told
    rw [if_neg (fun z => z g1), nI_clamp (by omega), hv]
    exact xA_in (qf_refl M) hI
  obtain ⟨a0, a1, a2, a3, a4, a5, a6, a7, a8⟩ := hr.1
  refine ax_aload_n dX9_told_8 rfl ?_
  refine ax_getK (f := 1) 4 dX9_told_9 acl_9 wd_548 (by decide) rfl (lo_s hok 1 rfl) (lo_r hok 1 rfl) ?_
  refine ax_getKN (f := 0) (p 0) dX9_told_12 acl_7 wd_367 (by decide) rfl (lo_s hok 4 rfl) (xk_r0 hx) ?_
  refine ax_astore_n dX9_told_15 (by decide) rfl ?_
  refine ax_iload_n dX9_told_16 rfl ?_
  rcases (show k = 0 ∨ k = 1 ∨ k = 2 ∨ k = 3 ∨ k = 4 ∨ k = 5 ∨ k = 6 ∨ k = 7 ∨ k = 8 ∨ k = 9 by omega) with rfl | rfl | rfl | rfl | rfl | rfl | rfl | rfl | rfl | rfl
  · refine ax_tableIn (off := 51) (tgt := 68) dX9_told_17 (by decide) (by decide) rfl (by decide) ?_
    refine ax_aload_n dX9_told_68 rfl ?_
    refine ax_getIN (f := 0) dX9_told_69 acl_5 wd_253 (by decide) rfl (xs_R_0 (xk_b0 hx) hok) ?_
    refine ax_iret dX9_told_72 rfl ?_
    exact e _ a0
  · refine ax_tableIn (off := 56) (tgt := 73) dX9_told_17 (by decide) (by decide) rfl (by decide) ?_
    refine ax_aload_n dX9_told_73 rfl ?_
    refine ax_getIN (f := 16) dX9_told_74 acl_5 wd_296 (by decide) rfl (xs_R_0 (xk_b0 hx) hok) ?_
    refine ax_iret dX9_told_77 rfl ?_
    exact e _ a1
  · refine ax_tableIn (off := 61) (tgt := 78) dX9_told_17 (by decide) (by decide) rfl (by decide) ?_
    refine ax_aload_n dX9_told_78 rfl ?_
    refine ax_getIN (f := 8) dX9_told_79 acl_5 wd_269 (by decide) rfl (xs_R_0 (xk_b0 hx) hok) ?_
    refine ax_iret dX9_told_82 rfl ?_
    exact e _ a2
  · refine ax_tableIn (off := 66) (tgt := 83) dX9_told_17 (by decide) (by decide) rfl (by decide) ?_
    obtain ⟨nb, bs, hb⟩ := hr.2.2.2.2
    refine ax_aload_n dX9_told_83 rfl ?_
    refine ax_getIN (f := 2) dX9_told_84 acl_5 wd_256 (by decide) rfl (xs_R_0 (xk_b0 hx) hok) ?_
    refine ax_iret dX9_told_87 rfl ?_
    refine e _ ?_
    rw [hb.2.1]
    show _ = nI (rd_nb r)
    rw [xbd_nb ho hb]
  · refine ax_tableIn (off := 71) (tgt := 88) dX9_told_17 (by decide) (by decide) rfl (by decide) ?_
    refine ax_aload_n dX9_told_88 rfl ?_
    refine ax_callVN (As := _) (d2 := _) (c1 := 0) (n1 := 0) (c_wetCells (d := 6) (M := M) hok (xk_b0 hx) hr ho) dX9_told_89 mX5_wetCells wd_1125 acl_5 (xs_R_0 (xk_b0 hx) hok) rfl (by omega) (by omega) (by omega) rfl rfl (fun _ _ h => by cases h.1) ?_
    rintro r M9 ⟨h1, h9⟩; cases h1; rw [h9]; clear h9 M9
    refine ax_iret dX9_told_92 rfl ?_
    exact e _ rfl
  · refine ax_tableIn (off := 76) (tgt := 93) dX9_told_17 (by decide) (by decide) rfl (by decide) ?_
    refine ax_aload_n dX9_told_93 rfl ?_
    refine ax_getIN (f := 9) dX9_told_94 acl_5 wd_275 (by decide) rfl (xs_R_0 (xk_b0 hx) hok) ?_
    refine ax_iret dX9_told_97 rfl ?_
    exact e _ a7
  · refine ax_tableIn (off := 81) (tgt := 98) dX9_told_17 (by decide) (by decide) rfl (by decide) ?_
    refine ax_aload_n dX9_told_98 rfl ?_
    refine ax_getIN (f := 10) dX9_told_99 acl_5 wd_278 (by decide) rfl (xs_R_0 (xk_b0 hx) hok) ?_
    refine ax_iret dX9_told_102 rfl ?_
    exact e _ a8
  · refine ax_tableIn (off := 86) (tgt := 103) dX9_told_17 (by decide) (by decide) rfl (by decide) ?_
    refine ax_aload_n dX9_told_103 rfl ?_
    refine ax_getK (f := 4) (p 6) dX9_told_104 acl_9 wd_551 (by decide) rfl (lo_s hok 1 rfl) (xk_r6 hx) ?_
    refine ax_getIN (f := 2) dX9_told_107 acl_0 wd_400 (by decide) rfl (xs_K_0 (xk_b6 hx) hok) ?_
    refine ax_iret dX9_told_110 rfl ?_
    exact e _ hI.1.2.2.2.2.1
  · refine ax_tableIn (off := 94) (tgt := 111) dX9_told_17 (by decide) (by decide) rfl (by decide) ?_
    refine ax_aload_n dX9_told_111 rfl ?_
    refine ax_getIN (f := 11) dX9_told_112 acl_5 wd_280 (by decide) rfl (xs_R_0 (xk_b0 hx) hok) ?_
    refine ax_iret dX9_told_115 rfl ?_
    exact e _ a5
  · refine ax_tableOut (tgt := 116) dX9_told_17 (by decide) (by decide) ?_
    refine ax_aload_n dX9_told_116 rfl ?_
    refine ax_getIN (f := 12) dX9_told_117 acl_5 wd_282 (by decide) rfl (xs_R_0 (xk_b0 hx) hok) ?_
    refine ax_iret dX9_told_120 rfl ?_
    exact e _ a6
theorem x_car (hl9 : l.stackTraces = false) (hI : xI M p r lw es) (x y : Int32) : ax_Met l G kX9_car 8 2 12 M [av_r 1, av_i x, av_i y] (xA p r lw es M (qa_car r x y)) := by
  have hx := hI.1.1
  have hok := hx.1
  have hr := hI.1.2.1
  have ho := hI.1.2.2.1
  have h0 := ho.1
  refine ax_body (by decide) (Nat.le_of_ble_eq_true rfl) ?_
  refine ax_aload_n dX9_car_0 rfl ?_
  refine ax_iload_n dX9_car_1 rfl ?_
  refine ax_callVX (As := _) (d2 := _) (c1 := 1) (n1 := 6) (c_needCar (M := M) hl9 hx hr ho) dX9_car_2 mX9_needCar wd_1136 acl_9 (lo_s hok 1 rfl) rfl (by omega) (by omega) (by omega) rfl rfl (fun E M2 h => xA_ex h (fun z => by unfold qa_car; rw [if_pos z])) ?_
  refine xN_k (fun g1 => ?_)
  refine ax_aload_n dX9_car_5 rfl ?_
  refine ax_iload_n dX9_car_6 rfl ?_
  refine ax_iconst (v := 0) dX9_car_7 (by decide) ?_
  refine ax_iconst (v := 3) dX9_car_8 (by decide) ?_
  refine ax_callVX (As := _) (d2 := _) (c1 := 0) (n1 := 0) (c_needRange (M := M) hl9 hok) dX9_car_9 mX9_needRange wd_1121 acl_9 (lo_s hok 1 rfl) rfl (by omega) (by omega) (by omega) rfl rfl (fun E M2 h => xA_ex h (fun z => by unfold qa_car; rw [if_neg (fun q => q g1), if_pos z])) ?_
  refine xN_k (fun g2 => ?_)
  obtain ⟨c, hc1, rfl⟩ := in_car g1 (by omega) (by omega)
  obtain ⟨k, hk, rfl⟩ := in_nat g2 (n := 3) rfl (by decide)
  have e : ∀ v, v = (if nI k = 0 then iI (r (40 + c)) else if nI k = 1 then iI (r (10 + 2 * c)) else if nI k = 2 then iI (r (11 + 2 * c)) else if nI c = 0 then 0 else iI (r 0 - 1)) → xA p r lw es M (qa_car r (nI c) (nI k)) (.inl (some (av_i v))) M := fun v hv => by
    unfold qa_car
    rw [if_neg (fun z => z g1), if_neg (fun z => z g2), nI_clamp (by omega), hv]
    exact xA_in (qf_refl M) hI
  obtain ⟨a1, a2, a3⟩ := hr.2.1 c hc1
  have hc2 : c < 2 := by omega
  refine ax_aload_n dX9_car_12 rfl ?_
  refine ax_getK (f := 1) 4 dX9_car_13 acl_9 wd_548 (by decide) rfl (lo_s hok 1 rfl) (lo_r hok 1 rfl) ?_
  refine ax_getKN (f := 0) (p 0) dX9_car_16 acl_7 wd_367 (by decide) rfl (lo_s hok 4 rfl) (xk_r0 hx) ?_
  refine ax_astore_n dX9_car_19 (by decide) rfl ?_
  refine ax_iload_n dX9_car_20 rfl ?_
  rcases (show k = 0 ∨ k = 1 ∨ k = 2 ∨ k = 3 by omega) with rfl | rfl | rfl | rfl
  · refine ax_tableIn (off := 27) (tgt := 48) dX9_car_21 (by decide) (by decide) rfl (by decide) ?_
    refine ax_aload_n dX9_car_48 rfl ?_
    refine ax_getKN (f := 13) ((p 0) + 5) dX9_car_49 acl_5 wd_285 (by decide) rfl (xs_R_0 (xk_b0 hx) hok) (xr_R_13 (xk_b0 hx) hok) ?_
    refine ax_iload_n dX9_car_52 rfl ?_
    refine ax_ialdN (c) dX9_car_53 (xs_R_5 (xk_b0 hx) hok) (by decide) (by first | with_reducible rfl | assumption | exact ax_nix (by simp only [nx_0, nx_1, nx_2, nx_3, nx_4, nx_10, nx_20, nx_21, nx_100, nI_add, pk_mul] <;> rfl) (by omega) | decide) (by omega) ?_
    refine ax_iret dX9_car_54 rfl ?_
    exact e _ a1
  · refine ax_tableIn (off := 34) (tgt := 55) dX9_car_21 (by decide) (by decide) rfl (by decide) ?_
    refine ax_aload_n dX9_car_55 rfl ?_
    refine ax_getKN (f := 14) ((p 0) + 6) dX9_car_56 acl_5 wd_289 (by decide) rfl (xs_R_0 (xk_b0 hx) hok) (xr_R_14 (xk_b0 hx) hok) ?_
    refine ax_iload_n dX9_car_59 rfl ?_
    refine ax_ialdN (c) dX9_car_60 (xs_R_6 (xk_b0 hx) hok) (by decide) (by first | with_reducible rfl | assumption | exact ax_nix (by simp only [nx_0, nx_1, nx_2, nx_3, nx_4, nx_10, nx_20, nx_21, nx_100, nI_add, pk_mul] <;> rfl) (by omega) | decide) (by omega) ?_
    refine ax_iret dX9_car_61 rfl ?_
    exact e _ a2
  · refine ax_tableIn (off := 41) (tgt := 62) dX9_car_21 (by decide) (by decide) rfl (by decide) ?_
    refine ax_aload_n dX9_car_62 rfl ?_
    refine ax_getKN (f := 15) ((p 0) + 7) dX9_car_63 acl_5 wd_293 (by decide) rfl (xs_R_0 (xk_b0 hx) hok) (xr_R_15 (xk_b0 hx) hok) ?_
    refine ax_iload_n dX9_car_66 rfl ?_
    refine ax_ialdN (c) dX9_car_67 (xs_R_7 (xk_b0 hx) hok) (by decide) (by first | with_reducible rfl | assumption | exact ax_nix (by simp only [nx_0, nx_1, nx_2, nx_3, nx_4, nx_10, nx_20, nx_21, nx_100, nI_add, pk_mul] <;> rfl) (by omega) | decide) (by omega) ?_
    refine ax_iret dX9_car_68 rfl ?_
    exact e _ a3
  · refine ax_tableOut (tgt := 69) dX9_car_21 (by decide) (by decide) ?_
    refine ax_aload_n dX9_car_69 rfl ?_
    refine ax_iload_n dX9_car_70 rfl ?_
    refine ax_callVN (As := _) (d2 := _) (c1 := 0) (n1 := 0) (c_startOf (d := 6) (M := M) hok (xk_b0 hx) hr hc2 rfl) dX9_car_71 mX5_startOf wd_1140 acl_5 (xs_R_0 (xk_b0 hx) hok) rfl (by omega) (by omega) (by omega) rfl rfl (fun _ _ h => by cases h.1) ?_
    rintro r M9 ⟨h1, h9⟩; cases h1; rw [h9]; clear h9 M9
    refine ax_iret dX9_car_74 rfl ?_
    refine e _ ?_
    rw [if_neg (by decide), if_neg (by decide), if_neg (by decide)]
    rcases (show c = 0 ∨ c = 1 by omega) with rfl | rfl
    · rw [if_pos (show nI 0 = 0 from rfl)]; show iI (r 10 * ((0 : Nat) : Int)) = 0; rw [show r 10 * ((0 : Nat) : Int) = 0 by simp]; rfl
    · rw [if_neg (show ¬ nI 1 = 0 by decide)]; show iI (r 0 - 1 - r 12 * ((0 : Nat) : Int)) = _; rw [show r 12 * ((0 : Nat) : Int) = 0 by simp]; congr 1; omega
theorem x_coat (hl9 : l.stackTraces = false) (hI : xI M p r lw es) (x y : Int32) : ax_Met l G kX9_coat 8 2 12 M [av_r 1, av_i x, av_i y] (xA p r lw es M (qa_coat r x y)) := by
  have hx := hI.1.1
  have hok := hx.1
  have hr := hI.1.2.1
  have ho := hI.1.2.2.1
  have h0 := ho.1
  refine ax_body (by decide) (Nat.le_of_ble_eq_true rfl) ?_
  refine ax_aload_n dX9_coat_0 rfl ?_
  refine ax_iload_n dX9_coat_1 rfl ?_
  refine ax_callVX (As := _) (d2 := _) (c1 := 1) (n1 := 6) (c_needCoat (M := M) hl9 hx hr ho) dX9_coat_2 mX9_needCoat wd_1148 acl_9 (lo_s hok 1 rfl) rfl (by omega) (by omega) (by omega) rfl rfl (fun E M2 h => xA_ex h (fun z => by unfold qa_coat; rw [if_pos z])) ?_
  refine xN_k (fun g1 => ?_)
  refine ax_aload_n dX9_coat_5 rfl ?_
  refine ax_iload_n dX9_coat_6 rfl ?_
  refine ax_iconst (v := 0) dX9_coat_7 (by decide) ?_
  refine ax_iconst (v := 1) dX9_coat_8 (by decide) ?_
  refine ax_callVX (As := _) (d2 := _) (c1 := 0) (n1 := 0) (c_needRange (M := M) hl9 hok) dX9_coat_9 mX9_needRange wd_1121 acl_9 (lo_s hok 1 rfl) rfl (by omega) (by omega) (by omega) rfl rfl (fun E M2 h => xA_ex h (fun z => by unfold qa_coat; rw [if_neg (fun q => q g1), if_pos z])) ?_
  refine xN_k (fun g2 => ?_)
  obtain ⟨c, hc1, rfl⟩ := in_car g1 (by omega) (by omega)
  obtain ⟨k, hk, rfl⟩ := in_nat g2 (n := 1) rfl (by decide)
  have e : ∀ v, v = iI (r (14 + 2 * c + k)) → xA p r lw es M (qa_coat r (nI c) (nI k)) (.inl (some (av_i v))) M := fun v hv => by
    unfold qa_coat
    rw [if_neg (fun z => z g1), if_neg (fun z => z g2), nI_clamp (by omega), nI_clamp (by omega), hv]
    exact xA_in (qf_refl M) hI
  obtain ⟨a1, a2⟩ := hr.2.2.1 c hc1
  refine ax_iload_n dX9_coat_12 rfl ?_
  refine ax_if_ne (tgt := 31) dX9_coat_13 (by decide) (fun hc => ?_) (fun hc => ?_)
  · have hk1 : k = 1 := by
      by_cases q : k = 0
      · subst q; exact absurd rfl hc
      · omega
    subst hk1
    refine ax_aload_n dX9_coat_31 rfl ?_
    refine ax_getK (f := 1) 4 dX9_coat_32 acl_9 wd_548 (by decide) rfl (lo_s hok 1 rfl) (lo_r hok 1 rfl) ?_
    refine ax_getKN (f := 0) (p 0) dX9_coat_35 acl_7 wd_367 (by decide) rfl (lo_s hok 4 rfl) (xk_r0 hx) ?_
    refine ax_getKN (f := 7) ((p 0) + 4) dX9_coat_38 acl_5 wd_266 (by decide) rfl (xs_R_0 (xk_b0 hx) hok) (xr_R_7 (xk_b0 hx) hok) ?_
    refine ax_iload_n dX9_coat_41 rfl ?_
    refine ax_ialdN (c) dX9_coat_42 (xs_R_4 (xk_b0 hx) hok) (by decide) (by first | with_reducible rfl | assumption | exact ax_nix (by simp only [nx_0, nx_1, nx_2, nx_3, nx_4, nx_10, nx_20, nx_21, nx_100, nI_add, pk_mul] <;> rfl) (by omega) | decide) (by omega) ?_
    refine ax_iret dX9_coat_43 rfl ?_
    exact e _ (a2.trans (by rw [show 14 + 2 * c + 1 = 15 + 2 * c by omega]))
  · have hk1 : k = 0 := (nI_eq (b := 0) (by omega) (by omega)).mp hc
    subst hk1
    refine ax_aload_n dX9_coat_16 rfl ?_
    refine ax_getK (f := 1) 4 dX9_coat_17 acl_9 wd_548 (by decide) rfl (lo_s hok 1 rfl) (lo_r hok 1 rfl) ?_
    refine ax_getKN (f := 0) (p 0) dX9_coat_20 acl_7 wd_367 (by decide) rfl (lo_s hok 4 rfl) (xk_r0 hx) ?_
    refine ax_getKN (f := 6) ((p 0) + 3) dX9_coat_23 acl_5 wd_262 (by decide) rfl (xs_R_0 (xk_b0 hx) hok) (xr_R_6 (xk_b0 hx) hok) ?_
    refine ax_iload_n dX9_coat_26 rfl ?_
    refine ax_ialdN (c) dX9_coat_27 (xs_R_3 (xk_b0 hx) hok) (by decide) (by first | with_reducible rfl | assumption | exact ax_nix (by simp only [nx_0, nx_1, nx_2, nx_3, nx_4, nx_10, nx_20, nx_21, nx_100, nI_add, pk_mul] <;> rfl) (by omega) | decide) (by omega) ?_
    refine ax_goto (tgt := 43) dX9_coat_28 (by decide) ?_
    refine ax_iret dX9_coat_43 rfl ?_
    exact e _ a1
theorem x_hits (hl9 : l.stackTraces = false) (hI : xI M p r lw es) (x : Int32) : ax_Met l G kX9_hits 8 1 6 M [av_r 1, av_i x] (xA p r lw es M (qa_hits r lw x)) := by
  have hx := hI.1.1
  have hok := hx.1
  have hr := hI.1.2.1
  have ho := hI.1.2.2.1
  have h0 := ho.1
  refine ax_body (by decide) (Nat.le_of_ble_eq_true rfl) ?_
  refine ax_aload_n dX9_hits_0 rfl ?_
  refine ax_iload_n dX9_hits_1 rfl ?_
  refine ax_callVX (As := _) (d2 := _) (c1 := 0) (n1 := 0) (c_needCar (M := M) hl9 hx hr ho) dX9_hits_2 mX9_needCar wd_1136 acl_9 (lo_s hok 1 rfl) rfl (by omega) (by omega) (by omega) rfl rfl (fun E M2 h => xA_ex h (fun z => by unfold qa_hits; rw [if_pos z])) ?_
  refine xN_k (fun g1 => ?_)
  obtain ⟨c, hc1, rfl⟩ := in_car g1 (by omega) (by omega)
  refine ax_aload_n dX9_hits_5 rfl ?_
  refine ax_callV (As := _) (d2 := _) (c1 := 0) (n1 := 0) (c_freshMeeting (M := M) hI) dX9_hits_6 mX9_freshMeeting wd_609 acl_9 (lo_s hok 1 rfl) rfl (by omega) (by omega) (by omega) rfl rfl (fun _ _ h => by cases h.1) ?_
  rintro _ M1 ⟨h1, f1, I1, -, m1, -⟩
  cases h1
  have hx := I1.1.1
  have hok := hx.1
  refine ax_aload_n dX9_hits_9 rfl ?_
  refine ax_getK (f := 1) 4 dX9_hits_10 acl_9 wd_548 (by decide) rfl (lo_s hok 1 rfl) (lo_r hok 1 rfl) ?_
  refine ax_getKN (f := 0) (p 0) dX9_hits_13 acl_7 wd_367 (by decide) rfl (lo_s hok 4 rfl) (xk_r0 hx) ?_
  refine ax_iload_n dX9_hits_16 rfl ?_
  refine ax_callVN (As := _) (d2 := _) (c1 := 0) (n1 := 0) (c_hitBits (M := M1) hok (Or.inl rfl) (xk_b0 hx) I1.1.2.1 ho m1 (c := c) (by omega) hc1 rfl) dX9_hits_17 mX4_hitBits wd_1172 acl_4 (xs_U_0 (Or.inl rfl) hok) rfl (by omega) (by omega) (by omega) rfl rfl (fun _ _ h => by cases h.1) ?_
  rintro r M9 ⟨h1, h9⟩; cases h1; rw [h9]; clear h9 M9
  refine ax_iret dX9_hits_20 rfl ?_
  unfold qa_hits
  rw [if_neg (fun z => z g1), nI_clamp (by omega)]
  exact xA_in f1 I1
theorem x_at (hl9 : l.stackTraces = false) (hI : xI M p r lw es) (x y z : Int32) : ax_Met l G kX9_at 8 3 18 M [av_r 1, av_i x, av_i y, av_i z] (xA p r lw es M (qa_at r lw x y z)) := by
  have hx := hI.1.1
  have hok := hx.1
  have hr := hI.1.2.1
  have ho := hI.1.2.2.1
  have h0 := ho.1
  refine ax_body (by decide) (Nat.le_of_ble_eq_true rfl) ?_
  refine ax_aload_n dX9_at_0 rfl ?_
  refine ax_iload_n dX9_at_1 rfl ?_
  refine ax_callVX (As := _) (d2 := _) (c1 := 2) (n1 := 12) (c_needCar (M := M) hl9 hx hr ho) dX9_at_2 mX9_needCar wd_1136 acl_9 (lo_s hok 1 rfl) rfl (by omega) (by omega) (by omega) rfl rfl (fun E M2 h => xA_ex h (fun z => by unfold qa_at; rw [if_pos z])) ?_
  refine xN_k (fun g1 => ?_)
  refine ax_aload_n dX9_at_5 rfl ?_
  refine ax_iload_n dX9_at_6 rfl ?_
  refine ax_iconst (v := 0) dX9_at_7 (by decide) ?_
  refine ax_bipush (v := 98) dX9_at_8 (by decide) ?_
  refine ax_callVX (As := _) (d2 := _) (c1 := 1) (n1 := 6) (c_needRange (M := M) hl9 hok) dX9_at_10 mX9_needRange wd_1121 acl_9 (lo_s hok 1 rfl) rfl (by omega) (by omega) (by omega) rfl rfl (fun E M2 h => xA_ex h (fun z => by unfold qa_at; rw [if_neg (fun q => q g1), if_pos (Or.inl z)])) ?_
  refine xN_k (fun g2 => ?_)
  refine ax_aload_n dX9_at_13 rfl ?_
  refine ax_iload_n dX9_at_14 rfl ?_
  refine ax_iconst (v := 0) dX9_at_15 (by decide) ?_
  refine ax_iconst (v := 5) dX9_at_16 (by decide) ?_
  refine ax_callVX (As := _) (d2 := _) (c1 := 0) (n1 := 0) (c_needRange (M := M) hl9 hok) dX9_at_17 mX9_needRange wd_1121 acl_9 (lo_s hok 1 rfl) rfl (by omega) (by omega) (by omega) rfl rfl (fun E M2 h => xA_ex h (fun z => by unfold qa_at; rw [if_neg (fun q => q g1), if_pos (Or.inr z)])) ?_
  refine xN_k (fun g3 => ?_)
  obtain ⟨c, hc1, rfl⟩ := in_car g1 (by omega) (by omega)
  obtain ⟨t, ht, rfl⟩ := in_nat g2 (n := 98) rfl (by decide)
  obtain ⟨k, hk, rfl⟩ := in_nat g3 (n := 5) rfl (by decide)
  have hc2 : c < 2 := by omega
  have h60 := tn_60 ho hc2
  have hT := tn_T ho hc2
  have hto := tn_on ho hc2 t
  refine ax_aload_n dX9_at_20 rfl ?_
  refine ax_callV (As := _) (d2 := _) (c1 := 0) (n1 := 0) (c_freshMeeting (M := M) hI) dX9_at_21 mX9_freshMeeting wd_609 acl_9 (lo_s hok 1 rfl) rfl (by omega) (by omega) (by omega) rfl rfl (fun _ _ h => by cases h.1) ?_
  rintro _ M1 ⟨h1, f1, I1, -, m1, -⟩
  cases h1
  have hx := I1.1.1
  have hok := hx.1
  have hr := I1.1.2.1
  refine ax_astore dX9_at_24 (by decide) rfl ?_
  refine ax_aload dX9_at_26 rfl ?_
  refine ax_iload_n dX9_at_28 rfl ?_
  have e : ∀ v, v = qv_at r lw c t k → xA p r lw es M (qa_at r lw (nI c) (nI t) (nI k)) (.inl (some (av_i v))) M1 := fun v hv => by
    unfold qa_at
    rw [if_neg (fun z => z g1), if_neg (fun z => z.elim (fun q => q g2) (fun q => q g3)), nI_clamp (by omega), nI_clamp (by omega), nI_clamp (by omega), hv]
    exact xA_in f1 I1
  refine ax_callVN (As := _) (d2 := _) (c1 := 0) (n1 := 0) (c_tripOf (d := 6) (M := M1) hok (Or.inl rfl) hc2 rfl) dX9_at_29 mX4_tripOf wd_1159 acl_4 (xs_U_0 (Or.inl rfl) hok) rfl (by omega) (by omega) (by omega) rfl rfl (fun _ _ h => by cases h.1) ?_
  rintro r M9 ⟨h1, h9⟩; cases h1; rw [h9]; clear h9 M9
  have tp := xmt_tp m1 hc2
  have hTT : xh_T (40 + 1 + 7 * c) := xh_UT (Or.inl rfl) hc2
  refine ax_astore dX9_at_32 (by decide) rfl ?_
  refine ax_iload_n dX9_at_34 rfl ?_
  refine ax_aload dX9_at_35 rfl ?_
  refine ax_getIN (f := 9) dX9_at_37 acl_8 wd_437 (by decide) rfl (xs_T_0 (xh_UT (Or.inl rfl) hc2) hok) ?_
  rw [tp.2.1]
  refine ax_icmp_lt (tgt := 45) dX9_at_40 (by decide) (fun hc => ?_) (fun hc => ?_)
  · have h1 := (nI_ltI (by omega) (by omega)).mp hc
    have hrow := tp.2.2 t h1
    have e2 : ∀ v, v = mt_row r lw mt_n c t k → xA p r lw es M (qa_at r lw (nI c) (nI t) (nI k)) (.inl (some (av_i v))) M1 := fun v hv => e v (by
      unfold qv_at
      rw [if_neg (fun z => z.elim (fun q => by omega) (fun q => by rw [hto.mpr h1] at q; cases q))]; exact hv)
    obtain ⟨q1, q2, q3, q4, q5, q6⟩ := hrow
    refine ax_iload_n dX9_at_45 rfl ?_
    rcases (show k = 0 ∨ k = 1 ∨ k = 2 ∨ k = 3 ∨ k = 4 ∨ k = 5 by omega) with rfl | rfl | rfl | rfl | rfl | rfl
    · refine ax_tableIn (off := 34) (tgt := 80) dX9_at_46 (by decide) (by decide) rfl (by decide) ?_
      refine ax_aload dX9_at_80 rfl ?_
      refine ax_getKN (f := 10) ((40 + 1 + 7 * c) + 1) dX9_at_82 acl_8 wd_439 (by decide) rfl (xs_T_0 (xh_UT (Or.inl rfl) hc2) hok) (xr_T_10 (xh_UT (Or.inl rfl) hc2) hok) ?_
      refine ax_iload_n dX9_at_85 rfl ?_
      refine ax_ialdN (t) dX9_at_86 (xs_T_1 (xh_UT (Or.inl rfl) hc2) hok) (by decide) (by first | with_reducible rfl | assumption | exact ax_nix (by simp only [nx_0, nx_1, nx_2, nx_3, nx_4, nx_10, nx_20, nx_21, nx_100, nI_add, pk_mul] <;> rfl) (by omega) | decide) (by omega) ?_
      refine ax_iret dX9_at_87 rfl ?_
      exact e2 _ q1
    · refine ax_tableIn (off := 42) (tgt := 88) dX9_at_46 (by decide) (by decide) rfl (by decide) ?_
      refine ax_aload dX9_at_88 rfl ?_
      refine ax_getKN (f := 11) ((40 + 1 + 7 * c) + 2) dX9_at_90 acl_8 wd_441 (by decide) rfl (xs_T_0 (xh_UT (Or.inl rfl) hc2) hok) (xr_T_11 (xh_UT (Or.inl rfl) hc2) hok) ?_
      refine ax_iload_n dX9_at_93 rfl ?_
      refine ax_ialdN (t) dX9_at_94 (xs_T_2 (xh_UT (Or.inl rfl) hc2) hok) (by decide) (by first | with_reducible rfl | assumption | exact ax_nix (by simp only [nx_0, nx_1, nx_2, nx_3, nx_4, nx_10, nx_20, nx_21, nx_100, nI_add, pk_mul] <;> rfl) (by omega) | decide) (by omega) ?_
      refine ax_iret dX9_at_95 rfl ?_
      exact e2 _ q2
    · refine ax_tableIn (off := 50) (tgt := 96) dX9_at_46 (by decide) (by decide) rfl (by decide) ?_
      refine ax_aload dX9_at_96 rfl ?_
      refine ax_getKN (f := 12) ((40 + 1 + 7 * c) + 3) dX9_at_98 acl_8 wd_443 (by decide) rfl (xs_T_0 (xh_UT (Or.inl rfl) hc2) hok) (xr_T_12 (xh_UT (Or.inl rfl) hc2) hok) ?_
      refine ax_iload_n dX9_at_101 rfl ?_
      refine ax_ialdN (t) dX9_at_102 (xs_T_3 (xh_UT (Or.inl rfl) hc2) hok) (by decide) (by first | with_reducible rfl | assumption | exact ax_nix (by simp only [nx_0, nx_1, nx_2, nx_3, nx_4, nx_10, nx_20, nx_21, nx_100, nI_add, pk_mul] <;> rfl) (by omega) | decide) (by omega) ?_
      refine ax_iret dX9_at_103 rfl ?_
      exact e2 _ q3
    · refine ax_tableIn (off := 58) (tgt := 104) dX9_at_46 (by decide) (by decide) rfl (by decide) ?_
      refine ax_aload dX9_at_104 rfl ?_
      refine ax_getKN (f := 13) ((40 + 1 + 7 * c) + 4) dX9_at_106 acl_8 wd_445 (by decide) rfl (xs_T_0 (xh_UT (Or.inl rfl) hc2) hok) (xr_T_13 (xh_UT (Or.inl rfl) hc2) hok) ?_
      refine ax_iload_n dX9_at_109 rfl ?_
      refine ax_ialdN (t) dX9_at_110 (xs_T_4 (xh_UT (Or.inl rfl) hc2) hok) (by decide) (by first | with_reducible rfl | assumption | exact ax_nix (by simp only [nx_0, nx_1, nx_2, nx_3, nx_4, nx_10, nx_20, nx_21, nx_100, nI_add, pk_mul] <;> rfl) (by omega) | decide) (by omega) ?_
      refine ax_iret dX9_at_111 rfl ?_
      exact e2 _ q4
    · refine ax_tableIn (off := 66) (tgt := 112) dX9_at_46 (by decide) (by decide) rfl (by decide) ?_
      refine ax_aload dX9_at_112 rfl ?_
      refine ax_iload_n dX9_at_114 rfl ?_
      refine ax_callVN (As := _) (d2 := _) (c1 := 0) (n1 := 0) (c_xunsafe (d := 6) (M := M1) hok hTT ho hc2 tp h1 rfl) dX9_at_115 mX8_unsafe wd_1160 acl_8 (xs_T_0 (xh_UT (Or.inl rfl) hc2) hok) rfl (by omega) (by omega) (by omega) rfl rfl (fun _ _ h => by cases h.1) ?_
      rintro r M9 ⟨h1, h9⟩; cases h1; rw [h9]; clear h9 M9
      refine ax_iret dX9_at_118 rfl ?_
      exact e2 _ rfl
    · refine ax_tableOut (tgt := 119) dX9_at_46 (by decide) (by decide) ?_
      refine ax_aload dX9_at_119 rfl ?_
      refine ax_iload_n dX9_at_121 rfl ?_
      refine ax_callVN (As := _) (d2 := _) (c1 := 0) (n1 := 0) (c_inView (M := M1) hok (Or.inl rfl) ho (t := t) (by omega) (m1.2.2.1 t (by omega)) rfl) dX9_at_122 mX4_inView wd_1164 acl_4 (xs_U_0 (Or.inl rfl) hok) rfl (by omega) (by omega) (by omega) rfl rfl (fun _ _ h => by cases h.1) ?_
      rintro r M9 ⟨h1, h9⟩; cases h1; rw [h9]; clear h9 M9
      refine ax_join1 (mt_view r t = true) 133 (1) (0) ?_ (fun ja jb => ?_)
      rotate_left
      · refine ax_ifB_eq (tgt := 132) dX9_at_125 (by decide) (fun h125 => ?_) (fun h125 => ?_)
        · refine ax_iconst (v := 0) dX9_at_132 (by decide) ?_
          first | exact ja h125 | exact jb h125
        · refine ax_iconst (v := 1) dX9_at_128 (by decide) ?_
          refine ax_goto (tgt := 133) dX9_at_129 (by decide) ?_
          first | exact ja h125 | exact jb h125
      refine ax_iret dX9_at_133 rfl ?_
      exact e2 _ rfl
  · have h1 : ¬ t < tn r c := fun z => hc ((nI_ltI (by omega) (by omega)).mpr z)
    refine ax_iconst (v := (-1)) dX9_at_43 (by decide) ?_
    refine ax_iret dX9_at_44 rfl ?_
    refine e _ ?_
    unfold qv_at
    rw [if_pos (Or.inr (by cases hh : mt_on r c t; rfl; exact absurd (hto.mp hh) h1))]
end X80

