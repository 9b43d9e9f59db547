/-! ===== asks of the class: finds, nights ===== -/
section X86
variable {l : Launch} {G : ax_G} {M : ax_M} {p : Nat → Nat} {r : Nat → Int} {lw : mt_L} {es : List (Nat × Nat)}
theorem x_finds (hl9 : l.stackTraces = false) (hI : xI M p r lw es) (x y : Int32) : ax_Met l G kX9_finds 8 2 12 M [av_r 1, av_i x, av_i y] (xA p r lw es M (qa_finds r lw x y)) := by
  have hx := hI.1.1
  have hok := hx.1
  have hr := hI.1.2.1
  have ho := hI.1.2.2.1
  have h0 := ho.1
  refine ax_body (by decide) (Nat.le_of_ble_eq_true rfl) ?_
  refine ax_aload_n dX9_finds_0 rfl ?_
  refine ax_iload_n dX9_finds_1 rfl ?_
  refine ax_callVX (As := _) (d2 := _) (c1 := 1) (n1 := 6) (c_needCoat (M := M) hl9 hx hr ho) dX9_finds_2 mX9_needCoat wd_1148 acl_9 (lo_s hok 1 rfl) rfl (by omega) (by omega) (by omega) rfl rfl (fun E M2 h => xA_ex h (fun z => by unfold qa_finds; rw [if_pos z])) ?_
  refine xN_k (fun g1 => ?_)
  refine ax_aload_n dX9_finds_5 rfl ?_
  refine ax_iload_n dX9_finds_6 rfl ?_
  refine ax_iconst (v := 0) dX9_finds_7 (by decide) ?_
  refine ax_iconst (v := 1) dX9_finds_8 (by decide) ?_
  refine ax_callVX (As := _) (d2 := _) (c1 := 0) (n1 := 0) (c_needRange (M := M) hl9 hok) dX9_finds_9 mX9_needRange wd_1121 acl_9 (lo_s hok 1 rfl) rfl (by omega) (by omega) (by omega) rfl rfl (fun E M2 h => xA_ex h (fun z => by unfold qa_finds; rw [if_neg (fun q => q g1), if_pos z])) ?_
  refine xN_k (fun g2 => ?_)
  obtain ⟨x, hx1, rfl⟩ := in_car g1 (by omega) (by omega)
  obtain ⟨k, hk, rfl⟩ := in_nat g2 (n := 1) rfl (by decide)
  have ok := ho.2.2.1 x (by omega)
  obtain ⟨s, hs⟩ : ∃ s : Nat → Option Nat, s = fun c => mt_sk r lw mt_n c x (mt_T r) := ⟨_, rfl⟩
  have sl : ∀ c, c < 2 → s c = mt_first (mt_sees r lw mt_n c (r (14 + 2 * x)) (r (15 + 2 * x))) (tn r c) := fun c hc2 => by
    rw [hs]
    show mt_sk r lw mt_n c x (mt_T r) = _
    unfold mt_sk mt_seen
    rw [if_pos hx1, first_tn ho hc2, Nat.min_eq_right (tn_T ho hc2)]
  refine ax_aload_n dX9_finds_12 rfl ?_
  refine ax_getK (f := 1) 4 dX9_finds_13 acl_9 wd_548 (by decide) rfl (lo_s hok 1 rfl) (lo_r hok 1 rfl) ?_
  refine ax_getKN (f := 0) (p 0) dX9_finds_16 acl_7 wd_367 (by decide) rfl (lo_s hok 4 rfl) (xk_r0 hx) ?_
  refine ax_astore_n dX9_finds_19 (by decide) rfl ?_
  refine ax_iconst (v := (-1)) dX9_finds_20 (by decide) ?_
  refine ax_istore dX9_finds_21 (by decide) rfl ?_
  refine ax_iconst (v := (-1)) dX9_finds_23 (by decide) ?_
  refine ax_istore dX9_finds_24 (by decide) rfl ?_
  refine ax_iconst (v := 0) dX9_finds_26 (by decide) ?_
  refine ax_istore dX9_finds_27 (by decide) rfl ?_
  refine ax_for (r 1).toNat (fun c N L => qf M N ∧ xI N p r lw es ∧ ∃ bs ls y7 y8, L = [some (av_r 1), some (av_i (nI x)), some (av_i (nI k)), some (av_r (p 0)), some (av_i bs), some (av_i ls), some (av_i (nI c)), y7, y8] ∧ (fd s c = none → bs = -1 ∧ ls = -1) ∧ ∀ q, fd s c = some q → q.1 ≤ 2 ∧ q.2 ≤ 60 ∧ bs = nI q.1 ∧ ls = nI q.2) 29 ?_ ?_ (i := 0) (by omega) ⟨qf_refl M, hI, -1, -1, _, _, rfl, fun _ => ⟨rfl, rfl⟩, fun u z => by cases z⟩
  · rintro c N L hct ⟨fr, I, bs, ls, y7, y8, rfl, i0, i1⟩ next
    have hx := I.1.1
    have hok := hx.1
    have hr := I.1.2.1
    have hc2 : c < 2 := by omega
    have h60 := tn_60 ho hc2
    refine ax_iload dX9_finds_29 rfl ?_
    refine ax_aload_n dX9_finds_31 rfl ?_
    refine ax_getIN (f := 16) dX9_finds_32 acl_5 wd_296 (by decide) rfl (xs_R_0 (xk_b0 hx) hok) ?_
    rw [hr.1.2.1, iI_tn (show 0 ≤ r 1 by omega)]
    refine ax_icmp_ge (tgt := 102) dX9_finds_35 (by decide) (fun hc => absurd ((nI_leI (by omega) (by omega)).mp hc) (by omega)) (fun hc => ?_)
    refine ax_aload_n dX9_finds_38 rfl ?_
    refine ax_callV (As := _) (d2 := _) (c1 := 0) (n1 := 0) (c_freshMeeting (M := N) I) dX9_finds_39 mX9_freshMeeting wd_609 acl_9 (lo_s hok 1 rfl) rfl (by omega) (by omega) (by omega) rfl rfl (fun _ _ h => by cases h.1) ?_
    rintro _ M1 ⟨h1, f1, I1, -, m1, -⟩
    cases h1
    have hx := I1.1.1
    have hok := hx.1
    have hr := I1.1.2.1
    have fr := qf_trans fr f1
    refine ax_iload dX9_finds_42 rfl ?_
    refine ax_callVN (As := _) (d2 := _) (c1 := 0) (n1 := 0) (c_tripOf (d := 6) (M := M1) hok (Or.inl rfl) hc2 rfl) dX9_finds_44 mX4_tripOf wd_1159 acl_4 (xs_U_0 (Or.inl rfl) hok) rfl (by omega) (by omega) (by omega) rfl rfl (fun _ _ h => by cases h.1) ?_
    rintro r M9 ⟨h1, h9⟩; cases h1; rw [h9]; clear h9 M9
    have tp := xmt_tp m1 hc2
    have hTT : xh_T (40 + 1 + 7 * c) := xh_UT (Or.inl rfl) hc2
    obtain ⟨a1, a2⟩ := hr.2.2.1 x hx1
    refine ax_astore dX9_finds_47 (by decide) rfl ?_
    refine ax_aload dX9_finds_49 rfl ?_
    refine ax_aload_n dX9_finds_51 rfl ?_
    refine ax_aload_n dX9_finds_52 rfl ?_
    refine ax_getKN (f := 6) ((p 0) + 3) dX9_finds_53 acl_5 wd_262 (by decide) rfl (xs_R_0 (xk_b0 hx) hok) (xr_R_6 (xk_b0 hx) hok) ?_
    refine ax_iload_n dX9_finds_56 rfl ?_
    refine ax_ialdN (x) dX9_finds_57 (xs_R_3 (xk_b0 hx) hok) (by decide) (by first | with_reducible rfl | assumption | exact ax_nix (by simp only [nx_0, nx_1, nx_2, nx_3, nx_4, nx_10, nx_20, nx_21, nx_100, nI_add, pk_mul] <;> rfl) (by omega) | decide) (by omega) ?_
    refine ax_aload_n dX9_finds_58 rfl ?_
    refine ax_getKN (f := 7) ((p 0) + 4) dX9_finds_59 acl_5 wd_266 (by decide) rfl (xs_R_0 (xk_b0 hx) hok) (xr_R_7 (xk_b0 hx) hok) ?_
    refine ax_iload_n dX9_finds_62 rfl ?_
    refine ax_ialdN (x) dX9_finds_63 (xs_R_4 (xk_b0 hx) hok) (by decide) (by first | with_reducible rfl | assumption | exact ax_nix (by simp only [nx_0, nx_1, nx_2, nx_3, nx_4, nx_10, nx_20, nx_21, nx_100, nI_add, pk_mul] <;> rfl) (by omega) | decide) (by omega) ?_
    rw [a1, a2]
    refine ax_callVN (As := _) (d2 := _) (c1 := 0) (n1 := 0) (c_seenIn (M := M1) hok hTT (xk_b0 hx) hr ho hc2 tp (x := r (14 + 2 * x)) (h := r (15 + 2 * x)) (by omega) (by omega) rfl rfl) dX9_finds_64 mX8_seenIn wd_1200 acl_8 (xs_T_0 (xh_UT (Or.inl rfl) hc2) hok) rfl (by omega) (by omega) (by omega) rfl rfl (fun _ _ h => by cases h.1) ?_
    rintro r M9 ⟨h1, h9⟩; cases h1; rw [h9]; clear h9 M9
    rw [← sl c hc2]
    refine ax_istore dX9_finds_67 (by decide) rfl ?_
    refine ax_iload dX9_finds_69 rfl ?_
    refine ax_iconst (v := (-1)) dX9_finds_71 (by decide) ?_
    have st : fd s (c + 1) = match s c with | none => fd s c | some u => match fd s c with | none => some (c, u) | some q => if u < q.2 then some (c, u) else some q := rfl
    have stay : ∀ y8, fd s (c + 1) = fd s c → ax_W l G kX9_finds (ax_FQ G (xA p r lw es M (qa_finds r lw (nI x) (nI k)))) 8 0 0 M1 96 [some (av_r 1), some (av_i (nI x)), some (av_i (nI k)), some (av_r (p 0)), some (av_i bs), some (av_i ls), some (av_i (nI c)), some (av_r (40 + 1 + 7 * c)), y8] [] := by
      intro y8 e9
      refine ax_iinc (v := 1) dX9_finds_96 rfl (by decide) (by decide) rfl ?_
      refine ax_goto (tgt := 29) dX9_finds_99 (by decide) ?_
      exact next _ _ ⟨fr, I1, bs, ls, _, _, (by rw [nI_1]; rfl), (fun z => i0 (e9 ▸ z)), (fun u z => i1 u (e9 ▸ z))⟩
    have take : ∀ u : Nat, u ≤ 60 → fd s (c + 1) = some (c, u) → ax_W l G kX9_finds (ax_FQ G (xA p r lw es M (qa_finds r lw (nI x) (nI k)))) 8 0 0 M1 88 [some (av_r 1), some (av_i (nI x)), some (av_i (nI k)), some (av_r (p 0)), some (av_i bs), some (av_i ls), some (av_i (nI c)), some (av_r (40 + 1 + 7 * c)), some (av_i (nI u))] [] := by
      intro u hu e9
      refine ax_iload dX9_finds_88 rfl ?_
      refine ax_istore dX9_finds_90 (by decide) rfl ?_
      refine ax_iload dX9_finds_92 rfl ?_
      refine ax_istore dX9_finds_94 (by decide) rfl ?_
      refine ax_iinc (v := 1) dX9_finds_96 rfl (by decide) (by decide) rfl ?_
      refine ax_goto (tgt := 29) dX9_finds_99 (by decide) ?_
      exact next _ _ ⟨fr, I1, nI c, nI u, _, _, (by rw [nI_1]; rfl), (fun z => by rw [e9] at z; cases z), (fun q z => by rw [e9] at z; cases z; exact ⟨by show c ≤ 2; omega, hu, rfl, rfl⟩)⟩
    cases hsc : s c with
    | none =>
      rw [hsc] at st
      refine ax_icmp_eq (tgt := 96) dX9_finds_72 (by decide) (fun hc => ?_) (fun hc => ?_)
      · exact stay _ st
      · exact absurd rfl hc
    | some u =>
      rw [hsc] at st
      have hu : u < tn r c := by rw [sl c hc2] at hsc; exact (mt_first_some hsc).1
      show ax_W l G kX9_finds _ _ _ _ _ _ [_, _, _, _, _, _, _, _, some (av_i (nI u))] [av_i (-1), av_i (nI u)]
      refine ax_icmp_eq (tgt := 96) dX9_finds_72 (by decide) (fun hc => ?_) (fun hc => ?_)
      · exact absurd hc (nI_m1 (by omega))
      clear hc
      refine ax_iload dX9_finds_75 rfl ?_
      refine ax_iconst (v := (-1)) dX9_finds_77 (by decide) ?_
      cases hfd : fd s c with
      | none =>
        rw [hfd] at st
        obtain ⟨rfl, rfl⟩ := i0 hfd
        refine ax_icmp_eq (tgt := 88) dX9_finds_78 (by decide) (fun hc => ?_) (fun hc => ?_)
        · exact take u (by omega) st
        · exact absurd rfl hc
      | some q =>
        rw [hfd] at st
        obtain ⟨q1, q2, rfl, rfl⟩ := i1 q hfd
        have st2 : fd s (c + 1) = if u < q.2 then some (c, u) else some q := st
        refine ax_icmp_eq (tgt := 88) dX9_finds_78 (by decide) (fun hc => ?_) (fun hc => ?_)
        · exact absurd hc (nI_m1 (by omega))
        clear hc
        refine ax_iload dX9_finds_81 rfl ?_
        refine ax_iload dX9_finds_83 rfl ?_
        refine ax_icmp_ge (tgt := 96) dX9_finds_85 (by decide) (fun hc => ?_) (fun hc => ?_)
        · have h1 := (nI_leI (by omega) (by omega)).mp hc
          exact stay _ (by rw [st2, if_neg (by omega), hfd])
        · have h1 : ¬ q.2 ≤ u := fun z => hc ((nI_leI (by omega) (by omega)).mpr z)
          exact take u (by omega) (by rw [st2, if_pos (by omega)])
  · rintro N L ⟨fr, I, bs, ls, y7, y8, rfl, i0, i1⟩
    have hx := I.1.1
    have hok := hx.1
    have hr := I.1.2.1
    have e : ∀ v, v = (match fd s (r 1).toNat with | none => -1 | some q => if k = 0 then nI q.1 else nI q.2) → xA p r lw es M (qa_finds r lw (nI x) (nI k)) (.inl (some (av_i v))) N := fun v hv => by
      unfold qa_finds
      rw [if_neg (fun z => z g1), if_neg (fun z => z g2), nI_clamp (by omega), nI_clamp (by omega), hv]
      unfold qv_finds
      rw [← hs]
      exact xA_in fr I
    have hb : bs = (match fd s (r 1).toNat with | none => -1 | some u => nI u.1) ∧ ls = (match fd s (r 1).toNat with | none => -1 | some u => nI u.2) := by
      cases hl : fd s (r 1).toNat with
      | none => exact i0 hl
      | some u => exact (i1 u hl).2.2
    refine ax_iload dX9_finds_29 rfl ?_
    refine ax_aload_n dX9_finds_31 rfl ?_
    refine ax_getIN (f := 16) dX9_finds_32 acl_5 wd_296 (by decide) rfl (xs_R_0 (xk_b0 hx) hok) ?_
    rw [hr.1.2.1, iI_tn (show 0 ≤ r 1 by omega)]
    refine ax_icmp_ge (tgt := 102) dX9_finds_35 (by decide) (fun hc => ?_) (fun hc => absurd ((nI_leI (by omega) (by omega)).mpr (by omega)) hc)
    refine ax_iload_n dX9_finds_102 rfl ?_
    rcases (show k = 0 ∨ k = 1 by omega) with rfl | rfl
    · refine ax_if_ne (tgt := 111) dX9_finds_103 (by decide) (fun hc => ?_) (fun hc => ?_)
      · exact absurd rfl hc
      · refine ax_iload dX9_finds_106 rfl ?_
        refine ax_goto (tgt := 113) dX9_finds_108 (by decide) ?_
        refine ax_iret dX9_finds_113 rfl ?_
        refine e _ ?_
        rw [hb.1]
        cases fd s (r 1).toNat <;> rfl
    · refine ax_if_ne (tgt := 111) dX9_finds_103 (by decide) (fun hc => ?_) (fun hc => ?_)
      · refine ax_iload dX9_finds_111 rfl ?_
        refine ax_iret dX9_finds_113 rfl ?_
        refine e _ ?_
        rw [hb.2]
        cases fd s (r 1).toNat <;> rfl
      · exact absurd hc (by decide)
end X86

