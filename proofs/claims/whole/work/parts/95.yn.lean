/-! ===== asks of the class: tenths, passes, fault, count, status; what was changed ===== -/
section X95
variable {l : Launch} {G : ax_G} {M : ax_M} {p : Nat → Nat} {r : Nat → Int} {lw : mt_L} {es : List (Nat × Nat)}
theorem x_tenths (hI : xI M p r lw es) : ax_Met l G kX9_tenths 6 0 0 M [av_r 1] (xA p r lw es M (.inl (av_i (nI (mt_T r))))) := by
  have hx := hI.1.1
  have hok := hx.1
  refine ax_body (by decide) (Nat.le_of_ble_eq_true rfl) ?_
  refine ax_aload_n dX9_tenths_0 rfl ?_
  refine ax_callV (As := _) (d2 := _) (c1 := 0) (n1 := 0) (c_freshMeeting (M := M) hI) dX9_tenths_1 mX9_freshMeeting wd_609 acl_9 (lo_s hok 1 rfl) rfl (by omega) (by omega) (by omega) rfl rfl (fun _ _ h => by cases h.1) ?_
  rintro _ M1 ⟨h1, f1, I1, -, m1, -⟩
  cases h1
  have hok := I1.1.1.1
  refine ax_getIN (f := 3) dX9_tenths_4 acl_4 wd_485 (by decide) rfl (xs_U_0 (Or.inl rfl) hok) ?_
  refine ax_iret dX9_tenths_7 rfl ?_
  rw [m1.1]
  exact xA_in f1 I1
theorem x_passes (hI : xI M p r lw es) : ax_Met l G kX9_passes 6 0 0 M [av_r 1] (xA p r lw es M (.inl (av_i (mt_sb (mt_ps r (mt_T r)))))) := by
  have hx := hI.1.1
  have hok := hx.1
  refine ax_body (by decide) (Nat.le_of_ble_eq_true rfl) ?_
  refine ax_aload_n dX9_passes_0 rfl ?_
  refine ax_callV (As := _) (d2 := _) (c1 := 0) (n1 := 0) (c_freshMeeting (M := M) hI) dX9_passes_1 mX9_freshMeeting wd_609 acl_9 (lo_s hok 1 rfl) rfl (by omega) (by omega) (by omega) rfl rfl (fun _ _ h => by cases h.1) ?_
  rintro _ M1 ⟨h1, f1, I1, -, m1, -⟩
  cases h1
  have hok := I1.1.1.1
  refine ax_getIN (f := 4) dX9_passes_4 acl_4 wd_487 (by decide) rfl (xs_U_0 (Or.inl rfl) hok) ?_
  refine ax_iret dX9_passes_7 rfl ?_
  rw [m1.2.1]
  exact xA_in f1 I1
theorem x_fault {d : Nat} (hI : xI M p r lw es) : ax_Met l G kX9_fault d 0 0 M [av_r 1] (xA p r lw es M (.inl (av_i (M.1 2 8)))) := by
  have hx := hI.1.1
  have hok := hx.1
  refine ax_body (by decide) (Nat.le_of_ble_eq_true rfl) ?_
  refine ax_aload_n dX9_fault_0 rfl ?_
  refine ax_getK (f := 0) 2 dX9_fault_1 acl_9 wd_547 (by decide) rfl (lo_s hok 1 rfl) (lo_r hok 0 rfl) ?_
  refine ax_getIN (f := 8) dX9_fault_4 acl_6 wd_219 (by decide) rfl (lo_s hok 2 rfl) ?_
  refine ax_iret dX9_fault_7 rfl ?_
  exact xA_in (qf_refl M) hI
theorem x_count {d : Nat} (hI : xI M p r lw es) (x : Int32) : ax_Met l G kX9_count d 0 0 M [av_r 1, av_i x] (xA p r lw es M (.inl (av_i (if x = 0 then M.1 79 7 else if x = 1 then M.1 2 1 else if x = 2 then M.1 79 4 else -1)))) := by
  have hx := hI.1.1
  have hok := hx.1
  have e : ∀ v, v = (if x = 0 then M.1 79 7 else if x = 1 then M.1 2 1 else if x = 2 then M.1 79 4 else -1) → xA p r lw es M (.inl (av_i (if x = 0 then M.1 79 7 else if x = 1 then M.1 2 1 else if x = 2 then M.1 79 4 else -1))) (.inl (some (av_i v))) M := fun v hv => by
    rw [hv]; exact xA_in (qf_refl M) hI
  refine ax_body (by decide) (Nat.le_of_ble_eq_true rfl) ?_
  refine ax_iload_n dX9_count_0 rfl ?_
  by_cases h0 : x = 0
  · subst h0
    refine ax_tableIn (off := 27) (tgt := 28) dX9_count_1 (by decide) (by decide) rfl (by decide) ?_
    refine ax_aload_n dX9_count_28 rfl ?_
    refine ax_getK (f := 13) 79 dX9_count_29 acl_9 wd_560 (by decide) rfl (lo_s hok 1 rfl) (lo_r hok 7 rfl) ?_
    refine ax_getIN (f := 7) dX9_count_32 acl_1 wd_529 (by decide) rfl (lo_s hok 79 rfl) ?_
    refine ax_iret dX9_count_35 rfl ?_
    exact e _ rfl
  by_cases h1 : x = 1
  · subst h1
    refine ax_tableIn (off := 35) (tgt := 36) dX9_count_1 (by decide) (by decide) rfl (by decide) ?_
    refine ax_aload_n dX9_count_36 rfl ?_
    refine ax_getK (f := 0) 2 dX9_count_37 acl_9 wd_547 (by decide) rfl (lo_s hok 1 rfl) (lo_r hok 0 rfl) ?_
    refine ax_getIN (f := 1) dX9_count_40 acl_6 wd_207 (by decide) rfl (lo_s hok 2 rfl) ?_
    refine ax_iret dX9_count_43 rfl ?_
    exact e _ rfl
  by_cases h2 : x = 2
  · subst h2
    refine ax_tableIn (off := 43) (tgt := 44) dX9_count_1 (by decide) (by decide) rfl (by decide) ?_
    refine ax_aload_n dX9_count_44 rfl ?_
    refine ax_getK (f := 13) 79 dX9_count_45 acl_9 wd_560 (by decide) rfl (lo_s hok 1 rfl) (lo_r hok 7 rfl) ?_
    refine ax_getIN (f := 4) dX9_count_48 acl_1 wd_525 (by decide) rfl (lo_s hok 79 rfl) ?_
    refine ax_iret dX9_count_51 rfl ?_
    exact e _ rfl
  have z0 : ¬ x.toInt = 0 := fun z => h0 (Int32.toInt_inj.mp z)
  have z1 : ¬ x.toInt = 1 := fun z => h1 (Int32.toInt_inj.mp z)
  have z2 : ¬ x.toInt = 2 := fun z => h2 (Int32.toInt_inj.mp z)
  refine ax_tableOut (tgt := 52) dX9_count_1 (by omega) (by decide) ?_
  refine ax_iconst (v := (-1)) dX9_count_52 (by decide) ?_
  refine ax_iret dX9_count_53 rfl ?_
  exact e _ (by rw [if_neg h0, if_neg h1, if_neg h2])
theorem x_status {d : Nat} (hI : xI M p r lw es) (x : Int32) : ax_Met l G kX9_status d 0 0 M [av_r 1, av_i x] (xA p r lw es M (.inl (av_i (if 0 ≤ x ∧ x ≤ 2 then M.1 89 x.toNatClampNeg else -1)))) := by
  have hx := hI.1.1
  have hok := hx.1
  have e : ∀ v, v = (if 0 ≤ x ∧ x ≤ 2 then M.1 89 x.toNatClampNeg else -1) → xA p r lw es M (.inl (av_i (if 0 ≤ x ∧ x ≤ 2 then M.1 89 x.toNatClampNeg else -1))) (.inl (some (av_i v))) M := fun v hv => by
    rw [hv]; exact xA_in (qf_refl M) hI
  have t0 : (0 : Int32).toInt = 0 := rfl
  have t2 : (2 : Int32).toInt = 2 := rfl
  have t3 : (3 : Int32).toInt = 3 := rfl
  refine ax_body (by decide) (Nat.le_of_ble_eq_true rfl) ?_
  refine ax_iload_n dX9_status_0 rfl ?_
  refine ax_if_lt (tgt := 22) dX9_status_1 (by decide) (fun hc => ?_) (fun hc => ?_)
  · refine ax_iconst (v := (-1)) dX9_status_22 (by decide) ?_
    refine ax_iret dX9_status_23 rfl ?_
    exact e _ (by rw [if_neg (fun z => by rw [iv_le] at z; rw [iv_lt] at hc; omega)])
  have h0 := hc
  clear hc
  refine ax_iload_n dX9_status_4 rfl ?_
  refine ax_aload_n dX9_status_5 rfl ?_
  refine ax_getK (f := 14) 89 dX9_status_6 acl_9 wd_561 (by decide) rfl (lo_s hok 1 rfl) (lo_r hok 8 rfl) ?_
  refine ax_alen dX9_status_9 (lo_s hok 89 rfl) (by decide) ?_
  refine ax_icmp_ge (tgt := 22) dX9_status_10 (by decide) (fun hc => ?_) (fun hc => ?_)
  · refine ax_iconst (v := (-1)) dX9_status_22 (by decide) ?_
    refine ax_iret dX9_status_23 rfl ?_
    exact e _ (by rw [if_neg (fun z => by have := z.2; rw [iv_le] at this; have h9 : (3 : Int32) ≤ x := hc; rw [iv_le] at h9; omega)])
  · have h9 : ¬ (3 : Int32) ≤ x := hc
    have hin : 0 ≤ x ∧ x ≤ 2 := ⟨by rw [iv_le]; rw [iv_lt] at h0; omega, by rw [iv_le]; rw [iv_le] at h9; omega⟩
    obtain ⟨k, hk, rfl⟩ := in_nat hin (n := 2) rfl (by decide)
    clear hc
    refine ax_aload_n dX9_status_13 rfl ?_
    refine ax_getK (f := 14) 89 dX9_status_14 acl_9 wd_561 (by decide) rfl (lo_s hok 1 rfl) (lo_r hok 8 rfl) ?_
    refine ax_iload_n dX9_status_17 rfl ?_
    refine ax_ialdN (k) dX9_status_18 (lo_s hok 89 rfl) (by decide) (by first | with_reducible rfl | assumption | exact ax_nix (by simp only [nx_0, nx_1, nx_2, nx_3, nx_4, nx_10, nx_20, nx_21, nx_100, nI_add, pk_mul] <;> rfl) (by omega) | decide) (by omega) ?_
    refine ax_goto (tgt := 23) dX9_status_19 (by decide) ?_
    refine ax_iret dX9_status_23 rfl ?_
    exact e _ (by rw [if_pos hin, nI_clamp (by omega)])
theorem x_meetingChanged {d : Nat} (hok : lo_ok M.2) : ax_Met l G kX9_meetingChanged d 0 0 M [av_r 1] (fun o M2 => o = .inl none ∧ M2 = ax_pI (ax_pI M 1 7 0) 1 10 (-1)) := by
  refine ax_body (by decide) (Nat.le_of_ble_eq_true rfl) ?_
  refine ax_aload_n dX9_meetingChanged_0 rfl ?_
  refine ax_iconst (v := 0) dX9_meetingChanged_1 (by decide) ?_
  refine ax_putI (f := 7) dX9_meetingChanged_2 acl_9 wd_554 (by decide) rfl rfl (ax_nfZ rfl (by first | decide | (split <;> decide))) (lo_s hok 1 rfl) ?_
  refine ax_aload_n dX9_meetingChanged_5 rfl ?_
  refine ax_iconst (v := (-1)) dX9_meetingChanged_6 (by decide) ?_
  refine ax_putI (f := 10) dX9_meetingChanged_7 acl_9 wd_557 (by decide) rfl rfl (ax_nfI rfl) (lo_s hok 1 rfl) ?_
  refine ax_vret dX9_meetingChanged_10 rfl ?_
  exact ⟨rfl, rfl⟩
/-- what is told changed, the meeting and the duel forgotten: the class holds the new -/
theorem xI_new {M2 : ax_M} {p2 : Nat → Nat} {r2 : Nat → Int} {lw2 : mt_L} {es2 : List (Nat × Nat)} (hT : xT M2 p2 r2 lw2 es2) (h40 : xw M2 40) (h56 : xw M2 56) (h7 : M2.1 1 7 = 0) (h10 : M2.1 1 10 = -1) : xI M2 p2 r2 lw2 es2 := ⟨hT, ⟨h40, h56⟩, Or.inl h7, Or.inl h10⟩
end X95

