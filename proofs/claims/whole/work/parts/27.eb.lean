/-! ===== SIGHT and beams: the reference ===== -/
def ml_law (M : ax_M) (w : Nat) (lw : Option (List (Int32 × Int32))) : Prop := match lw with
  | none => M.1 111 w = 0
  | some cs => ml_has M w cs
def ev_clamp (v : Int32) : Int32 := if (if 60 < v then 60 else v) < 0 then 0 else (if 60 < v then 60 else v)
def ev_sight (lw : Option (List (Int32 × Int32))) (kn : Nat → Int32) : Int32 := ev_clamp (match lw with
  | none => (kn 0 - kn 1) / (kn 2 + 1)
  | some cs => ev kn cs)
def ev_rule (lw : Option (List (Int32 × Int32))) (kn : Nat → Int32) : Int32 := match lw with
  | none => kn 8 - 12
  | some cs => ev kn cs
def ev_beam (f : Int32) (lw : Option (List (Int32 × Int32))) (kn : Nat → Int32) : Int32 := if 0 < (if f = -1 then ev_rule lw kn else kn 8 - f) then 1 else 0
theorem ml_ne {M : ax_M} {w : Nat} {cs : List (Int32 × Int32)} (h : ml_has M w cs) : ¬ M.1 111 w = 0 := by
  rw [h.2.1]
  exact nI_ne0 (by have := h.1.2.2.2; omega) (by have := h.1.2.2.1; omega)
theorem ev_fr_0 (M : ax_M) : ev_fr M M := ⟨rfl, fun _ _ _ => rfl⟩
section EB
variable {l : Launch} {G : ax_G} {M : ax_M}
theorem c_X10_sightBy (hok : lo_ok M.2) {lw : Option (List (Int32 × Int32))} (hl : ml_law M 0 lw) (hk : ¬ M.1 118 2 + 1 = 0) : ax_Met l G kX10_sightBy 3 0 0 M [av_r 90] (fun o M2 => o = .inl (some (av_i (ev_sight lw (M.1 118)))) ∧ ev_fr M M2) := by
  refine ax_body (by decide) (Nat.le_of_ble_eq_true rfl) ?_
  have tail : ∀ (M2 : ax_M) (v : Int32) (y : Option ax_V), ev_fr M M2 → ev_sight lw (M.1 118) = ev_clamp v → ax_W l G kX10_sightBy (ax_FQ G (fun o M2 => o = .inl (some (av_i (ev_sight lw (M.1 118)))) ∧ ev_fr M M2)) 3 0 0 M2 39 [some (av_r 90), y] [av_i v] := by
    intro M2 v y hfr he
    refine ax_istore_n dX10_sightBy_39 (by decide) rfl ?_
    refine ax_iconst (v := 0) dX10_sightBy_40 (by decide) ?_
    refine ax_bipush (v := 60) dX10_sightBy_41 (by decide) ?_
    refine ax_iload_n dX10_sightBy_43 rfl ?_
    refine ax_callS (As := _) (c1 := 0) (n1 := 0) (c_X10_less (d := 0) (M := M2) _ _) dX10_sightBy_44 mX10_less wd_1905 rfl (by omega) (by omega) (by omega) rfl rfl (fun _ _ h => by cases h.1) ?_
    rintro r M9 ⟨h1, h9⟩; cases h1; rw [h9]; clear h9 M9
    refine ax_callS (As := _) (c1 := 0) (n1 := 0) (c_X10_more (d := 0) (M := M2) _ _) dX10_sightBy_47 mX10_more wd_1908 rfl (by omega) (by omega) (by omega) rfl rfl (fun _ _ h => by cases h.1) ?_
    rintro r M9 ⟨h1, h9⟩; cases h1; rw [h9]; clear h9 M9
    refine ax_iret dX10_sightBy_50 rfl ?_
    rw [he]
    exact ⟨rfl, hfr⟩
  refine ax_aload_n dX10_sightBy_0 rfl ?_
  refine ax_getK (f := 22) 111 dX10_sightBy_1 acl_10 wd_1622 (by decide) rfl (lo_s hok 90 rfl) (lo_r hok 92 rfl) ?_
  refine ax_iconst (v := 0) dX10_sightBy_4 (by decide) ?_
  refine ax_iald dX10_sightBy_5 (lo_s hok 111 rfl) (by unfold vp_in; decide) ?_
  cases lw with
  | none =>
    refine ax_if_ne (tgt := 34) dX10_sightBy_6 (by decide) (fun hc => ?_) (fun hc => ?_)
    · exact absurd hl hc
    · refine ax_aload_n dX10_sightBy_9 rfl ?_
      refine ax_getK (f := 27) 118 dX10_sightBy_10 acl_10 wd_1627 (by decide) rfl (lo_s hok 90 rfl) (lo_r hok 96 rfl) ?_
      refine ax_iconst (v := 0) dX10_sightBy_13 (by decide) ?_
      refine ax_iald dX10_sightBy_14 (lo_s hok 118 rfl) (by unfold vp_in; decide) ?_
      refine ax_aload_n dX10_sightBy_15 rfl ?_
      refine ax_getK (f := 27) 118 dX10_sightBy_16 acl_10 wd_1627 (by decide) rfl (lo_s hok 90 rfl) (lo_r hok 96 rfl) ?_
      refine ax_iconst (v := 1) dX10_sightBy_19 (by decide) ?_
      refine ax_iald dX10_sightBy_20 (lo_s hok 118 rfl) (by unfold vp_in; decide) ?_
      refine ax_isub dX10_sightBy_21 ?_
      refine ax_aload_n dX10_sightBy_22 rfl ?_
      refine ax_getK (f := 27) 118 dX10_sightBy_23 acl_10 wd_1627 (by decide) rfl (lo_s hok 90 rfl) (lo_r hok 96 rfl) ?_
      refine ax_iconst (v := 2) dX10_sightBy_26 (by decide) ?_
      refine ax_iald dX10_sightBy_27 (lo_s hok 118 rfl) (by unfold vp_in; decide) ?_
      refine ax_iconst (v := 1) dX10_sightBy_28 (by decide) ?_
      refine ax_iadd dX10_sightBy_29 ?_
      refine ax_idiv dX10_sightBy_30 hk ?_
      refine ax_goto (tgt := 39) dX10_sightBy_31 (by decide) ?_
      exact tail M _ _ (ev_fr_0 M) rfl
  | some cs =>
    refine ax_if_ne (tgt := 34) dX10_sightBy_6 (by decide) (fun hc => ?_) (fun hc => ?_)
    · refine ax_aload_n dX10_sightBy_34 rfl ?_
      refine ax_iconst (v := 0) dX10_sightBy_35 (by decide) ?_
      refine ax_callV (As := _) (d2 := _) (c1 := 0) (n1 := 0) (c_X10_worked (M := M) hok (w := 0) (by omega) hl rfl) dX10_sightBy_36 mX10_worked wd_1970 acl_10 (lo_s hok 90 rfl) rfl (by omega) (by omega) (by omega) rfl rfl (fun _ _ h => by cases h.1) ?_
      rintro r M2 ⟨h1, h2⟩; cases h1
      exact tail M2 _ _ h2 rfl
    · exact absurd hc (ml_ne hl)
theorem c_X10_beamsBy (hok : lo_ok M.2) {c : Nat} (hc2 : c < 2) {lw : Option (List (Int32 × Int32))} (hl : ml_law M (1 + c) lw) {x : Int32} (hx : x = nI c) : ax_Met l G kX10_beamsBy 3 0 0 M [av_r 90, av_i x] (fun o M2 => o = .inl (some (av_i (ev_beam (M.1 383 c) lw (M.1 118)))) ∧ ev_fr M M2) := by
  subst hx
  have e1 : (1 : Int32) + nI c = nI (1 + c) := by rw [show (1 : Int32) = nI 1 from rfl, nI_add]
  refine ax_body (by decide) (Nat.le_of_ble_eq_true rfl) ?_
  have tail : ∀ (M2 : ax_M) (v : Int32) (y : Option ax_V), ev_fr M M2 → v = (if M.1 383 c = -1 then ev_rule lw (M.1 118) else M.1 118 8 - M.1 383 c) → ax_W l G kX10_beamsBy (ax_FQ G (fun o M2 => o = .inl (some (av_i (ev_beam (M.1 383 c) lw (M.1 118)))) ∧ ev_fr M M2)) 3 0 0 M2 58 [some (av_r 90), some (av_i (nI c)), y] [av_i v] := by
    intro M2 v y hfr he
    refine ax_istore_n dX10_beamsBy_58 (by decide) rfl ?_
    refine ax_iload_n dX10_beamsBy_59 rfl ?_
    refine ax_if_le (tgt := 67) dX10_beamsBy_60 (by decide) (fun hc => ?_) (fun hc => ?_)
    · refine ax_iconst (v := 0) dX10_beamsBy_67 (by decide) ?_
      refine ax_iret dX10_beamsBy_68 rfl ?_
      refine ⟨?_, hfr⟩
      unfold ev_beam
      rw [← he, if_neg (Int32.not_lt.mpr hc)]
    · refine ax_iconst (v := 1) dX10_beamsBy_63 (by decide) ?_
      refine ax_goto (tgt := 68) dX10_beamsBy_64 (by decide) ?_
      refine ax_iret dX10_beamsBy_68 rfl ?_
      refine ⟨?_, hfr⟩
      unfold ev_beam
      rw [← he, if_pos (Int32.not_le.mp hc)]
  refine ax_aload_n dX10_beamsBy_0 rfl ?_
  refine ax_getK (f := 45) 383 dX10_beamsBy_1 acl_10 wd_1645 (by decide) rfl (lo_s hok 90 rfl) (lo_r hok 110 rfl) ?_
  refine ax_iload_n dX10_beamsBy_4 rfl ?_
  refine ax_iald dX10_beamsBy_5 (lo_s hok 383 rfl) (vp_in_nI hc2 (by decide)) ?_
  refine ax_iconst (v := (-1)) dX10_beamsBy_6 (by decide) ?_
  rw [nI_clamp (by omega)]
  refine ax_icmp_eq (tgt := 27) dX10_beamsBy_7 (by decide) (fun hc => ?_) (fun hc => ?_)
  · refine ax_aload_n dX10_beamsBy_27 rfl ?_
    refine ax_getK (f := 22) 111 dX10_beamsBy_28 acl_10 wd_1622 (by decide) rfl (lo_s hok 90 rfl) (lo_r hok 92 rfl) ?_
    refine ax_iconst (v := 1) dX10_beamsBy_31 (by decide) ?_
    refine ax_iload_n dX10_beamsBy_32 rfl ?_
    refine ax_iadd dX10_beamsBy_33 ?_
    rw [e1]
    refine ax_iald dX10_beamsBy_34 (lo_s hok 111 rfl) (vp_in_nI (by omega) (by decide)) ?_
    rw [nI_clamp (by omega)]
    have hfn := hc
    cases lw with
    | none =>
      refine ax_if_ne (tgt := 51) dX10_beamsBy_35 (by decide) (fun hc => ?_) (fun hc => ?_)
      · exact absurd hl hc
      · refine ax_aload_n dX10_beamsBy_38 rfl ?_
        refine ax_getK (f := 27) 118 dX10_beamsBy_39 acl_10 wd_1627 (by decide) rfl (lo_s hok 90 rfl) (lo_r hok 96 rfl) ?_
        refine ax_bipush (v := 8) dX10_beamsBy_42 (by decide) ?_
        refine ax_iald dX10_beamsBy_44 (lo_s hok 118 rfl) (by unfold vp_in; decide) ?_
        refine ax_bipush (v := 12) dX10_beamsBy_45 (by decide) ?_
        refine ax_isub dX10_beamsBy_47 ?_
        refine ax_goto (tgt := 58) dX10_beamsBy_48 (by decide) ?_
        refine tail M _ _ (ev_fr_0 M) ?_
        rw [if_pos hfn]
        rfl
    | some cs =>
      refine ax_if_ne (tgt := 51) dX10_beamsBy_35 (by decide) (fun hc => ?_) (fun hc => ?_)
      · refine ax_aload_n dX10_beamsBy_51 rfl ?_
        refine ax_iconst (v := 1) dX10_beamsBy_52 (by decide) ?_
        refine ax_iload_n dX10_beamsBy_53 rfl ?_
        refine ax_iadd dX10_beamsBy_54 ?_
        refine ax_callV (As := _) (d2 := _) (c1 := 0) (n1 := 0) (c_X10_worked (M := M) hok (w := 1 + c) (by omega) hl e1) dX10_beamsBy_55 mX10_worked wd_1970 acl_10 (lo_s hok 90 rfl) rfl (by omega) (by omega) (by omega) rfl rfl (fun _ _ h => by cases h.1) ?_
        rintro r M2 ⟨h1, h2⟩; cases h1
        refine tail M2 _ _ h2 ?_
        rw [if_pos hfn]
        rfl
      · exact absurd hc (ml_ne hl)
  · refine ax_aload_n dX10_beamsBy_10 rfl ?_
    refine ax_getK (f := 27) 118 dX10_beamsBy_11 acl_10 wd_1627 (by decide) rfl (lo_s hok 90 rfl) (lo_r hok 96 rfl) ?_
    refine ax_bipush (v := 8) dX10_beamsBy_14 (by decide) ?_
    refine ax_iald dX10_beamsBy_16 (lo_s hok 118 rfl) (by unfold vp_in; decide) ?_
    refine ax_aload_n dX10_beamsBy_17 rfl ?_
    refine ax_getK (f := 45) 383 dX10_beamsBy_18 acl_10 wd_1645 (by decide) rfl (lo_s hok 90 rfl) (lo_r hok 110 rfl) ?_
    refine ax_iload_n dX10_beamsBy_21 rfl ?_
    refine ax_iald dX10_beamsBy_22 (lo_s hok 383 rfl) (vp_in_nI hc2 (by decide)) ?_
    refine ax_isub dX10_beamsBy_23 ?_
    rw [nI_clamp (by omega)]
    refine ax_goto (tgt := 58) dX10_beamsBy_24 (by decide) ?_
    refine tail M _ _ (ev_fr_0 M) ?_
    rw [if_neg hc]
    rfl
end EB

