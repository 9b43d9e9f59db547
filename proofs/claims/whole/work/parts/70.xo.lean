/-! ===== a meeting: the class ===== -/
theorem xlw_ev {M : ax_M} {p : Nat → Nat} {lw : mt_L} (h : xlw M p lw) : ∀ w, w < 3 → ml_ev (lw w) := by
  intro w hw
  rcases (show w = 0 ∨ w = 1 ∨ w = 2 by omega) with rfl | rfl | rfl
  · have := h.1.1.1
    cases e : lw 0 with
    | none => trivial
    | some cs => rw [e] at this; exact this
  · have := h.2.1.1.1
    cases e : lw 1 with
    | none => trivial
    | some cs => rw [e] at this; exact this
  · have := h.2.2.1.1
    cases e : lw 2 with
    | none => trivial
    | some cs => rw [e] at this; exact this
def vf (M M2 : ax_M) : Prop := M2.2 = M.2 ∧ ∀ n i, ¬ fs n → n ≠ 22 → M2.1 n i = M.1 n i
theorem vf_tr {M M1 M2 : ax_M} (h1 : vf M M1) (h2 : vf M1 M2) : vf M M2 := ⟨h2.1.trans h1.1, fun n i a b => (h2.2 n i a b).trans (h1.2 n i a b)⟩
theorem vf_0 (M : ax_M) : vf M M := ⟨rfl, fun _ _ _ _ => rfl⟩
theorem vf_U {M M2 : ax_M} {U n i : Nat} (hU : xh_U U) (h : vf M M2) (hn : U ≤ n ∧ n ≤ U + 15) : M2.1 n i = M.1 n i := h.2 n i (by unfold xh_U at hU; unfold fs; omega) (by unfold xh_U at hU; omega)
theorem vf_xr {M M2 : ax_M} {R : Nat} {r : Nat → Int} (hR : xh_R R) (h : vf M M2) (hr : xr M R r) : xr M2 R r := xr_fr hr (fun n i a b => h.2 n i (by unfold xh_R at hR; unfold fs; omega) (by unfold xh_R at hR; omega))
theorem vf_xlw {M M2 : ax_M} {p : Nat → Nat} {lw : mt_L} (hx : xp p) (h : vf M M2) (hl : xlw M p lw) : xlw M2 p lw := xlw_fr hx hl (fun n i _ a b => h.2 n i a b)
/-- within a tenth: what holds of both trips -/
def xz9 (M : ax_M) (U : Nat) (r : Nat → Int) (t : Nat) (s : mt_S) : Prop := M.1 U 3 = nI t ∧ xap M U r t ∧ M.1 U 4 = mt_sb (mt_ps r (t + 1)) ∧ ∀ c, c < 2 → xa M (U + 1 + 7 * c) r c ∧ xc M (U + 1 + 7 * c) r c t ∧ M.1 (U + 1 + 7 * c) 7 = s.2 c ∧ ∃ b : Int, M.1 (U + 1 + 7 * c) 8 = iI b ∧ 0 ≤ b ∧ b ≤ 20 ∧ (mt_on r c t = true → b = s.1 c)
theorem xz9_fr {M M2 : ax_M} {U t : Nat} {r : Nat → Int} {s : mt_S} (h : xz9 M U r t s) (hf : ∀ n i, U ≤ n → n ≤ U + 15 → M2.1 n i = M.1 n i) : xz9 M2 U r t s := by
  obtain ⟨h1, h2, h3, h4⟩ := h
  refine ⟨(hf _ _ (by omega) (by omega)).trans h1, (hf _ _ (by omega) (by omega)).trans h2, (hf _ _ (by omega) (by omega)).trans h3, fun c hc => ?_⟩
  obtain ⟨a1, a2, a3, b, a4, a5⟩ := h4 c hc
  exact ⟨xa_fr a1 (fun i _ => hf _ _ (by omega) (by omega)), fun q => (hf _ _ (by omega) (by omega)).trans (a2 q), (hf _ _ (by omega) (by omega)).trans a3, b, (hf _ _ (by omega) (by omega)).trans a4, a5⟩
section XO
variable {l : Launch} {G : ax_G} {M : ax_M} {p : Nat → Nat} {r : Nat → Int} {R U T : Nat} {lw : mt_L}
theorem c_beamsOf (hx : xk M.2 p) (hU : xh_U U) (hr : xr M (p 0) r) (ho : rd_ok r) (hl : xlw M p lw) {c t : Nat} (hc2 : c < 2) (ht : t < 99) {s : mt_S} (hz : xz9 M U r t s) (d : Nat → Int32) {y : Int32} (hy : y = d c) : ax_Met l G kX4_beamsOf 3 0 0 M [av_r U, av_r 4, av_r (U + 1 + 7 * c), av_i y] (fun o M2 => o = .inl (some (av_i (mt_F r lw d t s c))) ∧ vf M M2) := by
  subst hy
  have hok := hx.1
  obtain ⟨z1, z2, z3, z4⟩ := hz
  obtain ⟨a1, a2, a3, b, a4, a5, a6, a7⟩ := z4 c hc2
  have o7 := (z4 (1 - c) (by omega)).2.2.1
  refine ax_body (by decide) (Nat.le_of_ble_eq_true rfl) ?_
  refine ax_aload_n dX4_beamsOf_0 rfl ?_
  refine ax_aload_n dX4_beamsOf_1 rfl ?_
  refine ax_getKN (f := 0) (p 0) dX4_beamsOf_2 acl_7 wd_366 (by decide) rfl (lo_s hok 4 rfl) (xk_r0 hx) ?_
  refine ax_callVN (As := _) (d2 := _) (c1 := 0) (n1 := 0) (c_xisOn (M := M) (t := t) hok (xh_UT hU hc2) (xk_b0 hx) hr ho hc2 (by omega) a1 a2) dX4_beamsOf_5 mX8_isOn wd_625 acl_8 (xs_T_0 (xh_UT hU hc2) hok) rfl (by omega) (by omega) (by omega) rfl rfl (fun _ _ h => by cases h.1) ?_
  rintro r M9 ⟨h1, h9⟩; cases h1; rw [h9]; clear h9 M9
  unfold mt_F
  refine ax_ifB_ne (tgt := 16) dX4_beamsOf_8 (by decide) (fun hc => ?_) (fun hc => ?_)
  rotate_left
  · refine ax_aload_n dX4_beamsOf_11 rfl ?_
    refine ax_getIN (f := 7) dX4_beamsOf_12 acl_8 wd_433 (by decide) rfl (xs_T_0 (xh_UT hU hc2) hok) ?_
    refine ax_iret dX4_beamsOf_15 rfl ?_
    rw [if_neg hc, a3]; exact ⟨rfl, vf_0 M⟩
  have on := hc
  clear hc
  rw [if_pos on]
  have hcr := (mt_on_iff.mp on).1
  have hb := a7 on
  subst hb
  refine ax_iload_n dX4_beamsOf_16 rfl ?_
  refine ax_iconst (v := (-1)) dX4_beamsOf_17 (by decide) ?_
  refine ax_icmp_eq (tgt := 31) dX4_beamsOf_18 (by decide) (fun hc => ?_) (fun hc => ?_)
  · refine ax_aload_n dX4_beamsOf_31 rfl ?_
    refine ax_aload_n dX4_beamsOf_32 rfl ?_
    refine ax_aload_n dX4_beamsOf_33 rfl ?_
    refine ax_callV (As := _) (d2 := _) (c1 := 0) (n1 := 0) (c_tellValues (M := M) hx hU hr ho hc2 ht a1 a2 hcr a3 a4 o7 z1 z2 z3) dX4_beamsOf_34 mX4_tellValues wd_663 acl_4 (xs_U_0 hU hok) rfl (by omega) (by omega) (by omega) rfl rfl (fun _ _ h => by cases h.1) ?_
    rintro o9 M1 ⟨h1, g1⟩; cases h1
    have hx : xk M1.2 p := by rw [g1.1]; exact hx
    have hok := hx.1
    have v1 : vf M M1 := ⟨g1.1, fun n i _ b => g1.2.1 n i b⟩
    refine ax_aload_n dX4_beamsOf_37 rfl ?_
    refine ax_aload_n dX4_beamsOf_38 rfl ?_
    refine ax_getIN (f := 0) dX4_beamsOf_39 acl_8 wd_421 (by decide) rfl (xs_T_0 (xh_UT hU hc2) hok) ?_
    rw [vf_U hU v1 (by omega), a1.1]
    refine ax_callVN (As := _) (d2 := _) (c1 := 0) (n1 := 0) (c_beamsByRule (M := M1) hx (vf_xlw hx.2.1 v1 hl) hc2 rfl) dX4_beamsOf_42 mX7_beamsByRule wd_684 acl_7 (lo_s hok 4 rfl) rfl (by omega) (by omega) (by omega) rfl rfl (fun _ _ h => by cases h.1) ?_
    rintro o9 M2 ⟨h1, h2, h3⟩; cases h1
    refine ax_iret dX4_beamsOf_45 rfl ?_
    refine ⟨?_, vf_tr v1 ⟨h2, fun n i a _ => h3 n i a⟩⟩
    have e := ev_beam_cong (f := -1) (g1.2.2) (xlw_ev hl (1 + c) (by omega))
    rw [hc]
    rw [← e]
    rfl
  · refine ax_aload_n dX4_beamsOf_21 rfl ?_
    refine ax_iload_n dX4_beamsOf_22 rfl ?_
    refine ax_aload_n dX4_beamsOf_23 rfl ?_
    refine ax_getI (f := 3) dX4_beamsOf_24 acl_4 wd_484 (by decide) rfl (xs_U_0 hU hok) ?_
    rw [z1]
    refine ax_callV (As := _) (d2 := _) (c1 := 0) (n1 := 0) (c_xbeamsBy (M := M) (y := d c) hok hU ho ht z2 rfl) dX4_beamsOf_27 mX4_beamsBy wd_651 acl_4 (xs_U_0 hU hok) rfl (by omega) (by omega) (by omega) rfl rfl (fun _ _ h => by cases h.1) ?_
    rintro r M9 ⟨h1, h9⟩; cases h1; rw [h9]; clear h9 M9
    refine ax_iret dX4_beamsOf_30 rfl ?_
    refine ⟨?_, vf_0 M⟩
    unfold ev_beam
    rw [if_neg hc]
    rfl
theorem c_dazzles (hok : lo_ok M.2) (hU : xh_U U) (ho : rd_ok r) {c t : Nat} (hc2 : c < 2) (ht : t < 99) (h3 : M.1 U 3 = nI t) (hap : xap M U r t) (ha : xa M (U + 1 + 7 * c) r c) {f : Nat → Int32} (hf : M.1 (U + 1 + 7 * c) 7 = f c) : ax_Met l G kX4_dazzles 1 0 0 M [av_r U, av_r (U + 1 + 7 * c)] (ax_p (av_i (if mt_dz r t f (1 - c) = true then 1 else 0)) M) := by
  have e1 : 1 - (1 - c) = c := by omega
  have h0 := ho.1
  have hoc := ho.2.1 c hc2
  have key : mt_dz r t f (1 - c) = true ↔ (mt_view r t = true ∧ mt_far r t ≤ 15) ∧ (f c = 1 ∨ 5 ≤ r (11 + 2 * c)) := by
    unfold mt_dz mt_near
    rw [e1]
    simp [Bool.and_eq_true, Bool.or_eq_true, decide_eq_true_eq]
  have no : ¬ mt_dz r t f (1 - c) = true → ∀ v, ax_W l G kX4_dazzles (ax_FQ G (ax_p (av_i (if mt_dz r t f (1 - c) = true then 1 else 0)) M)) 1 0 0 M 39 [some (av_r U), some (av_r (U + 1 + 7 * c)), v] [] := by
    intro h v
    refine ax_iconst (v := 0) dX4_dazzles_39 (by decide) ?_
    refine ax_zret dX4_dazzles_40 rfl ?_ ?_
    · exact Or.inl rfl
    · rw [if_neg h]; exact ⟨rfl, rfl⟩
  have yes : mt_dz r t f (1 - c) = true → ∀ v, ax_W l G kX4_dazzles (ax_FQ G (ax_p (av_i (if mt_dz r t f (1 - c) = true then 1 else 0)) M)) 1 0 0 M 35 [some (av_r U), some (av_r (U + 1 + 7 * c)), v] [] := by
    intro h v
    refine ax_iconst (v := 1) dX4_dazzles_35 (by decide) ?_
    refine ax_goto (tgt := 40) dX4_dazzles_36 (by decide) ?_
    refine ax_zret dX4_dazzles_40 rfl ?_ ?_
    · exact Or.inr rfl
    · rw [if_pos h]; exact ⟨rfl, rfl⟩
  refine ax_body (by decide) (Nat.le_of_ble_eq_true rfl) ?_
  refine ax_aload_n dX4_dazzles_0 rfl ?_
  refine ax_aload_n dX4_dazzles_1 rfl ?_
  refine ax_getI (f := 3) dX4_dazzles_2 acl_4 wd_484 (by decide) rfl (xs_U_0 hU hok) ?_
  rw [h3]
  refine ax_callV (As := _) (d2 := _) (c1 := 0) (n1 := 0) (c_apartIn (d := 0) (M := M) hok hU ht hap rfl) dX4_dazzles_5 mX4_apartIn wd_659 acl_4 (xs_U_0 hU hok) rfl (by omega) (by omega) (by omega) rfl rfl (fun _ _ h => by cases h.1) ?_
  rintro r M9 ⟨h1, h9⟩; cases h1; rw [h9]; clear h9 M9
  refine ax_istore_n dX4_dazzles_8 (by decide) rfl ?_
  refine ax_iload_n dX4_dazzles_9 rfl ?_
  refine ax_if_le (tgt := 39) dX4_dazzles_10 (by decide) (fun hc => ?_) (fun hc => ?_)
  · exact no (fun q => (xap_le ho).mp hc (key.mp q).1.1) _
  have hv := dn (fun z => hc ((xap_le ho).mpr z))
  clear hc
  have hfb := xap_b ho hv
  rw [if_pos hv]
  refine ax_iload_n dX4_dazzles_13 rfl ?_
  refine ax_bipush (v := 15) dX4_dazzles_14 (by decide) ?_
  refine ax_icmp_gt (tgt := 39) dX4_dazzles_16 (by decide) (fun hc => ?_) (fun hc => ?_)
  · have := (iI_lt (a := 15) (by unfold iI_b; omega) (by unfold iI_b; omega)).mp hc
    exact no (fun q => by have := (key.mp q).1.2; omega) _
  have h15 : ¬ 15 < mt_far r t := fun q => hc ((iI_lt (a := 15) (by unfold iI_b; omega) (by unfold iI_b; omega)).mpr q)
  clear hc
  refine ax_aload_n dX4_dazzles_19 rfl ?_
  refine ax_getIN (f := 7) dX4_dazzles_20 acl_8 wd_433 (by decide) rfl (xs_T_0 (xh_UT hU hc2) hok) ?_
  refine ax_iconst (v := 1) dX4_dazzles_23 (by decide) ?_
  rw [hf]
  refine ax_icmp_eq (tgt := 35) dX4_dazzles_24 (by decide) (fun hc => ?_) (fun hc => ?_)
  · exact yes (key.mpr ⟨⟨hv, by omega⟩, Or.inl hc⟩) _
  have hf1 := hc
  clear hc
  have hcr : (c : Int) < r 1 := by
    have h1 := (mt_on_iff.mp (mt_view_iff.mp hv).2.1).1
    omega
  refine ax_aload_n dX4_dazzles_27 rfl ?_
  refine ax_getIN (f := 5) dX4_dazzles_28 acl_8 wd_429 (by decide) rfl (xs_T_0 (xh_UT hU hc2) hok) ?_
  refine ax_iconst (v := 5) dX4_dazzles_31 (by decide) ?_
  rw [(ha.2.2.2 hcr).2.2]
  unfold rd_oc at hoc
  refine ax_icmp_lt (tgt := 39) dX4_dazzles_32 (by decide) (fun hc => ?_) (fun hc => ?_)
  · have := (iI_lt (b := 5) (by unfold iI_b; omega) (by unfold iI_b; omega)).mp hc
    exact no (fun q => by rcases (key.mp q).2 with z | z; exact hf1 z; omega) _
  · have : ¬ r (11 + 2 * c) < 5 := fun q => hc ((iI_lt (b := 5) (by unfold iI_b; omega) (by unfold iI_b; omega)).mpr q)
    exact yes (key.mpr ⟨⟨hv, by omega⟩, Or.inr (by omega)⟩) _
/-- a tenth as a trip keeps it -/
def xrw (M : ax_M) (T : Nat) (r : Nat → Int) (lw : mt_L) (d : Nat → Int32) (c u : Nat) : Prop := M.1 (T + 1) u = iI (mt_pos r c u) ∧ M.1 (T + 2) u = mt_f r lw d c u ∧ M.1 (T + 3) u = iI (mt_b r lw d c u) ∧ M.1 (T + 4) u = iI (mt_si r lw d c u) ∧ M.1 (T + 5) u = iI (mt_stop r c u) ∧ M.1 (T + 6) u = if mt_dz r u (fun q => mt_f r lw d q u) (1 - c) = true then 1 else 0
theorem xrw_fr {M M2 : ax_M} {T c u : Nat} {r : Nat → Int} {lw : mt_L} {d : Nat → Int32} (h : xrw M T r lw d c u) (hf : ∀ n, T + 1 ≤ n → n ≤ T + 6 → M2.1 n u = M.1 n u) : xrw M2 T r lw d c u := ⟨(hf _ (by omega) (by omega)).trans h.1, (hf _ (by omega) (by omega)).trans h.2.1, (hf _ (by omega) (by omega)).trans h.2.2.1, (hf _ (by omega) (by omega)).trans h.2.2.2.1, (hf _ (by omega) (by omega)).trans h.2.2.2.2.1, (hf _ (by omega) (by omega)).trans h.2.2.2.2.2⟩
theorem c_tkeep (hok : lo_ok M.2) (hT : xh_T T) (hR : xh_R R) (hr : xr M R r) (ho : rd_ok r) {c t : Nat} (hc2 : c < 2) (ht : t < 99) (ha : xa M T r c) (hcc : xc M T r c t) (hcr : (c : Int) < r 1) {f si : Int32} {b : Int} (h7 : M.1 T 7 = f) (h8 : M.1 T 8 = iI b) {q : Prop} [Decidable q] {x : Int32} (hx : x = nI t) : ax_Met l G kX8_keep 2 0 0 M [av_r T, av_r R, av_i x, av_i si, av_i (if q then 1 else 0)] (fun o M2 => o = .inl none ∧ M2.2 = M.2 ∧ (∀ n i, ¬ (n = T ∧ i = 9) → ¬ (T + 1 ≤ n ∧ n ≤ T + 6 ∧ i = t) → M2.1 n i = M.1 n i) ∧ M2.1 T 9 = nI (t + 1) ∧ M2.1 (T + 1) t = iI (mt_pos r c t) ∧ M2.1 (T + 2) t = f ∧ M2.1 (T + 3) t = iI b ∧ M2.1 (T + 4) t = si ∧ M2.1 (T + 5) t = iI (mt_stop r c t) ∧ M2.1 (T + 6) t = if q then 1 else 0) := by
  subst hx
  have hTR : ∀ n, R ≤ n → n ≤ R + 7 → n < T := fun n a b => by unfold xh_T at hT; unfold xh_R at hR; omega
  have hpc := mt_pos_ib ho (c := c) (t := t) hc2 (by omega)
  obtain ⟨a1, a2, a3, a4⟩ := ha
  obtain ⟨a4, a5, a6⟩ := a4 hcr
  refine ax_body (by decide) (Nat.le_of_ble_eq_true rfl) ?_
  refine ax_iload_n dX8_keep_0 rfl ?_
  refine ax_if_lt (tgt := 10) dX8_keep_1 (by decide) (fun hc => ?_) (fun hc => ?_)
  · exact absurd ((nI_ltI (b := 0) (by omega) (by omega)).mp hc) (by omega)
  clear hc
  refine ax_iload_n dX8_keep_4 rfl ?_
  refine ax_bipush (v := 99) dX8_keep_5 (by decide) ?_
  refine ax_icmp_lt (tgt := 11) dX8_keep_7 (by decide) (fun hc => ?_) (fun hc => ?_)
  rotate_left
  · exact absurd ((nI_ltI (b := 99) (by omega) (by omega)).mpr (by omega)) hc
  clear hc
  refine ax_aload_n dX8_keep_11 rfl ?_
  refine ax_getK (f := 10) (T + 1) dX8_keep_12 acl_8 wd_438 (by decide) rfl (xs_T_0 hT hok) (xr_T_10 hT hok) ?_
  refine ax_iload_n dX8_keep_15 rfl ?_
  refine ax_aload_n dX8_keep_16 rfl ?_
  refine ax_getI (f := 6) dX8_keep_17 acl_8 wd_430 (by decide) rfl (xs_T_0 hT hok) ?_
  refine ax_iastN (t) dX8_keep_20 (xs_T_1 hT hok) (by decide) (by first | with_reducible rfl | assumption | exact ax_nix (by simp only [nx_0, nx_1, nx_2, nx_3, nx_4, nx_10, nx_20, nx_21, nx_100, nI_add, pk_mul] <;> rfl) (by omega) | decide) (by omega) ?_
  refine ax_gen (fun M1 hM1 => ?_)
  have hok : lo_ok M1.2 := by rw [hM1]; exact hok
  refine ax_aload_n dX8_keep_21 rfl ?_
  refine ax_getK (f := 11) (T + 2) dX8_keep_22 acl_8 wd_440 (by decide) rfl (xs_T_0 hT hok) (xr_T_11 hT hok) ?_
  refine ax_iload_n dX8_keep_25 rfl ?_
  refine ax_aload_n dX8_keep_26 rfl ?_
  refine ax_getI (f := 7) dX8_keep_27 acl_8 wd_432 (by decide) rfl (xs_T_0 hT hok) ?_
  refine ax_iastN (t) dX8_keep_30 (xs_T_2 hT hok) (by decide) (by first | with_reducible rfl | assumption | exact ax_nix (by simp only [nx_0, nx_1, nx_2, nx_3, nx_4, nx_10, nx_20, nx_21, nx_100, nI_add, pk_mul] <;> rfl) (by omega) | decide) (by omega) ?_
  refine ax_gen (fun M2 hM2 => ?_)
  have hok : lo_ok M2.2 := by rw [hM2]; exact hok
  refine ax_aload_n dX8_keep_31 rfl ?_
  refine ax_getK (f := 12) (T + 3) dX8_keep_32 acl_8 wd_442 (by decide) rfl (xs_T_0 hT hok) (xr_T_12 hT hok) ?_
  refine ax_iload_n dX8_keep_35 rfl ?_
  refine ax_aload_n dX8_keep_36 rfl ?_
  refine ax_getI (f := 8) dX8_keep_37 acl_8 wd_434 (by decide) rfl (xs_T_0 hT hok) ?_
  refine ax_iastN (t) dX8_keep_40 (xs_T_3 hT hok) (by decide) (by first | with_reducible rfl | assumption | exact ax_nix (by simp only [nx_0, nx_1, nx_2, nx_3, nx_4, nx_10, nx_20, nx_21, nx_100, nI_add, pk_mul] <;> rfl) (by omega) | decide) (by omega) ?_
  refine ax_gen (fun M3 hM3 => ?_)
  have hok : lo_ok M3.2 := by rw [hM3]; exact hok
  refine ax_aload_n dX8_keep_41 rfl ?_
  refine ax_getK (f := 13) (T + 4) dX8_keep_42 acl_8 wd_444 (by decide) rfl (xs_T_0 hT hok) (xr_T_13 hT hok) ?_
  refine ax_iload_n dX8_keep_45 rfl ?_
  refine ax_iload_n dX8_keep_46 rfl ?_
  refine ax_iastN (t) dX8_keep_47 (xs_T_4 hT hok) (by decide) (by first | with_reducible rfl | assumption | exact ax_nix (by simp only [nx_0, nx_1, nx_2, nx_3, nx_4, nx_10, nx_20, nx_21, nx_100, nI_add, pk_mul] <;> rfl) (by omega) | decide) (by omega) ?_
  refine ax_gen (fun M4 hM4 => ?_)
  have hok : lo_ok M4.2 := by rw [hM4]; exact hok
  have k4 : ∀ n i, ¬ (T + 1 ≤ n ∧ n ≤ T + 4 ∧ i = t) → M4.1 n i = M.1 n i := fun n i z => by rw [hM4, ax_pn (by omega), hM3, ax_pn (by omega), hM2, ax_pn (by omega), hM1, ax_pn (by omega)]
  have r4 : xr M4 R r := xr_fr hr (fun n i a b => k4 n i (by have := hTR n a b; omega))
  refine ax_aload_n dX8_keep_48 rfl ?_
  refine ax_getK (f := 14) (T + 5) dX8_keep_49 acl_8 wd_446 (by decide) rfl (xs_T_0 hT hok) (xr_T_14 hT hok) ?_
  refine ax_iload_n dX8_keep_52 rfl ?_
  refine ax_aload_n dX8_keep_53 rfl ?_
  refine ax_aload_n dX8_keep_54 rfl ?_
  refine ax_getI (f := 6) dX8_keep_55 acl_8 wd_430 (by decide) rfl (xs_T_0 hT hok) ?_
  rw [k4 T 6 (by omega), hcc hcr]
  refine ax_callVN (As := _) (d2 := _) (c1 := 0) (n1 := 0) (c_wetAt (M := M4) hok hR r4 ho hpc rfl) dX8_keep_58 mX5_wetAt wd_725 acl_5 (xs_R_0 hR hok) rfl (by omega) (by omega) (by omega) rfl rfl (fun _ _ h => by cases h.1) ?_
  rintro r M9 ⟨h1, h9⟩; cases h1; rw [h9]; clear h9 M9
  refine ax_iconst (v := 1) dX8_keep_61 (by decide) ?_
  refine ax_join2 (rd_wet r (mt_pos r c t) = true) 70 (4) (2) ?_ (fun ja jb => ?_)
  rotate_left
  · refine ax_icmp_ne (tgt := 69) dX8_keep_62 (by decide) (fun h62 => ?_) (fun h62 => ?_)
    · refine ax_iconst (v := 2) dX8_keep_69 (by decide) ?_
      first | exact jb (fun z => h62 (by rw [if_pos z])) | exact ja (by by_cases z : rd_wet r (mt_pos r c t) = true; exact z; rw [if_neg z] at h62; exact absurd h62 (by decide))
    · refine ax_iconst (v := 4) dX8_keep_65 (by decide) ?_
      refine ax_goto (tgt := 70) dX8_keep_66 (by decide) ?_
      first | exact jb (fun z => h62 (by rw [if_pos z])) | exact ja (by by_cases z : rd_wet r (mt_pos r c t) = true; exact z; rw [if_neg z] at h62; exact absurd h62 (by decide))
  refine ax_aload_n dX8_keep_70 rfl ?_
  refine ax_getI (f := 4) dX8_keep_71 acl_8 wd_426 (by decide) rfl (xs_T_0 hT hok) ?_
  rw [k4 T 4 (by omega), a5]
  have es : (if rd_wet r (mt_pos r c t) = true then (4 : Int32) else 2) * iI (r (10 + 2 * c)) = iI (mt_stop r c t) := by
    unfold mt_stop
    rw [show (if rd_wet r (mt_pos r c t) = true then (4 : Int32) else 2) = iI (if rd_wet r (mt_pos r c t) = true then 4 else 2) by split <;> rfl, iI_mul, Int.mul_comm]
  refine ax_imul dX8_keep_74 ?_
  rw [es]
  refine ax_iastN (t) dX8_keep_75 (xs_T_5 hT hok) (by decide) (by first | with_reducible rfl | assumption | exact ax_nix (by simp only [nx_0, nx_1, nx_2, nx_3, nx_4, nx_10, nx_20, nx_21, nx_100, nI_add, pk_mul] <;> rfl) (by omega) | decide) (by omega) ?_
  refine ax_gen (fun M5 hM5 => ?_)
  have hok : lo_ok M5.2 := by rw [hM5]; exact hok
  refine ax_aload_n dX8_keep_76 rfl ?_
  refine ax_getK (f := 15) (T + 6) dX8_keep_77 acl_8 wd_447 (by decide) rfl (xs_T_0 hT hok) (xr_T_15 hT hok) ?_
  refine ax_iload_n dX8_keep_80 rfl ?_
  refine ax_iload dX8_keep_81 rfl ?_
  refine ax_join1 (q) 91 (1) (0) ?_ (fun ja jb => ?_)
  rotate_left
  · refine ax_ifB_eq (tgt := 90) dX8_keep_83 (by decide) (fun h83 => ?_) (fun h83 => ?_)
    · refine ax_iconst (v := 0) dX8_keep_90 (by decide) ?_
      first | exact ja h83 | exact jb h83
    · refine ax_iconst (v := 1) dX8_keep_86 (by decide) ?_
      refine ax_goto (tgt := 91) dX8_keep_87 (by decide) ?_
      first | exact ja h83 | exact jb h83
  refine ax_iastN (t) dX8_keep_91 (xs_T_6 hT hok) (by decide) (by first | with_reducible rfl | assumption | exact ax_nix (by simp only [nx_0, nx_1, nx_2, nx_3, nx_4, nx_10, nx_20, nx_21, nx_100, nI_add, pk_mul] <;> rfl) (by omega) | decide) (by omega) ?_
  refine ax_gen (fun M6 hM6 => ?_)
  have hok : lo_ok M6.2 := by rw [hM6]; exact hok
  refine ax_aload_n dX8_keep_92 rfl ?_
  refine ax_iload_n dX8_keep_93 rfl ?_
  refine ax_iconst (v := 1) dX8_keep_94 (by decide) ?_
  refine ax_iadd dX8_keep_95 ?_
  rw [nI_1]
  refine ax_putI (f := 9) dX8_keep_96 acl_8 wd_436 (by decide) rfl rfl (ax_nfI rfl) (xs_T_0 hT hok) ?_
  refine ax_gen (fun M7 hM7 => ?_)
  have hok : lo_ok M7.2 := by rw [hM7]; exact hok
  refine ax_vret dX8_keep_99 rfl ?_
  have k6 : ∀ n i, ¬ (T + 5 ≤ n ∧ n ≤ T + 6 ∧ i = t) → M6.1 n i = M4.1 n i := fun n i z => by rw [hM6, ax_pn (by omega), hM5, ax_pn (by omega)]
  have k7 : ∀ n i, ¬ (n = T ∧ i = 9) → M7.1 n i = M6.1 n i := fun n i z => by rw [hM7, ax_pn z]
  refine ⟨rfl, by rw [hM7, hM6, hM5, hM4, hM3, hM2, hM1]; rfl, fun n i z1 z2 => by rw [k7 n i z1, k6 n i (by omega), k4 n i (by omega)], by rw [hM7, ax_pa], ?_, ?_, ?_, ?_, ?_, ?_⟩
  · rw [k7 _ _ (by omega), k6 _ _ (by omega), hM4, ax_pn (by omega), hM3, ax_pn (by omega), hM2, ax_pn (by omega), hM1, ax_pa]; exact hcc hcr
  · rw [k7 _ _ (by omega), k6 _ _ (by omega), hM4, ax_pn (by omega), hM3, ax_pn (by omega), hM2, ax_pa, hM1, ax_pn (by omega)]; exact h7
  · rw [k7 _ _ (by omega), k6 _ _ (by omega), hM4, ax_pn (by omega), hM3, ax_pa, hM2, ax_pn (by omega), hM1, ax_pn (by omega)]; exact h8
  · rw [k7 _ _ (by omega), k6 _ _ (by omega), hM4, ax_pa]
  · rw [k7 _ _ (by omega), hM6, ax_pn (by omega), hM5, ax_pa]
  · rw [k7 _ _ (by omega), hM6, ax_pa]
theorem c_mkeep (hx : xk M.2 p) (hU : xh_U U) (hr : xr M (p 0) r) (ho : rd_ok r) (hl : xlw M p lw) {c t : Nat} (hc2 : c < 2) (ht : t < 99) {d : Nat → Int32} (hz : xz9 M U r t (mt_s r lw d (t + 1))) : ax_Met l G kX4_keep 3 0 0 M [av_r U, av_r 4, av_r (U + 1 + 7 * c), av_i (if mt_dz r t (fun q => mt_f r lw d q t) (1 - c) = true then 1 else 0)] (fun o M2 => o = .inl none ∧ M2.2 = M.2 ∧ (∀ n i, ¬ fs n → n ≠ 22 → ¬ (n = U + 1 + 7 * c ∧ i = 9) → ¬ (U + 1 + 7 * c + 1 ≤ n ∧ n ≤ U + 1 + 7 * c + 6 ∧ i = t) → M2.1 n i = M.1 n i) ∧ (mt_on r c t = true → xrw M2 (U + 1 + 7 * c) r lw d c t ∧ M2.1 (U + 1 + 7 * c) 9 = nI (t + 1)) ∧ (mt_on r c t = false → M2.1 (U + 1 + 7 * c) 9 = M.1 (U + 1 + 7 * c) 9)) := by
  have hok := hx.1
  obtain ⟨z1, z2, z3, z4⟩ := hz
  obtain ⟨a1, a2, a3, b, a4, a5, a6, a7⟩ := z4 c hc2
  have o7 := (z4 (1 - c) (by omega)).2.2.1
  have hUn : 40 ≤ U ∧ U ≤ 56 := by unfold xh_U at hU; omega
  refine ax_body (by decide) (Nat.le_of_ble_eq_true rfl) ?_
  refine ax_aload_n dX4_keep_0 rfl ?_
  refine ax_aload_n dX4_keep_1 rfl ?_
  refine ax_getKN (f := 0) (p 0) dX4_keep_2 acl_7 wd_366 (by decide) rfl (lo_s hok 4 rfl) (xk_r0 hx) ?_
  refine ax_callVN (As := _) (d2 := _) (c1 := 0) (n1 := 0) (c_xisOn (M := M) (t := t) hok (xh_UT hU hc2) (xk_b0 hx) hr ho hc2 (by omega) a1 a2) dX4_keep_5 mX8_isOn wd_625 acl_8 (xs_T_0 (xh_UT hU hc2) hok) rfl (by omega) (by omega) (by omega) rfl rfl (fun _ _ h => by cases h.1) ?_
  rintro r M9 ⟨h1, h9⟩; cases h1; rw [h9]; clear h9 M9
  refine ax_ifB_eq (tgt := 34) dX4_keep_8 (by decide) (fun hc => ?_) (fun hc => ?_)
  · refine ax_vret dX4_keep_34 rfl ?_
    exact ⟨rfl, rfl, fun _ _ _ _ _ _ => rfl, fun q => absurd q hc, fun _ => rfl⟩
  have on := hc
  clear hc
  have hcr := (mt_on_iff.mp on).1
  have hb := a7 on
  subst hb
  refine ax_aload_n dX4_keep_11 rfl ?_
  refine ax_aload_n dX4_keep_12 rfl ?_
  refine ax_aload_n dX4_keep_13 rfl ?_
  refine ax_callV (As := _) (d2 := _) (c1 := 0) (n1 := 0) (c_tellValues (M := M) hx hU hr ho hc2 ht a1 a2 hcr a3 a4 o7 z1 z2 z3) dX4_keep_14 mX4_tellValues wd_663 acl_4 (xs_U_0 hU hok) rfl (by omega) (by omega) (by omega) rfl rfl (fun _ _ h => by cases h.1) ?_
  rintro o9 M1 ⟨h1, g1⟩; cases h1
  have hx : xk M1.2 p := by rw [g1.1]; exact hx
  have hok := hx.1
  have v1 : vf M M1 := ⟨g1.1, fun n i _ b => g1.2.1 n i b⟩
  have l1 := vf_xlw hx.2.1 v1 hl
  refine ax_aload_n dX4_keep_17 rfl ?_
  refine ax_aload_n dX4_keep_18 rfl ?_
  refine ax_getKN (f := 0) (p 0) dX4_keep_19 acl_7 wd_366 (by decide) rfl (lo_s hok 4 rfl) (xk_r0 hx) ?_
  refine ax_aload_n dX4_keep_22 rfl ?_
  refine ax_getI (f := 3) dX4_keep_23 acl_4 wd_484 (by decide) rfl (xs_U_0 hU hok) ?_
  rw [vf_U hU v1 (by omega), z1]
  refine ax_aload_n dX4_keep_26 rfl ?_
  have hk2 : ¬ M1.1 22 2 + 1 = 0 := by
    rw [g1.2.2 2 (by decide)]
    show ¬ iI _ + 1 = 0
    rw [show (1 : Int32) = iI 1 from rfl, iI_add, show (0 : Int32) = iI 0 from rfl, iI_eq (by unfold iI_b; omega) (by unfold iI_b; omega)]
    omega
  refine ax_callVN (As := _) (d2 := _) (c1 := 0) (n1 := 0) (c_sightByLaw (M := M1) hx l1.1 hk2) dX4_keep_27 mX7_sightByLaw wd_715 acl_7 (lo_s hok 4 rfl) rfl (by omega) (by omega) (by omega) rfl rfl (fun _ _ h => by cases h.1) ?_
  rintro o9 M2 ⟨h1, h2, h3⟩; cases h1
  have v2 : vf M M2 := vf_tr v1 ⟨h2, fun n i a _ => h3 n i a⟩
  have hx : xk M2.2 p := by rw [h2]; exact hx
  have hok := hx.1
  have r2 := vf_xr (xk_b0 hx) v2 hr
  have a12 : xa M2 (U + 1 + 7 * c) r c := xa_fr a1 (fun i hi => vf_U hU v2 (by omega))
  have c12 : xc M2 (U + 1 + 7 * c) r c t := fun q => (vf_U hU v2 (by omega)).trans (a2 q)
  have esi : ev_sight (lw 0) (M1.1 22) = iI (mt_si r lw d c t) := by
    unfold mt_si
    rw [iI_of]
    exact ev_sight_cong g1.2.2 (xlw_ev hl 0 (by omega))
  rw [esi]
  refine ax_iload_n dX4_keep_30 rfl ?_
  refine ax_callVN (As := _) (d2 := _) (c1 := 0) (n1 := 0) (c_tkeep (M := M2) (q := mt_dz r t (fun q => mt_f r lw d q t) (1 - c) = true) hok (xh_UT hU hc2) (xk_b0 hx) r2 ho hc2 ht a12 c12 hcr ((vf_U hU v2 (by omega)).trans a3) ((vf_U hU v2 (by omega)).trans a4) rfl) dX4_keep_31 mX8_keep wd_721 acl_8 (xs_T_0 (xh_UT hU hc2) hok) rfl (by omega) (by omega) (by omega) rfl rfl (fun _ _ h => by cases h.1) ?_
  rintro o9 M3 ⟨h1, h4, h5, h6, b1, b2, b3, b4, b5, b6⟩; cases h1
  refine ax_vret dX4_keep_34 rfl ?_
  refine ⟨rfl, h4.trans v2.1, fun n i q1 q2 q3 q4 => (h5 n i q3 q4).trans (v2.2 n i q1 q2), fun _ => ⟨⟨b1, b2, b3, b4, b5, b6⟩, h6⟩, fun q => by rw [on] at q; cases q⟩
end XO

