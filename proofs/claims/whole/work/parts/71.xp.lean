/-! ===== a meeting gone through: the class ===== -/
def xs9 (M : ax_M) (U : Nat) (r : Nat → Int) (lw : mt_L) (d : Nat → Int32) (t : Nat) : Prop := M.1 U 3 = nI t ∧ M.1 U 4 = mt_sb (mt_ps r t) ∧ (∀ u, u < t → xap M U r u) ∧ ∀ c, c < 2 → xa M (U + 1 + 7 * c) r c ∧ xc M (U + 1 + 7 * c) r c t ∧ M.1 (U + 1 + 7 * c) 7 = (mt_s r lw d t).2 c ∧ (∃ b : Int, M.1 (U + 1 + 7 * c) 8 = iI b ∧ 0 ≤ b ∧ b ≤ 20 ∧ (mt_on r c t = true → b = (mt_s r lw d t).1 c)) ∧ M.1 (U + 1 + 7 * c) 9 = nI (min t (tn r c)) ∧ ∀ u, u < t → mt_on r c u = true → xrw M (U + 1 + 7 * c) r lw d c u
/-- a meeting that was gone through -/
def xmt (M : ax_M) (U : Nat) (r : Nat → Int) (lw : mt_L) (d : Nat → Int32) : Prop := M.1 U 3 = nI (mt_T r) ∧ M.1 U 4 = mt_sb (mt_ps r (mt_T r)) ∧ (∀ u, u < mt_T r → xap M U r u) ∧ ∀ c, c < 2 → xa M (U + 1 + 7 * c) r c ∧ M.1 (U + 1 + 7 * c) 9 = nI (tn r c) ∧ ∀ u, u < tn r c → xrw M (U + 1 + 7 * c) r lw d c u
/-- who a trip is, and which way it goes -/
def xw (M : ax_M) (U : Nat) : Prop := M.1 (U + 1) 0 = 0 ∧ M.1 (U + 1) 1 = 1 ∧ M.1 (U + 8) 0 = 1 ∧ M.1 (U + 8) 1 = -1
def uf (U : Nat) (M M2 : ax_M) : Prop := M2.2 = M.2 ∧ ∀ n i, ¬ fs n → n ≠ 22 → ¬ (U ≤ n ∧ n ≤ U + 15) → M2.1 n i = M.1 n i
theorem uf_tr {U : Nat} {M M1 M2 : ax_M} (h1 : uf U M M1) (h2 : uf U M1 M2) : uf U M M2 := ⟨h2.1.trans h1.1, fun n i a b c => (h2.2 n i a b c).trans (h1.2 n i a b c)⟩
theorem uf_vf {U : Nat} {M M2 : ax_M} (h : vf M M2) : uf U M M2 := ⟨h.1, fun n i a b _ => h.2 n i a b⟩
theorem uf_0 (U : Nat) (M : ax_M) : uf U M M := ⟨rfl, fun _ _ _ _ _ => rfl⟩
theorem uf_xr {U : Nat} {M M2 : ax_M} {R : Nat} {r : Nat → Int} (hU : xh_U U) (hR : xh_R R) (h : uf U M M2) (hr : xr M R r) : xr M2 R r := xr_fr hr (fun n i a b => h.2 n i (by unfold xh_R at hR; unfold fs; omega) (by unfold xh_R at hR; omega) (by unfold xh_R at hR; unfold xh_U at hU; omega))
theorem uf_xlw {U : Nat} {M M2 : ax_M} {p : Nat → Nat} {lw : mt_L} (hU : xh_U U) (hx : xp p) (h : uf U M M2) (hl : xlw M p lw) : xlw M2 p lw := xlw_fr hx hl (fun n i q a b => h.2 n i a b (by unfold xh_U at hU; omega))
theorem mt_bf_e {r : Nat → Int} (ho : rd_ok r) {c : Nat} (hc : c < 2) : iI (r 35) + iI (r (40 + c)) / 20 = iI (mt_bf r c) := by
  have h2 := ho.2.1 c hc
  unfold rd_oc at h2
  rw [iI_d20 (by omega) (by omega), iI_add]; rfl
section XP
variable {l : Launch} {G : ax_G} {M : ax_M} {p : Nat → Nat} {r : Nat → Int} {U : Nat} {lw : mt_L}
set_option maxHeartbeats 4000000 in
theorem c_run (hx : xk M.2 p) (hU : xh_U U) (hr : xr M (p 0) r) (ho : rd_ok r) (hl : xlw M p lw) (hw : xw M U) (y0 y1 : Int32) : ax_Met l G kX4_run 4 0 0 M [av_r U, av_r 4, av_i y0, av_i y1] (fun o M2 => o = .inl none ∧ uf U M M2 ∧ xmt M2 U r lw (mt_d y0 y1)) := by
  have hok := hx.1
  have hR := xk_b0 hx
  have hUn : 40 ≤ U ∧ U ≤ 56 := by unfold xh_U at hU; omega
  have hpR : ∀ n, p 0 ≤ n → n ≤ p 0 + 7 → n < 40 ∧ n ≠ 22 := fun n a b => by unfold xh_R at hR; omega
  have hT60 := T_60 ho
  generalize hd : mt_d y0 y1 = d
  have d0 : y0 = d 0 := by rw [← hd]; rfl
  have d1 : y1 = d 1 := by rw [← hd]; rfl
  have nfs : ∀ n, U ≤ n → ¬ fs n := fun n h => by unfold fs; omega
  -- one tenth after the other
  have loop : ∀ (m t : Nat) (N : ax_M) (z5 z6 z7 z8 : Option ax_V), t + m = mt_T r → xs9 N U r lw d t → uf U M N → ax_W l G kX4_run (ax_FQ G (fun o M2 => o = .inl none ∧ uf U M M2 ∧ xmt M2 U r lw d)) 4 0 0 N 34 [some (av_r U), some (av_r 4), some (av_i y0), some (av_i y1), some (av_r (p 0)), z5, z6, z7, z8] [] := by
    intro m
    induction m with
    | zero =>
      intro t N z5 z6 z7 z8 htm hs hf
      have ht : t = mt_T r := by omega
      have hx : xk N.2 p := by rw [hf.1]; exact hx
      have hok := hx.1
      have hrN := uf_xr hU hR hf hr
      obtain ⟨s1, s2, s3, s4⟩ := hs
      obtain ⟨a0, c0, -⟩ := s4 0 (by decide)
      obtain ⟨a1, c1, -⟩ := s4 1 (by decide)
      have n0 : ¬ mt_on r 0 t = true := fun q => by have := (T_tn ho t).mpr (Or.inl ((tn_on ho (by decide) t).mp q)); omega
      have n1 : ¬ mt_on r 1 t = true := fun q => by have := (T_tn ho t).mpr (Or.inr ((tn_on ho (by decide) t).mp q)); omega
      refine ax_aload_n dX4_run_34 rfl ?_
      refine ax_getI (f := 3) dX4_run_35 acl_4 wd_484 (by decide) rfl (xs_U_0 hU hok) ?_
      refine ax_bipush (v := 99) dX4_run_38 (by decide) ?_
      rw [s1]
      refine ax_icmp_ge (tgt := 254) dX4_run_40 (by decide) (fun hc => ?_) (fun hc => ?_)
      · exact absurd ((nI_leI (a := 99) (by omega) (by omega)).mp hc) (by omega)
      clear hc
      refine ax_aload_n dX4_run_43 rfl ?_
      refine ax_getK (f := 0) (U + 1) dX4_run_44 acl_4 wd_481 (by decide) rfl (xs_U_0 hU hok) (xr_U_0 hU hok) ?_
      refine ax_aload dX4_run_47 rfl ?_
      refine ax_callVN (As := _) (d2 := _) (c1 := 0) (n1 := 0) (c_xisOn (M := N) (c := 0) (t := t) hok (xh_UT0 hU) hR hrN ho (by decide) (by omega) a0 c0) dX4_run_49 mX8_isOn wd_625 acl_8 (xs_T_0 (xh_UT0 hU) hok) rfl (by omega) (by omega) (by omega) rfl rfl (fun _ _ h => by cases h.1) ?_
      rintro r M9 ⟨h1, h9⟩; cases h1; rw [h9]; clear h9 M9
      refine ax_ifB_ne (tgt := 67) dX4_run_52 (by decide) (fun hc => ?_) (fun hc => ?_)
      · exact absurd hc n0
      clear hc
      refine ax_aload_n dX4_run_55 rfl ?_
      refine ax_getK (f := 1) (U + 8) dX4_run_56 acl_4 wd_482 (by decide) rfl (xs_U_0 hU hok) (xr_U_1 hU hok) ?_
      refine ax_aload dX4_run_59 rfl ?_
      refine ax_callVN (As := _) (d2 := _) (c1 := 0) (n1 := 0) (c_xisOn (M := N) (c := 1) (t := t) hok (xh_UT1 hU) hR hrN ho (by decide) (by omega) a1 c1) dX4_run_61 mX8_isOn wd_625 acl_8 (xs_T_0 (xh_UT1 hU) hok) rfl (by omega) (by omega) (by omega) rfl rfl (fun _ _ h => by cases h.1) ?_
      rintro r M9 ⟨h1, h9⟩; cases h1; rw [h9]; clear h9 M9
      refine ax_ifB_eq (tgt := 254) dX4_run_64 (by decide) (fun hc => ?_) (fun hc => ?_)
      rotate_left
      · exact absurd hc n1
      refine ax_vret dX4_run_254 rfl ?_
      refine ⟨rfl, hf, by rw [← ht]; exact s1, by rw [← ht]; exact s2, by rw [← ht]; exact s3, fun c hc2 => ?_⟩
      obtain ⟨b1, b2, b3, b4, b5, b6⟩ := s4 c hc2
      have hle := tn_T ho hc2
      exact ⟨b1, by rw [b5]; congr 1; omega, fun u hu => b6 u (by omega) ((tn_on ho hc2 u).mpr hu)⟩
    | succ m ih =>
      intro t N z5 z6 z7 z8 htm hs hf
      have hlt : t < mt_T r := by omega
      have hx : xk N.2 p := by rw [hf.1]; exact hx
      have hok := hx.1
      have hrN := uf_xr hU hR hf hr
      have hlN := uf_xlw hU hx.2.1 hf hl
      obtain ⟨s1, s2, s3, s4⟩ := hs
      obtain ⟨a0, c0, -⟩ := s4 0 (by decide)
      obtain ⟨a1, c1, -⟩ := s4 1 (by decide)
      -- the tenth
      have tenth : ax_W l G kX4_run (ax_FQ G (fun o M2 => o = .inl none ∧ uf U M M2 ∧ xmt M2 U r lw d)) 4 0 0 N 67 [some (av_r U), some (av_r 4), some (av_i y0), some (av_i y1), some (av_r (p 0)), z5, z6, z7, z8] [] := by
        refine ax_aload_n dX4_run_67 rfl ?_
        refine ax_aload dX4_run_68 rfl ?_
        refine ax_aload_n dX4_run_70 rfl ?_
        refine ax_getI (f := 3) dX4_run_71 acl_4 wd_484 (by decide) rfl (xs_U_0 hU hok) ?_
        rw [s1]
        refine ax_callV (As := _) (d2 := _) (c1 := 0) (n1 := 0) (c_measure (M := N) hok hU hR hrN ho (t := t) (by omega) (fun c hc2 => ⟨(s4 c hc2).1, (s4 c hc2).2.1⟩) s2 rfl) dX4_run_74 mX4_measure wd_633 acl_4 (xs_U_0 hU hok) rfl (by omega) (by omega) (by omega) rfl rfl (fun _ _ h => by cases h.1) ?_
        rintro o9 N1 ⟨h1, e1, e2, e3, e4⟩; cases h1
        have hx : xk N1.2 p := by rw [e1]; exact hx
        have hok := hx.1
        have k1 : ∀ n i, U + 1 ≤ n → n ≤ U + 14 → N1.1 n i = N.1 n i := fun n i a b => e2 n i (by omega) (by omega)
        have zz : xz9 N1 U r t (mt_s r lw d t) := by
          refine ⟨by rw [e2 _ _ (by omega) (by omega)]; exact s1, e4, e3, fun c hc2 => ?_⟩
          obtain ⟨b1, b2, b3, ⟨b, b4, b5⟩, -⟩ := s4 c hc2
          exact ⟨xa_fr b1 (fun i _ => k1 _ _ (by omega) (by omega)), fun q => (k1 _ _ (by omega) (by omega)).trans (b2 q), (k1 _ _ (by omega) (by omega)).trans b3, b, (k1 _ _ (by omega) (by omega)).trans b4, b5⟩
        have f1 : uf U M N1 := uf_tr hf ⟨e1, fun n i _ _ c => e2 n i (by omega) (by omega)⟩
        have r1 := uf_xr hU hR f1 hr
        have l1 := uf_xlw hU hx.2.1 f1 hl
        refine ax_aload_n dX4_run_77 rfl ?_
        refine ax_aload_n dX4_run_78 rfl ?_
        refine ax_aload_n dX4_run_79 rfl ?_
        refine ax_getK (f := 0) (U + 1) dX4_run_80 acl_4 wd_481 (by decide) rfl (xs_U_0 hU hok) (xr_U_0 hU hok) ?_
        refine ax_iload_n dX4_run_83 rfl ?_
        refine ax_callV (As := _) (d2 := _) (c1 := 0) (n1 := 0) (c_beamsOf (M := N1) (c := 0) hx hU r1 ho l1 (by decide) (by omega) zz d d0) dX4_run_84 mX4_beamsOf wd_647 acl_4 (xs_U_0 hU hok) rfl (by omega) (by omega) (by omega) rfl rfl (fun _ _ h => by cases h.1) ?_
        rintro o9 N2 ⟨h1, v2⟩; cases h1
        have hx : xk N2.2 p := by rw [v2.1]; exact hx
        have hok := hx.1
        have z2 := xz9_fr zz (fun n i a b => vf_U hU v2 ⟨a, b⟩)
        have f2 := uf_tr f1 (uf_vf v2)
        refine ax_istore dX4_run_87 (by decide) rfl ?_
        refine ax_aload_n dX4_run_89 rfl ?_
        refine ax_aload_n dX4_run_90 rfl ?_
        refine ax_aload_n dX4_run_91 rfl ?_
        refine ax_getK (f := 1) (U + 8) dX4_run_92 acl_4 wd_482 (by decide) rfl (xs_U_0 hU hok) (xr_U_1 hU hok) ?_
        refine ax_iload_n dX4_run_95 rfl ?_
        refine ax_callV (As := _) (d2 := _) (c1 := 0) (n1 := 0) (c_beamsOf (M := N2) (c := 1) hx hU (uf_xr hU hR f2 hr) ho (uf_xlw hU hx.2.1 f2 hl) (by decide) (by omega) z2 d d1) dX4_run_96 mX4_beamsOf wd_647 acl_4 (xs_U_0 hU hok) rfl (by omega) (by omega) (by omega) rfl rfl (fun _ _ h => by cases h.1) ?_
        rintro o9 N3 ⟨h1, v3⟩; cases h1
        have hx : xk N3.2 p := by rw [v3.1]; exact hx
        have hok := hx.1
        have z3 := xz9_fr z2 (fun n i a b => vf_U hU v3 ⟨a, b⟩)
        have f3 := uf_tr f2 (uf_vf v3)
        have k3 : ∀ n i, U + 1 ≤ n → n ≤ U + 14 → N3.1 n i = N.1 n i := fun n i a b => by rw [vf_U hU v3 (by omega), vf_U hU v2 (by omega)]; exact k1 n i a b
        have ap3 : ∀ u, u ≤ t → xap N3 U r u := fun u hu => by
          unfold xap
          rw [vf_U hU v3 (by omega), vf_U hU v2 (by omega)]
          by_cases e : u = t
          · subst e; exact e4
          · rw [e2 _ _ (by omega) (by omega)]; exact s3 u (by omega)
        obtain ⟨w1, w2, w3, w4⟩ := z3
        refine ax_istore dX4_run_99 (by decide) rfl ?_
        refine ax_aload_n dX4_run_101 rfl ?_
        refine ax_getK (f := 0) (U + 1) dX4_run_102 acl_4 wd_481 (by decide) rfl (xs_U_0 hU hok) (xr_U_0 hU hok) ?_
        refine ax_iload dX4_run_105 rfl ?_
        refine ax_putIN (f := 7) dX4_run_107 acl_8 wd_433 (by decide) rfl rfl (ax_nfI rfl) (xs_T_0 (xh_UT0 hU) hok) ?_
        refine ax_gen (fun N4 hN4 => ?_)
        have hok : lo_ok N4.2 := by rw [hN4]; exact hok
        have hx : xk N4.2 p := by rw [hN4]; exact hx
        refine ax_aload_n dX4_run_110 rfl ?_
        refine ax_getK (f := 1) (U + 8) dX4_run_111 acl_4 wd_482 (by decide) rfl (xs_U_0 hU hok) (xr_U_1 hU hok) ?_
        refine ax_iload dX4_run_114 rfl ?_
        refine ax_putIN (f := 7) dX4_run_116 acl_8 wd_433 (by decide) rfl rfl (ax_nfI rfl) (xs_T_0 (xh_UT1 hU) hok) ?_
        refine ax_gen (fun N5 hN5 => ?_)
        have hok : lo_ok N5.2 := by rw [hN5]; exact hok
        have hx : xk N5.2 p := by rw [hN5]; exact hx
        have k5 : ∀ n i, ¬ ((n = U + 1 ∨ n = U + 8) ∧ i = 7) → N5.1 n i = N3.1 n i := fun n i q => by rw [hN5, ax_pn (by omega), hN4, ax_pn (by omega)]
        have b50 : N5.1 (U + 1) 7 = mt_f r lw d 0 t := by rw [hN5, ax_pn (by omega), hN4, ax_pa]; rfl
        have b51 : N5.1 (U + 8) 7 = mt_f r lw d 1 t := by rw [hN5, ax_pa]; rfl
        have a50 : xa N5 (U + 1) r 0 := xa_fr (w4 0 (by decide)).1 (fun i hi => k5 _ _ (by omega))
        have a51 : xa N5 (U + 8) r 1 := xa_fr (w4 1 (by decide)).1 (fun i hi => k5 _ _ (by omega))
        have u5 : N5.1 U 3 = nI t := by rw [k5 _ _ (by omega)]; exact w1
        have p5 : xap N5 U r t := by unfold xap; rw [k5 _ _ (by omega)]; exact w2
        have hx5 : N5.2 = N3.2 := by rw [hN5, hN4]; rfl
        have f5 : uf U M N5 := uf_tr f3 ⟨hx5, fun n i _ _ c => k5 n i (by omega)⟩
        refine ax_aload_n dX4_run_119 rfl ?_
        refine ax_aload_n dX4_run_120 rfl ?_
        refine ax_getK (f := 0) (U + 1) dX4_run_121 acl_4 wd_481 (by decide) rfl (xs_U_0 hU hok) (xr_U_0 hU hok) ?_
        refine ax_callV (As := _) (d2 := _) (c1 := 0) (n1 := 0) (c_dazzles (M := N5) (c := 0) (t := t) (f := fun q => mt_f r lw d q t) hok hU ho (by decide) (by omega) u5 p5 a50 b50) dX4_run_124 mX4_dazzles wd_698 acl_4 (xs_U_0 hU hok) rfl (by omega) (by omega) (by omega) rfl rfl (fun _ _ h => by cases h.1) ?_
        rintro r M9 ⟨h1, h9⟩; cases h1; rw [h9]; clear h9 M9
        refine ax_istore dX4_run_127 (by decide) rfl ?_
        refine ax_aload_n dX4_run_129 rfl ?_
        refine ax_aload_n dX4_run_130 rfl ?_
        refine ax_getK (f := 1) (U + 8) dX4_run_131 acl_4 wd_482 (by decide) rfl (xs_U_0 hU hok) (xr_U_1 hU hok) ?_
        refine ax_callV (As := _) (d2 := _) (c1 := 0) (n1 := 0) (c_dazzles (M := N5) (c := 1) (t := t) (f := fun q => mt_f r lw d q t) hok hU ho (by decide) (by omega) u5 p5 a51 b51) dX4_run_134 mX4_dazzles wd_698 acl_4 (xs_U_0 hU hok) rfl (by omega) (by omega) (by omega) rfl rfl (fun _ _ h => by cases h.1) ?_
        rintro r M9 ⟨h1, h9⟩; cases h1; rw [h9]; clear h9 M9
        obtain ⟨-, -, -, b0, x0, x1, x2, x3⟩ := w4 0 (by decide)
        obtain ⟨-, -, -, b1, y0', y1', y2', y3'⟩ := w4 1 (by decide)
        have bf0 := mt_bf_b ho (c := 0) (by decide)
        have bf1 := mt_bf_b ho (c := 1) (by decide)
        have there : mt_dz r t (fun q => mt_f r lw d q t) 0 = true ∨ mt_dz r t (fun q => mt_f r lw d q t) 1 = true → r 1 = 2 := by
          have h0 := ho.1
          intro q
          have hv : mt_view r t = true := by
            rcases q with q | q <;> · unfold mt_dz mt_near at q; rw [Bool.and_eq_true, Bool.and_eq_true] at q; exact q.1.1
          have := (mt_on_iff.mp (mt_view_iff.mp hv).2.1).1
          omega
        refine ax_istore dX4_run_137 (by decide) rfl ?_
        refine ax_aload_n dX4_run_139 rfl ?_
        refine ax_getK (f := 0) (U + 1) dX4_run_140 acl_4 wd_481 (by decide) rfl (xs_U_0 hU hok) (xr_U_0 hU hok) ?_
        refine ax_iload dX4_run_143 rfl ?_
        refine ax_aload dX4_run_145 rfl ?_
        refine ax_aload_n dX4_run_147 rfl ?_
        refine ax_getK (f := 0) (U + 1) dX4_run_148 acl_4 wd_481 (by decide) rfl (xs_U_0 hU hok) (xr_U_0 hU hok) ?_
        refine ax_getIN (f := 3) dX4_run_151 acl_8 wd_425 (by decide) rfl (xs_T_0 (xh_UT0 hU) hok) ?_
        refine ax_callVN (As := _) (d2 := _) (c1 := 0) (n1 := 0) (c_blindFor (d := 0) (M := N5) hok hR (uf_xr hU hR f5 hr) _) dX4_run_154 mX5_blindFor wd_702 acl_5 (xs_R_0 (xk_b0 hx) hok) rfl (by omega) (by omega) (by omega) rfl rfl (fun _ _ h => by cases h.1) ?_
        rintro r M9 ⟨h1, h9⟩; cases h1; rw [h9]; clear h9 M9
        refine ax_callVN (As := _) (d2 := _) (c1 := 0) (n1 := 0) (c_becomeBlind (M := N5) (b := b0) (f := mt_bf r 0) (q := mt_dz r t (fun q => mt_f r lw d q t) (1 - 1) = true) hok (xh_UT0 hU) ((k5 _ _ (by omega)).trans x0) (by omega) (fun q => ⟨by rw [(a50.2.2.2 (by have := there (Or.inl q); omega)).1]; exact mt_bf_e ho (by decide), by omega, by omega⟩)) dX4_run_157 mX8_becomeBlind wd_706 acl_8 (xs_T_0 (xh_UT0 hU) hok) rfl (by omega) (by omega) (by omega) rfl rfl (fun _ _ h => by cases h.1) ?_
        rintro o9 N6 ⟨h1, hN6⟩; cases h1
        have hx6 : N6.2 = N5.2 := by rw [hN6]; rfl
        have hok : lo_ok N6.2 := by rw [hx6]; exact hok
        have k6 : ∀ n i, ¬ (n = U + 1 ∧ i = 8) → N6.1 n i = N5.1 n i := fun n i q => by rw [hN6, ax_pn q]
        have f6 : uf U M N6 := uf_tr f5 ⟨hx6, fun n i _ _ c => k6 n i (by omega)⟩
        refine ax_aload_n dX4_run_160 rfl ?_
        refine ax_getK (f := 1) (U + 8) dX4_run_161 acl_4 wd_482 (by decide) rfl (xs_U_0 hU hok) (xr_U_1 hU hok) ?_
        refine ax_iload dX4_run_164 rfl ?_
        refine ax_aload dX4_run_166 rfl ?_
        refine ax_aload_n dX4_run_168 rfl ?_
        refine ax_getK (f := 1) (U + 8) dX4_run_169 acl_4 wd_482 (by decide) rfl (xs_U_0 hU hok) (xr_U_1 hU hok) ?_
        refine ax_getIN (f := 3) dX4_run_172 acl_8 wd_425 (by decide) rfl (xs_T_0 (xh_UT1 hU) hok) ?_
        refine ax_callVN (As := _) (d2 := _) (c1 := 0) (n1 := 0) (c_blindFor (d := 0) (M := N6) hok hR (uf_xr hU hR f6 hr) _) dX4_run_175 mX5_blindFor wd_702 acl_5 (xs_R_0 (xk_b0 hx) hok) rfl (by omega) (by omega) (by omega) rfl rfl (fun _ _ h => by cases h.1) ?_
        rintro r M9 ⟨h1, h9⟩; cases h1; rw [h9]; clear h9 M9
        refine ax_callVN (As := _) (d2 := _) (c1 := 0) (n1 := 0) (c_becomeBlind (M := N6) (b := b1) (f := mt_bf r 1) (q := mt_dz r t (fun q => mt_f r lw d q t) (1 - 0) = true) hok (xh_UT1 hU) ((k6 _ _ (by omega)).trans ((k5 _ _ (by omega)).trans y0')) (by omega) (fun q => ⟨by rw [k6 _ _ (by omega), (a51.2.2.2 (by have := there (Or.inr q); omega)).1]; exact mt_bf_e ho (by decide), by omega, by omega⟩)) dX4_run_178 mX8_becomeBlind wd_706 acl_8 (xs_T_0 (xh_UT1 hU) hok) rfl (by omega) (by omega) (by omega) rfl rfl (fun _ _ h => by cases h.1) ?_
        rintro o9 N7 ⟨h1, hN7⟩; cases h1
        have hx7 : N7.2 = N6.2 := by rw [hN7]; rfl
        have k7 : ∀ n i, ¬ ((n = U + 1 ∨ n = U + 8) ∧ i = 8) → N7.1 n i = N5.1 n i := fun n i q => by rw [hN7, ax_pn (by omega)]; exact k6 n i (by omega)
        have f7 : uf U M N7 := uf_tr f6 ⟨hx7, fun n i _ _ c => by rw [hN7, ax_pn (by omega)]⟩
        have e70 : N7.1 (U + 1) 8 = iI (if mt_dz r t (fun q => mt_f r lw d q t) 0 = true then max b0 (mt_bf r 0) else max 0 (b0 - 1)) := by rw [hN7, ax_pn (by omega), hN6, ax_pa]
        have e71 : N7.1 (U + 8) 8 = iI (if mt_dz r t (fun q => mt_f r lw d q t) 1 = true then max b1 (mt_bf r 1) else max 0 (b1 - 1)) := by rw [hN7, ax_pa]
        have hx : xk N7.2 p := by rw [hx7, hx6]; exact hx
        have hok := hx.1
        have z7' : xz9 N7 U r t (mt_s r lw d (t + 1)) := by
          refine ⟨by rw [k7 _ _ (by omega)]; exact u5, by unfold xap; rw [k7 _ _ (by omega)]; exact p5, by rw [k7 _ _ (by omega), k5 _ _ (by omega)]; exact w3, fun c hc2 => ?_⟩
          rcases (show c = 0 ∨ c = 1 by omega) with rfl | rfl
          · refine ⟨xa_fr a50 (fun i hi => k7 _ _ (by omega)), fun q => ?_, by show N7.1 (U + 1) 7 = _; rw [k7 _ _ (by omega)]; exact b50, _, e70, ?_, ?_, fun q => ?_⟩
            · show N7.1 (U + 1) 6 = _
              rw [k7 _ _ (by omega), k5 _ _ (by omega)]; exact (w4 0 (by decide)).2.1 q
            · split <;> omega
            · split <;> omega
            · show _ = mt_B r t (mt_s r lw d t) (mt_F r lw d t (mt_s r lw d t)) 0
              unfold mt_B
              rw [if_pos q, x3 q]; rfl
          · refine ⟨xa_fr a51 (fun i hi => k7 _ _ (by omega)), fun q => ?_, by show N7.1 (U + 8) 7 = _; rw [k7 _ _ (by omega)]; exact b51, _, e71, ?_, ?_, fun q => ?_⟩
            · show N7.1 (U + 8) 6 = _
              rw [k7 _ _ (by omega), k5 _ _ (by omega)]; exact (w4 1 (by decide)).2.1 q
            · split <;> omega
            · split <;> omega
            · show _ = mt_B r t (mt_s r lw d t) (mt_F r lw d t (mt_s r lw d t)) 1
              unfold mt_B
              rw [if_pos q, y3' q]; rfl
        refine ax_aload_n dX4_run_181 rfl ?_
        refine ax_aload_n dX4_run_182 rfl ?_
        refine ax_aload_n dX4_run_183 rfl ?_
        refine ax_getK (f := 0) (U + 1) dX4_run_184 acl_4 wd_481 (by decide) rfl (xs_U_0 hU hok) (xr_U_0 hU hok) ?_
        refine ax_iload dX4_run_187 rfl ?_
        refine ax_callV (As := _) (d2 := _) (c1 := 0) (n1 := 0) (c_mkeep (M := N7) (c := 0) (t := t) (d := d) hx hU (uf_xr hU hR f7 hr) ho (uf_xlw hU hx.2.1 f7 hl) (by decide) (by omega) z7') dX4_run_189 mX4_keep wd_711 acl_4 (xs_U_0 hU hok) rfl (by omega) (by omega) (by omega) rfl rfl (fun _ _ h => by cases h.1) ?_
        rintro o9 N8 ⟨h1, g1, g2, g3, g4⟩; cases h1
        have hx : xk N8.2 p := by rw [g1]; exact hx
        have hok := hx.1
        have f8 : uf U M N8 := uf_tr f7 ⟨g1, fun n i q1 q2 q3 => g2 n i q1 q2 (by omega) (by omega)⟩
        have g2 : ∀ n i, U ≤ n → n ≤ U + 15 → ¬ (n = U + 1 ∧ i = 9) → ¬ (U + 2 ≤ n ∧ n ≤ U + 7 ∧ i = t) → N8.1 n i = N7.1 n i := fun n i q1 q2 q3 q4 => g2 n i (nfs n q1) (by omega) (by omega) (by omega)
        have z8' : xz9 N8 U r t (mt_s r lw d (t + 1)) := by
          obtain ⟨q1, q2, q3, q4⟩ := z7'
          refine ⟨(g2 _ _ (by omega) (by omega) (by omega) (by omega)).trans q1, by unfold xap; rw [g2 _ _ (by omega) (by omega) (by omega) (by omega)]; exact q2, (g2 _ _ (by omega) (by omega) (by omega) (by omega)).trans q3, fun c hc2 => ?_⟩
          obtain ⟨j1, j2, j3, j, j4, j5⟩ := q4 c hc2
          have gg : ∀ i, i < 9 → N8.1 (U + 1 + 7 * c) i = N7.1 (U + 1 + 7 * c) i := fun i hi => g2 _ _ (by omega) (by omega) (by omega) (by omega)
          exact ⟨xa_fr j1 (fun i hi => gg i (by omega)), fun q => (gg 6 (by omega)).trans (j2 q), (gg 7 (by omega)).trans j3, j, (gg 8 (by omega)).trans j4, j5⟩
        refine ax_aload_n dX4_run_192 rfl ?_
        refine ax_aload_n dX4_run_193 rfl ?_
        refine ax_aload_n dX4_run_194 rfl ?_
        refine ax_getK (f := 1) (U + 8) dX4_run_195 acl_4 wd_482 (by decide) rfl (xs_U_0 hU hok) (xr_U_1 hU hok) ?_
        refine ax_iload dX4_run_198 rfl ?_
        refine ax_callV (As := _) (d2 := _) (c1 := 0) (n1 := 0) (c_mkeep (M := N8) (c := 1) (t := t) (d := d) hx hU (uf_xr hU hR f8 hr) ho (uf_xlw hU hx.2.1 f8 hl) (by decide) (by omega) z8') dX4_run_200 mX4_keep wd_711 acl_4 (xs_U_0 hU hok) rfl (by omega) (by omega) (by omega) rfl rfl (fun _ _ h => by cases h.1) ?_
        rintro o9 N9 ⟨h1, j1, j2, j3, j4⟩; cases h1
        have hx : xk N9.2 p := by rw [j1]; exact hx
        have hok := hx.1
        have f9 : uf U M N9 := uf_tr f8 ⟨j1, fun n i q1 q2 q3 => j2 n i q1 q2 (by omega) (by omega)⟩
        have j2 : ∀ n i, U ≤ n → n ≤ U + 15 → ¬ (n = U + 8 ∧ i = 9) → ¬ (U + 9 ≤ n ∧ n ≤ U + 14 ∧ i = t) → N9.1 n i = N8.1 n i := fun n i q1 q2 q3 q4 => j2 n i (nfs n q1) (by omega) (by omega) (by omega)
        -- the cells; the next one
        refine ax_aload_n dX4_run_203 rfl ?_
        refine ax_getK (f := 0) (U + 1) dX4_run_204 acl_4 wd_481 (by decide) rfl (xs_U_0 hU hok) (xr_U_0 hU hok) ?_
        refine ax_dup dX4_run_207 (by first | rfl | exact ax_crf _) ?_
        refine ax_getIN (f := 6) dX4_run_208 acl_8 wd_431 (by decide) rfl (xs_T_0 (xh_UT0 hU) hok) ?_
        refine ax_aload_n dX4_run_211 rfl ?_
        refine ax_getK (f := 0) (U + 1) dX4_run_212 acl_4 wd_481 (by decide) rfl (xs_U_0 hU hok) (xr_U_0 hU hok) ?_
        refine ax_getIN (f := 4) dX4_run_215 acl_8 wd_427 (by decide) rfl (xs_T_0 (xh_UT0 hU) hok) ?_
        refine ax_iadd dX4_run_218 ?_
        refine ax_putIN (f := 6) dX4_run_219 acl_8 wd_431 (by decide) rfl rfl (ax_nfI rfl) (xs_T_0 (xh_UT0 hU) hok) ?_
        refine ax_gen (fun N10 hN10 => ?_)
        have hok : lo_ok N10.2 := by rw [hN10]; exact hok
        have hx : xk N10.2 p := by rw [hN10]; exact hx
        refine ax_aload_n dX4_run_222 rfl ?_
        refine ax_getK (f := 1) (U + 8) dX4_run_223 acl_4 wd_482 (by decide) rfl (xs_U_0 hU hok) (xr_U_1 hU hok) ?_
        refine ax_dup dX4_run_226 (by first | rfl | exact ax_crf _) ?_
        refine ax_getIN (f := 6) dX4_run_227 acl_8 wd_431 (by decide) rfl (xs_T_0 (xh_UT1 hU) hok) ?_
        refine ax_aload_n dX4_run_230 rfl ?_
        refine ax_getK (f := 1) (U + 8) dX4_run_231 acl_4 wd_482 (by decide) rfl (xs_U_0 hU hok) (xr_U_1 hU hok) ?_
        refine ax_getIN (f := 4) dX4_run_234 acl_8 wd_427 (by decide) rfl (xs_T_0 (xh_UT1 hU) hok) ?_
        refine ax_isub dX4_run_237 ?_
        refine ax_putIN (f := 6) dX4_run_238 acl_8 wd_431 (by decide) rfl rfl (ax_nfI rfl) (xs_T_0 (xh_UT1 hU) hok) ?_
        refine ax_gen (fun N11 hN11 => ?_)
        have hok : lo_ok N11.2 := by rw [hN11]; exact hok
        have hx : xk N11.2 p := by rw [hN11]; exact hx
        have k11 : ∀ n i, ¬ ((n = U + 1 ∨ n = U + 8) ∧ i = 6) → N11.1 n i = N9.1 n i := fun n i q => by rw [hN11, ax_pn (by omega), hN10, ax_pn (by omega)]
        have c110 : N11.1 (U + 1) 6 = N9.1 (U + 1) 6 + N9.1 (U + 1) 4 := by rw [hN11, ax_pn (by omega), hN10, ax_pa]
        have c111 : N11.1 (U + 8) 6 = N9.1 (U + 8) 6 - N9.1 (U + 8) 4 := by rw [hN11, ax_pa, hN10, ax_pn (by omega), ax_pn (by omega)]
        have hx11 : N11.2 = N9.2 := by rw [hN11, hN10]; rfl
        have u11 : N11.1 U 3 = nI t := by rw [k11 _ _ (by omega), j2 _ _ (by omega) (by omega) (by omega) (by omega)]; exact z8'.1
        clear hN11 hN10
        refine ax_aload_n dX4_run_241 rfl ?_
        refine ax_dup dX4_run_242 (by first | rfl | exact ax_crf _) ?_
        refine ax_getI (f := 3) dX4_run_243 acl_4 wd_484 (by decide) rfl (xs_U_0 hU hok) ?_
        rw [u11]
        refine ax_iconst (v := 1) dX4_run_246 (by decide) ?_
        refine ax_iadd dX4_run_247 ?_
        rw [nI_1]
        refine ax_putI (f := 3) dX4_run_248 acl_4 wd_484 (by decide) rfl rfl (ax_nfI rfl) (xs_U_0 hU hok) ?_
        refine ax_gen (fun N12 hN12 => ?_)
        have hok : lo_ok N12.2 := by rw [hN12]; exact hok
        have hx : xk N12.2 p := by rw [hN12]; exact hx
        have k12 : ∀ n i, ¬ (n = U ∧ i = 3) → N12.1 n i = N11.1 n i := fun n i q => by rw [hN12, ax_pn q]
        refine ax_goto (tgt := 34) dX4_run_251 (by decide) ?_
        refine ih (t + 1) N12 _ _ _ _ (by omega) ?_ (uf_tr f9 ⟨by rw [hN12]; exact hx11, fun n i _ _ c => by rw [k12 n i (by omega), k11 n i (by omega)]⟩)
        -- rows of tenths before
        have old : ∀ n i, U + 2 ≤ n → n ≤ U + 14 → n ≠ U + 8 → i < t → N12.1 n i = N.1 n i := fun n i q1 q2 q3 q4 => by
          rw [k12 n i (by omega), k11 n i (by omega), j2 n i (by omega) (by omega) (by omega) (by omega), g2 n i (by omega) (by omega) (by omega) (by omega), k7 n i (by omega), k5 n i (by omega)]
          exact k3 n i (by omega) (by omega)
        obtain ⟨q1, q2, q3, q4⟩ := z8'
        have gg : ∀ c, c < 2 → ∀ i, i < 9 → i ≠ 6 → N12.1 (U + 1 + 7 * c) i = N8.1 (U + 1 + 7 * c) i := fun c hc2 i hi h6 => by
          rw [k12 _ _ (by omega), k11 _ _ (by omega)]; exact j2 _ _ (by omega) (by omega) (by omega) (by omega)
        refine ⟨by rw [hN12, ax_pa], by rw [k12 _ _ (by omega), k11 _ _ (by omega), j2 _ _ (by omega) (by omega) (by omega) (by omega)]; exact q3, fun u hu => ?_, fun c hc2 => ?_⟩
        · unfold xap
          rw [k12 _ _ (by omega), k11 _ _ (by omega), j2 _ _ (by omega) (by omega) (by omega) (by omega), g2 _ _ (by omega) (by omega) (by omega) (by omega), k7 _ _ (by omega), k5 _ _ (by omega)]
          exact ap3 u (by omega)
        · obtain ⟨i1, i2, i3, ib, i4, i5, i6, i7⟩ := q4 c hc2
          obtain ⟨-, -, -, -, o9, o10⟩ := s4 c hc2
          have hon := tn_on ho hc2 t
          refine ⟨xa_fr i1 (fun i hi => gg c hc2 i (by omega) (by omega)), fun q => ?_, (gg c hc2 7 (by omega) (by omega)).trans i3, ⟨ib, (gg c hc2 8 (by omega) (by omega)).trans i4, i5, i6, fun q => i7 (mt_on_s ho hc2 q)⟩, ?_, fun u hu onu => ?_⟩
          · rcases (show c = 0 ∨ c = 1 by omega) with rfl | rfl
            · show N12.1 (U + 1) 6 = _
              rw [k12 _ _ (by omega), c110, j2 _ _ (by omega) (by omega) (by omega) (by omega), j2 _ _ (by omega) (by omega) (by omega) (by omega), show N8.1 (U + 1) 6 = _ from i2 q, show N8.1 (U + 1) 4 = _ from (i1.2.2.2 q).2.1, iI_add, mt_pos_s0]
            · show N12.1 (U + 8) 6 = _
              rw [k12 _ _ (by omega), c111, j2 _ _ (by omega) (by omega) (by omega) (by omega), j2 _ _ (by omega) (by omega) (by omega) (by omega), show N8.1 (U + 8) 6 = _ from i2 q, show N8.1 (U + 8) 4 = _ from (i1.2.2.2 q).2.1, iI_sub, mt_pos_s1]
          · -- how many tenths
            have o9' : N7.1 (U + 1 + 7 * c) 9 = nI (min t (tn r c)) := by
              rw [k7 _ _ (by omega), k5 _ _ (by omega), k3 _ _ (by omega) (by omega)]; exact o9
            rw [k12 _ _ (by omega), k11 _ _ (by omega)]
            cases ont : mt_on r c t with
            | true =>
              have := hon.mp ont
              rw [show min (t + 1) (tn r c) = t + 1 by omega]
              rcases (show c = 0 ∨ c = 1 by omega) with rfl | rfl
              · rw [j2 _ _ (by omega) (by omega) (by omega) (by omega)]; exact (g3 ont).2
              · exact (j3 ont).2
            | false =>
              have : ¬ t < tn r c := fun q => by rw [hon.mpr q] at ont; cases ont
              rw [show min (t + 1) (tn r c) = min t (tn r c) by omega]
              rcases (show c = 0 ∨ c = 1 by omega) with rfl | rfl
              · rw [j2 _ _ (by omega) (by omega) (by omega) (by omega), g4 ont]; exact o9'
              · rw [j4 ont, g2 _ _ (by omega) (by omega) (by omega) (by omega)]; exact o9'
          · by_cases e : u = t
            · subst e
              rcases (show c = 0 ∨ c = 1 by omega) with rfl | rfl
              · exact xrw_fr (g3 onu).1 (fun n h1 h2 => by rw [k12 _ _ (by omega), k11 _ _ (by omega)]; exact j2 _ _ (by omega) (by omega) (by omega) (by omega))
              · exact xrw_fr (j3 onu).1 (fun n h1 h2 => by rw [k12 _ _ (by omega), k11 _ _ (by omega)])
            · exact xrw_fr (o10 u (by omega) onu) (fun n h1 h2 => old n u (by omega) (by omega) (by omega) (by omega))
      refine ax_aload_n dX4_run_34 rfl ?_
      refine ax_getI (f := 3) dX4_run_35 acl_4 wd_484 (by decide) rfl (xs_U_0 hU hok) ?_
      refine ax_bipush (v := 99) dX4_run_38 (by decide) ?_
      rw [s1]
      refine ax_icmp_ge (tgt := 254) dX4_run_40 (by decide) (fun hc => ?_) (fun hc => ?_)
      · exact absurd ((nI_leI (a := 99) (by omega) (by omega)).mp hc) (by omega)
      clear hc
      refine ax_aload_n dX4_run_43 rfl ?_
      refine ax_getK (f := 0) (U + 1) dX4_run_44 acl_4 wd_481 (by decide) rfl (xs_U_0 hU hok) (xr_U_0 hU hok) ?_
      refine ax_aload dX4_run_47 rfl ?_
      refine ax_callVN (As := _) (d2 := _) (c1 := 0) (n1 := 0) (c_xisOn (M := N) (c := 0) (t := t) hok (xh_UT0 hU) hR hrN ho (by decide) (by omega) a0 c0) dX4_run_49 mX8_isOn wd_625 acl_8 (xs_T_0 (xh_UT0 hU) hok) rfl (by omega) (by omega) (by omega) rfl rfl (fun _ _ h => by cases h.1) ?_
      rintro r M9 ⟨h1, h9⟩; cases h1; rw [h9]; clear h9 M9
      refine ax_ifB_ne (tgt := 67) dX4_run_52 (by decide) (fun hc => ?_) (fun hc => ?_)
      · exact tenth
      have n0 := hc
      clear hc
      refine ax_aload_n dX4_run_55 rfl ?_
      refine ax_getK (f := 1) (U + 8) dX4_run_56 acl_4 wd_482 (by decide) rfl (xs_U_0 hU hok) (xr_U_1 hU hok) ?_
      refine ax_aload dX4_run_59 rfl ?_
      refine ax_callVN (As := _) (d2 := _) (c1 := 0) (n1 := 0) (c_xisOn (M := N) (c := 1) (t := t) hok (xh_UT1 hU) hR hrN ho (by decide) (by omega) a1 c1) dX4_run_61 mX8_isOn wd_625 acl_8 (xs_T_0 (xh_UT1 hU) hok) rfl (by omega) (by omega) (by omega) rfl rfl (fun _ _ h => by cases h.1) ?_
      rintro r M9 ⟨h1, h9⟩; cases h1; rw [h9]; clear h9 M9
      refine ax_ifB_eq (tgt := 254) dX4_run_64 (by decide) (fun hc => ?_) (fun hc => ?_)
      · exfalso
        rcases (T_tn ho t).mp hlt with q | q
        · exact n0 ((tn_on ho (by decide) t).mpr q)
        · exact hc ((tn_on ho (by decide) t).mpr q)
      · exact tenth
  obtain ⟨w1, w2, w3, w4⟩ := hw
  refine ax_body (by decide) (Nat.le_of_ble_eq_true rfl) ?_
  refine ax_aload_n dX4_run_0 rfl ?_
  refine ax_getKN (f := 0) (p 0) dX4_run_1 acl_7 wd_366 (by decide) rfl (lo_s hok 4 rfl) (xk_r0 hx) ?_
  refine ax_astore dX4_run_4 (by decide) rfl ?_
  refine ax_aload_n dX4_run_6 rfl ?_
  refine ax_getK (f := 0) (U + 1) dX4_run_7 acl_4 wd_481 (by decide) rfl (xs_U_0 hU hok) (xr_U_0 hU hok) ?_
  refine ax_aload dX4_run_10 rfl ?_
  refine ax_callVN (As := _) (d2 := _) (c1 := 0) (n1 := 0) (c_xbegin (M := M) (c := 0) hok (xh_UT0 hU) hR hr ho (by decide) w1 w2) dX4_run_12 mX8_begin wd_617 acl_8 (xs_T_0 (xh_UT0 hU) hok) rfl (by omega) (by omega) (by omega) rfl rfl (fun _ _ h => by cases h.1) ?_
  rintro o9 M1 ⟨h1, e1, e2, a1, c1, b1, b2, b3⟩; cases h1
  have hx : xk M1.2 p := by rw [e1]; exact hx
  have hok := hx.1
  have f1 : uf U M M1 := ⟨e1, fun n i _ _ c => e2 n i (by omega)⟩
  refine ax_aload_n dX4_run_15 rfl ?_
  refine ax_getK (f := 1) (U + 8) dX4_run_16 acl_4 wd_482 (by decide) rfl (xs_U_0 hU hok) (xr_U_1 hU hok) ?_
  refine ax_aload dX4_run_19 rfl ?_
  refine ax_callVN (As := _) (d2 := _) (c1 := 0) (n1 := 0) (c_xbegin (M := M1) (c := 1) hok (xh_UT1 hU) hR (uf_xr hU hR f1 hr) ho (by decide) (by rw [e2 _ _ (by omega)]; exact w3) (by rw [e2 _ _ (by omega)]; exact w4)) dX4_run_21 mX8_begin wd_617 acl_8 (xs_T_0 (xh_UT1 hU) hok) rfl (by omega) (by omega) (by omega) rfl rfl (fun _ _ h => by cases h.1) ?_
  rintro o9 M2 ⟨h1, e3, e4, a2, c2, b4, b5, b6⟩; cases h1
  have hx : xk M2.2 p := by rw [e3]; exact hx
  have hok := hx.1
  have f2 : uf U M M2 := uf_tr f1 ⟨e3, fun n i _ _ c => e4 n i (by omega)⟩
  refine ax_aload_n dX4_run_24 rfl ?_
  refine ax_iconst (v := (-1)) dX4_run_25 (by decide) ?_
  refine ax_putI (f := 4) dX4_run_26 acl_4 wd_486 (by decide) rfl rfl (ax_nfI rfl) (xs_U_0 hU hok) ?_
  refine ax_gen (fun M3 hM3 => ?_)
  have hok : lo_ok M3.2 := by rw [hM3]; exact hok
  have hx : xk M3.2 p := by rw [hM3]; exact hx
  refine ax_aload_n dX4_run_29 rfl ?_
  refine ax_iconst (v := 0) dX4_run_30 (by decide) ?_
  refine ax_putI (f := 3) dX4_run_31 acl_4 wd_484 (by decide) rfl rfl (ax_nfI rfl) (xs_U_0 hU hok) ?_
  refine ax_gen (fun M4 hM4 => ?_)
  have hok : lo_ok M4.2 := by rw [hM4]; exact hok
  have hx : xk M4.2 p := by rw [hM4]; exact hx
  have k4 : ∀ n i, n ≠ U → M4.1 n i = M2.1 n i := fun n i q => by rw [hM4, ax_pn (by omega), hM3, ax_pn (by omega)]
  refine loop (mt_T r) 0 M4 _ _ _ _ (by omega) ?_ (uf_tr f2 ⟨by rw [hM4, hM3]; rfl, fun n i _ _ c => k4 n i (by omega)⟩)
  refine ⟨by rw [hM4, ax_pa]; rfl, by rw [hM4, ax_pn (by omega), hM3, ax_pa]; rfl, fun u hu => by omega, fun c hc2 => ?_⟩
  rcases (show c = 0 ∨ c = 1 by omega) with rfl | rfl
  · have k5 : ∀ i, M4.1 (U + 1) i = M1.1 (U + 1) i := fun i => by rw [k4 _ _ (by omega)]; exact e4 _ _ (by omega)
    exact ⟨xa_fr a1 (fun i _ => k5 i), fun q => (k5 6).trans (c1 q), (k5 7).trans b1, ⟨0, (k5 8).trans b2, by omega, by omega, fun _ => rfl⟩, by show M4.1 (U + 1) 9 = _; rw [k5 9, b3, Nat.zero_min]; rfl, fun u hu => by omega⟩
  · have k5 : ∀ i, M4.1 (U + 8) i = M2.1 (U + 8) i := fun i => k4 _ _ (by omega)
    exact ⟨xa_fr a2 (fun i _ => k5 i), fun q => (k5 6).trans (c2 q), (k5 7).trans b4, ⟨0, (k5 8).trans b5, by omega, by omega, fun _ => rfl⟩, by show M4.1 (U + 8) 9 = _; rw [k5 9, b6, Nat.zero_min]; rfl, fun u hu => by omega⟩
end XP

