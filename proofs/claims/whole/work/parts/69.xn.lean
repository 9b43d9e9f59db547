/-! ===== a tenth of a meeting: the class ===== -/
def kV (M M1 : ax_M) (j : Nat) (K : Nat → Int32) : Prop := M1.2 = M.2 ∧ (∀ n i, n ≠ 22 → M1.1 n i = M.1 n i) ∧ ∀ k, k < j → M1.1 22 k = K k
theorem kV_s {M M1 M2 : ax_M} {j : Nat} {K : Nat → Int32} {v : Int32} (h : kV M M1 j K) (h2 : M2 = ax_pI M1 22 j v) (hv : v = K j) : kV M M2 (j + 1) K := by
  subst h2
  refine ⟨h.1, fun n i q => (ax_pn (by omega)).trans (h.2.1 n i q), fun k q => ?_⟩
  by_cases e : k = j
  · subst e; rw [ax_pa, hv]
  · rw [ax_pn (by omega)]; exact h.2.2 k (by omega)
theorem kV_0 (M : ax_M) (K : Nat → Int32) : kV M M 0 K := ⟨rfl, fun _ _ _ => rfl, fun _ q => by omega⟩
theorem kV_xr {M M1 : ax_M} {j R : Nat} {K : Nat → Int32} {r : Nat → Int} (hR : xh_R R) (h : kV M M1 j K) (hr : xr M R r) : xr M1 R r := xr_fr hr (fun n i a b => h.2.1 n i (by unfold xh_R at hR; omega))
section XN
variable {l : Launch} {G : ax_G} {M : ax_M} {p : Nat → Nat} {r : Nat → Int} {R U : Nat} {lw : mt_L}
set_option maxHeartbeats 1000000 in
theorem c_measure (hok : lo_ok M.2) (hU : xh_U U) (hR : xh_R R) (hr : xr M R r) (ho : rd_ok r) {t : Nat} (ht : t < 99) (ha : ∀ c, c < 2 → xa M (U + 1 + 7 * c) r c ∧ xc M (U + 1 + 7 * c) r c t) (hp : M.1 U 4 = mt_sb (mt_ps r t)) {x : Int32} (hx : x = nI t) : ax_Met l G kX4_measure 2 0 0 M [av_r U, av_r R, av_i x] (fun o M2 => o = .inl none ∧ M2.2 = M.2 ∧ (∀ n i, ¬ (n = U ∧ i = 4) → ¬ (n = U + 15 ∧ i = t) → M2.1 n i = M.1 n i) ∧ M2.1 U 4 = mt_sb (mt_ps r (t + 1)) ∧ xap M2 U r t) := by
  subst hx
  have h0 := ho.1
  have a0 := (ha 0 (by decide)).1; have a1 := (ha 1 (by decide)).1
  have c0 := (ha 0 (by decide)).2; have c1 := (ha 1 (by decide)).2
  have hUR : U + 1 < 2 ^ 31 ∧ (∀ n, R ≤ n → n ≤ R + 7 → n ≠ U ∧ n ≠ U + 15) := ⟨by unfold xh_U at hU; omega, fun n a b => by unfold xh_U at hU; unfold xh_R at hR; omega⟩
  have p0 := mt_pos_ib ho (c := 0) (t := t) (by decide) (by omega)
  have p1 := mt_pos_ib ho (c := 1) (t := t) (by decide) (by omega)
  have hps : mt_ps r (t + 1) = match mt_ps r t with
    | some u => some u
    | none => if mt_met r t = true then some t else none := rfl
  refine ax_body (by decide) (Nat.le_of_ble_eq_true rfl) ?_
  refine ax_aload_n dX4_measure_0 rfl ?_
  refine ax_getK (f := 1) (U + 8) dX4_measure_1 acl_4 wd_482 (by decide) rfl (xs_U_0 hU hok) (xr_U_1 hU hok) ?_
  refine ax_getIN (f := 6) dX4_measure_4 acl_8 wd_431 (by decide) rfl (xs_T_0 (xh_UT1 hU) hok) ?_
  refine ax_aload_n dX4_measure_7 rfl ?_
  refine ax_getK (f := 0) (U + 1) dX4_measure_8 acl_4 wd_481 (by decide) rfl (xs_U_0 hU hok) (xr_U_0 hU hok) ?_
  refine ax_getIN (f := 6) dX4_measure_11 acl_8 wd_431 (by decide) rfl (xs_T_0 (xh_UT0 hU) hok) ?_
  refine ax_isub dX4_measure_14 ?_
  generalize hbt : M.1 (U + 8) 6 - M.1 (U + 1) 6 = bt
  have hb2 : r 1 = 2 → bt = iI (mt_far r t) := fun q => by
    have e1 := c1 (by omega); have e0 := c0 (by omega)
    have e1 : M.1 (U + 8) 6 = iI (mt_pos r 1 t) := e1
    have e0 : M.1 (U + 1) 6 = iI (mt_pos r 0 t) := e0
    rw [← hbt, e1, e0, iI_sub]; rfl
  -- the second half
  have rest : ∀ N : ax_M, N.2 = M.2 → (∀ n i, ¬ (n = U ∧ i = 4) → N.1 n i = M.1 n i) → N.1 U 4 = mt_sb (mt_ps r (t + 1)) → ax_W l G kX4_measure (ax_FQ G (fun o M2 => o = .inl none ∧ M2.2 = M.2 ∧ (∀ n i, ¬ (n = U ∧ i = 4) → ¬ (n = U + 15 ∧ i = t) → M2.1 n i = M.1 n i) ∧ M2.1 U 4 = mt_sb (mt_ps r (t + 1)) ∧ xap M2 U r t)) 2 0 0 N 41 [some (av_r U), some (av_r R), some (av_i (nI t)), some (av_i bt), none, none] [] := by
    intro N n2 nf n4
    have hok : lo_ok N.2 := by rw [n2]; exact hok
    have hrN : xr N R r := xr_fr hr (fun n i a b => nf n i (by have := hUR.2 n a b; omega))
    have aN0 : xa N (U + 1) r 0 := xa_fr (M := M) a0 (fun i hi => nf _ _ (by omega))
    have aN1 : xa N (U + 8) r 1 := xa_fr (M := M) a1 (fun i hi => nf _ _ (by omega))
    have cN0 : xc N (U + 1) r 0 t := fun q => by rw [nf _ _ (by omega)]; exact c0 q
    have cN1 : xc N (U + 8) r 1 t := fun q => by rw [nf _ _ (by omega)]; exact c1 q
    refine ax_aload_n dX4_measure_41 rfl ?_
    refine ax_getK (f := 0) (U + 1) dX4_measure_42 acl_4 wd_481 (by decide) rfl (xs_U_0 hU hok) (xr_U_0 hU hok) ?_
    refine ax_aload_n dX4_measure_45 rfl ?_
    refine ax_callVN (As := _) (d2 := _) (c1 := 0) (n1 := 0) (c_xisOn (M := N) (c := 0) (t := t) hok (xh_UT0 hU) hR hrN ho (by decide) (by omega) aN0 cN0) dX4_measure_46 mX8_isOn wd_625 acl_8 (xs_T_0 (xh_UT0 hU) hok) rfl (by omega) (by omega) (by omega) rfl rfl (fun _ _ h => by cases h.1) ?_
    rintro r M9 ⟨h1, h9⟩; cases h1; rw [h9]; clear h9 M9
    have fin : ∀ (w : Prop) [Decidable w] (y4 : Int32), (w ↔ mt_view r t = true) → ax_W l G kX4_measure (ax_FQ G (fun o M2 => o = .inl none ∧ M2.2 = M.2 ∧ (∀ n i, ¬ (n = U ∧ i = 4) → ¬ (n = U + 15 ∧ i = t) → M2.1 n i = M.1 n i) ∧ M2.1 U 4 = mt_sb (mt_ps r (t + 1)) ∧ xap M2 U r t)) 2 0 0 N 109 [some (av_r U), some (av_r R), some (av_i (nI t)), some (av_i bt), some (av_i y4), none] [av_i (if w then 1 else 0)] := by
      intro w _ y4 hw
      refine ax_istore dX4_measure_109 (by decide) rfl ?_
      refine ax_iload_n dX4_measure_111 rfl ?_
      refine ax_if_lt (tgt := 137) dX4_measure_112 (by decide) (fun hc => ?_) (fun hc => ?_)
      · exact absurd ((nI_ltI (b := 0) (by omega) (by omega)).mp hc) (by omega)
      clear hc
      refine ax_iload_n dX4_measure_115 rfl ?_
      refine ax_bipush (v := 99) dX4_measure_116 (by decide) ?_
      refine ax_icmp_ge (tgt := 137) dX4_measure_118 (by decide) (fun hc => ?_) (fun hc => ?_)
      · exact absurd ((nI_leI (a := 99) (by omega) (by omega)).mp hc) (by omega)
      clear hc
      refine ax_aload_n dX4_measure_121 rfl ?_
      refine ax_getK (f := 2) (U + 15) dX4_measure_122 acl_4 wd_483 (by decide) rfl (xs_U_0 hU hok) (xr_U_2 hU hok) ?_
      refine ax_iload_n dX4_measure_125 rfl ?_
      refine ax_iload dX4_measure_126 rfl ?_
      have st : ∀ v : Int32, v = (if mt_view r t = true then iI (mt_far r t) else 0) → ax_W l G kX4_measure (ax_FQ G (fun o M2 => o = .inl none ∧ M2.2 = M.2 ∧ (∀ n i, ¬ (n = U ∧ i = 4) → ¬ (n = U + 15 ∧ i = t) → M2.1 n i = M.1 n i) ∧ M2.1 U 4 = mt_sb (mt_ps r (t + 1)) ∧ xap M2 U r t)) 2 0 0 N 136 [some (av_r U), some (av_r R), some (av_i (nI t)), some (av_i bt), some (av_i y4), some (av_i (if w then 1 else 0))] [av_i v, av_i (nI t), av_r (U + 15)] := by
        intro v hv
        refine ax_iastN (t) dX4_measure_136 (xs_U_15 hU hok) (by decide) (by first | with_reducible rfl | assumption | exact ax_nix (by simp only [nx_0, nx_1, nx_2, nx_3, nx_4, nx_10, nx_20, nx_21, nx_100, nI_add, pk_mul] <;> rfl) (by omega) | decide) (by omega) ?_
        refine ax_gen (fun N2 hN2 => ?_)
        have hok : lo_ok N2.2 := by rw [hN2]; exact hok
        refine ax_vret dX4_measure_137 rfl ?_
        exact ⟨rfl, by rw [hN2]; exact n2, fun n i q1 q2 => by rw [hN2, ax_pn q2]; exact nf n i q1, by rw [hN2, ax_pn (by omega)]; exact n4, by unfold xap; rw [hN2, ax_pa, hv]⟩
      refine ax_ifB_eq (tgt := 135) dX4_measure_128 (by decide) (fun hc => ?_) (fun hc => ?_)
      · refine ax_iconst (v := 0) dX4_measure_135 (by decide) ?_
        exact st 0 (by rw [if_neg (fun q => hc (hw.mpr q))])
      · have hv := hw.mp hc
        refine ax_iload_n dX4_measure_131 rfl ?_
        refine ax_goto (tgt := 136) dX4_measure_132 (by decide) ?_
        have h2 : r 1 = 2 := by
          have := (mt_on_iff.mp (mt_view_iff.mp hv).2.1).1
          omega
        exact st bt (by rw [if_pos hv, hb2 h2])
    refine ax_ifB_eq (tgt := 67) dX4_measure_49 (by decide) (fun hc => ?_) (fun hc => ?_)
    · have hno : ¬ mt_view r t = true := fun q => hc (mt_view_iff.mp q).1
      refine ax_iconst (v := 0) dX4_measure_67 (by decide) ?_
      refine ax_istore dX4_measure_68 (by decide) rfl ?_
      refine ax_iload dX4_measure_70 rfl ?_
      refine ax_if_eq (tgt := 108) dX4_measure_72 (by decide) (fun hc => ?_) (fun hc => ?_)
      · refine ax_iconst (v := 0) dX4_measure_108 (by decide) ?_
        exact fin False _ ⟨fun q => q.elim, fun q => absurd q hno⟩
      · exact absurd rfl hc
    have on0 := hc
    clear hc
    refine ax_aload_n dX4_measure_52 rfl ?_
    refine ax_getK (f := 1) (U + 8) dX4_measure_53 acl_4 wd_482 (by decide) rfl (xs_U_0 hU hok) (xr_U_1 hU hok) ?_
    refine ax_aload_n dX4_measure_56 rfl ?_
    refine ax_callVN (As := _) (d2 := _) (c1 := 0) (n1 := 0) (c_xisOn (M := N) (c := 1) (t := t) hok (xh_UT1 hU) hR hrN ho (by decide) (by omega) aN1 cN1) dX4_measure_57 mX8_isOn wd_625 acl_8 (xs_T_0 (xh_UT1 hU) hok) rfl (by omega) (by omega) (by omega) rfl rfl (fun _ _ h => by cases h.1) ?_
    rintro r M9 ⟨h1, h9⟩; cases h1; rw [h9]; clear h9 M9
    refine ax_ifB_eq (tgt := 67) dX4_measure_60 (by decide) (fun hc => ?_) (fun hc => ?_)
    · have hno : ¬ mt_view r t = true := fun q => hc (mt_view_iff.mp q).2.1
      refine ax_iconst (v := 0) dX4_measure_67 (by decide) ?_
      refine ax_istore dX4_measure_68 (by decide) rfl ?_
      refine ax_iload dX4_measure_70 rfl ?_
      refine ax_if_eq (tgt := 108) dX4_measure_72 (by decide) (fun hc => ?_) (fun hc => ?_)
      · refine ax_iconst (v := 0) dX4_measure_108 (by decide) ?_
        exact fin False _ ⟨fun q => q.elim, fun q => absurd q hno⟩
      · exact absurd rfl hc
    have on1 := hc
    clear hc
    refine ax_iconst (v := 1) dX4_measure_63 (by decide) ?_
    refine ax_goto (tgt := 68) dX4_measure_64 (by decide) ?_
    refine ax_istore dX4_measure_68 (by decide) rfl ?_
    refine ax_iload dX4_measure_70 rfl ?_
    refine ax_if_eq (tgt := 108) dX4_measure_72 (by decide) (fun hc => ?_) (fun hc => ?_)
    · exact absurd hc (by decide)
    clear hc
    refine ax_aload_n dX4_measure_75 rfl ?_
    refine ax_getI (f := 4) dX4_measure_76 acl_4 wd_486 (by decide) rfl (xs_U_0 hU hok) ?_
    refine ax_iconst (v := (-1)) dX4_measure_79 (by decide) ?_
    rw [n4]
    refine ax_icmp_ne (tgt := 108) dX4_measure_80 (by decide) (fun hc => ?_) (fun hc => ?_)
    · have hm := (ps_met ho t).mp hc
      have hno : ¬ mt_view r t = true := fun q => by have := (mt_view_iff.mp q).2.2.1; rw [hm] at this; cases this
      refine ax_iconst (v := 0) dX4_measure_108 (by decide) ?_
      exact fin False _ ⟨fun q => q.elim, fun q => absurd q hno⟩
    have hm : mt_met r t = false := by
      apply Bool.eq_false_iff.mpr
      intro q
      exact (ps_met ho t).mpr q hc
    clear hc
    have h1 := (mt_on_iff.mp on0).1; have h2 := (mt_on_iff.mp on1).1
    refine ax_aload_n dX4_measure_83 rfl ?_
    refine ax_aload_n dX4_measure_84 rfl ?_
    refine ax_getK (f := 0) (U + 1) dX4_measure_85 acl_4 wd_481 (by decide) rfl (xs_U_0 hU hok) (xr_U_0 hU hok) ?_
    refine ax_getIN (f := 6) dX4_measure_88 acl_8 wd_431 (by decide) rfl (xs_T_0 (xh_UT0 hU) hok) ?_
    refine ax_aload_n dX4_measure_91 rfl ?_
    refine ax_getK (f := 1) (U + 8) dX4_measure_92 acl_4 wd_482 (by decide) rfl (xs_U_0 hU hok) (xr_U_1 hU hok) ?_
    refine ax_getIN (f := 6) dX4_measure_95 acl_8 wd_431 (by decide) rfl (xs_T_0 (xh_UT1 hU) hok) ?_
    refine ax_callVN (As := _) (d2 := _) (c1 := 0) (n1 := 0) (c_hides (M := N) hok hR hrN ho (a := mt_pos r 0 t) (b := mt_pos r 1 t) p0 p1 (cN0 (by omega)) (cN1 (by omega))) dX4_measure_98 mX5_hides wd_637 acl_5 (xs_R_0 hR hok) rfl (by omega) (by omega) (by omega) rfl rfl (fun _ _ h => by cases h.1) ?_
    rintro r M9 ⟨h1, h9⟩; cases h1; rw [h9]; clear h9 M9
    refine ax_ifB_ne (tgt := 108) dX4_measure_101 (by decide) (fun hc => ?_) (fun hc => ?_)
    · have hno : ¬ mt_view r t = true := fun q => by have := (mt_view_iff.mp q).2.2.2; rw [hc] at this; cases this
      refine ax_iconst (v := 0) dX4_measure_108 (by decide) ?_
      exact fin False _ ⟨fun q => q.elim, fun q => absurd q hno⟩
    · have hv : mt_view r t = true := mt_view_iff.mpr ⟨on0, on1, hm, Bool.eq_false_iff.mpr hc⟩
      refine ax_iconst (v := 1) dX4_measure_104 (by decide) ?_
      refine ax_goto (tgt := 109) dX4_measure_105 (by decide) ?_
      exact fin True _ ⟨fun _ => hv, fun _ => trivial⟩
  refine ax_istore_n dX4_measure_15 (by decide) rfl ?_
  refine ax_aload_n dX4_measure_16 rfl ?_
  refine ax_getIN (f := 16) dX4_measure_17 acl_5 wd_297 (by decide) rfl (xs_R_0 hR hok) ?_
  refine ax_iconst (v := 2) dX4_measure_20 (by decide) ?_
  rw [hr.1.2.1]
  have hm0 : ¬ r 1 = 2 → mt_met r t = false := fun q => by
    apply Bool.eq_false_iff.mpr
    intro z; exact q (mt_met_iff.mp z).1
  have keep : mt_met r t = false ∨ ¬ mt_ps r t = none → mt_ps r (t + 1) = mt_ps r t := by
    intro q
    rw [hps]
    cases e : mt_ps r t with
    | some u => rfl
    | none =>
      rcases q with q | q
      · rw [q]; rfl
      · exact absurd e q
  refine ax_icmp_ne (tgt := 41) dX4_measure_21 (by decide) (fun hc => ?_) (fun hc => ?_)
  · have h2 : ¬ r 1 = 2 := fun q => hc (by rw [q]; rfl)
    exact rest M rfl (fun _ _ _ => rfl) (by rw [keep (Or.inl (hm0 h2))]; exact hp)
  have h2 : r 1 = 2 := (iI_eq (b := 2) (by unfold iI_b; omega) (by unfold iI_b; omega)).mp hc
  clear hc
  have hb3 := hb2 h2
  have hfb : iI_b (mt_far r t) := by
    have b0 := mt_pos_b0 ho t; have b1 := mt_pos_b1 ho t
    unfold mt_far iI_b; omega
  refine ax_aload_n dX4_measure_24 rfl ?_
  refine ax_getI (f := 4) dX4_measure_25 acl_4 wd_486 (by decide) rfl (xs_U_0 hU hok) ?_
  refine ax_iconst (v := (-1)) dX4_measure_28 (by decide) ?_
  rw [hp]
  cases e : mt_ps r t with
  | some u =>
    have hu60 : u < 2 ^ 31 := by
      have := (mt_first_some e).1
      omega
    refine ax_icmp_ne (tgt := 41) dX4_measure_29 (by decide) (fun hc => ?_) (fun hc => ?_)
    · exact rest M rfl (fun _ _ _ => rfl) (by rw [keep (Or.inr (by rw [e]; exact Option.some_ne_none _)), e]; rw [hp, e])
    · exact absurd hc (nI_m1 hu60)
  | none =>
    refine ax_icmp_ne (tgt := 41) dX4_measure_29 (by decide) (fun hc => ?_) (fun hc => ?_)
    · exact absurd rfl hc
    clear hc
    refine ax_iload_n dX4_measure_32 rfl ?_
    rw [hb3] at rest ⊢
    refine ax_if_gt (tgt := 41) dX4_measure_33 (by decide) (fun hc => ?_) (fun hc => ?_)
    · have h3 := (iI_lt (a := 0) (by unfold iI_b; omega) hfb).mp hc
      have hmf : mt_met r t = false := by
        apply Bool.eq_false_iff.mpr
        intro z
        have := (mt_met_iff.mp z).2
        unfold mt_far at h3; omega
      exact rest M rfl (fun _ _ _ => rfl) (by rw [keep (Or.inl hmf)]; exact hp)
    · have h3 : ¬ 0 < mt_far r t := fun q => hc ((iI_lt (a := 0) (by unfold iI_b; omega) hfb).mpr q)
      have hmt : mt_met r t = true := mt_met_iff.mpr ⟨h2, by unfold mt_far at h3; omega⟩
      refine ax_aload_n dX4_measure_36 rfl ?_
      refine ax_iload_n dX4_measure_37 rfl ?_
      refine ax_putI (f := 4) dX4_measure_38 acl_4 wd_486 (by decide) rfl rfl (ax_nfI rfl) (xs_U_0 hU hok) ?_
      refine ax_gen (fun N hN => ?_)
      have hok : lo_ok N.2 := by rw [hN]; exact hok
      refine rest N (by rw [hN]; rfl) (fun n i q => by rw [hN, ax_pn q]) ?_
      rw [hN, ax_pa, hps, e]
      simp only [if_pos hmt]
      rfl
set_option maxHeartbeats 1000000 in
theorem c_tellValues (hx : xk M.2 p) (hU : xh_U U) (hr : xr M (p 0) r) (ho : rd_ok r) {c t : Nat} (hc2 : c < 2) (ht : t < 99) (ha : xa M (U + 1 + 7 * c) r c) (hcc : xc M (U + 1 + 7 * c) r c t) (hcr : (c : Int) < r 1) {b : Int} {f o : Int32} (hf : M.1 (U + 1 + 7 * c) 7 = f) (hb : M.1 (U + 1 + 7 * c) 8 = iI b) (ho7 : M.1 (U + 1 + 7 * (1 - c)) 7 = o) (h3 : M.1 U 3 = nI t) (hap : xap M U r t) (hp4 : M.1 U 4 = mt_sb (mt_ps r (t + 1))) : ax_Met l G kX4_tellValues 2 0 0 M [av_r U, av_r 4, av_r (U + 1 + 7 * c)] (fun q M2 => q = .inl none ∧ kV M M2 12 (mt_kn r c t b f o)) := by
  have hok := hx.1
  have hc3 : 1 - c < 2 := by omega
  have hR := xk_b0 hx
  have hp0 : p 0 ≠ 22 := by unfold xh_R at hR; omega
  have hU2 : 40 ≤ U := by unfold xh_U at hU; omega
  have hpc := mt_pos_ib ho (c := c) (t := t) hc2 (by omega)
  obtain ⟨a1, a2, a3, a4⟩ := ha
  obtain ⟨a4, a5, a6⟩ := a4 hcr
  have g0 := kV_0 M (mt_kn r c t b f o)
  refine ax_body (by decide) (Nat.le_of_ble_eq_true rfl) ?_
  refine ax_aload_n dX4_tellValues_0 rfl ?_
  refine ax_getKN (f := 0) (p 0) dX4_tellValues_1 acl_7 wd_366 (by decide) rfl (lo_s hok 4 rfl) (xk_r0 hx) ?_
  refine ax_astore_n dX4_tellValues_4 (by decide) rfl ?_
  refine ax_aload_n dX4_tellValues_5 rfl ?_
  refine ax_getKN (f := 4) 22 dX4_tellValues_6 acl_7 wd_373 (by decide) rfl (lo_s hok 4 rfl) (lo_r hok 10 rfl) ?_
  refine ax_astore dX4_tellValues_9 (by decide) rfl ?_
  refine ax_aload dX4_tellValues_11 rfl ?_
  refine ax_iconst (v := 0) dX4_tellValues_13 (by decide) ?_
  refine ax_aload_n dX4_tellValues_14 rfl ?_
  refine ax_aload_n dX4_tellValues_15 rfl ?_
  refine ax_getIN (f := 7) dX4_tellValues_16 acl_8 wd_433 (by decide) rfl (xs_T_0 (xh_UT hU hc2) hok) ?_
  rw [hf]
  refine ax_callVN (As := _) (d2 := _) (c1 := 0) (n1 := 0) (c_reachBy (d := 0) (M := M) hok hR hr f) dX4_tellValues_19 mX5_reachBy wd_667 acl_5 (xs_R_0 (xk_b0 hx) hok) rfl (by omega) (by omega) (by omega) rfl rfl (fun _ _ h => by cases h.1) ?_
  rintro r M9 ⟨h1, h9⟩; cases h1; rw [h9]; clear h9 M9
  refine ax_iastN (0) dX4_tellValues_22 (lo_s hok 22 rfl) (by decide) (by decide) (by decide) ?_
  refine ax_gen (fun M1 hM1 => ?_)
  have hok : lo_ok M1.2 := by rw [hM1]; exact hok
  have hx : xk M1.2 p := by rw [hM1]; exact hx
  have g1 := kV_s g0 hM1 rfl
  refine ax_aload dX4_tellValues_23 rfl ?_
  refine ax_iconst (v := 1) dX4_tellValues_25 (by decide) ?_
  refine ax_aload_n dX4_tellValues_26 rfl ?_
  refine ax_getIN (f := 9) dX4_tellValues_27 acl_5 wd_274 (by decide) rfl (xs_R_0 (xk_b0 hx) hok) ?_
  refine ax_iastN (1) dX4_tellValues_30 (lo_s hok 22 rfl) (by decide) (by decide) (by decide) ?_
  refine ax_gen (fun M2 hM2 => ?_)
  have hok : lo_ok M2.2 := by rw [hM2]; exact hok
  have hx : xk M2.2 p := by rw [hM2]; exact hx
  have g2 := kV_s g1 hM2 ((g1.2.1 _ _ hp0).trans hr.1.2.2.2.2.2.2.2.1)
  refine ax_aload dX4_tellValues_31 rfl ?_
  refine ax_iconst (v := 2) dX4_tellValues_33 (by decide) ?_
  refine ax_aload_n dX4_tellValues_34 rfl ?_
  refine ax_getIN (f := 8) dX4_tellValues_35 acl_8 wd_435 (by decide) rfl (xs_T_0 (xh_UT hU hc2) hok) ?_
  refine ax_iastN (2) dX4_tellValues_38 (lo_s hok 22 rfl) (by decide) (by decide) (by decide) ?_
  refine ax_gen (fun M3 hM3 => ?_)
  have hok : lo_ok M3.2 := by rw [hM3]; exact hok
  have hx : xk M3.2 p := by rw [hM3]; exact hx
  have g3 := kV_s g2 hM3 ((g2.2.1 _ _ (by omega)).trans hb)
  refine ax_aload dX4_tellValues_39 rfl ?_
  refine ax_iconst (v := 3) dX4_tellValues_41 (by decide) ?_
  refine ax_aload_n dX4_tellValues_42 rfl ?_
  refine ax_getIN (f := 3) dX4_tellValues_43 acl_8 wd_425 (by decide) rfl (xs_T_0 (xh_UT hU hc2) hok) ?_
  refine ax_iastN (3) dX4_tellValues_46 (lo_s hok 22 rfl) (by decide) (by decide) (by decide) ?_
  refine ax_gen (fun M4 hM4 => ?_)
  have hok : lo_ok M4.2 := by rw [hM4]; exact hok
  have hx : xk M4.2 p := by rw [hM4]; exact hx
  have g4 := kV_s g3 hM4 ((g3.2.1 _ _ (by omega)).trans a4)
  refine ax_aload dX4_tellValues_47 rfl ?_
  refine ax_iconst (v := 4) dX4_tellValues_49 (by decide) ?_
  refine ax_aload_n dX4_tellValues_50 rfl ?_
  refine ax_aload_n dX4_tellValues_51 rfl ?_
  refine ax_getIN (f := 6) dX4_tellValues_52 acl_8 wd_431 (by decide) rfl (xs_T_0 (xh_UT hU hc2) hok) ?_
  rw [g4.2.1 _ _ (by omega), hcc hcr]
  refine ax_callVN (As := _) (d2 := _) (c1 := 0) (n1 := 0) (c_wetAt (M := M4) hok hR (kV_xr hR g4 hr) ho hpc rfl) dX4_tellValues_55 mX5_wetAt wd_671 acl_5 (xs_R_0 (xk_b0 hx) hok) rfl (by omega) (by omega) (by omega) rfl rfl (fun _ _ h => by cases h.1) ?_
  rintro r M9 ⟨h1, h9⟩; cases h1; rw [h9]; clear h9 M9
  refine ax_iastN (4) dX4_tellValues_58 (lo_s hok 22 rfl) (by decide) (by decide) (by decide) ?_
  refine ax_gen (fun M5 hM5 => ?_)
  have hok : lo_ok M5.2 := by rw [hM5]; exact hok
  have hx : xk M5.2 p := by rw [hM5]; exact hx
  have g5 := kV_s g4 hM5 rfl
  refine ax_aload dX4_tellValues_59 rfl ?_
  refine ax_iconst (v := 5) dX4_tellValues_61 (by decide) ?_
  refine ax_aload_n dX4_tellValues_62 rfl ?_
  refine ax_getIN (f := 5) dX4_tellValues_63 acl_8 wd_429 (by decide) rfl (xs_T_0 (xh_UT hU hc2) hok) ?_
  refine ax_iastN (5) dX4_tellValues_66 (lo_s hok 22 rfl) (by decide) (by decide) (by decide) ?_
  refine ax_gen (fun M6 hM6 => ?_)
  have hok : lo_ok M6.2 := by rw [hM6]; exact hok
  have hx : xk M6.2 p := by rw [hM6]; exact hx
  have g6 := kV_s g5 hM6 ((g5.2.1 _ _ (by omega)).trans a6)
  refine ax_aload dX4_tellValues_67 rfl ?_
  refine ax_bipush (v := 6) dX4_tellValues_69 (by decide) ?_
  refine ax_aload_n dX4_tellValues_71 rfl ?_
  refine ax_getIN (f := 4) dX4_tellValues_72 acl_8 wd_427 (by decide) rfl (xs_T_0 (xh_UT hU hc2) hok) ?_
  refine ax_iastN (6) dX4_tellValues_75 (lo_s hok 22 rfl) (by decide) (by decide) (by decide) ?_
  refine ax_gen (fun M7 hM7 => ?_)
  have hok : lo_ok M7.2 := by rw [hM7]; exact hok
  have hx : xk M7.2 p := by rw [hM7]; exact hx
  have g7 := kV_s g6 hM7 ((g6.2.1 _ _ (by omega)).trans a5)
  refine ax_aload dX4_tellValues_76 rfl ?_
  refine ax_bipush (v := 7) dX4_tellValues_78 (by decide) ?_
  refine ax_aload_n dX4_tellValues_80 rfl ?_
  refine ax_getI (f := 3) dX4_tellValues_81 acl_4 wd_484 (by decide) rfl (xs_U_0 hU hok) ?_
  refine ax_iastN (7) dX4_tellValues_84 (lo_s hok 22 rfl) (by decide) (by decide) (by decide) ?_
  refine ax_gen (fun M8 hM8 => ?_)
  have hok : lo_ok M8.2 := by rw [hM8]; exact hok
  have hx : xk M8.2 p := by rw [hM8]; exact hx
  have g8 := kV_s g7 hM8 ((g7.2.1 _ _ (by omega)).trans h3)
  refine ax_aload dX4_tellValues_85 rfl ?_
  refine ax_bipush (v := 8) dX4_tellValues_87 (by decide) ?_
  refine ax_aload_n dX4_tellValues_89 rfl ?_
  refine ax_aload_n dX4_tellValues_90 rfl ?_
  refine ax_getI (f := 3) dX4_tellValues_91 acl_4 wd_484 (by decide) rfl (xs_U_0 hU hok) ?_
  rw [g8.2.1 U 3 (by omega), h3]
  refine ax_callV (As := _) (d2 := _) (c1 := 0) (n1 := 0) (c_xfar (M := M8) hok hU ho ht (by unfold xap; rw [g8.2.1 _ _ (by omega)]; exact hap) rfl) dX4_tellValues_94 mX4_far wd_655 acl_4 (xs_U_0 hU hok) rfl (by omega) (by omega) (by omega) rfl rfl (fun _ _ h => by cases h.1) ?_
  rintro r M9 ⟨h1, h9⟩; cases h1; rw [h9]; clear h9 M9
  refine ax_iastN (8) dX4_tellValues_97 (lo_s hok 22 rfl) (by decide) (by decide) (by decide) ?_
  refine ax_gen (fun M9 hM9 => ?_)
  have hok : lo_ok M9.2 := by rw [hM9]; exact hok
  have hx : xk M9.2 p := by rw [hM9]; exact hx
  have g9 := kV_s g8 hM9 rfl
  refine ax_aload dX4_tellValues_98 rfl ?_
  refine ax_bipush (v := 9) dX4_tellValues_100 (by decide) ?_
  refine ax_aload_n dX4_tellValues_102 rfl ?_
  refine ax_getI (f := 4) dX4_tellValues_103 acl_4 wd_486 (by decide) rfl (xs_U_0 hU hok) ?_
  refine ax_iconst (v := (-1)) dX4_tellValues_106 (by decide) ?_
  rw [g9.2.1 U 4 (by omega), hp4]
  have hpm := ps_met ho t
  refine ax_join2 (mt_met r t = true) 115 (1) (0) ?_ (fun ja jb => ?_)
  rotate_left
  · refine ax_icmp_eq (tgt := 114) dX4_tellValues_107 (by decide) (fun h107 => ?_) (fun h107 => ?_)
    · refine ax_iconst (v := 0) dX4_tellValues_114 (by decide) ?_
      first | exact jb (fun z => (hpm.mpr z) h107) | exact ja (hpm.mp h107)
    · refine ax_iconst (v := 1) dX4_tellValues_110 (by decide) ?_
      refine ax_goto (tgt := 115) dX4_tellValues_111 (by decide) ?_
      first | exact jb (fun z => (hpm.mpr z) h107) | exact ja (hpm.mp h107)
  refine ax_iastN (9) dX4_tellValues_115 (lo_s hok 22 rfl) (by decide) (by decide) (by decide) ?_
  refine ax_gen (fun M10 hM10 => ?_)
  have hok : lo_ok M10.2 := by rw [hM10]; exact hok
  have hx : xk M10.2 p := by rw [hM10]; exact hx
  have g10 := kV_s g9 hM10 rfl
  refine ax_aload dX4_tellValues_116 rfl ?_
  refine ax_bipush (v := 10) dX4_tellValues_118 (by decide) ?_
  refine ax_aload_n dX4_tellValues_120 rfl ?_
  refine ax_aload_n dX4_tellValues_121 rfl ?_
  refine ax_getI (f := 3) dX4_tellValues_122 acl_4 wd_484 (by decide) rfl (xs_U_0 hU hok) ?_
  rw [g10.2.1 U 3 (by omega), h3]
  refine ax_callV (As := _) (d2 := _) (c1 := 0) (n1 := 0) (c_inView (M := M10) hok hU ho ht (by unfold xap; rw [g10.2.1 _ _ (by omega)]; exact hap) rfl) dX4_tellValues_125 mX4_inView wd_676 acl_4 (xs_U_0 hU hok) rfl (by omega) (by omega) (by omega) rfl rfl (fun _ _ h => by cases h.1) ?_
  rintro r M9 ⟨h1, h9⟩; cases h1; rw [h9]; clear h9 M9
  have e10 : nI 1 - M10.1 (U + 1 + 7 * c) 0 = nI (1 - c) := by
    rw [g10.2.1 _ _ (by omega), a1, pk_sub (by omega)]
  have oth : ∀ v : Int32, v = (if mt_view r t = true then o else 0) → ax_W l G kX4_tellValues (ax_FQ G (fun q M2 => q = .inl none ∧ kV M M2 12 (mt_kn r c t b f o))) 2 0 0 M10 148 [some (av_r U), some (av_r 4), some (av_r (U + 1 + 7 * c)), some (av_r (p 0)), some (av_r 22)] [av_i v, av_i 10, av_r 22] := by
    intro v hv
    refine ax_iastN (10) dX4_tellValues_148 (lo_s hok 22 rfl) (by decide) (by decide) (by decide) ?_
    refine ax_gen (fun M11 hM11 => ?_)
    have hok : lo_ok M11.2 := by rw [hM11]; exact hok
    have hx : xk M11.2 p := by rw [hM11]; exact hx
    have g11 := kV_s g10 hM11 hv
    refine ax_aload dX4_tellValues_149 rfl ?_
    refine ax_bipush (v := 11) dX4_tellValues_151 (by decide) ?_
    refine ax_aload_n dX4_tellValues_153 rfl ?_
    refine ax_getIN (f := 7) dX4_tellValues_154 acl_8 wd_433 (by decide) rfl (xs_T_0 (xh_UT hU hc2) hok) ?_
    refine ax_iastN (11) dX4_tellValues_157 (lo_s hok 22 rfl) (by decide) (by decide) (by decide) ?_
    refine ax_gen (fun M12 hM12 => ?_)
    have hok : lo_ok M12.2 := by rw [hM12]; exact hok
    have hx : xk M12.2 p := by rw [hM12]; exact hx
    have g12 := kV_s g11 hM12 ((g11.2.1 _ _ (by omega)).trans hf)
    refine ax_vret dX4_tellValues_158 rfl ?_
    exact ⟨rfl, g12⟩
  refine ax_ifB_eq (tgt := 147) dX4_tellValues_128 (by decide) (fun hc => ?_) (fun hc => ?_)
  · refine ax_iconst (v := 0) dX4_tellValues_147 (by decide) ?_
    exact oth 0 (by rw [if_neg hc])
  · refine ax_aload_n dX4_tellValues_131 rfl ?_
    refine ax_iconst (v := 1) dX4_tellValues_132 (by decide) ?_
    refine ax_aload_n dX4_tellValues_133 rfl ?_
    refine ax_getIN (f := 0) dX4_tellValues_134 acl_8 wd_421 (by decide) rfl (xs_T_0 (xh_UT hU hc2) hok) ?_
    refine ax_isub dX4_tellValues_137 ?_
    rw [show (1 : Int32) = nI 1 from rfl, e10]
    refine ax_callV (As := _) (d2 := _) (c1 := 0) (n1 := 0) (c_tripOf (d := 0) (M := M10) hok hU hc3 rfl) dX4_tellValues_138 mX4_tripOf wd_680 acl_4 (xs_U_0 hU hok) rfl (by omega) (by omega) (by omega) rfl rfl (fun _ _ h => by cases h.1) ?_
    rintro r M9 ⟨h1, h9⟩; cases h1; rw [h9]; clear h9 M9
    refine ax_getIN (f := 7) dX4_tellValues_141 acl_8 wd_433 (by decide) rfl (xs_T_0 (xh_UT hU hc3) hok) ?_
    refine ax_goto (tgt := 148) dX4_tellValues_144 (by decide) ?_
    exact oth _ (by rw [if_pos hc, g10.2.1 _ _ (by omega), ho7])
end XN

