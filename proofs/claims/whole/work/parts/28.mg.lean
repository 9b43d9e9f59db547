/-! ===== the road: the reference ===== -/
section PHI
variable {l : Launch} {G : ax_G} {k : ax_K} {F : ax_F} {d c n : Nat} {M : ax_M} {pc : Nat} {L : List (Option ax_V)} {S : List ax_V}
theorem ax_phi1 (p : Prop) [Decidable p] (J : Nat) (a b : Int32) {x : Int32} (k1 : ax_W l G k F d c n M J L (av_i (if p then a else b) :: S)) (k2 : (p → ax_W l G k F d c n M J L (av_i a :: S)) → (¬ p → ax_W l G k F d c n M J L (av_i b :: S)) → ax_W l G k F d c n M pc L (av_i x :: S)) : ax_W l G k F d c n M pc L (av_i x :: S) :=
  k2 (fun h => by rw [if_pos h] at k1; exact k1) (fun h => by rw [if_neg h] at k1; exact k1)
theorem ax_phi2 (p : Prop) [Decidable p] (J : Nat) (a b : Int32) {x y : Int32} (k1 : ax_W l G k F d c n M J L (av_i (if p then a else b) :: S)) (k2 : (p → ax_W l G k F d c n M J L (av_i a :: S)) → (¬ p → ax_W l G k F d c n M J L (av_i b :: S)) → ax_W l G k F d c n M pc L (av_i x :: av_i y :: S)) : ax_W l G k F d c n M pc L (av_i x :: av_i y :: S) :=
  k2 (fun h => by rw [if_pos h] at k1; exact k1) (fun h => by rw [if_neg h] at k1; exact k1)
end PHI
def md_wet (M : ax_M) (x : Int32) : Nat → Bool
  | 0 => false
  | n + 1 => md_wet M x n || (decide (M.1 (107 + n) 0 ≤ x) && decide (x ≤ M.1 (107 + n) 1))
def md_min (a b : Int32) : Int32 := if a < b then a else b
def md_max (a b : Int32) : Int32 := if b < a then a else b
def md_bend (M : ax_M) (a b : Int32) : Nat → Bool
  | 0 => false
  | n + 1 => md_bend M a b n || (decide (md_min a b < M.1 98 n) && decide (M.1 98 n < md_max a b))
theorem md_wet_up {M : ax_M} {x : Int32} {k n : Nat} (h : k < n) (hk : M.1 (107 + k) 0 ≤ x ∧ x ≤ M.1 (107 + k) 1) : md_wet M x n = true := by
  induction n with
  | zero => omega
  | succ n ih =>
    show (md_wet M x n || _) = true
    by_cases e : k = n
    · subst e; simp [hk.1, hk.2]
    · rw [ih (by omega)]; rfl
theorem md_bend_up {M : ax_M} {a b : Int32} {k n : Nat} (h : k < n) (hk : md_min a b < M.1 98 k ∧ M.1 98 k < md_max a b) : md_bend M a b n = true := by
  induction n with
  | zero => omega
  | succ n ih =>
    show (md_bend M a b n || _) = true
    by_cases e : k = n
    · subst e; simp [hk.1, hk.2]
    · rw [ih (by omega)]; rfl
section MG
variable {l : Launch} {G : ax_G} {d : Nat} {M : ax_M}
theorem c_X10_paceOf (hok : lo_ok M.2) {c : Nat} (hc : c < 2) {x : Int32} (hx : x = nI c) : ax_Met l G kX10_paceOf d 0 0 M [av_r 90, av_i x] (ax_p (av_i (M.1 100 (2 * c))) M) := by
  subst hx
  have e : (0 : Int32) + 2 * nI c = nI (2 * c) := by rw [show (2 : Int32) = nI 2 from rfl, pk_mul, show (0 : Int32) = nI 0 from rfl, nI_add, Nat.zero_add]
  refine ax_body (by decide) (Nat.le_of_ble_eq_true rfl) ?_
  refine ax_aload_n dX10_paceOf_0 rfl ?_
  refine ax_getK (f := 18) 100 dX10_paceOf_1 acl_10 wd_1618 (by decide) rfl (lo_s hok 90 rfl) (lo_r hok 89 rfl) ?_
  refine ax_iconst (v := 0) dX10_paceOf_4 (by decide) ?_
  refine ax_iconst (v := 2) dX10_paceOf_5 (by decide) ?_
  refine ax_iload_n dX10_paceOf_6 rfl ?_
  refine ax_imul dX10_paceOf_7 ?_
  refine ax_iadd dX10_paceOf_8 ?_
  rw [e]
  refine ax_iald dX10_paceOf_9 (lo_s hok 100 rfl) (vp_in_nI (by omega) (by decide)) ?_
  refine ax_iret dX10_paceOf_10 rfl ?_
  rw [nI_clamp (by omega)]
  exact ⟨rfl, rfl⟩
theorem c_X10_tiltOf (hok : lo_ok M.2) {c : Nat} (hc : c < 2) {x : Int32} (hx : x = nI c) : ax_Met l G kX10_tiltOf d 0 0 M [av_r 90, av_i x] (ax_p (av_i (M.1 100 (2 * c + 1))) M) := by
  subst hx
  have e : (0 : Int32) + 2 * nI c + 1 = nI (2 * c + 1) := by rw [show (2 : Int32) = nI 2 from rfl, pk_mul, show (0 : Int32) = nI 0 from rfl, nI_add, Nat.zero_add, nI_1]
  refine ax_body (by decide) (Nat.le_of_ble_eq_true rfl) ?_
  refine ax_aload_n dX10_tiltOf_0 rfl ?_
  refine ax_getK (f := 18) 100 dX10_tiltOf_1 acl_10 wd_1618 (by decide) rfl (lo_s hok 90 rfl) (lo_r hok 89 rfl) ?_
  refine ax_iconst (v := 0) dX10_tiltOf_4 (by decide) ?_
  refine ax_iconst (v := 2) dX10_tiltOf_5 (by decide) ?_
  refine ax_iload_n dX10_tiltOf_6 rfl ?_
  refine ax_imul dX10_tiltOf_7 ?_
  refine ax_iadd dX10_tiltOf_8 ?_
  refine ax_iconst (v := 1) dX10_tiltOf_9 (by decide) ?_
  refine ax_iadd dX10_tiltOf_10 ?_
  rw [e]
  refine ax_iald dX10_tiltOf_11 (lo_s hok 100 rfl) (vp_in_nI (by omega) (by decide)) ?_
  refine ax_iret dX10_tiltOf_12 rfl ?_
  rw [nI_clamp (by omega)]
  exact ⟨rfl, rfl⟩
theorem c_X10_blindsFor (hok : lo_ok M.2) (y : Int32) : ax_Met l G kX10_blindsFor d 0 0 M [av_r 90, av_i y] (ax_p (av_i (M.1 100 25 + y / 20)) M) := by
  refine ax_body (by decide) (Nat.le_of_ble_eq_true rfl) ?_
  refine ax_aload_n dX10_blindsFor_0 rfl ?_
  refine ax_getK (f := 18) 100 dX10_blindsFor_1 acl_10 wd_1618 (by decide) rfl (lo_s hok 90 rfl) (lo_r hok 89 rfl) ?_
  refine ax_bipush (v := 25) dX10_blindsFor_4 (by decide) ?_
  refine ax_iald dX10_blindsFor_6 (lo_s hok 100 rfl) (by unfold vp_in; decide) ?_
  refine ax_iload_n dX10_blindsFor_7 rfl ?_
  refine ax_bipush (v := 20) dX10_blindsFor_8 (by decide) ?_
  refine ax_idiv dX10_blindsFor_10 (by decide) ?_
  refine ax_iadd dX10_blindsFor_11 ?_
  refine ax_iret dX10_blindsFor_12 rfl ?_
  exact ⟨rfl, rfl⟩
theorem c_X10_isWet (hok : lo_ok M.2) {n : Nat} (hn : M.1 94 4 = nI n) (hn4 : n ≤ 4) (x : Int32) : ax_Met l G kX10_isWet 1 0 0 M [av_r 90, av_i x] (ax_p (av_i (if md_wet M x n = true then 1 else 0)) M) := by
  refine ax_body (by decide) (Nat.le_of_ble_eq_true rfl) ?_
  have loop : ∀ (q i : Nat), i + q = n → md_wet M x i = false → ax_W l G kX10_isWet (ax_FQ G (ax_p (av_i (if md_wet M x n = true then 1 else 0)) M)) 1 0 0 M 2 [some (av_r 90), some (av_i x), some (av_i (nI i))] [] := by
    intro q
    induction q with
    | zero =>
      intro i hi hf
      refine ax_iload_n dX10_isWet_2 rfl ?_
      refine ax_aload_n dX10_isWet_3 rfl ?_
      refine ax_getK (f := 12) 94 dX10_isWet_4 acl_10 wd_1612 (by decide) rfl (lo_s hok 90 rfl) (lo_r hok 83 rfl) ?_
      refine ax_iconst (v := 4) dX10_isWet_7 (by decide) ?_
      refine ax_iald dX10_isWet_8 (lo_s hok 94 rfl) (by unfold vp_in; decide) ?_
      rw [show ((4 : Int32).toNatClampNeg) = 4 from rfl, hn]
      refine ax_icmp_ge (tgt := 43) dX10_isWet_9 (by decide) (fun hc => ?_) (fun hc => ?_)
      · refine ax_iconst (v := 0) dX10_isWet_43 (by decide) ?_
        refine ax_zret dX10_isWet_44 rfl ?_ ?_
        · exact Or.inl rfl
        · rw [← hi, Nat.add_zero, hf]; exact ⟨rfl, rfl⟩
      · exact absurd ((nI_leI (by omega) (by omega)).mpr (by omega)) hc
    | succ q ih =>
      intro i hi hf
      refine ax_iload_n dX10_isWet_2 rfl ?_
      refine ax_aload_n dX10_isWet_3 rfl ?_
      refine ax_getK (f := 12) 94 dX10_isWet_4 acl_10 wd_1612 (by decide) rfl (lo_s hok 90 rfl) (lo_r hok 83 rfl) ?_
      refine ax_iconst (v := 4) dX10_isWet_7 (by decide) ?_
      refine ax_iald dX10_isWet_8 (lo_s hok 94 rfl) (by unfold vp_in; decide) ?_
      rw [show ((4 : Int32).toNatClampNeg) = 4 from rfl, hn]
      refine ax_icmp_ge (tgt := 43) dX10_isWet_9 (by decide) (fun hc => ?_) (fun hc => ?_)
      · exact absurd ((nI_leI (by omega) (by omega)).mp hc) (by omega)
      · refine ax_iload_n dX10_isWet_12 rfl ?_
        refine ax_aload_n dX10_isWet_13 rfl ?_
        refine ax_getK (f := 20) 106 dX10_isWet_14 acl_10 wd_1620 (by decide) rfl (lo_s hok 90 rfl) (lo_r hok 91 rfl) ?_
        refine ax_iload_n dX10_isWet_17 rfl ?_
        refine ax_aaldK2 (107 + i) dX10_isWet_18 (lo_s hok 106 rfl) (vp_in_nI (by omega) (by decide)) (by rw [nI_clamp (by omega)]; exact lo_w_m_wet hok (by omega)) ?_
        refine ax_iconst (v := 0) dX10_isWet_19 (by decide) ?_
        refine ax_iald dX10_isWet_20 (lo_z_m_wet hok (i := i) (by omega)) (by unfold vp_in; decide) ?_
        refine ax_aload_n dX10_isWet_21 rfl ?_
        refine ax_getK (f := 20) 106 dX10_isWet_22 acl_10 wd_1620 (by decide) rfl (lo_s hok 90 rfl) (lo_r hok 91 rfl) ?_
        refine ax_iload_n dX10_isWet_25 rfl ?_
        refine ax_aaldK2 (107 + i) dX10_isWet_26 (lo_s hok 106 rfl) (vp_in_nI (by omega) (by decide)) (by rw [nI_clamp (by omega)]; exact lo_w_m_wet hok (by omega)) ?_
        refine ax_iconst (v := 1) dX10_isWet_27 (by decide) ?_
        refine ax_iald dX10_isWet_28 (lo_z_m_wet hok (i := i) (by omega)) (by unfold vp_in; decide) ?_
        refine ax_callS (As := _) (c1 := 0) (n1 := 0) (c_X10_in (d := 0) (M := M) _ _ _) dX10_isWet_29 mX10_in wd_1772 rfl (by omega) (by omega) (by omega) rfl rfl (fun _ _ h => by cases h.1) ?_
        rintro r M9 ⟨h1, h9⟩; cases h1; rw [h9]; clear h9 M9
        refine ax_if_eq (tgt := 37) dX10_isWet_32 (by decide) (fun hc => ?_) (fun hc => ?_)
        · have hno := iv_b1.mp hc
          refine ax_iinc (v := 1) dX10_isWet_37 rfl (by decide) (by decide) rfl ?_
          refine ax_goto (tgt := 2) dX10_isWet_40 (by decide) ?_
          rw [nI_1]
          refine ih (i + 1) (by omega) ?_
          show (md_wet M x i || _) = false
          rw [hf, Bool.false_or]
          simp only [Bool.and_eq_false_iff, decide_eq_false_iff_not]
          exact Decidable.not_and_iff_not_or_not.mp hno
        · have hyes : M.1 (107 + i) 0 ≤ x ∧ x ≤ M.1 (107 + i) 1 := by
            by_cases q : M.1 (107 + i) 0 ≤ x ∧ x ≤ M.1 (107 + i) 1
            · exact q
            · exact absurd (iv_b1.mpr q) hc
          refine ax_iconst (v := 1) dX10_isWet_35 (by decide) ?_
          refine ax_zret dX10_isWet_36 rfl ?_ ?_
          · exact Or.inr rfl
          · rw [md_wet_up (k := i) (by omega) hyes]; exact ⟨rfl, rfl⟩
  refine ax_iconst (v := 0) dX10_isWet_0 (by decide) ?_
  refine ax_istore_n dX10_isWet_1 (by decide) rfl ?_
  exact loop n 0 (by omega) rfl
theorem c_X10_isBendBetween (hok : lo_ok M.2) {n : Nat} (hn : M.1 94 3 = nI n) (hn6 : n ≤ 6) (a b : Int32) : ax_Met l G kX10_isBendBetween 1 0 0 M [av_r 90, av_i a, av_i b] (ax_p (av_i (if md_bend M a b n = true then 1 else 0)) M) := by
  refine ax_body (by decide) (Nat.le_of_ble_eq_true rfl) ?_
  have loop : ∀ (q i : Nat), i + q = n → md_bend M a b i = false → ax_W l G kX10_isBendBetween (ax_FQ G (ax_p (av_i (if md_bend M a b n = true then 1 else 0)) M)) 1 0 0 M 2 [some (av_r 90), some (av_i a), some (av_i b), some (av_i (nI i))] [] := by
    intro q
    induction q with
    | zero =>
      intro i hi hf
      refine ax_iload_n dX10_isBendBetween_2 rfl ?_
      refine ax_aload_n dX10_isBendBetween_3 rfl ?_
      refine ax_getK (f := 12) 94 dX10_isBendBetween_4 acl_10 wd_1612 (by decide) rfl (lo_s hok 90 rfl) (lo_r hok 83 rfl) ?_
      refine ax_iconst (v := 3) dX10_isBendBetween_7 (by decide) ?_
      refine ax_iald dX10_isBendBetween_8 (lo_s hok 94 rfl) (by unfold vp_in; decide) ?_
      rw [show ((3 : Int32).toNatClampNeg) = 3 from rfl, hn]
      refine ax_icmp_ge (tgt := 48) dX10_isBendBetween_9 (by decide) (fun hc => ?_) (fun hc => ?_)
      · refine ax_iconst (v := 0) dX10_isBendBetween_48 (by decide) ?_
        refine ax_zret dX10_isBendBetween_49 rfl ?_ ?_
        · exact Or.inl rfl
        · rw [← hi, Nat.add_zero, hf]; exact ⟨rfl, rfl⟩
      · exact absurd ((nI_leI (by omega) (by omega)).mpr (by omega)) hc
    | succ q ih =>
      intro i hi hf
      have go : ¬ (md_min a b < M.1 98 i ∧ M.1 98 i < md_max a b) → ax_W l G kX10_isBendBetween (ax_FQ G (ax_p (av_i (if md_bend M a b n = true then 1 else 0)) M)) 1 0 0 M 42 [some (av_r 90), some (av_i a), some (av_i b), some (av_i (nI i))] [] := by
        intro hno
        refine ax_iinc (v := 1) dX10_isBendBetween_42 rfl (by decide) (by decide) rfl ?_
        refine ax_goto (tgt := 2) dX10_isBendBetween_45 (by decide) ?_
        rw [nI_1]
        refine ih (i + 1) (by omega) ?_
        show (md_bend M a b i || _) = false
        rw [hf, Bool.false_or]
        simp only [Bool.and_eq_false_iff, decide_eq_false_iff_not]
        exact Decidable.not_and_iff_not_or_not.mp hno
      refine ax_iload_n dX10_isBendBetween_2 rfl ?_
      refine ax_aload_n dX10_isBendBetween_3 rfl ?_
      refine ax_getK (f := 12) 94 dX10_isBendBetween_4 acl_10 wd_1612 (by decide) rfl (lo_s hok 90 rfl) (lo_r hok 83 rfl) ?_
      refine ax_iconst (v := 3) dX10_isBendBetween_7 (by decide) ?_
      refine ax_iald dX10_isBendBetween_8 (lo_s hok 94 rfl) (by unfold vp_in; decide) ?_
      rw [show ((3 : Int32).toNatClampNeg) = 3 from rfl, hn]
      refine ax_icmp_ge (tgt := 48) dX10_isBendBetween_9 (by decide) (fun hc => ?_) (fun hc => ?_)
      · exact absurd ((nI_leI (by omega) (by omega)).mp hc) (by omega)
      · refine ax_aload_n dX10_isBendBetween_12 rfl ?_
        refine ax_getK (f := 16) 98 dX10_isBendBetween_13 acl_10 wd_1616 (by decide) rfl (lo_s hok 90 rfl) (lo_r hok 87 rfl) ?_
        refine ax_iload_n dX10_isBendBetween_16 rfl ?_
        refine ax_iald dX10_isBendBetween_17 (lo_s hok 98 rfl) (vp_in_nI (by omega) (by decide)) ?_
        refine ax_iload_n dX10_isBendBetween_18 rfl ?_
        refine ax_iload_n dX10_isBendBetween_19 rfl ?_
        rw [nI_clamp (by omega)]
        refine ax_callS (As := _) (c1 := 0) (n1 := 0) (c_X10_less (d := 0) (M := M) _ _) dX10_isBendBetween_20 mX10_less wd_1905 rfl (by omega) (by omega) (by omega) rfl rfl (fun _ _ h => by cases h.1) ?_
        rintro r M9 ⟨h1, h9⟩; cases h1; rw [h9]; clear h9 M9
        refine ax_icmp_le (tgt := 42) dX10_isBendBetween_23 (by decide) (fun hc => ?_) (fun hc => ?_)
        · exact go (fun q => absurd q.1 (Int32.not_lt.mpr hc))
        · have h1 := Int32.not_le.mp hc
          refine ax_aload_n dX10_isBendBetween_26 rfl ?_
          refine ax_getK (f := 16) 98 dX10_isBendBetween_27 acl_10 wd_1616 (by decide) rfl (lo_s hok 90 rfl) (lo_r hok 87 rfl) ?_
          refine ax_iload_n dX10_isBendBetween_30 rfl ?_
          refine ax_iald dX10_isBendBetween_31 (lo_s hok 98 rfl) (vp_in_nI (by omega) (by decide)) ?_
          refine ax_iload_n dX10_isBendBetween_32 rfl ?_
          refine ax_iload_n dX10_isBendBetween_33 rfl ?_
          rw [nI_clamp (by omega)]
          refine ax_callS (As := _) (c1 := 0) (n1 := 0) (c_X10_more (d := 0) (M := M) _ _) dX10_isBendBetween_34 mX10_more wd_1908 rfl (by omega) (by omega) (by omega) rfl rfl (fun _ _ h => by cases h.1) ?_
          rintro r M9 ⟨h1, h9⟩; cases h1; rw [h9]; clear h9 M9
          refine ax_icmp_ge (tgt := 42) dX10_isBendBetween_37 (by decide) (fun hc => ?_) (fun hc => ?_)
          · exact go (fun q => absurd q.2 (Int32.not_lt.mpr hc))
          · have h2 := Int32.not_le.mp hc
            refine ax_iconst (v := 1) dX10_isBendBetween_40 (by decide) ?_
            refine ax_zret dX10_isBendBetween_41 rfl ?_ ?_
            · exact Or.inr rfl
            · rw [md_bend_up (k := i) (by omega) ⟨h1, h2⟩]; exact ⟨rfl, rfl⟩
  refine ax_iconst (v := 0) dX10_isBendBetween_0 (by decide) ?_
  refine ax_istore_n dX10_isBendBetween_1 (by decide) rfl ?_
  exact loop n 0 (by omega) rfl
theorem c_X10_isOn (hok : lo_ok M.2) {c : Nat} (hc2 : c < 2) {x : Int32} (hx : x = nI c) : ax_Met l G kX10_isOn 1 0 0 M [av_r 90, av_i x] (ax_p (av_i (if nI c < M.1 94 1 ∧ 0 ≤ M.1 379 c ∧ M.1 379 c ≤ M.1 94 0 - 1 then 1 else 0)) M) := by
  subst hx
  refine ax_body (by decide) (Nat.le_of_ble_eq_true rfl) ?_
  refine ax_iload_n dX10_isOn_0 rfl ?_
  refine ax_aload_n dX10_isOn_1 rfl ?_
  refine ax_getK (f := 12) 94 dX10_isOn_2 acl_10 wd_1612 (by decide) rfl (lo_s hok 90 rfl) (lo_r hok 83 rfl) ?_
  refine ax_iconst (v := 1) dX10_isOn_5 (by decide) ?_
  refine ax_iald dX10_isOn_6 (lo_s hok 94 rfl) (by unfold vp_in; decide) ?_
  refine ax_icmp_ge (tgt := 35) dX10_isOn_7 (by decide) (fun hc => ?_) (fun hc => ?_)
  · refine ax_iconst (v := 0) dX10_isOn_35 (by decide) ?_
    refine ax_zret dX10_isOn_36 rfl ?_ ?_
    · exact Or.inl rfl
    · rw [if_neg (fun q => absurd q.1 (Int32.not_lt.mpr hc))]; exact ⟨rfl, rfl⟩
  · have h1 := Int32.not_le.mp hc
    refine ax_aload_n dX10_isOn_10 rfl ?_
    refine ax_getK (f := 41) 379 dX10_isOn_11 acl_10 wd_1641 (by decide) rfl (lo_s hok 90 rfl) (lo_r hok 106 rfl) ?_
    refine ax_iload_n dX10_isOn_14 rfl ?_
    refine ax_iald dX10_isOn_15 (lo_s hok 379 rfl) (vp_in_nI hc2 (by decide)) ?_
    refine ax_iconst (v := 0) dX10_isOn_16 (by decide) ?_
    refine ax_aload_n dX10_isOn_17 rfl ?_
    refine ax_getK (f := 12) 94 dX10_isOn_18 acl_10 wd_1612 (by decide) rfl (lo_s hok 90 rfl) (lo_r hok 83 rfl) ?_
    refine ax_iconst (v := 0) dX10_isOn_21 (by decide) ?_
    refine ax_iald dX10_isOn_22 (lo_s hok 94 rfl) (by unfold vp_in; decide) ?_
    refine ax_iconst (v := 1) dX10_isOn_23 (by decide) ?_
    refine ax_isub dX10_isOn_24 ?_
    rw [nI_clamp (by omega)]
    refine ax_callS (As := _) (c1 := 0) (n1 := 0) (c_X10_in (d := 0) (M := M) _ _ _) dX10_isOn_25 mX10_in wd_1772 rfl (by omega) (by omega) (by omega) rfl rfl (fun _ _ h => by cases h.1) ?_
    rintro r M9 ⟨h1, h9⟩; cases h1; rw [h9]; clear h9 M9
    refine ax_if_eq (tgt := 35) dX10_isOn_28 (by decide) (fun hc => ?_) (fun hc => ?_)
    · have h2 := iv_b1.mp hc
      refine ax_iconst (v := 0) dX10_isOn_35 (by decide) ?_
      refine ax_zret dX10_isOn_36 rfl ?_ ?_
      · exact Or.inl rfl
      · rw [if_neg (fun q => h2 q.2)]; exact ⟨rfl, rfl⟩
    · have h2 : 0 ≤ M.1 379 c ∧ M.1 379 c ≤ M.1 94 0 - 1 := by
        by_cases q : 0 ≤ M.1 379 c ∧ M.1 379 c ≤ M.1 94 0 - 1
        · exact q
        · exact absurd (iv_b1.mpr q) hc
      refine ax_iconst (v := 1) dX10_isOn_31 (by decide) ?_
      refine ax_goto (tgt := 36) dX10_isOn_32 (by decide) ?_
      refine ax_zret dX10_isOn_36 rfl ?_ ?_
      · exact Or.inr rfl
      · rw [if_pos ⟨h1, h2⟩]; exact ⟨rfl, rfl⟩
theorem c_X10_stopOf (hok : lo_ok M.2) {c n : Nat} (hc2 : c < 2) (hn : M.1 94 4 = nI n) (hn4 : n ≤ 4) (y : Int32) {x : Int32} (hx : x = nI c) : ax_Met l G kX10_stopOf 2 0 0 M [av_r 90, av_i x, av_i y] (ax_p (av_i (M.1 100 (2 * c) * (if md_wet M y n = true then 4 else 2))) M) := by
  refine ax_body (by decide) (Nat.le_of_ble_eq_true rfl) ?_
  refine ax_aload_n dX10_stopOf_0 rfl ?_
  refine ax_iload_n dX10_stopOf_1 rfl ?_
  refine ax_callV (As := _) (d2 := _) (c1 := 0) (n1 := 0) (c_X10_paceOf (d := 0) (M := M) hok hc2 hx) dX10_stopOf_2 mX10_paceOf wd_1923 acl_10 (lo_s hok 90 rfl) rfl (by omega) (by omega) (by omega) rfl rfl (fun _ _ h => by cases h.1) ?_
  rintro r M9 ⟨h1, h9⟩; cases h1; rw [h9]; clear h9 M9
  refine ax_aload_n dX10_stopOf_5 rfl ?_
  refine ax_iload_n dX10_stopOf_6 rfl ?_
  refine ax_callV (As := _) (d2 := _) (c1 := 0) (n1 := 0) (c_X10_isWet (M := M) hok hn hn4 _) dX10_stopOf_7 mX10_isWet wd_1911 acl_10 (lo_s hok 90 rfl) rfl (by omega) (by omega) (by omega) rfl rfl (fun _ _ h => by cases h.1) ?_
  rintro r M9 ⟨h1, h9⟩; cases h1; rw [h9]; clear h9 M9
  by_cases hw : md_wet M y n = true
  · rw [if_pos hw, if_pos hw]
    refine ax_if_eq (tgt := 17) dX10_stopOf_10 (by decide) (fun hc => ?_) (fun hc => ?_)
    · exact absurd hc (by decide)
    · refine ax_iconst (v := 4) dX10_stopOf_13 (by decide) ?_
      refine ax_goto (tgt := 18) dX10_stopOf_14 (by decide) ?_
      refine ax_imul dX10_stopOf_18 ?_
      refine ax_iret dX10_stopOf_19 rfl ?_
      exact ⟨rfl, rfl⟩
  · rw [if_neg hw, if_neg hw]
    refine ax_if_eq (tgt := 17) dX10_stopOf_10 (by decide) (fun hc => ?_) (fun hc => ?_)
    · refine ax_iconst (v := 2) dX10_stopOf_17 (by decide) ?_
      refine ax_imul dX10_stopOf_18 ?_
      refine ax_iret dX10_stopOf_19 rfl ?_
      exact ⟨rfl, rfl⟩
    · exact absurd rfl hc
end MG

