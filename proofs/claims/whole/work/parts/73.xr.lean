/-! ===== who is seen, who is hit: the class ===== -/
section XRR
variable {l : Launch} {G : ax_G} {M : ax_M} {r : Nat → Int} {R T U : Nat} {lw : mt_L} {dd : Nat → Int32} {c : Nat}
theorem c_ahead {d : Nat} (hok : lo_ok M.2) (hT : xh_T T) (ho : rd_ok r) (hc2 : c < 2) (ht : xtp M T r lw dd c) {t : Nat} (htn : t < tn r c) {x : Int} {y z : Int32} (hy : y = nI t) (hz : z = iI x) : ax_Met l G kX8_ahead d 0 0 M [av_r T, av_i y, av_i z] (ax_p (av_i (iI (mt_aw r c t x))) M) := by
  subst hy hz
  have h60 := tn_60 ho hc2
  refine ax_body (by decide) (Nat.le_of_ble_eq_true rfl) ?_
  refine ax_iload_n dX8_ahead_0 rfl ?_
  refine ax_aload_n dX8_ahead_1 rfl ?_
  refine ax_getK (f := 10) (T + 1) dX8_ahead_2 acl_8 wd_438 (by decide) rfl (xs_T_0 hT hok) (xr_T_10 hT hok) ?_
  refine ax_iload_n dX8_ahead_5 rfl ?_
  refine ax_ialdN (t) dX8_ahead_6 (xs_T_1 hT hok) (by decide) (by first | with_reducible rfl | assumption | exact ax_nix (by simp only [nx_0, nx_1, nx_2, nx_3, nx_4, nx_10, nx_20, nx_21, nx_100, nI_add, pk_mul] <;> rfl) (by omega) | decide) (by omega) ?_
  rw [(ht.2.2 t htn).1]
  refine ax_isub dX8_ahead_7 ?_
  refine ax_aload_n dX8_ahead_8 rfl ?_
  refine ax_getI (f := 1) dX8_ahead_9 acl_8 wd_422 (by decide) rfl (xs_T_0 hT hok) ?_
  rw [ht.1.2.1, iI_sub]
  refine ax_imul dX8_ahead_12 ?_
  refine ax_iret dX8_ahead_13 rfl ?_
  refine ⟨?_, rfl⟩
  unfold mt_aw
  rw [← iI_mul]
  congr 4
  split <;> rfl
theorem c_seenIn (hok : lo_ok M.2) (hT : xh_T T) (hR : xh_R R) (hr : xr M R r) (ho : rd_ok r) (hc2 : c < 2) (ht : xtp M T r lw dd c) {x h : Int} (hx : 0 ≤ x ∧ x ≤ 60) (hh : 0 ≤ h ∧ h ≤ 9) {y z : Int32} (hy : y = iI x) (hz : z = iI h) : ax_Met l G kX8_seenIn 2 0 0 M [av_r T, av_r R, av_i y, av_i z] (ax_p (av_i (mt_sb (mt_first (mt_sees r lw dd c x h) (tn r c)))) M) := by
  subst hy hz
  have h60 := tn_60 ho hc2
  refine ax_body (by decide) (Nat.le_of_ble_eq_true rfl) ?_
  refine ax_iconst (v := 0) dX8_seenIn_0 (by decide) ?_
  refine ax_istore dX8_seenIn_1 (by decide) rfl ?_
  refine ax_for (tn r c) (fun i N L => N = M ∧ (∃ v, L = [some (av_r T), some (av_r R), some (av_i (iI x)), some (av_i (iI h)), some (av_i (nI i)), v]) ∧ ∀ j, j < i → mt_sees r lw dd c x h j = false) 3 ?_ ?_ (i := 0) (by omega) ⟨rfl, ⟨_, rfl⟩, fun j hj => by omega⟩
  · rintro i N L hi ⟨rfl, ⟨v, rfl⟩, hno⟩ next
    obtain ⟨q1, q2, q3, q4, q5, q6⟩ := ht.2.2 i hi
    have ab := aw_b ho hc2 hi hx
    have sb := mt_si_b r lw dd c i
    have key : mt_sees r lw dd c x h i = true ↔ ¬ mt_si r lw dd c i = 0 ∧ 0 ≤ mt_aw r c i x ∧ mt_aw r c i x ≤ mt_si r lw dd c i + h ∧ ¬ rd_hid r (mt_pos r c i) x = true := by
      unfold mt_sees
      simp [Bool.and_eq_true, decide_eq_true_eq]
    have stay : ¬ mt_sees r lw dd c x h i = true → ∀ w, ax_W l G kX8_seenIn (ax_FQ G (ax_p (av_i (mt_sb (mt_first (mt_sees r lw dd c x h) (tn r c)))) N)) 2 0 0 N 68 [some (av_r T), some (av_r R), some (av_i (iI x)), some (av_i (iI h)), some (av_i (nI i)), w] [] := by
      intro hf w
      refine ax_iinc (v := 1) dX8_seenIn_68 rfl (by decide) (by decide) rfl ?_
      refine ax_goto (tgt := 3) dX8_seenIn_71 (by decide) ?_
      rw [nI_1]
      refine next _ _ ⟨rfl, ⟨_, rfl⟩, fun j hj => ?_⟩
      by_cases e : j = i
      · subst e; exact Bool.eq_false_iff.mpr hf
      · exact hno j (by omega)
    refine ax_iload dX8_seenIn_3 rfl ?_
    refine ax_aload_n dX8_seenIn_5 rfl ?_
    refine ax_getI (f := 9) dX8_seenIn_6 acl_8 wd_436 (by decide) rfl (xs_T_0 hT hok) ?_
    rw [ht.2.1]
    refine ax_icmp_ge (tgt := 74) dX8_seenIn_9 (by decide) (fun hc => absurd ((nI_leI (by omega) (by omega)).mp hc) (by omega)) (fun hc => ?_)
    refine ax_aload_n dX8_seenIn_12 rfl ?_
    refine ax_iload dX8_seenIn_13 rfl ?_
    refine ax_iload_n dX8_seenIn_15 rfl ?_
    refine ax_callV (As := _) (d2 := _) (c1 := 0) (n1 := 0) (c_ahead (d := 0) (M := N) hok hT ho hc2 ht hi rfl rfl) dX8_seenIn_16 mX8_ahead wd_1184 acl_8 (xs_T_0 hT hok) rfl (by omega) (by omega) (by omega) rfl rfl (fun _ _ h => by cases h.1) ?_
    rintro r M9 ⟨h1, h9⟩; cases h1; rw [h9]; clear h9 M9
    refine ax_istore dX8_seenIn_19 (by decide) rfl ?_
    refine ax_iload dX8_seenIn_21 rfl ?_
    refine ax_if_lt (tgt := 68) dX8_seenIn_23 (by decide) (fun hc => ?_) (fun hc => ?_)
    · have := (iI_lt (b := 0) (by unfold iI_b; omega) (by unfold iI_b; omega)).mp hc
      exact stay (fun z => by have := (key.mp z).2.1; omega) _
    have k1 : ¬ mt_aw r c i x < 0 := fun z => hc ((iI_lt (b := 0) (by unfold iI_b; omega) (by unfold iI_b; omega)).mpr z)
    clear hc
    refine ax_aload_n dX8_seenIn_26 rfl ?_
    refine ax_getK (f := 13) (T + 4) dX8_seenIn_27 acl_8 wd_444 (by decide) rfl (xs_T_0 hT hok) (xr_T_13 hT hok) ?_
    refine ax_iload dX8_seenIn_30 rfl ?_
    refine ax_ialdN (i) dX8_seenIn_32 (xs_T_4 hT hok) (by decide) (by first | with_reducible rfl | assumption | exact ax_nix (by simp only [nx_0, nx_1, nx_2, nx_3, nx_4, nx_10, nx_20, nx_21, nx_100, nI_add, pk_mul] <;> rfl) (by omega) | decide) (by omega) ?_
    rw [q4]
    refine ax_if_eq (tgt := 68) dX8_seenIn_33 (by decide) (fun hc => ?_) (fun hc => ?_)
    · have := (iI_eq (b := 0) (by unfold iI_b; omega) (by unfold iI_b; omega)).mp hc
      exact stay (fun z => (key.mp z).1 this) _
    have k2 : ¬ mt_si r lw dd c i = 0 := fun z => hc (by rw [z]; rfl)
    clear hc
    refine ax_iload dX8_seenIn_36 rfl ?_
    refine ax_aload_n dX8_seenIn_38 rfl ?_
    refine ax_getK (f := 13) (T + 4) dX8_seenIn_39 acl_8 wd_444 (by decide) rfl (xs_T_0 hT hok) (xr_T_13 hT hok) ?_
    refine ax_iload dX8_seenIn_42 rfl ?_
    refine ax_ialdN (i) dX8_seenIn_44 (xs_T_4 hT hok) (by decide) (by first | with_reducible rfl | assumption | exact ax_nix (by simp only [nx_0, nx_1, nx_2, nx_3, nx_4, nx_10, nx_20, nx_21, nx_100, nI_add, pk_mul] <;> rfl) (by omega) | decide) (by omega) ?_
    rw [q4]
    refine ax_iload_n dX8_seenIn_45 rfl ?_
    refine ax_iadd dX8_seenIn_46 ?_
    rw [iI_add]
    refine ax_icmp_gt (tgt := 68) dX8_seenIn_47 (by decide) (fun hc => ?_) (fun hc => ?_)
    · have := (iI_lt (by unfold iI_b; omega) (by unfold iI_b; omega)).mp hc
      exact stay (fun z => by have := (key.mp z).2.2.1; omega) _
    have k3 : ¬ mt_si r lw dd c i + h < mt_aw r c i x := fun z => hc ((iI_lt (by unfold iI_b; omega) (by unfold iI_b; omega)).mpr z)
    clear hc
    refine ax_aload_n dX8_seenIn_50 rfl ?_
    refine ax_aload_n dX8_seenIn_51 rfl ?_
    refine ax_getK (f := 10) (T + 1) dX8_seenIn_52 acl_8 wd_438 (by decide) rfl (xs_T_0 hT hok) (xr_T_10 hT hok) ?_
    refine ax_iload dX8_seenIn_55 rfl ?_
    refine ax_ialdN (i) dX8_seenIn_57 (xs_T_1 hT hok) (by decide) (by first | with_reducible rfl | assumption | exact ax_nix (by simp only [nx_0, nx_1, nx_2, nx_3, nx_4, nx_10, nx_20, nx_21, nx_100, nI_add, pk_mul] <;> rfl) (by omega) | decide) (by omega) ?_
    rw [q1]
    refine ax_iload_n dX8_seenIn_58 rfl ?_
    refine ax_callVN (As := _) (d2 := _) (c1 := 0) (n1 := 0) (c_hides (M := N) hok hR hr ho (a := mt_pos r c i) (b := x) (mt_pos_ib ho hc2 (by omega)) (by unfold iI_b; omega) rfl rfl) dX8_seenIn_59 mX5_hides wd_1192 acl_5 (xs_R_0 hR hok) rfl (by omega) (by omega) (by omega) rfl rfl (fun _ _ h => by cases h.1) ?_
    rintro r M9 ⟨h1, h9⟩; cases h1; rw [h9]; clear h9 M9
    refine ax_ifB_ne (tgt := 68) dX8_seenIn_62 (by decide) (fun hc => ?_) (fun hc => ?_)
    · exact stay (fun z => (key.mp z).2.2.2 hc) _
    · refine ax_iload dX8_seenIn_65 rfl ?_
      refine ax_iret dX8_seenIn_67 rfl ?_
      rw [mt_first_of (u := i) (key.mpr ⟨k2, by omega, by omega, hc⟩) hno hi]
      exact ⟨rfl, rfl⟩
  · rintro N L ⟨rfl, ⟨v, rfl⟩, hno⟩
    refine ax_iload dX8_seenIn_3 rfl ?_
    refine ax_aload_n dX8_seenIn_5 rfl ?_
    refine ax_getI (f := 9) dX8_seenIn_6 acl_8 wd_436 (by decide) rfl (xs_T_0 hT hok) ?_
    rw [ht.2.1]
    refine ax_icmp_ge (tgt := 74) dX8_seenIn_9 (by decide) (fun hc => ?_) (fun hc => absurd ((nI_leI (by omega) (by omega)).mpr (by omega)) hc)
    refine ax_iconst (v := (-1)) dX8_seenIn_74 (by decide) ?_
    refine ax_iret dX8_seenIn_75 rfl ?_
    rw [mt_first_no hno]
    exact ⟨rfl, rfl⟩
theorem c_reachedIn (hok : lo_ok M.2) (hT : xh_T T) (ho : rd_ok r) (hc2 : c < 2) (ht : xtp M T r lw dd c) {x : Int} (hx : 0 ≤ x ∧ x ≤ 60) {y : Int32} (hy : y = iI x) : ax_Met l G kX8_reachedIn 1 0 0 M [av_r T, av_i y] (ax_p (av_i (mt_sb (mt_first (fun t => mt_com r c t x) (tn r c)))) M) := by
  subst hy
  have h60 := tn_60 ho hc2
  have hoc := ho.2.1 c hc2
  refine ax_body (by decide) (Nat.le_of_ble_eq_true rfl) ?_
  refine ax_iconst (v := 0) dX8_reachedIn_0 (by decide) ?_
  refine ax_istore_n dX8_reachedIn_1 (by decide) rfl ?_
  refine ax_for (tn r c) (fun i N L => N = M ∧ (∃ v, L = [some (av_r T), some (av_i (iI x)), some (av_i (nI i)), v]) ∧ ∀ j, j < i → mt_com r c j x = false) 2 ?_ ?_ (i := 0) (by omega) ⟨rfl, ⟨_, rfl⟩, fun j hj => by omega⟩
  · rintro i N L hi ⟨rfl, ⟨v, rfl⟩, hno⟩ next
    have hcr := (mt_on_iff.mp ((tn_on ho hc2 i).mpr hi)).1
    have ab := aw_b ho hc2 hi hx
    have stay : ¬ mt_com r c i x = true → ∀ w, ax_W l G kX8_reachedIn (ax_FQ G (ax_p (av_i (mt_sb (mt_first (fun t => mt_com r c t x) (tn r c)))) N)) 1 0 0 N 39 [some (av_r T), some (av_i (iI x)), some (av_i (nI i)), w] [] := by
      intro hf w
      refine ax_iinc (v := 1) dX8_reachedIn_39 rfl (by decide) (by decide) rfl ?_
      refine ax_goto (tgt := 2) dX8_reachedIn_42 (by decide) ?_
      rw [nI_1]
      refine next _ _ ⟨rfl, ⟨_, rfl⟩, fun j hj => ?_⟩
      by_cases e : j = i
      · subst e; exact Bool.eq_false_iff.mpr hf
      · exact hno j (by omega)
    have found : mt_com r c i x = true → ∀ w, ax_W l G kX8_reachedIn (ax_FQ G (ax_p (av_i (mt_sb (mt_first (fun t => mt_com r c t x) (tn r c)))) N)) 1 0 0 N 37 [some (av_r T), some (av_i (iI x)), some (av_i (nI i)), w] [] := by
      intro hf w
      refine ax_iload_n dX8_reachedIn_37 rfl ?_
      refine ax_iret dX8_reachedIn_38 rfl ?_
      rw [mt_first_of (p := fun t => mt_com r c t x) (u := i) hf hno hi]
      exact ⟨rfl, rfl⟩
    unfold rd_oc at hoc
    refine ax_iload_n dX8_reachedIn_2 rfl ?_
    refine ax_aload_n dX8_reachedIn_3 rfl ?_
    refine ax_getI (f := 9) dX8_reachedIn_4 acl_8 wd_436 (by decide) rfl (xs_T_0 hT hok) ?_
    rw [ht.2.1]
    refine ax_icmp_ge (tgt := 45) dX8_reachedIn_7 (by decide) (fun hc => absurd ((nI_leI (by omega) (by omega)).mp hc) (by omega)) (fun hc => ?_)
    refine ax_aload_n dX8_reachedIn_10 rfl ?_
    refine ax_iload_n dX8_reachedIn_11 rfl ?_
    refine ax_iload_n dX8_reachedIn_12 rfl ?_
    refine ax_callV (As := _) (d2 := _) (c1 := 0) (n1 := 0) (c_ahead (d := 0) (M := N) hok hT ho hc2 ht hi rfl rfl) dX8_reachedIn_13 mX8_ahead wd_1184 acl_8 (xs_T_0 hT hok) rfl (by omega) (by omega) (by omega) rfl rfl (fun _ _ h => by cases h.1) ?_
    rintro r M9 ⟨h1, h9⟩; cases h1; rw [h9]; clear h9 M9
    refine ax_istore_n dX8_reachedIn_16 (by decide) rfl ?_
    refine ax_iload_n dX8_reachedIn_17 rfl ?_
    refine ax_aload_n dX8_reachedIn_18 rfl ?_
    refine ax_getI (f := 4) dX8_reachedIn_19 acl_8 wd_426 (by decide) rfl (xs_T_0 hT hok) ?_
    rw [(ht.1.2.2.2 hcr).2.1]
    refine ax_icmp_gt (tgt := 39) dX8_reachedIn_22 (by decide) (fun hc => ?_) (fun hc => ?_)
    · have := (iI_lt (by unfold iI_b; omega) (by unfold iI_b; omega)).mp hc
      exact stay (fun z => by rcases mt_com_iff.mp z with z | z <;> omega) _
    have k1 : ¬ r (10 + 2 * c) < mt_aw r c i x := fun z => hc ((iI_lt (by unfold iI_b; omega) (by unfold iI_b; omega)).mpr z)
    clear hc
    refine ax_iload_n dX8_reachedIn_25 rfl ?_
    refine ax_if_gt (tgt := 37) dX8_reachedIn_26 (by decide) (fun hc => ?_) (fun hc => ?_)
    · have := (iI_lt (a := 0) (by unfold iI_b; omega) (by unfold iI_b; omega)).mp hc
      exact found (mt_com_iff.mpr (Or.inl ⟨by omega, by omega⟩)) _
    have k2 : ¬ 0 < mt_aw r c i x := fun z => hc ((iI_lt (a := 0) (by unfold iI_b; omega) (by unfold iI_b; omega)).mpr z)
    clear hc
    refine ax_iload_n dX8_reachedIn_29 rfl ?_
    refine ax_if_ne (tgt := 39) dX8_reachedIn_30 (by decide) (fun hc => ?_) (fun hc => ?_)
    · have : ¬ mt_aw r c i x = 0 := fun z => hc (by rw [z]; rfl)
      exact stay (fun z => by rcases mt_com_iff.mp z with z | z <;> omega) _
    have k3 := (iI_eq (b := 0) (by unfold iI_b; omega) (by unfold iI_b; omega)).mp hc
    clear hc
    refine ax_iload_n dX8_reachedIn_33 rfl ?_
    refine ax_if_ne (tgt := 39) dX8_reachedIn_34 (by decide) (fun hc => ?_) (fun hc => ?_)
    · have : ¬ i = 0 := fun z => hc (by rw [z]; rfl)
      exact stay (fun z => by rcases mt_com_iff.mp z with z | z <;> omega) _
    · have := (nI_eq (b := 0) (by omega) (by omega)).mp hc
      exact found (mt_com_iff.mpr (Or.inr ⟨k3, this⟩)) _
  · rintro N L ⟨rfl, ⟨v, rfl⟩, hno⟩
    refine ax_iload_n dX8_reachedIn_2 rfl ?_
    refine ax_aload_n dX8_reachedIn_3 rfl ?_
    refine ax_getI (f := 9) dX8_reachedIn_4 acl_8 wd_436 (by decide) rfl (xs_T_0 hT hok) ?_
    rw [ht.2.1]
    refine ax_icmp_ge (tgt := 45) dX8_reachedIn_7 (by decide) (fun hc => ?_) (fun hc => absurd ((nI_leI (by omega) (by omega)).mpr (by omega)) hc)
    refine ax_iconst (v := (-1)) dX8_reachedIn_45 (by decide) ?_
    refine ax_iret dX8_reachedIn_46 rfl ?_
    rw [mt_first_no hno]
    exact ⟨rfl, rfl⟩
/-- hit, by the first tenths -/
theorem hits_first (ho : rd_ok r) (hc2 : c < 2) (hcr : (c : Int) < r 1) {x h : Int} : mt_hits r lw dd c x h (mt_T r) = true ↔ ∃ t, mt_first (fun t => mt_com r c t x) (tn r c) = some t ∧ ∀ u, mt_first (mt_sees r lw dd c x h) (tn r c) = some u → t < u ∨ mt_aw r c u x < mt_stop r c t := by
  rw [mt_hits_iff]
  have hT := tn_T ho hc2
  have late : ∀ t, t < tn r c → (mt_late r c t x (mt_seen r lw dd c x h (t + 1)) = true ↔ ∀ u, mt_first (mt_sees r lw dd c x h) (tn r c) = some u → t < u ∨ mt_aw r c u x < mt_stop r c t) := by
    intro t ht
    unfold mt_seen
    rw [first_tn ho hc2, show min (t + 1) (tn r c) = t + 1 by omega]
    cases e : mt_first (mt_sees r lw dd c x h) (t + 1) with
    | none =>
      refine ⟨fun _ u hu => Or.inl ?_, fun _ => rfl⟩
      by_cases z : t < u
      · exact z
      · have h1 := mt_first_none e u (by omega)
        rw [(mt_first_some hu).2.1] at h1; cases h1
    | some u =>
      obtain ⟨e1, e2, e3⟩ := mt_first_some e
      have e4 : mt_first (mt_sees r lw dd c x h) (tn r c) = some u := mt_first_of e2 e3 (by omega)
      show decide _ = true ↔ _
      rw [decide_eq_true_eq]
      constructor
      · intro z w hw
        rw [e4] at hw; cases hw
        exact Or.inr z
      · intro z
        rcases z u e4 with z | z
        · omega
        · exact z
  constructor
  · rintro ⟨t, h1, h2, h3, h4⟩
    have ht := (tn_on ho hc2 t).mp h2
    have hf : mt_first (fun t => mt_com r c t x) (tn r c) = some t := mt_first_of h3 (fun v hv => Bool.eq_false_iff.mpr (fun z => by have := com_u ho hc2 hcr z h3; omega)) ht
    exact ⟨t, hf, (late t ht).mp h4⟩
  · rintro ⟨t, h1, h2⟩
    obtain ⟨e1, e2, -⟩ := mt_first_some h1
    exact ⟨t, by omega, (tn_on ho hc2 t).mpr e1, e2, (late t e1).mpr h2⟩
theorem c_doesHit (hok : lo_ok M.2) (hT : xh_T T) (hR : xh_R R) (hr : xr M R r) (ho : rd_ok r) (hc2 : c < 2) (hcr : (c : Int) < r 1) (ht : xtp M T r lw dd c) {x h : Int} (hx : 0 ≤ x ∧ x ≤ 60) (hh : 0 ≤ h ∧ h ≤ 9) {y z : Int32} (hy : y = iI x) (hz : z = iI h) : ax_Met l G kX8_doesHit 3 0 0 M [av_r T, av_r R, av_i y, av_i z] (ax_p (av_i (if mt_hits r lw dd c x h (mt_T r) = true then 1 else 0)) M) := by
  subst hy hz
  have h60 := tn_60 ho hc2
  have key := hits_first (lw := lw) (dd := dd) ho hc2 hcr (x := x) (h := h)
  refine ax_body (by decide) (Nat.le_of_ble_eq_true rfl) ?_
  refine ax_aload_n dX8_doesHit_0 rfl ?_
  refine ax_iload_n dX8_doesHit_1 rfl ?_
  refine ax_callV (As := _) (d2 := _) (c1 := 0) (n1 := 0) (c_reachedIn (M := M) hok hT ho hc2 ht hx rfl) dX8_doesHit_2 mX8_reachedIn wd_1180 acl_8 (xs_T_0 hT hok) rfl (by omega) (by omega) (by omega) rfl rfl (fun _ _ h => by cases h.1) ?_
  rintro r M9 ⟨h1, h9⟩; cases h1; rw [h9]; clear h9 M9
  cases e1 : mt_first (fun t => mt_com r c t x) (tn r c) with
  | none =>
    refine ax_istore dX8_doesHit_5 (by decide) rfl ?_
    refine ax_iload dX8_doesHit_7 rfl ?_
    refine ax_iconst (v := (-1)) dX8_doesHit_9 (by decide) ?_
    refine ax_icmp_ne (tgt := 15) dX8_doesHit_10 (by decide) (fun hc => ?_) (fun hc => ?_)
    · exact absurd rfl hc
    · refine ax_iconst (v := 0) dX8_doesHit_13 (by decide) ?_
      refine ax_zret dX8_doesHit_14 rfl ?_ ?_
      · exact Or.inl rfl
      · rw [if_neg (fun q => by obtain ⟨t, h1, _⟩ := key.mp q; rw [e1] at h1; cases h1)]; exact ⟨rfl, rfl⟩
  | some t =>
    have t1 := (mt_first_some e1).1
    rw [show mt_sb (some t) = nI t from rfl]
    refine ax_istore dX8_doesHit_5 (by decide) rfl ?_
    refine ax_iload dX8_doesHit_7 rfl ?_
    refine ax_iconst (v := (-1)) dX8_doesHit_9 (by decide) ?_
    refine ax_icmp_ne (tgt := 15) dX8_doesHit_10 (by decide) (fun hc => ?_) (fun hc => ?_)
    rotate_left
    · exact absurd hc (nI_m1 (by omega))
    clear hc
    refine ax_aload_n dX8_doesHit_15 rfl ?_
    refine ax_aload_n dX8_doesHit_16 rfl ?_
    refine ax_iload_n dX8_doesHit_17 rfl ?_
    refine ax_iload_n dX8_doesHit_18 rfl ?_
    refine ax_callV (As := _) (d2 := _) (c1 := 0) (n1 := 0) (c_seenIn (M := M) hok hT hR hr ho hc2 ht hx hh rfl rfl) dX8_doesHit_19 mX8_seenIn wd_1188 acl_8 (xs_T_0 hT hok) rfl (by omega) (by omega) (by omega) rfl rfl (fun _ _ h => by cases h.1) ?_
    rintro r M9 ⟨h1, h9⟩; cases h1; rw [h9]; clear h9 M9
    have yes : mt_hits r lw dd c x h (mt_T r) = true → ∀ w, ax_W l G kX8_doesHit (ax_FQ G (ax_p (av_i (if mt_hits r lw dd c x h (mt_T r) = true then 1 else 0)) M)) 3 0 0 M 54 [some (av_r T), some (av_r R), some (av_i (iI x)), some (av_i (iI h)), some (av_i (nI t)), w] [] := by
      intro hy w
      refine ax_iconst (v := 1) dX8_doesHit_54 (by decide) ?_
      refine ax_goto (tgt := 59) dX8_doesHit_55 (by decide) ?_
      refine ax_zret dX8_doesHit_59 rfl ?_ ?_
      · exact Or.inr rfl
      · rw [if_pos hy]; exact ⟨rfl, rfl⟩
    cases e2 : mt_first (mt_sees r lw dd c x h) (tn r c) with
    | none =>
      refine ax_istore dX8_doesHit_22 (by decide) rfl ?_
      refine ax_iload dX8_doesHit_24 rfl ?_
      refine ax_iconst (v := (-1)) dX8_doesHit_26 (by decide) ?_
      refine ax_icmp_eq (tgt := 54) dX8_doesHit_27 (by decide) (fun hc => ?_) (fun hc => ?_)
      · exact yes (key.mpr ⟨t, e1, fun u hu => by rw [e2] at hu; cases hu⟩) _
      · exact absurd rfl hc
    | some u =>
      have u1 := (mt_first_some e2).1
      have ab := aw_b ho hc2 u1 hx
      have sb := mt_stop_b (t := t) ho hc2
      rw [show mt_sb (some u) = nI u from rfl]
      refine ax_istore dX8_doesHit_22 (by decide) rfl ?_
      refine ax_iload dX8_doesHit_24 rfl ?_
      refine ax_iconst (v := (-1)) dX8_doesHit_26 (by decide) ?_
      refine ax_icmp_eq (tgt := 54) dX8_doesHit_27 (by decide) (fun hc => ?_) (fun hc => ?_)
      · exact absurd hc (nI_m1 (by omega))
      clear hc
      refine ax_iload dX8_doesHit_30 rfl ?_
      refine ax_iload dX8_doesHit_32 rfl ?_
      refine ax_icmp_gt (tgt := 54) dX8_doesHit_34 (by decide) (fun hc => ?_) (fun hc => ?_)
      · have := (nI_ltI (by omega) (by omega)).mp hc
        exact yes (key.mpr ⟨t, e1, fun w hw => by rw [e2] at hw; cases hw; exact Or.inl this⟩) _
      have k1 : ¬ t < u := fun q => hc ((nI_ltI (by omega) (by omega)).mpr q)
      clear hc
      refine ax_aload_n dX8_doesHit_37 rfl ?_
      refine ax_iload dX8_doesHit_38 rfl ?_
      refine ax_iload_n dX8_doesHit_40 rfl ?_
      refine ax_callV (As := _) (d2 := _) (c1 := 0) (n1 := 0) (c_ahead (d := 0) (M := M) hok hT ho hc2 ht u1 rfl rfl) dX8_doesHit_41 mX8_ahead wd_1184 acl_8 (xs_T_0 hT hok) rfl (by omega) (by omega) (by omega) rfl rfl (fun _ _ h => by cases h.1) ?_
      rintro r M9 ⟨h1, h9⟩; cases h1; rw [h9]; clear h9 M9
      refine ax_aload_n dX8_doesHit_44 rfl ?_
      refine ax_getK (f := 14) (T + 5) dX8_doesHit_45 acl_8 wd_446 (by decide) rfl (xs_T_0 hT hok) (xr_T_14 hT hok) ?_
      refine ax_iload dX8_doesHit_48 rfl ?_
      refine ax_ialdN (t) dX8_doesHit_50 (xs_T_5 hT hok) (by decide) (by first | with_reducible rfl | assumption | exact ax_nix (by simp only [nx_0, nx_1, nx_2, nx_3, nx_4, nx_10, nx_20, nx_21, nx_100, nI_add, pk_mul] <;> rfl) (by omega) | decide) (by omega) ?_
      rw [(ht.2.2 t t1).2.2.2.2.1]
      refine ax_icmp_ge (tgt := 58) dX8_doesHit_51 (by decide) (fun hc => ?_) (fun hc => ?_)
      · have := (iI_le (by unfold iI_b; omega) (by unfold iI_b; omega)).mp hc
        refine ax_iconst (v := 0) dX8_doesHit_58 (by decide) ?_
        refine ax_zret dX8_doesHit_59 rfl ?_ ?_
        · exact Or.inl rfl
        · rw [if_neg (fun q => by
            obtain ⟨t2, h1, h2⟩ := key.mp q
            rw [e1] at h1; cases h1
            rcases h2 u e2 with h3 | h3 <;> omega)]; exact ⟨rfl, rfl⟩
      · have : ¬ mt_stop r c t ≤ mt_aw r c u x := fun q => hc ((iI_le (by unfold iI_b; omega) (by unfold iI_b; omega)).mpr q)
        exact yes (key.mpr ⟨t, e1, fun w hw => by rw [e2] at hw; cases hw; exact Or.inr (by omega)⟩) _
/-- all of a meeting -/
theorem xmt_tp {c : Nat} (h : xmt M U r lw dd) (hc2 : c < 2) : xtp M (U + 1 + 7 * c) r lw dd c := h.2.2.2 c hc2
theorem c_hitBy (hok : lo_ok M.2) (hU : xh_U U) (hR : xh_R R) (hr : xr M R r) (ho : rd_ok r) (hm : xmt M U r lw dd) (hc2 : c < 2) {x h : Int} (hx : 0 ≤ x ∧ x ≤ 60) (hh : 0 ≤ h ∧ h ≤ 9) {w y z : Int32} (hw : w = nI c) (hy : y = iI x) (hz : z = iI h) : ax_Met l G kX4_hitBy 4 0 0 M [av_r U, av_r R, av_i w, av_i y, av_i z] (ax_p (av_i (if mt_hits r lw dd c x h (mt_T r) = true then 1 else 0)) M) := by
  subst hw
  have h0 := ho.1
  refine ax_body (by decide) (Nat.le_of_ble_eq_true rfl) ?_
  refine ax_iload_n dX4_hitBy_0 rfl ?_
  refine ax_aload_n dX4_hitBy_1 rfl ?_
  refine ax_getIN (f := 16) dX4_hitBy_2 acl_5 wd_297 (by decide) rfl (xs_R_0 hR hok) ?_
  rw [hr.1.2.1]
  refine ax_icmp_ge (tgt := 27) dX4_hitBy_5 (by decide) (fun hc => ?_) (fun hc => ?_)
  · have hno : ¬ (c : Int) < r 1 := by
      rw [iI_nI] at hc
      have := (iI_le (by unfold iI_b; omega) (by unfold iI_b; omega)).mp hc
      omega
    refine ax_iconst (v := 0) dX4_hitBy_27 (by decide) ?_
    refine ax_iret dX4_hitBy_28 rfl ?_
    rw [if_neg (fun q => by obtain ⟨t, _, h2, _⟩ := mt_hits_iff.mp q; exact hno (mt_on_iff.mp h2).1)]; exact ⟨rfl, rfl⟩
  have hcr : (c : Int) < r 1 := by
    by_cases q : (c : Int) < r 1
    · exact q
    · exact absurd (by rw [iI_nI]; exact (iI_le (by unfold iI_b; omega) (by unfold iI_b; omega)).mpr (by omega)) hc
  clear hc
  refine ax_aload_n dX4_hitBy_8 rfl ?_
  refine ax_iload_n dX4_hitBy_9 rfl ?_
  refine ax_callV (As := _) (d2 := _) (c1 := 0) (n1 := 0) (c_tripOf (d := 0) (M := M) hok hU hc2 rfl) dX4_hitBy_10 mX4_tripOf wd_680 acl_4 (xs_U_0 hU hok) rfl (by omega) (by omega) (by omega) rfl rfl (fun _ _ h => by cases h.1) ?_
  rintro r M9 ⟨h1, h9⟩; cases h1; rw [h9]; clear h9 M9
  refine ax_aload_n dX4_hitBy_13 rfl ?_
  refine ax_iload_n dX4_hitBy_14 rfl ?_
  refine ax_iload dX4_hitBy_15 rfl ?_
  refine ax_callVN (As := _) (d2 := _) (c1 := 0) (n1 := 0) (c_doesHit (M := M) hok (xh_UT hU hc2) hR hr ho hc2 hcr (xmt_tp hm hc2) hx hh hy hz) dX4_hitBy_17 mX8_doesHit wd_1176 acl_8 (xs_T_0 (xh_UT hU hc2) hok) rfl (by omega) (by omega) (by omega) rfl rfl (fun _ _ h => by cases h.1) ?_
  rintro r M9 ⟨h1, h9⟩; cases h1; rw [h9]; clear h9 M9
  refine ax_ifB_eq (tgt := 27) dX4_hitBy_20 (by decide) (fun hc => ?_) (fun hc => ?_)
  · refine ax_iconst (v := 0) dX4_hitBy_27 (by decide) ?_
    refine ax_iret dX4_hitBy_28 rfl ?_
    rw [if_neg hc]; exact ⟨rfl, rfl⟩
  · refine ax_iconst (v := 1) dX4_hitBy_23 (by decide) ?_
    refine ax_goto (tgt := 28) dX4_hitBy_24 (by decide) ?_
    refine ax_iret dX4_hitBy_28 rfl ?_
    rw [if_pos hc]; exact ⟨rfl, rfl⟩
theorem c_hitByCars (hok : lo_ok M.2) (hU : xh_U U) (hR : xh_R R) (hr : xr M R r) (ho : rd_ok r) (hm : xmt M U r lw dd) {x h : Int} (hx : 0 ≤ x ∧ x ≤ 60) (hh : 0 ≤ h ∧ h ≤ 9) {y z : Int32} (hy : y = iI x) (hz : z = iI h) : ax_Met l G kX4_hitByCars 5 0 0 M [av_r U, av_r R, av_i y, av_i z] (ax_p (av_i (nI ((if mt_hits r lw dd 0 x h (mt_T r) = true then 1 else 0) + (if mt_hits r lw dd 1 x h (mt_T r) = true then 1 else 0)))) M) := by
  refine ax_body (by decide) (Nat.le_of_ble_eq_true rfl) ?_
  refine ax_aload_n dX4_hitByCars_0 rfl ?_
  refine ax_aload_n dX4_hitByCars_1 rfl ?_
  refine ax_iconst (v := 0) dX4_hitByCars_2 (by decide) ?_
  refine ax_iload_n dX4_hitByCars_3 rfl ?_
  refine ax_iload_n dX4_hitByCars_4 rfl ?_
  refine ax_callV (As := _) (d2 := _) (c1 := 0) (n1 := 0) (c_hitBy (M := M) (c := 0) hok hU hR hr ho hm (by decide) hx hh rfl hy hz) dX4_hitByCars_5 mX4_hitBy wd_1487 acl_4 (xs_U_0 hU hok) rfl (by omega) (by omega) (by omega) rfl rfl (fun _ _ h => by cases h.1) ?_
  rintro r M9 ⟨h1, h9⟩; cases h1; rw [h9]; clear h9 M9
  refine ax_aload_n dX4_hitByCars_8 rfl ?_
  refine ax_aload_n dX4_hitByCars_9 rfl ?_
  refine ax_iconst (v := 1) dX4_hitByCars_10 (by decide) ?_
  refine ax_iload_n dX4_hitByCars_11 rfl ?_
  refine ax_iload_n dX4_hitByCars_12 rfl ?_
  refine ax_callV (As := _) (d2 := _) (c1 := 0) (n1 := 0) (c_hitBy (M := M) (c := 1) hok hU hR hr ho hm (by decide) hx hh rfl hy hz) dX4_hitByCars_13 mX4_hitBy wd_1487 acl_4 (xs_U_0 hU hok) rfl (by omega) (by omega) (by omega) rfl rfl (fun _ _ h => by cases h.1) ?_
  rintro r M9 ⟨h1, h9⟩; cases h1; rw [h9]; clear h9 M9
  refine ax_iadd dX4_hitByCars_16 ?_
  refine ax_iret dX4_hitByCars_17 rfl ?_
  refine ⟨?_, rfl⟩
  rw [← nI_add]
  congr 4 <;> split <;> rfl
end XRR

