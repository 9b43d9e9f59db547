/-! ===== the class's trips and meetings: small methods ===== -/
theorem mt_on_s {r : Nat → Int} (h : rd_ok r) {c t : Nat} (hc : c < 2) (ho : mt_on r c (t + 1) = true) : mt_on r c t = true := by
  have h0 := rd_p0 h; have h1 := rd_p1 h
  have b0 := mt_pos_b0 h t; have b1 := mt_pos_b1 h t
  rw [mt_on_iff] at ho ⊢
  rcases (show c = 0 ∨ c = 1 by omega) with rfl | rfl
  · rw [mt_pos_s0] at ho; omega
  · rw [mt_pos_s1] at ho; omega
theorem mt_on_le {r : Nat → Int} (h : rd_ok r) {c : Nat} (hc : c < 2) : ∀ {t u : Nat}, u ≤ t → mt_on r c t = true → mt_on r c u = true
  | 0, u, hu, ho => by rw [show u = 0 by omega]; exact ho
  | t + 1, u, hu, ho => by
    by_cases e : u = t + 1
    · rw [e]; exact ho
    · exact mt_on_le h hc (by omega) (mt_on_s h hc ho)
theorem mt_on_60 {r : Nat → Int} (h : rd_ok r) {c t : Nat} (hc : c < 2) (ho : mt_on r c t = true) : t < 60 := by
  have h0 := rd_p0 h; have h1 := rd_p1 h; have h2 := h.1
  have ho2 := mt_on_iff.mp ho
  have k0 : 1 ≤ r 10 → (t : Int) ≤ mt_pos r 0 t := fun hp => by
    have : ∀ t : Nat, (t : Int) ≤ mt_pos r 0 t := by
      intro t
      induction t with
      | zero => rw [mt_pos_z0]; simp
      | succ t ih => rw [mt_pos_s0]; omega
    exact this t
  have k1 : 1 ≤ r 12 → mt_pos r 1 t ≤ r 0 - 1 - (t : Int) := fun hp => by
    have : ∀ t : Nat, mt_pos r 1 t ≤ r 0 - 1 - (t : Int) := by
      intro t
      induction t with
      | zero => rw [mt_pos_z1]; simp
      | succ t ih => rw [mt_pos_s1]; omega
    exact this t
  rcases (show c = 0 ∨ c = 1 by omega) with rfl | rfl
  · have := k0 (h0.2.2 ho2.1); omega
  · have := k1 (h1.2.2 ho2.1); omega
/-- how many tenths a car is on the road -/
def tn (r : Nat → Int) (c : Nat) : Nat := (mt_first (fun t => !mt_on r c t) 99).getD 99
theorem tn_on {r : Nat → Int} (h : rd_ok r) {c : Nat} (hc : c < 2) (t : Nat) : mt_on r c t = true ↔ t < tn r c := by
  unfold tn
  cases e : mt_first (fun t => !mt_on r c t) 99 with
  | none =>
    have h1 := mt_first_none e 98 (by omega)
    have h2 : mt_on r c 98 = true := by simpa using h1
    have := mt_on_60 h hc h2
    omega
  | some u =>
    obtain ⟨h1, h2, h3⟩ := mt_first_some e
    show _ ↔ t < u
    constructor
    · intro ho
      by_cases q : t < u
      · exact q
      · have := mt_on_le h hc (show u ≤ t by omega) ho
        rw [this] at h2; cases h2
    · intro q
      have := h3 t q
      simpa using this
theorem tn_60 {r : Nat → Int} (h : rd_ok r) {c : Nat} (hc : c < 2) : tn r c ≤ 60 := by
  by_cases q : tn r c = 0
  · omega
  · have := mt_on_60 h hc ((tn_on h hc (tn r c - 1)).mpr (by omega))
    omega
theorem T_tn {r : Nat → Int} (h : rd_ok r) (t : Nat) : t < mt_T r ↔ (t < tn r 0 ∨ t < tn r 1) := by
  have h0 := tn_on h (c := 0) (by decide)
  have h1 := tn_on h (c := 1) (by decide)
  constructor
  · intro q
    have := mt_T_lt q
    unfold mt_go at this
    rw [Bool.or_eq_true, h0, h1] at this
    exact this
  · intro q
    have b0 := tn_60 h (c := 0) (by decide)
    have b1 := tn_60 h (c := 1) (by decide)
    have hle := mt_T_le r
    by_cases c9 : t < mt_T r
    · exact c9
    · have hT : mt_T r < 99 := by omega
      have h9 := mt_T_end hT
      unfold mt_go at h9
      rw [Bool.or_eq_false_iff] at h9
      have a0 : ¬ mt_T r < tn r 0 := fun c => by rw [(h0 _).mpr c] at h9; cases h9.1
      have a1 : ¬ mt_T r < tn r 1 := fun c => by rw [(h1 _).mpr c] at h9; cases h9.2
      omega
theorem tn_T {r : Nat → Int} (h : rd_ok r) {c : Nat} (hc : c < 2) : tn r c ≤ mt_T r := by
  by_cases q : tn r c ≤ mt_T r
  · exact q
  · have := (T_tn h (mt_T r)).mpr (by rcases (show c = 0 ∨ c = 1 by omega) with rfl | rfl <;> omega)
    omega
theorem T_60 {r : Nat → Int} (h : rd_ok r) : mt_T r ≤ 60 := by
  have b0 := tn_60 h (c := 0) (by decide)
  have b1 := tn_60 h (c := 1) (by decide)
  by_cases q : mt_T r = 0
  · omega
  · have := (T_tn h (mt_T r - 1)).mp (by omega)
    omega
theorem mt_pos_ib {r : Nat → Int} (h : rd_ok r) {c t : Nat} (hc : c < 2) (ht : t ≤ 200) : iI_b (mt_pos r c t) := by
  have b0 := mt_pos_b0 h t; have b1 := mt_pos_b1 h t; have := h.1
  unfold iI_b
  rcases (show c = 0 ∨ c = 1 by omega) with rfl | rfl <;> omega
theorem ps_met {r : Nat → Int} (h : rd_ok r) (t : Nat) : (¬ mt_sb (mt_ps r (t + 1)) = -1) ↔ mt_met r t = true := by
  have mono : ∀ u t, u ≤ t → mt_met r u = true → mt_met r t = true := by
    intro u t
    induction t with
    | zero => intro hu hm; rw [show 0 = u by omega]; exact hm
    | succ t ih =>
      intro hu hm
      by_cases e : u = t + 1
      · rw [← e]; exact hm
      · exact mt_met_s h (ih (by omega) hm)
  unfold mt_ps
  cases e : mt_first (mt_met r) (t + 1) with
  | none =>
    have h1 := mt_first_none e t (by omega)
    rw [h1]
    exact ⟨fun c => absurd rfl c, fun c => by cases c⟩
  | some u =>
    obtain ⟨h1, h2, -⟩ := mt_first_some e
    have h60 : u < 2 ^ 31 ∨ True := Or.inr trivial
    constructor
    · intro _; exact mono u t (by omega) h2
    · intro _
      by_cases hb : u < 2 ^ 31
      · exact nI_m1 hb
      · -- a first one lies within the meeting's first tenths, or never
        exfalso
        have b0 := mt_pos_b0 h u; have b1 := mt_pos_b1 h u; have hr := h.1
        have hm := mt_met_iff.mp h2
        have h60 : mt_met r 60 = true := by
          rw [mt_met_iff]
          refine ⟨hm.1, ?_⟩
          have k0 : ∀ t : Nat, (t : Int) ≤ mt_pos r 0 t := by
            intro t
            induction t with
            | zero => rw [mt_pos_z0]; simp
            | succ t ih => rw [mt_pos_s0]; have := (rd_p0 h).2.2 (by omega); omega
          have := k0 60
          have b60 := mt_pos_b1 h 60
          have k1 : ∀ t : Nat, mt_pos r 1 t ≤ r 0 - 1 - (t : Int) := by
            intro t
            induction t with
            | zero => rw [mt_pos_z1]; simp
            | succ t ih => rw [mt_pos_s1]; have := (rd_p1 h).2.2 (by omega); omega
          have := k1 60
          omega
        obtain ⟨-, -, h3⟩ := mt_first_some e
        have := h3 60 (by omega)
        rw [h60] at this; cases this
/-- what a trip holds of its car -/
def xa (M : ax_M) (T : Nat) (r : Nat → Int) (c : Nat) : Prop := M.1 T 0 = nI c ∧ M.1 T 1 = (if c = 0 then 1 else -1) ∧ M.1 T 2 = (if (c : Int) < r 1 then 1 else 0) ∧ ((c : Int) < r 1 → M.1 T 3 = iI (r (40 + c)) ∧ M.1 T 4 = iI (r (10 + 2 * c)) ∧ M.1 T 5 = iI (r (11 + 2 * c)))
def xc (M : ax_M) (T : Nat) (r : Nat → Int) (c t : Nat) : Prop := (c : Int) < r 1 → M.1 T 6 = iI (mt_pos r c t)
theorem xa_fr {M M2 : ax_M} {T : Nat} {r : Nat → Int} {c : Nat} (h : xa M T r c) (hf : ∀ i, i < 6 → M2.1 T i = M.1 T i) : xa M2 T r c := ⟨(hf 0 (by omega)).trans h.1, (hf 1 (by omega)).trans h.2.1, (hf 2 (by omega)).trans h.2.2.1, fun q => ⟨(hf 3 (by omega)).trans (h.2.2.2 q).1, (hf 4 (by omega)).trans (h.2.2.2 q).2.1, (hf 5 (by omega)).trans (h.2.2.2 q).2.2⟩⟩
section XM
variable {l : Launch} {G : ax_G} {M : ax_M} {p : Nat → Nat} {r : Nat → Int} {R T U : Nat}
theorem c_xisOn (hok : lo_ok M.2) (hT : xh_T T) (hR : xh_R R) (hr : xr M R r) (ho : rd_ok r) {c t : Nat} (hc2 : c < 2) (ht : t ≤ 200) (ha : xa M T r c) (hx : xc M T r c t) : ax_Met l G kX8_isOn 1 0 0 M [av_r T, av_r R] (ax_p (av_i (if mt_on r c t = true then 1 else 0)) M) := by
  refine ax_body (by decide) (Nat.le_of_ble_eq_true rfl) ?_
  refine ax_aload_n dX8_isOn_0 rfl ?_
  refine ax_getI (f := 2) dX8_isOn_1 acl_8 wd_423 (by decide) rfl (xs_T_0 hT hok) ?_
  rw [ha.2.2.1]
  refine ax_ifB_eq (tgt := 22) dX8_isOn_4 (by decide) (fun hc => ?_) (fun hc => ?_)
  · refine ax_iconst (v := 0) dX8_isOn_22 (by decide) ?_
    refine ax_zret dX8_isOn_23 rfl ?_ ?_
    · exact Or.inl rfl
    · rw [if_neg (fun q => hc (mt_on_iff.mp q).1)]; exact ⟨rfl, rfl⟩
  have h1 := hc
  clear hc
  refine ax_aload_n dX8_isOn_7 rfl ?_
  refine ax_aload_n dX8_isOn_8 rfl ?_
  refine ax_getI (f := 6) dX8_isOn_9 acl_8 wd_430 (by decide) rfl (xs_T_0 hT hok) ?_
  refine ax_callVN (As := _) (d2 := _) (c1 := 0) (n1 := 0) (c_has (d := 0) (M := M) hok hR hr ho (a := mt_pos r c t) (mt_pos_ib ho hc2 ht) (hx h1)) dX8_isOn_12 mX5_has wd_629 acl_5 (xs_R_0 hR hok) rfl (by omega) (by omega) (by omega) rfl rfl (fun _ _ h => by cases h.1) ?_
  rintro r M9 ⟨h1, h9⟩; cases h1; rw [h9]; clear h9 M9
  refine ax_ifB_eq (tgt := 22) dX8_isOn_15 (by decide) (fun hc => ?_) (fun hc => ?_)
  · refine ax_iconst (v := 0) dX8_isOn_22 (by decide) ?_
    refine ax_zret dX8_isOn_23 rfl ?_ ?_
    · exact Or.inl rfl
    · rw [if_neg (fun q => hc (mt_on_iff.mp q).2)]; exact ⟨rfl, rfl⟩
  · refine ax_iconst (v := 1) dX8_isOn_18 (by decide) ?_
    refine ax_goto (tgt := 23) dX8_isOn_19 (by decide) ?_
    refine ax_zret dX8_isOn_23 rfl ?_ ?_
    · exact Or.inr rfl
    · rw [if_pos (mt_on_iff.mpr ⟨h1, hc⟩)]; exact ⟨rfl, rfl⟩
theorem c_xbegin (hok : lo_ok M.2) (hT : xh_T T) (hR : xh_R R) (hr : xr M R r) (ho : rd_ok r) {c : Nat} (hc2 : c < 2) (h0 : M.1 T 0 = nI c) (h1 : M.1 T 1 = if c = 0 then 1 else -1) : ax_Met l G kX8_begin 1 0 0 M [av_r T, av_r R] (fun o M2 => o = .inl none ∧ M2.2 = M.2 ∧ (∀ n i, ¬ (n = T ∧ 2 ≤ i ∧ i ≤ 9) → M2.1 n i = M.1 n i) ∧ xa M2 T r c ∧ xc M2 T r c 0 ∧ M2.1 T 7 = 1 ∧ M2.1 T 8 = 0 ∧ M2.1 T 9 = 0) := by
  have hTR : ∀ n, R ≤ n → n ≤ R + 7 → n ≠ T := fun n a b => by unfold xh_T at hT; unfold xh_R at hR; omega
  have hr9 := ho.1
  have hcmp : iI (r 1) ≤ nI c ↔ r 1 ≤ (c : Int) := by rw [iI_nI]; exact iI_le (by unfold iI_b; omega) (by unfold iI_b; omega)
  refine ax_body (by decide) (Nat.le_of_ble_eq_true rfl) ?_
  refine ax_aload_n dX8_begin_0 rfl ?_
  refine ax_aload_n dX8_begin_1 rfl ?_
  refine ax_getI (f := 0) dX8_begin_2 acl_8 wd_420 (by decide) rfl (xs_T_0 hT hok) ?_
  refine ax_aload_n dX8_begin_5 rfl ?_
  refine ax_getIN (f := 16) dX8_begin_6 acl_5 wd_295 (by decide) rfl (xs_R_0 hR hok) ?_
  rw [h0, hr.1.2.1]
  refine ax_join2 ((c : Int) < r 1) 17 (1) (0) ?_ (fun ja jb => ?_)
  rotate_left
  · refine ax_icmp_ge (tgt := 16) dX8_begin_9 (by decide) (fun h9 => ?_) (fun h9 => ?_)
    · refine ax_iconst (v := 0) dX8_begin_16 (by decide) ?_
      first | exact jb (fun q => absurd (hcmp.mp h9) (by omega)) | exact ja (by have := mt hcmp.mpr h9; omega)
    · refine ax_iconst (v := 1) dX8_begin_12 (by decide) ?_
      refine ax_goto (tgt := 17) dX8_begin_13 (by decide) ?_
      first | exact jb (fun q => absurd (hcmp.mp h9) (by omega)) | exact ja (by have := mt hcmp.mpr h9; omega)
  refine ax_putI (f := 2) dX8_begin_17 acl_8 wd_423 (by decide) rfl rfl (ax_nfZ rfl (by first | decide | (split <;> decide))) (xs_T_0 hT hok) ?_
  refine ax_gen (fun M1 hM1 => ?_)
  have hok : lo_ok M1.2 := by rw [hM1]; exact hok
  have r1 : xr M1 R r := xr_fr hr (fun n i a b => by rw [hM1, ax_pn (by have := hTR n a b; omega)])
  have e10 : M1.1 T 0 = nI c := by rw [hM1, ax_pn (by omega)]; exact h0
  refine ax_aload_n dX8_begin_20 rfl ?_
  refine ax_aload_n dX8_begin_21 rfl ?_
  refine ax_getKN (f := 13) (R + 5) dX8_begin_22 acl_5 wd_284 (by decide) rfl (xs_R_0 hR hok) (xr_R_13 hR hok) ?_
  refine ax_aload_n dX8_begin_25 rfl ?_
  refine ax_getI (f := 0) dX8_begin_26 acl_8 wd_420 (by decide) rfl (xs_T_0 hT hok) ?_
  rw [e10]
  refine ax_ialdN (c) dX8_begin_29 (xs_R_5 hR hok) (by decide) (by first | with_reducible rfl | assumption | exact ax_nix (by simp only [nx_0, nx_1, nx_2, nx_3, nx_4, nx_10, nx_20, nx_21, nx_100, nI_add, pk_mul] <;> rfl) (by omega) | decide) (by omega) ?_
  refine ax_putI (f := 3) dX8_begin_30 acl_8 wd_424 (by decide) rfl rfl (ax_nfI rfl) (xs_T_0 hT hok) ?_
  refine ax_gen (fun M2 hM2 => ?_)
  have hok : lo_ok M2.2 := by rw [hM2]; exact hok
  have r2 : xr M2 R r := xr_fr r1 (fun n i a b => by rw [hM2, ax_pn (by have := hTR n a b; omega)])
  have e20 : M2.1 T 0 = nI c := by rw [hM2, ax_pn (by omega)]; exact e10
  refine ax_aload_n dX8_begin_33 rfl ?_
  refine ax_aload_n dX8_begin_34 rfl ?_
  refine ax_getKN (f := 14) (R + 6) dX8_begin_35 acl_5 wd_287 (by decide) rfl (xs_R_0 hR hok) (xr_R_14 hR hok) ?_
  refine ax_aload_n dX8_begin_38 rfl ?_
  refine ax_getI (f := 0) dX8_begin_39 acl_8 wd_420 (by decide) rfl (xs_T_0 hT hok) ?_
  rw [e20]
  refine ax_ialdN (c) dX8_begin_42 (xs_R_6 hR hok) (by decide) (by first | with_reducible rfl | assumption | exact ax_nix (by simp only [nx_0, nx_1, nx_2, nx_3, nx_4, nx_10, nx_20, nx_21, nx_100, nI_add, pk_mul] <;> rfl) (by omega) | decide) (by omega) ?_
  refine ax_putI (f := 4) dX8_begin_43 acl_8 wd_426 (by decide) rfl rfl (ax_nfI rfl) (xs_T_0 hT hok) ?_
  refine ax_gen (fun M3 hM3 => ?_)
  have hok : lo_ok M3.2 := by rw [hM3]; exact hok
  have r3 : xr M3 R r := xr_fr r2 (fun n i a b => by rw [hM3, ax_pn (by have := hTR n a b; omega)])
  have e30 : M3.1 T 0 = nI c := by rw [hM3, ax_pn (by omega)]; exact e20
  refine ax_aload_n dX8_begin_46 rfl ?_
  refine ax_aload_n dX8_begin_47 rfl ?_
  refine ax_getKN (f := 15) (R + 7) dX8_begin_48 acl_5 wd_291 (by decide) rfl (xs_R_0 hR hok) (xr_R_15 hR hok) ?_
  refine ax_aload_n dX8_begin_51 rfl ?_
  refine ax_getI (f := 0) dX8_begin_52 acl_8 wd_420 (by decide) rfl (xs_T_0 hT hok) ?_
  rw [e30]
  refine ax_ialdN (c) dX8_begin_55 (xs_R_7 hR hok) (by decide) (by first | with_reducible rfl | assumption | exact ax_nix (by simp only [nx_0, nx_1, nx_2, nx_3, nx_4, nx_10, nx_20, nx_21, nx_100, nI_add, pk_mul] <;> rfl) (by omega) | decide) (by omega) ?_
  refine ax_putI (f := 5) dX8_begin_56 acl_8 wd_428 (by decide) rfl rfl (ax_nfI rfl) (xs_T_0 hT hok) ?_
  refine ax_gen (fun M4 hM4 => ?_)
  have hok : lo_ok M4.2 := by rw [hM4]; exact hok
  have r4 : xr M4 R r := xr_fr r3 (fun n i a b => by rw [hM4, ax_pn (by have := hTR n a b; omega)])
  have e40 : M4.1 T 0 = nI c := by rw [hM4, ax_pn (by omega)]; exact e30
  refine ax_aload_n dX8_begin_59 rfl ?_
  refine ax_aload_n dX8_begin_60 rfl ?_
  refine ax_aload_n dX8_begin_61 rfl ?_
  refine ax_getI (f := 0) dX8_begin_62 acl_8 wd_420 (by decide) rfl (xs_T_0 hT hok) ?_
  rw [e40]
  refine ax_callVN (As := _) (d2 := _) (c1 := 0) (n1 := 0) (c_startOf (d := 0) (M := M4) hok hR r4 hc2 rfl) dX8_begin_65 mX5_startOf wd_621 acl_5 (xs_R_0 hR hok) rfl (by omega) (by omega) (by omega) rfl rfl (fun _ _ h => by cases h.1) ?_
  rintro r M9 ⟨h1, h9⟩; cases h1; rw [h9]; clear h9 M9
  refine ax_putI (f := 6) dX8_begin_68 acl_8 wd_430 (by decide) rfl rfl (ax_nfI rfl) (xs_T_0 hT hok) ?_
  refine ax_aload_n dX8_begin_71 rfl ?_
  refine ax_iconst (v := 1) dX8_begin_72 (by decide) ?_
  refine ax_putI (f := 7) dX8_begin_73 acl_8 wd_432 (by decide) rfl rfl (ax_nfI rfl) (xs_T_0 hT hok) ?_
  refine ax_aload_n dX8_begin_76 rfl ?_
  refine ax_iconst (v := 0) dX8_begin_77 (by decide) ?_
  refine ax_putI (f := 8) dX8_begin_78 acl_8 wd_434 (by decide) rfl rfl (ax_nfI rfl) (xs_T_0 hT hok) ?_
  refine ax_aload_n dX8_begin_81 rfl ?_
  refine ax_iconst (v := 0) dX8_begin_82 (by decide) ?_
  refine ax_putI (f := 9) dX8_begin_83 acl_8 wd_436 (by decide) rfl rfl (ax_nfI rfl) (xs_T_0 hT hok) ?_
  refine ax_gen (fun M5 hM5 => ?_)
  have hok : lo_ok M5.2 := by rw [hM5]; exact hok
  refine ax_vret dX8_begin_86 rfl ?_
  have k : ∀ n i, ¬ (n = T ∧ 6 ≤ i ∧ i ≤ 9) → M5.1 n i = M4.1 n i := fun n i q => by rw [hM5]; simp (disch := omega) only [ax_pn]
  have k4 : ∀ n i, ¬ (n = T ∧ i = 5) → M4.1 n i = M3.1 n i := fun n i q => by rw [hM4, ax_pn q]
  have k3 : ∀ n i, ¬ (n = T ∧ i = 4) → M3.1 n i = M2.1 n i := fun n i q => by rw [hM3, ax_pn q]
  have k2 : ∀ n i, ¬ (n = T ∧ i = 3) → M2.1 n i = M1.1 n i := fun n i q => by rw [hM2, ax_pn q]
  have k1 : ∀ n i, ¬ (n = T ∧ i = 2) → M1.1 n i = M.1 n i := fun n i q => by rw [hM1, ax_pn q]
  refine ⟨rfl, by rw [hM5, hM4, hM3, hM2, hM1]; rfl, fun n i q => ?_, ⟨?_, ?_, ?_, fun q => ⟨?_, ?_, ?_⟩⟩, fun _ => ?_, ?_, ?_, ?_⟩
  · rw [k n i (by omega), k4 n i (by omega), k3 n i (by omega), k2 n i (by omega), k1 n i (by omega)]
  · rw [k _ _ (by omega)]; exact e40
  · rw [k _ _ (by omega), k4 _ _ (by omega), k3 _ _ (by omega), k2 _ _ (by omega), k1 _ _ (by omega)]; exact h1
  · rw [k _ _ (by omega), k4 _ _ (by omega), k3 _ _ (by omega), k2 _ _ (by omega), hM1, ax_pa]
  · rw [k _ _ (by omega), k4 _ _ (by omega), k3 _ _ (by omega), hM2, ax_pa]; exact (r1.2.1 c q).1
  · rw [k _ _ (by omega), k4 _ _ (by omega), hM3, ax_pa]; exact (r2.2.1 c q).2.1
  · rw [k _ _ (by omega), hM4, ax_pa]; exact (r3.2.1 c q).2.2
  · rw [hM5]; simp (disch := omega) only [ax_pa, ax_pn]
  · rw [hM5]; simp (disch := omega) only [ax_pa, ax_pn]
  · rw [hM5]; simp (disch := omega) only [ax_pa, ax_pn]
  · rw [hM5]; simp (disch := omega) only [ax_pa, ax_pn]
theorem c_becomeBlind (hok : lo_ok M.2) (hT : xh_T T) {b f : Int} (hb : M.1 T 8 = iI b) (hb2 : 0 ≤ b ∧ b ≤ 1000) {q : Prop} [Decidable q] {y : Int32} (hy : q → y = iI f ∧ 0 ≤ f ∧ f ≤ 1000) : ax_Met l G kX8_becomeBlind 1 0 0 M [av_r T, av_i (if q then 1 else 0), av_i y] (fun o M2 => o = .inl none ∧ M2 = ax_pI M T 8 (iI (if q then max b f else max 0 (b - 1)))) := by
  refine ax_body (by decide) (Nat.le_of_ble_eq_true rfl) ?_
  refine ax_iload_n dX8_becomeBlind_0 rfl ?_
  refine ax_ifB_eq (tgt := 19) dX8_becomeBlind_1 (by decide) (fun hc => ?_) (fun hc => ?_)
  · rw [if_neg hc]
    refine ax_aload_n dX8_becomeBlind_19 rfl ?_
    refine ax_getI (f := 8) dX8_becomeBlind_20 acl_8 wd_434 (by decide) rfl (xs_T_0 hT hok) ?_
    rw [hb]
    refine ax_if_le (tgt := 36) dX8_becomeBlind_23 (by decide) (fun hc => ?_) (fun hc => ?_)
    · have h1 := (iI_le (b := 0) (by unfold iI_b; omega) (by unfold iI_b; omega)).mp hc
      refine ax_vret dX8_becomeBlind_36 rfl ?_
      refine ⟨rfl, ?_⟩
      rw [ax_pid]
      rw [hb]; congr 1; omega
    · have h1 : ¬ b ≤ 0 := fun z => hc ((iI_le (b := 0) (by unfold iI_b; omega) (by unfold iI_b; omega)).mpr z)
      refine ax_aload_n dX8_becomeBlind_26 rfl ?_
      refine ax_dup dX8_becomeBlind_27 (by first | rfl | exact ax_crf _) ?_
      refine ax_getI (f := 8) dX8_becomeBlind_28 acl_8 wd_434 (by decide) rfl (xs_T_0 hT hok) ?_
      rw [hb]
      refine ax_iconst (v := 1) dX8_becomeBlind_31 (by decide) ?_
      refine ax_isub dX8_becomeBlind_32 ?_
      rw [show (1 : Int32) = iI 1 from rfl, iI_sub]
      refine ax_putI (f := 8) dX8_becomeBlind_33 acl_8 wd_434 (by decide) rfl rfl (ax_nfI rfl) (xs_T_0 hT hok) ?_
      refine ax_vret dX8_becomeBlind_36 rfl ?_
      refine ⟨rfl, ?_⟩
      congr 2; omega
  · obtain ⟨rfl, hf1, hf2⟩ := hy hc
    rw [if_pos hc]
    refine ax_aload_n dX8_becomeBlind_4 rfl ?_
    refine ax_aload_n dX8_becomeBlind_5 rfl ?_
    refine ax_getI (f := 8) dX8_becomeBlind_6 acl_8 wd_434 (by decide) rfl (xs_T_0 hT hok) ?_
    rw [hb]
    refine ax_iload_n dX8_becomeBlind_9 rfl ?_
    refine ax_mmax dX8_becomeBlind_10 wd_710 wd_maxs wd_182 wd_maxc (by decide) rfl ?_
    rw [show (if iI b < iI f then iI f else iI b) = iI (max b f) by
      by_cases z : b < f
      · rw [if_pos ((iI_lt (by unfold iI_b; omega) (by unfold iI_b; omega)).mpr z)]; congr 1; omega
      · rw [if_neg (fun w => z ((iI_lt (by unfold iI_b; omega) (by unfold iI_b; omega)).mp w))]; congr 1; omega]
    refine ax_putI (f := 8) dX8_becomeBlind_13 acl_8 wd_434 (by decide) rfl rfl (ax_nfI rfl) (xs_T_0 hT hok) ?_
    refine ax_goto (tgt := 36) dX8_becomeBlind_16 (by decide) ?_
    refine ax_vret dX8_becomeBlind_36 rfl ?_
    exact ⟨rfl, rfl⟩
theorem c_tripOf {d : Nat} (hok : lo_ok M.2) (hU : xh_U U) {c : Nat} (hc2 : c < 2) {x : Int32} (hx : x = nI c) : ax_Met l G kX4_tripOf d 0 0 M [av_r U, av_i x] (ax_p (av_r (U + 1 + 7 * c)) M) := by
  subst hx
  refine ax_body (by decide) (Nat.le_of_ble_eq_true rfl) ?_
  refine ax_iload_n dX4_tripOf_0 rfl ?_
  rcases (show c = 0 ∨ c = 1 by omega) with rfl | rfl
  · refine ax_if_ne (tgt := 11) dX4_tripOf_1 (by decide) (fun hc => ?_) (fun hc => ?_)
    · exact absurd rfl hc
    · refine ax_aload_n dX4_tripOf_4 rfl ?_
      refine ax_getK (f := 0) (U + 1) dX4_tripOf_5 acl_4 wd_481 (by decide) rfl (xs_U_0 hU hok) (xr_U_0 hU hok) ?_
      refine ax_goto (tgt := 15) dX4_tripOf_8 (by decide) ?_
      refine ax_aret dX4_tripOf_15 rfl (Or.inl ⟨_, rfl⟩) ?_
      exact ⟨rfl, rfl⟩
  · refine ax_if_ne (tgt := 11) dX4_tripOf_1 (by decide) (fun hc => ?_) (fun hc => ?_)
    · refine ax_aload_n dX4_tripOf_11 rfl ?_
      refine ax_getK (f := 1) (U + 8) dX4_tripOf_12 acl_4 wd_482 (by decide) rfl (xs_U_0 hU hok) (xr_U_1 hU hok) ?_
      refine ax_aret dX4_tripOf_15 rfl (Or.inl ⟨_, rfl⟩) ?_
      exact ⟨rfl, rfl⟩
    · exact absurd hc (by decide)
/-- how far they are apart, in view, in tenth t -/
def xap (M : ax_M) (U : Nat) (r : Nat → Int) (t : Nat) : Prop := M.1 (U + 15) t = if mt_view r t = true then iI (mt_far r t) else 0
theorem xap_b {r : Nat → Int} (ho : rd_ok r) {t : Nat} (h : mt_view r t = true) : 1 ≤ mt_far r t ∧ mt_far r t ≤ 60 := by
  have h1 := mt_view_lt ho h
  have h2 := mt_view_iff.mp h
  have h3 := mt_on_iff.mp h2.1
  have h4 := mt_on_iff.mp h2.2.1
  have := ho.1
  unfold mt_far
  omega
theorem c_apartIn {d : Nat} (hok : lo_ok M.2) (hU : xh_U U) {t : Nat} (ht : t < 99) (ha : xap M U r t) {x : Int32} (hx : x = nI t) : ax_Met l G kX4_apartIn d 0 0 M [av_r U, av_i x] (ax_p (av_i (if mt_view r t = true then iI (mt_far r t) else 0)) M) := by
  subst hx
  refine ax_body (by decide) (Nat.le_of_ble_eq_true rfl) ?_
  refine ax_iload_n dX4_apartIn_0 rfl ?_
  refine ax_if_lt (tgt := 19) dX4_apartIn_1 (by decide) (fun hc => ?_) (fun hc => ?_)
  · exact absurd ((nI_ltI (b := 0) (by omega) (by omega)).mp hc) (by omega)
  refine ax_iload_n dX4_apartIn_4 rfl ?_
  refine ax_bipush (v := 99) dX4_apartIn_5 (by decide) ?_
  refine ax_icmp_ge (tgt := 19) dX4_apartIn_7 (by decide) (fun hc => ?_) (fun hc => ?_)
  · exact absurd ((nI_leI (a := 99) (by omega) (by omega)).mp hc) (by omega)
  refine ax_aload_n dX4_apartIn_10 rfl ?_
  refine ax_getK (f := 2) (U + 15) dX4_apartIn_11 acl_4 wd_483 (by decide) rfl (xs_U_0 hU hok) (xr_U_2 hU hok) ?_
  refine ax_iload_n dX4_apartIn_14 rfl ?_
  refine ax_ialdN (t) dX4_apartIn_15 (xs_U_15 hU hok) (by decide) (by first | with_reducible rfl | assumption | exact ax_nix (by simp only [nx_0, nx_1, nx_2, nx_3, nx_4, nx_10, nx_20, nx_21, nx_100, nI_add, pk_mul] <;> rfl) (by omega) | decide) (by omega) ?_
  refine ax_goto (tgt := 20) dX4_apartIn_16 (by decide) ?_
  refine ax_iret dX4_apartIn_20 rfl ?_
  exact ⟨by rw [ha], rfl⟩
theorem xap_le {r : Nat → Int} (ho : rd_ok r) {t : Nat} : (if mt_view r t = true then iI (mt_far r t) else 0) ≤ 0 ↔ ¬ mt_view r t = true := by
  by_cases h : mt_view r t = true
  · rw [if_pos h]
    have := xap_b ho h
    rw [show (0 : Int32) = iI 0 from rfl, iI_le (by unfold iI_b; omega) (by unfold iI_b; omega)]
    exact ⟨fun c => by omega, fun c => absurd h c⟩
  · rw [if_neg h]; exact ⟨fun _ => h, fun _ => Int32.le_refl _⟩
theorem c_inView (hok : lo_ok M.2) (hU : xh_U U) (ho : rd_ok r) {t : Nat} (ht : t < 99) (ha : xap M U r t) {x : Int32} (hx : x = nI t) : ax_Met l G kX4_inView 1 0 0 M [av_r U, av_i x] (ax_p (av_i (if mt_view r t = true then 1 else 0)) M) := by
  refine ax_body (by decide) (Nat.le_of_ble_eq_true rfl) ?_
  refine ax_aload_n dX4_inView_0 rfl ?_
  refine ax_iload_n dX4_inView_1 rfl ?_
  refine ax_callV (As := _) (d2 := _) (c1 := 0) (n1 := 0) (c_apartIn (d := 0) (M := M) hok hU ht ha hx) dX4_inView_2 mX4_apartIn wd_659 acl_4 (xs_U_0 hU hok) rfl (by omega) (by omega) (by omega) rfl rfl (fun _ _ h => by cases h.1) ?_
  rintro r M9 ⟨h1, h9⟩; cases h1; rw [h9]; clear h9 M9
  refine ax_if_le (tgt := 12) dX4_inView_5 (by decide) (fun hc => ?_) (fun hc => ?_)
  · refine ax_iconst (v := 0) dX4_inView_12 (by decide) ?_
    refine ax_zret dX4_inView_13 rfl ?_ ?_
    · exact Or.inl rfl
    · rw [if_neg ((xap_le ho).mp hc)]; exact ⟨rfl, rfl⟩
  · refine ax_iconst (v := 1) dX4_inView_8 (by decide) ?_
    refine ax_goto (tgt := 13) dX4_inView_9 (by decide) ?_
    refine ax_zret dX4_inView_13 rfl ?_ ?_
    · exact Or.inr rfl
    · rw [if_pos (dn (fun z => hc ((xap_le ho).mpr z)))]; exact ⟨rfl, rfl⟩
theorem c_xfar (hok : lo_ok M.2) (hU : xh_U U) (ho : rd_ok r) {t : Nat} (ht : t < 99) (ha : xap M U r t) {x : Int32} (hx : x = nI t) : ax_Met l G kX4_far 1 0 0 M [av_r U, av_i x] (ax_p (av_i (if mt_view r t = true then iI (mt_far r t) else 99)) M) := by
  refine ax_body (by decide) (Nat.le_of_ble_eq_true rfl) ?_
  refine ax_aload_n dX4_far_0 rfl ?_
  refine ax_iload_n dX4_far_1 rfl ?_
  refine ax_callV (As := _) (d2 := _) (c1 := 0) (n1 := 0) (c_apartIn (d := 0) (M := M) hok hU ht ha hx) dX4_far_2 mX4_apartIn wd_659 acl_4 (xs_U_0 hU hok) rfl (by omega) (by omega) (by omega) rfl rfl (fun _ _ h => by cases h.1) ?_
  rintro r M9 ⟨h1, h9⟩; cases h1; rw [h9]; clear h9 M9
  refine ax_istore_n dX4_far_5 (by decide) rfl ?_
  refine ax_iload_n dX4_far_6 rfl ?_
  refine ax_if_le (tgt := 14) dX4_far_7 (by decide) (fun hc => ?_) (fun hc => ?_)
  · have h := (xap_le ho).mp hc
    refine ax_bipush (v := 99) dX4_far_14 (by decide) ?_
    refine ax_iret dX4_far_16 rfl ?_
    rw [if_neg h]; exact ⟨rfl, rfl⟩
  · have h := dn (fun z => hc ((xap_le ho).mpr z))
    refine ax_iload_n dX4_far_10 rfl ?_
    refine ax_goto (tgt := 16) dX4_far_11 (by decide) ?_
    refine ax_iret dX4_far_16 rfl ?_
    rw [if_pos h]; exact ⟨by rw [if_pos h], rfl⟩
theorem c_xbeamsBy (hok : lo_ok M.2) (hU : xh_U U) (ho : rd_ok r) {t : Nat} (ht : t < 99) (ha : xap M U r t) {x y : Int32} (hx : x = nI t) : ax_Met l G kX4_beamsBy 2 0 0 M [av_r U, av_i y, av_i x] (ax_p (av_i (if 0 < (if mt_view r t = true then iI (mt_far r t) else 99) - y then 1 else 0)) M) := by
  refine ax_body (by decide) (Nat.le_of_ble_eq_true rfl) ?_
  refine ax_aload_n dX4_beamsBy_0 rfl ?_
  refine ax_iload_n dX4_beamsBy_1 rfl ?_
  refine ax_callV (As := _) (d2 := _) (c1 := 0) (n1 := 0) (c_xfar (M := M) hok hU ho ht ha hx) dX4_beamsBy_2 mX4_far wd_655 acl_4 (xs_U_0 hU hok) rfl (by omega) (by omega) (by omega) rfl rfl (fun _ _ h => by cases h.1) ?_
  rintro r M9 ⟨h1, h9⟩; cases h1; rw [h9]; clear h9 M9
  refine ax_iload_n dX4_beamsBy_5 rfl ?_
  refine ax_isub dX4_beamsBy_6 ?_
  refine ax_if_le (tgt := 14) dX4_beamsBy_7 (by decide) (fun hc => ?_) (fun hc => ?_)
  · refine ax_iconst (v := 0) dX4_beamsBy_14 (by decide) ?_
    refine ax_iret dX4_beamsBy_15 rfl ?_
    rw [if_neg (Int32.not_lt.mpr hc)]; exact ⟨rfl, rfl⟩
  · refine ax_iconst (v := 1) dX4_beamsBy_10 (by decide) ?_
    refine ax_goto (tgt := 15) dX4_beamsBy_11 (by decide) ?_
    refine ax_iret dX4_beamsBy_15 rfl ?_
    rw [if_pos (Int32.not_le.mp hc)]; exact ⟨rfl, rfl⟩
end XM

