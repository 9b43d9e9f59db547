/-! ===== what a trip tells: the class ===== -/
def xtp (M : ax_M) (T : Nat) (r : Nat → Int) (lw : mt_L) (d : Nat → Int32) (c : Nat) : Prop := xa M T r c ∧ M.1 T 9 = nI (tn r c) ∧ ∀ u, u < tn r c → xrw M T r lw d c u
theorem cnt_tn {r : Nat → Int} (ho : rd_ok r) {c : Nat} (hc : c < 2) (q : Nat → Bool) : mt_cnt (fun t => mt_on r c t && q t) (mt_T r) = mt_cnt q (tn r c) := by
  rw [mt_cnt_0 (tn_T ho hc) (fun x h1 h2 => ?_)]
  · exact mt_cnt_cong (fun x hx => by rw [(tn_on ho hc x).mpr hx]; rfl)
  · have : mt_on r c x = false := Bool.eq_false_iff.mpr (fun z => by have := (tn_on ho hc x).mp z; omega)
    rw [this]; rfl
theorem first_tn {r : Nat → Int} (ho : rd_ok r) {c : Nat} (hc : c < 2) (q : Nat → Bool) (n : Nat) : mt_first (fun t => mt_on r c t && q t) n = mt_first q (min n (tn r c)) := by
  cases e : mt_first q (min n (tn r c)) with
  | none =>
    refine mt_first_no (fun v hv => ?_)
    have h1 := mt_first_none e v
    by_cases z : v < tn r c
    · rw [h1 (by omega), Bool.and_false]
    · rw [Bool.eq_false_iff.mpr (fun w => z ((tn_on ho hc v).mp w))]; rfl
  | some u =>
    obtain ⟨h1, h2, h3⟩ := mt_first_some e
    refine mt_first_of ?_ (fun v hv => ?_) (by omega)
    · rw [h2, (tn_on ho hc u).mpr (by omega)]; rfl
    · rw [h3 v hv, Bool.and_false]
theorem mt_com_iff {r : Nat → Int} {c t : Nat} {x : Int} : mt_com r c t x = true ↔ (1 ≤ mt_aw r c t x ∧ mt_aw r c t x ≤ r (10 + 2 * c)) ∨ (mt_aw r c t x = 0 ∧ t = 0) := by
  unfold mt_com
  simp [Bool.or_eq_true, Bool.and_eq_true, decide_eq_true_eq]
theorem mt_aw_s {r : Nat → Int} {c t : Nat} (hc : c < 2) (x : Int) : mt_aw r c (t + 1) x = mt_aw r c t x - r (10 + 2 * c) := by
  unfold mt_aw
  rcases (show c = 0 ∨ c = 1 by omega) with rfl | rfl
  · rw [mt_pos_s0, if_pos rfl]; show _ = _ - r 10; omega
  · rw [mt_pos_s1, if_neg (by decide)]; show _ = _ - r 12; omega
theorem mt_aw_le {r : Nat → Int} (ho : rd_ok r) {c : Nat} (hc : c < 2) (x : Int) {t : Nat} : ∀ {u : Nat}, t < u → mt_aw r c u x ≤ mt_aw r c t x - r (10 + 2 * c) := by
  have h0 := (ho.2.1 c hc).1
  intro u
  induction u with
  | zero => intro h; omega
  | succ u ih =>
    intro h
    rw [mt_aw_s hc]
    by_cases e : t = u
    · subst e; omega
    · have := ih (by omega); omega
theorem com_u {r : Nat → Int} (ho : rd_ok r) {c t u : Nat} (hc : c < 2) (hcr : (c : Int) < r 1) {x : Int} (h1 : mt_com r c t x = true) (h2 : mt_com r c u x = true) : t = u := by
  have hp := ((ho.2.1 c hc).2.2.2.2.2.2 hcr).1
  rw [mt_com_iff] at h1 h2
  rcases Nat.lt_trichotomy t u with h | h | h
  · have := mt_aw_le ho hc x h; omega
  · exact h
  · have := mt_aw_le ho hc x h; omega
theorem mt_hits_iff {r : Nat → Int} {lw : mt_L} {d : Nat → Int32} {c : Nat} {x h : Int} : ∀ {n : Nat}, mt_hits r lw d c x h n = true ↔ ∃ t, t < n ∧ mt_on r c t = true ∧ mt_com r c t x = true ∧ mt_late r c t x (mt_seen r lw d c x h (t + 1)) = true
  | 0 => ⟨fun h => (by cases h), fun ⟨t, h, _⟩ => by omega⟩
  | n + 1 => by
    show (mt_hits r lw d c x h n || _) = true ↔ _
    rw [Bool.or_eq_true, mt_hits_iff (n := n), Bool.and_eq_true, Bool.and_eq_true]
    constructor
    · rintro (⟨t, h1, h2⟩ | h)
      · exact ⟨t, by omega, h2⟩
      · exact ⟨n, by omega, h⟩
    · rintro ⟨t, h1, h2⟩
      by_cases e : t = n
      · subst e; exact Or.inr h2
      · exact Or.inl ⟨t, by omega, h2⟩
def ib (z : Int) : Prop := -1000 ≤ z ∧ z ≤ 1000
theorem ib_b {z : Int} (h : ib z) : iI_b z := by unfold ib at h; unfold iI_b; omega
theorem aw_b {r : Nat → Int} (ho : rd_ok r) {c t : Nat} (hc : c < 2) (ht : t < tn r c) {x : Int} (hx : 0 ≤ x ∧ x ≤ 60) : -60 ≤ mt_aw r c t x ∧ mt_aw r c t x ≤ 60 := by
  have h1 := mt_on_iff.mp ((tn_on ho hc t).mpr ht)
  have h2 := ho.1
  unfold mt_aw
  split <;> omega
section XQ
variable {l : Launch} {G : ax_G} {M : ax_M} {r : Nat → Int} {R T U : Nat} {lw : mt_L} {dd : Nat → Int32} {c : Nat}
theorem c_xunsafe {d : Nat} (hok : lo_ok M.2) (hT : xh_T T) (ho : rd_ok r) (hc2 : c < 2) (ht : xtp M T r lw dd c) {t : Nat} (htn : t < tn r c) {x : Int32} (hx : x = nI t) : ax_Met l G kX8_unsafe d 0 0 M [av_r T, av_i x] (ax_p (av_i (if mt_si r lw dd c t < mt_stop r c t then 1 else 0)) M) := by
  subst hx
  have h60 := tn_60 ho hc2
  obtain ⟨-, -, -, r4, r5, -⟩ := ht.2.2 t htn
  have s1 := mt_si_b r lw dd c t
  have s2 := mt_stop_b (t := t) ho hc2
  refine ax_body (by decide) (Nat.le_of_ble_eq_true rfl) ?_
  refine ax_aload_n dX8_unsafe_0 rfl ?_
  refine ax_getK (f := 13) (T + 4) dX8_unsafe_1 acl_8 wd_444 (by decide) rfl (xs_T_0 hT hok) (xr_T_13 hT hok) ?_
  refine ax_iload_n dX8_unsafe_4 rfl ?_
  refine ax_ialdN (t) dX8_unsafe_5 (xs_T_4 hT hok) (by decide) (by first | with_reducible rfl | assumption | exact ax_nix (by simp only [nx_0, nx_1, nx_2, nx_3, nx_4, nx_10, nx_20, nx_21, nx_100, nI_add, pk_mul] <;> rfl) (by omega) | decide) (by omega) ?_
  rw [r4]
  refine ax_aload_n dX8_unsafe_6 rfl ?_
  refine ax_getK (f := 14) (T + 5) dX8_unsafe_7 acl_8 wd_446 (by decide) rfl (xs_T_0 hT hok) (xr_T_14 hT hok) ?_
  refine ax_iload_n dX8_unsafe_10 rfl ?_
  refine ax_ialdN (t) dX8_unsafe_11 (xs_T_5 hT hok) (by decide) (by first | with_reducible rfl | assumption | exact ax_nix (by simp only [nx_0, nx_1, nx_2, nx_3, nx_4, nx_10, nx_20, nx_21, nx_100, nI_add, pk_mul] <;> rfl) (by omega) | decide) (by omega) ?_
  rw [r5]
  refine ax_icmp_ge (tgt := 19) dX8_unsafe_12 (by decide) (fun hc => ?_) (fun hc => ?_)
  · have := (iI_le (by unfold iI_b; omega) (by unfold iI_b; omega)).mp hc
    refine ax_iconst (v := 0) dX8_unsafe_19 (by decide) ?_
    refine ax_iret dX8_unsafe_20 rfl ?_
    rw [if_neg (by omega)]; exact ⟨rfl, rfl⟩
  · have : ¬ mt_stop r c t ≤ mt_si r lw dd c t := fun q => hc ((iI_le (by unfold iI_b; omega) (by unfold iI_b; omega)).mpr q)
    refine ax_iconst (v := 1) dX8_unsafe_15 (by decide) ?_
    refine ax_goto (tgt := 20) dX8_unsafe_16 (by decide) ?_
    refine ax_iret dX8_unsafe_20 rfl ?_
    rw [if_pos (by omega)]; exact ⟨rfl, rfl⟩
theorem c_unsafeTenths (hok : lo_ok M.2) (hT : xh_T T) (ho : rd_ok r) (hc2 : c < 2) (ht : xtp M T r lw dd c) : ax_Met l G kX8_unsafeTenths 1 0 0 M [av_r T] (ax_p (av_i (nI (mt_us r lw dd c))) M) := by
  have h60 := tn_60 ho hc2
  have e : mt_us r lw dd c = mt_cnt (fun t => decide (mt_si r lw dd c t < mt_stop r c t)) (tn r c) := cnt_tn ho hc2 _
  rw [e]
  refine ax_body (by decide) (Nat.le_of_ble_eq_true rfl) ?_
  refine ax_iconst (v := 0) dX8_unsafeTenths_0 (by decide) ?_
  refine ax_istore_n dX8_unsafeTenths_1 (by decide) rfl ?_
  refine ax_iconst (v := 0) dX8_unsafeTenths_2 (by decide) ?_
  refine ax_istore_n dX8_unsafeTenths_3 (by decide) rfl ?_
  refine ax_for (tn r c) (fun i N L => N = M ∧ L = [some (av_r T), some (av_i (nI (mt_cnt (fun t => decide (mt_si r lw dd c t < mt_stop r c t)) i))), some (av_i (nI i))]) 4 ?_ ?_ (i := 0) (by omega) ⟨rfl, rfl⟩
  · rintro i N L hi ⟨rfl, rfl⟩ next
    refine ax_iload_n dX8_unsafeTenths_4 rfl ?_
    refine ax_aload_n dX8_unsafeTenths_5 rfl ?_
    refine ax_getI (f := 9) dX8_unsafeTenths_6 acl_8 wd_436 (by decide) rfl (xs_T_0 hT hok) ?_
    rw [ht.2.1]
    refine ax_icmp_ge (tgt := 26) dX8_unsafeTenths_9 (by decide) (fun hc => absurd ((nI_leI (by omega) (by omega)).mp hc) (by omega)) (fun hc => ?_)
    refine ax_iload_n dX8_unsafeTenths_12 rfl ?_
    refine ax_aload_n dX8_unsafeTenths_13 rfl ?_
    refine ax_iload_n dX8_unsafeTenths_14 rfl ?_
    refine ax_callV (As := _) (d2 := _) (c1 := 0) (n1 := 0) (c_xunsafe (d := 0) (M := N) hok hT ho hc2 ht hi rfl) dX8_unsafeTenths_15 mX8_unsafe wd_1213 acl_8 (xs_T_0 hT hok) rfl (by omega) (by omega) (by omega) rfl rfl (fun _ _ h => by cases h.1) ?_
    rintro r M9 ⟨h1, h9⟩; cases h1; rw [h9]; clear h9 M9
    have e2 := cnt_nI (p := fun t => decide (mt_si r lw dd c t < mt_stop r c t)) (i := i)
    simp only [decide_eq_true_eq] at e2
    refine ax_iadd dX8_unsafeTenths_18 ?_
    rw [e2]
    refine ax_istore_n dX8_unsafeTenths_19 (by decide) rfl ?_
    refine ax_iinc (v := 1) dX8_unsafeTenths_20 rfl (by decide) (by decide) rfl ?_
    refine ax_goto (tgt := 4) dX8_unsafeTenths_23 (by decide) ?_
    rw [nI_1]
    exact next _ _ ⟨rfl, rfl⟩
  · rintro N L ⟨rfl, rfl⟩
    refine ax_iload_n dX8_unsafeTenths_4 rfl ?_
    refine ax_aload_n dX8_unsafeTenths_5 rfl ?_
    refine ax_getI (f := 9) dX8_unsafeTenths_6 acl_8 wd_436 (by decide) rfl (xs_T_0 hT hok) ?_
    rw [ht.2.1]
    refine ax_icmp_ge (tgt := 26) dX8_unsafeTenths_9 (by decide) (fun hc => ?_) (fun hc => absurd ((nI_leI (by omega) (by omega)).mpr (by omega)) hc)
    refine ax_iload_n dX8_unsafeTenths_26 rfl ?_
    refine ax_iret dX8_unsafeTenths_27 rfl ?_
    exact ⟨rfl, rfl⟩
theorem dz_view {f : Nat → Int32} {u c : Nat} (h : mt_dz r u f c = true) : mt_view r u = true := by
  unfold mt_dz mt_near at h
  rw [Bool.and_eq_true, Bool.and_eq_true] at h
  exact h.1.1
theorem c_glareTenths {d : Nat} (hok : lo_ok M.2) (hT : xh_T T) (ho : rd_ok r) (hc2 : c < 2) (ht : xtp M T r lw dd c) : ax_Met l G kX8_glareTenths d 0 0 M [av_r T] (ax_p (av_i (nI (mt_gl r lw dd c (mt_T r)))) M) := by
  have h60 := tn_60 ho hc2
  have e : mt_gl r lw dd c (mt_T r) = mt_cnt (fun u => mt_dz r u (fun q => mt_f r lw dd q u) (1 - c)) (tn r c) := by
    rw [← cnt_tn ho hc2]
    unfold mt_gl
    refine mt_cnt_cong (fun u _ => ?_)
    cases z : mt_dz r u (fun q => mt_f r lw dd q u) (1 - c) with
    | false => rw [Bool.and_false, Bool.and_false]
    | true =>
      have hv := mt_view_iff.mp (dz_view z)
      rcases (show c = 0 ∨ c = 1 by omega) with rfl | rfl
      · rw [hv.1, show mt_on r (1 - 0) u = true from hv.2.1]
      · rw [hv.2.1, show mt_on r (1 - 1) u = true from hv.1]
  rw [e]
  refine ax_body (by decide) (Nat.le_of_ble_eq_true rfl) ?_
  refine ax_iconst (v := 0) dX8_glareTenths_0 (by decide) ?_
  refine ax_istore_n dX8_glareTenths_1 (by decide) rfl ?_
  refine ax_iconst (v := 0) dX8_glareTenths_2 (by decide) ?_
  refine ax_istore_n dX8_glareTenths_3 (by decide) rfl ?_
  refine ax_for (tn r c) (fun i N L => N = M ∧ L = [some (av_r T), some (av_i (nI (mt_cnt (fun u => mt_dz r u (fun q => mt_f r lw dd q u) (1 - c)) i))), some (av_i (nI i))]) 4 ?_ ?_ (i := 0) (by omega) ⟨rfl, rfl⟩
  · rintro i N L hi ⟨rfl, rfl⟩ next
    refine ax_iload_n dX8_glareTenths_4 rfl ?_
    refine ax_aload_n dX8_glareTenths_5 rfl ?_
    refine ax_getI (f := 9) dX8_glareTenths_6 acl_8 wd_436 (by decide) rfl (xs_T_0 hT hok) ?_
    rw [ht.2.1]
    refine ax_icmp_ge (tgt := 27) dX8_glareTenths_9 (by decide) (fun hc => absurd ((nI_leI (by omega) (by omega)).mp hc) (by omega)) (fun hc => ?_)
    refine ax_iload_n dX8_glareTenths_12 rfl ?_
    refine ax_aload_n dX8_glareTenths_13 rfl ?_
    refine ax_getK (f := 15) (T + 6) dX8_glareTenths_14 acl_8 wd_447 (by decide) rfl (xs_T_0 hT hok) (xr_T_15 hT hok) ?_
    refine ax_iload_n dX8_glareTenths_17 rfl ?_
    refine ax_ialdN (i) dX8_glareTenths_18 (xs_T_6 hT hok) (by decide) (by first | with_reducible rfl | assumption | exact ax_nix (by simp only [nx_0, nx_1, nx_2, nx_3, nx_4, nx_10, nx_20, nx_21, nx_100, nI_add, pk_mul] <;> rfl) (by omega) | decide) (by omega) ?_
    rw [(ht.2.2 i hi).2.2.2.2.2]
    refine ax_iadd dX8_glareTenths_19 ?_
    rw [cnt_nI (p := fun u => mt_dz r u (fun q => mt_f r lw dd q u) (1 - c))]
    refine ax_istore_n dX8_glareTenths_20 (by decide) rfl ?_
    refine ax_iinc (v := 1) dX8_glareTenths_21 rfl (by decide) (by decide) rfl ?_
    refine ax_goto (tgt := 4) dX8_glareTenths_24 (by decide) ?_
    rw [nI_1]
    exact next _ _ ⟨rfl, rfl⟩
  · rintro N L ⟨rfl, rfl⟩
    refine ax_iload_n dX8_glareTenths_4 rfl ?_
    refine ax_aload_n dX8_glareTenths_5 rfl ?_
    refine ax_getI (f := 9) dX8_glareTenths_6 acl_8 wd_436 (by decide) rfl (xs_T_0 hT hok) ?_
    rw [ht.2.1]
    refine ax_icmp_ge (tgt := 27) dX8_glareTenths_9 (by decide) (fun hc => ?_) (fun hc => absurd ((nI_leI (by omega) (by omega)).mpr (by omega)) hc)
    refine ax_iload_n dX8_glareTenths_27 rfl ?_
    refine ax_iret dX8_glareTenths_28 rfl ?_
    exact ⟨rfl, rfl⟩
theorem c_blindTenths {d : Nat} (hok : lo_ok M.2) (hT : xh_T T) (ho : rd_ok r) (hc2 : c < 2) (ht : xtp M T r lw dd c) : ax_Met l G kX8_blindTenths d 0 0 M [av_r T] (ax_p (av_i (nI (mt_bc r lw dd c (mt_T r)))) M) := by
  have h60 := tn_60 ho hc2
  have e : mt_bc r lw dd c (mt_T r) = mt_cnt (fun t => decide (0 < mt_b r lw dd c t)) (tn r c) := cnt_tn ho hc2 _
  rw [e]
  refine ax_body (by decide) (Nat.le_of_ble_eq_true rfl) ?_
  refine ax_iconst (v := 0) dX8_blindTenths_0 (by decide) ?_
  refine ax_istore_n dX8_blindTenths_1 (by decide) rfl ?_
  refine ax_iconst (v := 0) dX8_blindTenths_2 (by decide) ?_
  refine ax_istore_n dX8_blindTenths_3 (by decide) rfl ?_
  refine ax_for (tn r c) (fun i N L => N = M ∧ L = [some (av_r T), some (av_i (nI (mt_cnt (fun t => decide (0 < mt_b r lw dd c t)) i))), some (av_i (nI i))]) 4 ?_ ?_ (i := 0) (by omega) ⟨rfl, rfl⟩
  · rintro i N L hi ⟨rfl, rfl⟩ next
    have hb := mt_b_b ho lw dd hc2 i
    refine ax_iload_n dX8_blindTenths_4 rfl ?_
    refine ax_aload_n dX8_blindTenths_5 rfl ?_
    refine ax_getI (f := 9) dX8_blindTenths_6 acl_8 wd_436 (by decide) rfl (xs_T_0 hT hok) ?_
    rw [ht.2.1]
    refine ax_icmp_ge (tgt := 35) dX8_blindTenths_9 (by decide) (fun hc => absurd ((nI_leI (by omega) (by omega)).mp hc) (by omega)) (fun hc => ?_)
    refine ax_iload_n dX8_blindTenths_12 rfl ?_
    refine ax_aload_n dX8_blindTenths_13 rfl ?_
    refine ax_getK (f := 12) (T + 3) dX8_blindTenths_14 acl_8 wd_442 (by decide) rfl (xs_T_0 hT hok) (xr_T_12 hT hok) ?_
    refine ax_iload_n dX8_blindTenths_17 rfl ?_
    refine ax_ialdN (i) dX8_blindTenths_18 (xs_T_3 hT hok) (by decide) (by first | with_reducible rfl | assumption | exact ax_nix (by simp only [nx_0, nx_1, nx_2, nx_3, nx_4, nx_10, nx_20, nx_21, nx_100, nI_add, pk_mul] <;> rfl) (by omega) | decide) (by omega) ?_
    rw [(ht.2.2 i hi).2.2.1]
    refine ax_join1 (0 < mt_b r lw dd c i) 27 (1) (0) ?_ (fun ja jb => ?_)
    rotate_left
    · refine ax_if_le (tgt := 26) dX8_blindTenths_19 (by decide) (fun h19 => ?_) (fun h19 => ?_)
      · refine ax_iconst (v := 0) dX8_blindTenths_26 (by decide) ?_
        first | exact jb (fun z => by have := (iI_le (b := 0) (by unfold iI_b; omega) (by unfold iI_b; omega)).mp h19; omega) | exact ja (by have : ¬ mt_b r lw dd c i ≤ 0 := fun z => h19 ((iI_le (b := 0) (by unfold iI_b; omega) (by unfold iI_b; omega)).mpr z); omega)
      · refine ax_iconst (v := 1) dX8_blindTenths_22 (by decide) ?_
        refine ax_goto (tgt := 27) dX8_blindTenths_23 (by decide) ?_
        first | exact jb (fun z => by have := (iI_le (b := 0) (by unfold iI_b; omega) (by unfold iI_b; omega)).mp h19; omega) | exact ja (by have : ¬ mt_b r lw dd c i ≤ 0 := fun z => h19 ((iI_le (b := 0) (by unfold iI_b; omega) (by unfold iI_b; omega)).mpr z); omega)
    have e2 := cnt_nI (p := fun t => decide (0 < mt_b r lw dd c t)) (i := i)
    simp only [decide_eq_true_eq] at e2
    refine ax_iadd dX8_blindTenths_27 ?_
    rw [e2]
    refine ax_istore_n dX8_blindTenths_28 (by decide) rfl ?_
    refine ax_iinc (v := 1) dX8_blindTenths_29 rfl (by decide) (by decide) rfl ?_
    refine ax_goto (tgt := 4) dX8_blindTenths_32 (by decide) ?_
    rw [nI_1]
    exact next _ _ ⟨rfl, rfl⟩
  · rintro N L ⟨rfl, rfl⟩
    refine ax_iload_n dX8_blindTenths_4 rfl ?_
    refine ax_aload_n dX8_blindTenths_5 rfl ?_
    refine ax_getI (f := 9) dX8_blindTenths_6 acl_8 wd_436 (by decide) rfl (xs_T_0 hT hok) ?_
    rw [ht.2.1]
    refine ax_icmp_ge (tgt := 35) dX8_blindTenths_9 (by decide) (fun hc => ?_) (fun hc => absurd ((nI_leI (by omega) (by omega)).mpr (by omega)) hc)
    refine ax_iload_n dX8_blindTenths_35 rfl ?_
    refine ax_iret dX8_blindTenths_36 rfl ?_
    exact ⟨rfl, rfl⟩
theorem mt_f01 (r : Nat → Int) (lw : mt_L) (d : Nat → Int32) (c : Nat) : ∀ t, (mt_s r lw d t).2 c = 0 ∨ (mt_s r lw d t).2 c = 1
  | 0 => Or.inr rfl
  | t + 1 => by
    show mt_F r lw d t (mt_s r lw d t) c = 0 ∨ mt_F r lw d t (mt_s r lw d t) c = 1
    unfold mt_F
    split
    · unfold ev_beam
      generalize (if d c = -1 then _ else _) = v
      by_cases h : 0 < v
      · rw [if_pos h]; exact Or.inr rfl
      · rw [if_neg h]; exact Or.inl rfl
    · exact mt_f01 r lw d c t
theorem mt_f_if (r : Nat → Int) (lw : mt_L) (d : Nat → Int32) (c t : Nat) : mt_f r lw d c t = if mt_f r lw d c t = 1 then 1 else 0 := by
  rcases mt_f01 r lw d c (t + 1) with h | h
  · have : mt_f r lw d c t = 0 := h
    rw [this]; rfl
  · have : mt_f r lw d c t = 1 := h
    rw [this]; rfl
theorem c_fullTenths {d : Nat} (hok : lo_ok M.2) (hT : xh_T T) (ho : rd_ok r) (hc2 : c < 2) (ht : xtp M T r lw dd c) : ax_Met l G kX8_fullTenths d 0 0 M [av_r T] (ax_p (av_i (nI (mt_fc r lw dd c (mt_T r)))) M) := by
  have h60 := tn_60 ho hc2
  have e : mt_fc r lw dd c (mt_T r) = mt_cnt (fun t => decide (mt_f r lw dd c t = 1)) (tn r c) := cnt_tn ho hc2 _
  rw [e]
  refine ax_body (by decide) (Nat.le_of_ble_eq_true rfl) ?_
  refine ax_iconst (v := 0) dX8_fullTenths_0 (by decide) ?_
  refine ax_istore_n dX8_fullTenths_1 (by decide) rfl ?_
  refine ax_iconst (v := 0) dX8_fullTenths_2 (by decide) ?_
  refine ax_istore_n dX8_fullTenths_3 (by decide) rfl ?_
  refine ax_for (tn r c) (fun i N L => N = M ∧ L = [some (av_r T), some (av_i (nI (mt_cnt (fun t => decide (mt_f r lw dd c t = 1)) i))), some (av_i (nI i))]) 4 ?_ ?_ (i := 0) (by omega) ⟨rfl, rfl⟩
  · rintro i N L hi ⟨rfl, rfl⟩ next
    refine ax_iload_n dX8_fullTenths_4 rfl ?_
    refine ax_aload_n dX8_fullTenths_5 rfl ?_
    refine ax_getI (f := 9) dX8_fullTenths_6 acl_8 wd_436 (by decide) rfl (xs_T_0 hT hok) ?_
    rw [ht.2.1]
    refine ax_icmp_ge (tgt := 27) dX8_fullTenths_9 (by decide) (fun hc => absurd ((nI_leI (by omega) (by omega)).mp hc) (by omega)) (fun hc => ?_)
    refine ax_iload_n dX8_fullTenths_12 rfl ?_
    refine ax_aload_n dX8_fullTenths_13 rfl ?_
    refine ax_getK (f := 11) (T + 2) dX8_fullTenths_14 acl_8 wd_440 (by decide) rfl (xs_T_0 hT hok) (xr_T_11 hT hok) ?_
    refine ax_iload_n dX8_fullTenths_17 rfl ?_
    refine ax_ialdN (i) dX8_fullTenths_18 (xs_T_2 hT hok) (by decide) (by first | with_reducible rfl | assumption | exact ax_nix (by simp only [nx_0, nx_1, nx_2, nx_3, nx_4, nx_10, nx_20, nx_21, nx_100, nI_add, pk_mul] <;> rfl) (by omega) | decide) (by omega) ?_
    rw [(ht.2.2 i hi).2.1, mt_f_if]
    have e2 := cnt_nI (p := fun t => decide (mt_f r lw dd c t = 1)) (i := i)
    simp only [decide_eq_true_eq] at e2
    refine ax_iadd dX8_fullTenths_19 ?_
    rw [e2]
    refine ax_istore_n dX8_fullTenths_20 (by decide) rfl ?_
    refine ax_iinc (v := 1) dX8_fullTenths_21 rfl (by decide) (by decide) rfl ?_
    refine ax_goto (tgt := 4) dX8_fullTenths_24 (by decide) ?_
    rw [nI_1]
    exact next _ _ ⟨rfl, rfl⟩
  · rintro N L ⟨rfl, rfl⟩
    refine ax_iload_n dX8_fullTenths_4 rfl ?_
    refine ax_aload_n dX8_fullTenths_5 rfl ?_
    refine ax_getI (f := 9) dX8_fullTenths_6 acl_8 wd_436 (by decide) rfl (xs_T_0 hT hok) ?_
    rw [ht.2.1]
    refine ax_icmp_ge (tgt := 27) dX8_fullTenths_9 (by decide) (fun hc => ?_) (fun hc => absurd ((nI_leI (by omega) (by omega)).mpr (by omega)) hc)
    refine ax_iload_n dX8_fullTenths_27 rfl ?_
    refine ax_iret dX8_fullTenths_28 rfl ?_
    exact ⟨rfl, rfl⟩
theorem c_beamChanges {d : Nat} (hok : lo_ok M.2) (hT : xh_T T) (ho : rd_ok r) (hc2 : c < 2) (ht : xtp M T r lw dd c) : ax_Met l G kX8_beamChanges d 0 0 M [av_r T] (ax_p (av_i (nI (mt_cc r lw dd c (mt_T r)))) M) := by
  have h60 := tn_60 ho hc2
  have e : mt_cc r lw dd c (mt_T r) = mt_cnt (fun t => !decide (mt_f r lw dd c t = (mt_s r lw dd t).2 c)) (tn r c) := cnt_tn ho hc2 _
  rw [e]
  refine ax_body (by decide) (Nat.le_of_ble_eq_true rfl) ?_
  refine ax_iconst (v := 0) dX8_beamChanges_0 (by decide) ?_
  refine ax_istore_n dX8_beamChanges_1 (by decide) rfl ?_
  refine ax_iconst (v := 1) dX8_beamChanges_2 (by decide) ?_
  refine ax_istore_n dX8_beamChanges_3 (by decide) rfl ?_
  refine ax_iconst (v := 0) dX8_beamChanges_4 (by decide) ?_
  refine ax_istore_n dX8_beamChanges_5 (by decide) rfl ?_
  refine ax_for (tn r c) (fun i N L => N = M ∧ L = [some (av_r T), some (av_i (nI (mt_cnt (fun t => !decide (mt_f r lw dd c t = (mt_s r lw dd t).2 c)) i))), some (av_i ((mt_s r lw dd i).2 c)), some (av_i (nI i))]) 6 ?_ ?_ (i := 0) (by omega) ⟨rfl, rfl⟩
  · rintro i N L hi ⟨rfl, rfl⟩ next
    have hb := (ht.2.2 i hi).2.1
    refine ax_iload_n dX8_beamChanges_6 rfl ?_
    refine ax_aload_n dX8_beamChanges_7 rfl ?_
    refine ax_getI (f := 9) dX8_beamChanges_8 acl_8 wd_436 (by decide) rfl (xs_T_0 hT hok) ?_
    rw [ht.2.1]
    refine ax_icmp_ge (tgt := 45) dX8_beamChanges_11 (by decide) (fun hc => absurd ((nI_leI (by omega) (by omega)).mp hc) (by omega)) (fun hc => ?_)
    refine ax_iload_n dX8_beamChanges_14 rfl ?_
    refine ax_aload_n dX8_beamChanges_15 rfl ?_
    refine ax_getK (f := 11) (T + 2) dX8_beamChanges_16 acl_8 wd_440 (by decide) rfl (xs_T_0 hT hok) (xr_T_11 hT hok) ?_
    refine ax_iload_n dX8_beamChanges_19 rfl ?_
    refine ax_ialdN (i) dX8_beamChanges_20 (xs_T_2 hT hok) (by decide) (by first | with_reducible rfl | assumption | exact ax_nix (by simp only [nx_0, nx_1, nx_2, nx_3, nx_4, nx_10, nx_20, nx_21, nx_100, nI_add, pk_mul] <;> rfl) (by omega) | decide) (by omega) ?_
    rw [hb]
    refine ax_iload_n dX8_beamChanges_21 rfl ?_
    refine ax_join2 ((!decide (mt_f r lw dd c i = (mt_s r lw dd i).2 c)) = true) 30 (1) (0) ?_ (fun ja jb => ?_)
    rotate_left
    · refine ax_icmp_eq (tgt := 29) dX8_beamChanges_22 (by decide) (fun h22 => ?_) (fun h22 => ?_)
      · refine ax_iconst (v := 0) dX8_beamChanges_29 (by decide) ?_
        first | exact jb (fun z => by rw [h22] at z; simp at z) | exact ja (by simp [h22])
      · refine ax_iconst (v := 1) dX8_beamChanges_25 (by decide) ?_
        refine ax_goto (tgt := 30) dX8_beamChanges_26 (by decide) ?_
        first | exact jb (fun z => by rw [h22] at z; simp at z) | exact ja (by simp [h22])
    refine ax_iadd dX8_beamChanges_30 ?_
    rw [cnt_nI (p := fun t => !decide (mt_f r lw dd c t = (mt_s r lw dd t).2 c))]
    refine ax_istore_n dX8_beamChanges_31 (by decide) rfl ?_
    refine ax_aload_n dX8_beamChanges_32 rfl ?_
    refine ax_getK (f := 11) (T + 2) dX8_beamChanges_33 acl_8 wd_440 (by decide) rfl (xs_T_0 hT hok) (xr_T_11 hT hok) ?_
    refine ax_iload_n dX8_beamChanges_36 rfl ?_
    refine ax_ialdN (i) dX8_beamChanges_37 (xs_T_2 hT hok) (by decide) (by first | with_reducible rfl | assumption | exact ax_nix (by simp only [nx_0, nx_1, nx_2, nx_3, nx_4, nx_10, nx_20, nx_21, nx_100, nI_add, pk_mul] <;> rfl) (by omega) | decide) (by omega) ?_
    rw [hb]
    refine ax_istore_n dX8_beamChanges_38 (by decide) rfl ?_
    refine ax_iinc (v := 1) dX8_beamChanges_39 rfl (by decide) (by decide) rfl ?_
    refine ax_goto (tgt := 6) dX8_beamChanges_42 (by decide) ?_
    rw [nI_1]
    exact next _ _ ⟨rfl, rfl⟩
  · rintro N L ⟨rfl, rfl⟩
    refine ax_iload_n dX8_beamChanges_6 rfl ?_
    refine ax_aload_n dX8_beamChanges_7 rfl ?_
    refine ax_getI (f := 9) dX8_beamChanges_8 acl_8 wd_436 (by decide) rfl (xs_T_0 hT hok) ?_
    rw [ht.2.1]
    refine ax_icmp_ge (tgt := 45) dX8_beamChanges_11 (by decide) (fun hc => ?_) (fun hc => absurd ((nI_leI (by omega) (by omega)).mpr (by omega)) hc)
    refine ax_iload_n dX8_beamChanges_45 rfl ?_
    refine ax_iret dX8_beamChanges_46 rfl ?_
    exact ⟨rfl, rfl⟩
theorem c_firstBeams (hok : lo_ok M.2) (hT : xh_T T) (ho : rd_ok r) (hc2 : c < 2) (ht : xtp M T r lw dd c) {w : Int32} {a : Nat} (ha : a ≤ 100) {x : Int32} (hx : x = nI a) : ax_Met l G kX8_firstBeams 1 0 0 M [av_r T, av_i w, av_i x] (ax_p (av_i (mt_sb (mt_first (fun t => decide (a ≤ t) && decide (mt_f r lw dd c t = w)) (tn r c)))) M) := by
  subst hx
  have h60 := tn_60 ho hc2
  refine ax_body (by decide) (Nat.le_of_ble_eq_true rfl) ?_
  refine ax_iconst (v := 0) dX8_firstBeams_0 (by decide) ?_
  refine ax_iload_n dX8_firstBeams_1 rfl ?_
  refine ax_mmax dX8_firstBeams_2 wd_710 wd_maxs wd_182 wd_maxc (by decide) rfl ?_
  rw [show (if (0 : Int32) < nI a then nI a else 0) = nI a by
    by_cases z : 0 < a
    · exact if_pos ((nI_ltI (a := 0) (by omega) (by omega)).mpr z)
    · rw [show a = 0 by omega]; rfl]
  refine ax_istore_n dX8_firstBeams_5 (by decide) rfl ?_
  by_cases hat : a ≤ tn r c
  · refine ax_for (tn r c) (fun i N L => N = M ∧ a ≤ i ∧ L = [some (av_r T), some (av_i w), some (av_i (nI a)), some (av_i (nI i))] ∧ ∀ j, a ≤ j → j < i → ¬ mt_f r lw dd c j = w) 6 ?_ ?_ (i := a) hat ⟨rfl, Nat.le_refl _, rfl, fun j h1 h2 => by omega⟩
    · rintro i N L hi ⟨rfl, hai, rfl, hno⟩ next
      have hb := (ht.2.2 i hi).2.1
      refine ax_iload_n dX8_firstBeams_6 rfl ?_
      refine ax_aload_n dX8_firstBeams_7 rfl ?_
      refine ax_getI (f := 9) dX8_firstBeams_8 acl_8 wd_436 (by decide) rfl (xs_T_0 hT hok) ?_
      rw [ht.2.1]
      refine ax_icmp_ge (tgt := 32) dX8_firstBeams_11 (by decide) (fun hc => absurd ((nI_leI (by omega) (by omega)).mp hc) (by omega)) (fun hc => ?_)
      refine ax_aload_n dX8_firstBeams_14 rfl ?_
      refine ax_getK (f := 11) (T + 2) dX8_firstBeams_15 acl_8 wd_440 (by decide) rfl (xs_T_0 hT hok) (xr_T_11 hT hok) ?_
      refine ax_iload_n dX8_firstBeams_18 rfl ?_
      refine ax_ialdN (i) dX8_firstBeams_19 (xs_T_2 hT hok) (by decide) (by first | with_reducible rfl | assumption | exact ax_nix (by simp only [nx_0, nx_1, nx_2, nx_3, nx_4, nx_10, nx_20, nx_21, nx_100, nI_add, pk_mul] <;> rfl) (by omega) | decide) (by omega) ?_
      rw [hb]
      refine ax_iload_n dX8_firstBeams_20 rfl ?_
      refine ax_icmp_ne (tgt := 26) dX8_firstBeams_21 (by decide) (fun hc => ?_) (fun hc => ?_)
      · refine ax_iinc (v := 1) dX8_firstBeams_26 rfl (by decide) (by decide) rfl ?_
        refine ax_goto (tgt := 6) dX8_firstBeams_29 (by decide) ?_
        rw [nI_1]
        refine next _ _ ⟨rfl, by omega, rfl, fun j h1 h2 => ?_⟩
        by_cases e : j = i
        · subst e; exact hc
        · exact hno j h1 (by omega)
      · refine ax_iload_n dX8_firstBeams_24 rfl ?_
        refine ax_iret dX8_firstBeams_25 rfl ?_
        rw [mt_first_of (u := i) (by simp [hai, hc]) (fun v hv => by
          by_cases z : a ≤ v
          · simp [hno v z hv]
          · simp [z]) hi]
        exact ⟨rfl, rfl⟩
    · rintro N L ⟨rfl, hai, rfl, hno⟩
      refine ax_iload_n dX8_firstBeams_6 rfl ?_
      refine ax_aload_n dX8_firstBeams_7 rfl ?_
      refine ax_getI (f := 9) dX8_firstBeams_8 acl_8 wd_436 (by decide) rfl (xs_T_0 hT hok) ?_
      rw [ht.2.1]
      refine ax_icmp_ge (tgt := 32) dX8_firstBeams_11 (by decide) (fun hc => ?_) (fun hc => absurd ((nI_leI (by omega) (by omega)).mpr (by omega)) hc)
      refine ax_iconst (v := (-1)) dX8_firstBeams_32 (by decide) ?_
      refine ax_iret dX8_firstBeams_33 rfl ?_
      rw [mt_first_no (fun v hv => by
        by_cases z : a ≤ v
        · simp [hno v z hv]
        · simp [z])]
      exact ⟨rfl, rfl⟩
  · refine ax_iload_n dX8_firstBeams_6 rfl ?_
    refine ax_aload_n dX8_firstBeams_7 rfl ?_
    refine ax_getI (f := 9) dX8_firstBeams_8 acl_8 wd_436 (by decide) rfl (xs_T_0 hT hok) ?_
    rw [ht.2.1]
    refine ax_icmp_ge (tgt := 32) dX8_firstBeams_11 (by decide) (fun hc => ?_) (fun hc => ?_)
    · refine ax_iconst (v := (-1)) dX8_firstBeams_32 (by decide) ?_
      refine ax_iret dX8_firstBeams_33 rfl ?_
      rw [mt_first_no (fun v hv => by simp; omega)]
      exact ⟨rfl, rfl⟩
    · exact absurd ((nI_leI (by omega) (by omega)).mpr (by omega)) hc
end XQ

