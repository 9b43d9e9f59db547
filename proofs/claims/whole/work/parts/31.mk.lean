/-! ===== the reference's road and what is known ===== -/
def rr (M : ax_M) (r : Nat → Int) : Prop := (∀ k, k < 7 → M.1 94 k = iI (r k)) ∧ (∀ k, k < 26 → M.1 100 k = iI (r (10 + k))) ∧ (∀ k, k < 2 → M.1 96 k = iI (r (40 + k))) ∧ (∀ k, k < 6 → M.1 98 k = iI (r (50 + k))) ∧ ∀ k, k < 4 → M.1 (107 + k) 0 = iI (r (60 + 2 * k)) ∧ M.1 (107 + k) 1 = iI (r (61 + 2 * k))
theorem rr_fr {M M2 : ax_M} {r : Nat → Int} (h : rr M r) (hf : ∀ n i, n = 94 ∨ n = 96 ∨ n = 98 ∨ n = 100 ∨ (107 ≤ n ∧ n ≤ 110) → M2.1 n i = M.1 n i) : rr M2 r :=
  ⟨fun k q => (hf 94 k (by omega)).trans (h.1 k q), fun k q => (hf 100 k (by omega)).trans (h.2.1 k q), fun k q => (hf 96 k (by omega)).trans (h.2.2.1 k q), fun k q => (hf 98 k (by omega)).trans (h.2.2.2.1 k q), fun k q => ⟨(hf (107 + k) 0 (by omega)).trans (h.2.2.2.2 k q).1, (hf (107 + k) 1 (by omega)).trans (h.2.2.2.2 k q).2⟩⟩
theorem iI_tn {z : Int} (h : 0 ≤ z) : iI z = nI z.toNat := by rw [iI_nI, Int.toNat_of_nonneg h]
theorem rr_wet {M : ax_M} {r : Nat → Int} (h : rr M r) (ho : rd_ok r) {x : Int} (hx : iI_b x) : ∀ n, n ≤ 4 → md_wet M (iI x) n = rd_wt r x n
  | 0, _ => rfl
  | n + 1, hn => by
    have h1 := h.2.2.2.2 n (by omega)
    have h2 := ho.2.2.2.2 n (by omega)
    show (md_wet M (iI x) n || _) = (rd_wt r x n || _)
    rw [rr_wet h ho hx n (by omega), h1.1, h1.2]
    have e1 : (iI (r (60 + 2 * n)) ≤ iI x) = (r (60 + 2 * n) ≤ x) := propext (iI_le (by unfold iI_b; omega) hx)
    have e2 : (iI x ≤ iI (r (61 + 2 * n))) = (x ≤ r (61 + 2 * n)) := propext (iI_le hx (by unfold iI_b; omega))
    simp only [e1, e2]
theorem iI_min {a b : Int} (ha : iI_b a) (hb : iI_b b) : md_min (iI a) (iI b) = iI (min a b) := by
  unfold md_min
  by_cases q : a < b
  · rw [if_pos ((iI_lt ha hb).mpr q)]; congr 1; omega
  · rw [if_neg (fun z => q ((iI_lt ha hb).mp z))]; congr 1; omega
theorem iI_max {a b : Int} (ha : iI_b a) (hb : iI_b b) : md_max (iI a) (iI b) = iI (max a b) := by
  unfold md_max
  by_cases q : b < a
  · rw [if_pos ((iI_lt hb ha).mpr q)]; congr 1; omega
  · rw [if_neg (fun z => q ((iI_lt hb ha).mp z))]; congr 1; omega
theorem rr_hid {M : ax_M} {r : Nat → Int} (h : rr M r) (ho : rd_ok r) {a b : Int} (ha : iI_b a) (hb : iI_b b) : ∀ n, n ≤ 6 → md_bend M (iI a) (iI b) n = rd_hd r a b n
  | 0, _ => rfl
  | n + 1, hn => by
    have h1 := h.2.2.2.1 n (by omega)
    have h2 := ho.2.2.2.1 n (by omega)
    show (md_bend M (iI a) (iI b) n || _) = (rd_hd r a b n || _)
    rw [rr_hid h ho ha hb n (by omega), h1, iI_min ha hb, iI_max ha hb]
    unfold iI_b at ha hb
    have e1 : (iI (min a b) < iI (r (50 + n))) = (min a b < r (50 + n)) := propext (iI_lt (by unfold iI_b; omega) (by unfold iI_b; omega))
    have e2 : (iI (r (50 + n)) < iI (max a b)) = (r (50 + n) < max a b) := propext (iI_lt (by unfold iI_b; omega) (by unfold iI_b; omega))
    simp only [e1, e2]
def kI (M M1 : ax_M) (j : Nat) (K : Nat → Int32) : Prop := M1.2 = M.2 ∧ (∀ n i, n ≠ 118 → M1.1 n i = M.1 n i) ∧ ∀ k, k < j → M1.1 118 k = K k
theorem kI_s {M M1 M2 : ax_M} {j : Nat} {K : Nat → Int32} {v : Int32} (h : kI M M1 j K) (h2 : M2 = ax_pI M1 118 j v) (hv : v = K j) : kI M M2 (j + 1) K := by
  subst h2
  refine ⟨h.1, fun n i q => (ax_pn (by omega)).trans (h.2.1 n i q), fun k q => ?_⟩
  by_cases e : k = j
  · subst e; rw [ax_pa, hv]
  · rw [ax_pn (by omega)]; exact h.2.2 k (by omega)
theorem kI_0 (M : ax_M) (K : Nat → Int32) : kI M M 0 K := ⟨rfl, fun _ _ _ => rfl, fun _ q => by omega⟩
theorem kI_rr {M M1 : ax_M} {j : Nat} {K : Nat → Int32} {r : Nat → Int} (h : kI M M1 j K) (hr : rr M r) : rr M1 r := rr_fr hr (fun n i q => h.2.1 n i (by omega))
section MK
variable {l : Launch} {G : ax_G} {M : ax_M} {r : Nat → Int}
theorem c_rWet (hok : lo_ok M.2) (hr : rr M r) (ho : rd_ok r) (z : Int) (hz : iI_b z) {x : Int32} (hx : x = iI z) : ax_Met l G kX10_isWet 1 0 0 M [av_r 90, av_i x] (ax_p (av_i (if rd_wet r z = true then 1 else 0)) M) := by
  have h4 := ho.1
  have e : M.1 94 4 = nI (r 4).toNat := by rw [hr.1 4 (by decide), iI_tn (by omega)]
  subst hx
  have := c_X10_isWet (l := l) (G := G) hok e (by omega) (iI z)
  rw [rr_wet hr ho hz _ (by omega)] at this
  exact this
theorem c_rBend (hok : lo_ok M.2) (hr : rr M r) (ho : rd_ok r) (a b : Int) (ha : iI_b a) (hb : iI_b b) {x y : Int32} (hx : x = iI a) (hy : y = iI b) : ax_Met l G kX10_isBendBetween 1 0 0 M [av_r 90, av_i x, av_i y] (ax_p (av_i (if rd_hid r a b = true then 1 else 0)) M) := by
  have h4 := ho.1
  have e : M.1 94 3 = nI (r 3).toNat := by rw [hr.1 3 (by decide), iI_tn (by omega)]
  subst hx hy
  have := c_X10_isBendBetween (l := l) (G := G) hok e (by omega) (iI a) (iI b)
  rw [rr_hid hr ho ha hb _ (by omega)] at this
  exact this
theorem c_rPace (hok : lo_ok M.2) (hr : rr M r) {c : Nat} (hc : c < 2) {x : Int32} (hx : x = nI c) {d : Nat} : ax_Met l G kX10_paceOf d 0 0 M [av_r 90, av_i x] (ax_p (av_i (iI (r (10 + 2 * c)))) M) := by
  have := c_X10_paceOf (l := l) (G := G) (d := d) hok hc hx
  rw [hr.2.1 (2 * c) (by omega)] at this
  exact this
theorem c_rTilt (hok : lo_ok M.2) (hr : rr M r) {c : Nat} (hc : c < 2) {x : Int32} (hx : x = nI c) {d : Nat} : ax_Met l G kX10_tiltOf d 0 0 M [av_r 90, av_i x] (ax_p (av_i (iI (r (11 + 2 * c)))) M) := by
  have := c_X10_tiltOf (l := l) (G := G) (d := d) hok hc hx
  rw [hr.2.1 (2 * c + 1) (by omega), show 10 + (2 * c + 1) = 11 + 2 * c by omega] at this
  exact this
theorem c_rStop (hok : lo_ok M.2) (hr : rr M r) (ho : rd_ok r) {c : Nat} (hc : c < 2) (z : Int) (hz : iI_b z) {x y : Int32} (hx : x = nI c) (hy : y = iI z) : ax_Met l G kX10_stopOf 2 0 0 M [av_r 90, av_i x, av_i y] (ax_p (av_i (iI (r (10 + 2 * c) * (if rd_wet r z = true then 4 else 2)))) M) := by
  have h4 := ho.1
  have e : M.1 94 4 = nI (r 4).toNat := by rw [hr.1 4 (by decide), iI_tn (by omega)]
  subst hy
  have := c_X10_stopOf (l := l) (G := G) hok hc e (by omega) (iI z) hx
  rw [rr_wet hr ho hz _ (by omega), hr.2.1 (2 * c) (by omega)] at this
  rw [← iI_mul]
  have e2 : (iI (if rd_wet r z = true then 4 else 2)) = (if rd_wt r z (r 4).toNat = true then (4 : Int32) else 2) := by
    show iI (if rd_wet r z = true then 4 else 2) = (if rd_wet r z = true then (4 : Int32) else 2)
    split <;> rfl
  rw [e2]
  exact this
theorem c_rBlinds (hok : lo_ok M.2) (hr : rr M r) (ho : rd_ok r) (y : Int) (h0 : 0 ≤ y) (h1 : y ≤ 1000) {x : Int32} (hx : x = iI y) {d : Nat} : ax_Met l G kX10_blindsFor d 0 0 M [av_r 90, av_i x] (ax_p (av_i (iI (r 35 + y / 20))) M) := by
  have := c_X10_blindsFor (l := l) (G := G) (d := d) hok x
  rw [hr.2.1 25 (by omega), hx, show (20 : Int32) = iI 20 from rfl, iI_div h0 (by omega) (by decide) (by decide), iI_add] at this
  rw [hx]
  exact this
theorem c_X10_knows (hok : lo_ok M.2) (hr : rr M r) (ho : rd_ok r) {c t : Nat} (hc : c < 2) (ht : t ≤ 99) {b : Int} {f o : Int32} (hcell : M.1 379 c = iI (mt_pos r c t)) (hb : M.1 380 c = iI b) (hv : mt_view r t = true → M.1 379 0 = iI (mt_pos r 0 t) ∧ M.1 379 1 = iI (mt_pos r 1 t)) {x y v m : Int32} (hx : x = nI c) (hy : y = nI t) (hvv : v = if mt_view r t = true then 1 else 0) (hm : m = if mt_met r t = true then 1 else 0) : ax_Met l G kX10_knows 2 0 0 M [av_r 90, av_i x, av_i y, av_i f, av_i v, av_i m, av_i o] (fun q M2 => q = .inl none ∧ kI M M2 12 (mt_kn r c t b f o)) := by
  subst hx hy hvv hm
  have hp : iI_b (mt_pos r c t) := by
    have h0 := mt_pos_b0 ho t; have h1 := mt_pos_b1 ho t; have := ho.1
    unfold iI_b
    rcases (show c = 0 ∨ c = 1 by omega) with rfl | rfl <;> omega
  have hfar : mt_view r t = true → (if M.1 379 1 < M.1 379 0 then M.1 379 0 - M.1 379 1 else M.1 379 1 - M.1 379 0) = iI (mt_far r t) := by
    intro q
    have h0 := mt_pos_b0 ho t; have h1 := mt_pos_b1 ho t; have := ho.1
    have h2 := mt_view_lt ho q
    rw [(hv q).1, (hv q).2, if_neg (fun z => by have := (iI_lt (by unfold iI_b; omega) (by unfold iI_b; omega)).mp z; omega), iI_sub]
    rfl
  refine ax_body (by decide) (Nat.le_of_ble_eq_true rfl) ?_
  refine ax_aload_n dX10_knows_0 rfl ?_
  refine ax_getK (f := 27) 118 dX10_knows_1 acl_10 wd_1627 (by decide) rfl (lo_s hok 90 rfl) (lo_r hok 96 rfl) ?_
  refine ax_iconst (v := 0) dX10_knows_4 (by decide) ?_
  refine ax_aload_n dX10_knows_5 rfl ?_
  refine ax_getK (f := 12) 94 dX10_knows_6 acl_10 wd_1612 (by decide) rfl (lo_s hok 90 rfl) (lo_r hok 83 rfl) ?_
  refine ax_iload_n dX10_knows_9 rfl ?_
  refine ax_iconst (v := 1) dX10_knows_10 (by decide) ?_
  refine ax_join2 (f = 1) 20 (5) (6) ?_ (fun ja jb => ?_)
  rotate_left
  · refine ax_icmp_ne (tgt := 18) dX10_knows_11 (by decide) (fun h11 => ?_) (fun h11 => ?_)
    · refine ax_bipush (v := 6) dX10_knows_18 (by decide) ?_
      first | (refine ja ?_; simp [h11]; done) | (refine jb ?_; simp [h11]; done)
    · refine ax_iconst (v := 5) dX10_knows_14 (by decide) ?_
      refine ax_goto (tgt := 20) dX10_knows_15 (by decide) ?_
      first | (refine ja ?_; simp [h11]; done) | (refine jb ?_; simp [h11]; done)
  refine ax_ialdN (if f = 1 then 5 else 6) dX10_knows_20 (lo_s hok 94 rfl) (by decide) (by split <;> rfl) (by split <;> decide) ?_
  have g0 := kI_0 M (mt_kn r c t b f o)
  refine ax_iastN (0) dX10_knows_21 (lo_s hok 118 rfl) (by decide) (by decide) (by decide) ?_
  refine ax_gen (fun M1 hM1 => ?_)
  have hok : lo_ok M1.2 := by rw [hM1]; exact hok
  have g1 := kI_s g0 hM1 (by show _ = iI (if f = 1 then r 5 else r 6); split <;> exact hr.1 _ (by decide))
  refine ax_aload_n dX10_knows_22 rfl ?_
  refine ax_getK (f := 27) 118 dX10_knows_23 acl_10 wd_1627 (by decide) rfl (lo_s hok 90 rfl) (lo_r hok 96 rfl) ?_
  refine ax_iconst (v := 1) dX10_knows_26 (by decide) ?_
  refine ax_aload_n dX10_knows_27 rfl ?_
  refine ax_getK (f := 18) 100 dX10_knows_28 acl_10 wd_1618 (by decide) rfl (lo_s hok 90 rfl) (lo_r hok 89 rfl) ?_
  refine ax_bipush (v := 24) dX10_knows_31 (by decide) ?_
  refine ax_ialdN (24) dX10_knows_33 (lo_s hok 100 rfl) (by decide) (by decide) (by decide) ?_
  refine ax_iastN (1) dX10_knows_34 (lo_s hok 118 rfl) (by decide) (by decide) (by decide) ?_
  refine ax_gen (fun M2 hM2 => ?_)
  have hok : lo_ok M2.2 := by rw [hM2]; exact hok
  have g2 := kI_s g1 hM2 ((g1.2.1 _ _ (by decide)).trans (hr.2.1 24 (by decide)))
  refine ax_aload_n dX10_knows_35 rfl ?_
  refine ax_getK (f := 27) 118 dX10_knows_36 acl_10 wd_1627 (by decide) rfl (lo_s hok 90 rfl) (lo_r hok 96 rfl) ?_
  refine ax_iconst (v := 2) dX10_knows_39 (by decide) ?_
  refine ax_aload_n dX10_knows_40 rfl ?_
  refine ax_getK (f := 42) 380 dX10_knows_41 acl_10 wd_1642 (by decide) rfl (lo_s hok 90 rfl) (lo_r hok 107 rfl) ?_
  refine ax_iload_n dX10_knows_44 rfl ?_
  refine ax_ialdN (c) dX10_knows_45 (lo_s hok 380 rfl) (by decide) (by first | with_reducible rfl | assumption | exact ax_nix (by simp only [nx_0, nx_1, nx_2, nx_3, nx_4, nx_10, nx_20, nx_21, nx_100, nI_add, pk_mul] <;> rfl) (by omega) | decide) (by omega) ?_
  refine ax_iastN (2) dX10_knows_46 (lo_s hok 118 rfl) (by decide) (by decide) (by decide) ?_
  refine ax_gen (fun M3 hM3 => ?_)
  have hok : lo_ok M3.2 := by rw [hM3]; exact hok
  have g3 := kI_s g2 hM3 ((g2.2.1 _ _ (by decide)).trans hb)
  refine ax_aload_n dX10_knows_47 rfl ?_
  refine ax_getK (f := 27) 118 dX10_knows_48 acl_10 wd_1627 (by decide) rfl (lo_s hok 90 rfl) (lo_r hok 96 rfl) ?_
  refine ax_iconst (v := 3) dX10_knows_51 (by decide) ?_
  refine ax_aload_n dX10_knows_52 rfl ?_
  refine ax_getK (f := 14) 96 dX10_knows_53 acl_10 wd_1614 (by decide) rfl (lo_s hok 90 rfl) (lo_r hok 85 rfl) ?_
  refine ax_iload_n dX10_knows_56 rfl ?_
  refine ax_ialdN (c) dX10_knows_57 (lo_s hok 96 rfl) (by decide) (by first | with_reducible rfl | assumption | exact ax_nix (by simp only [nx_0, nx_1, nx_2, nx_3, nx_4, nx_10, nx_20, nx_21, nx_100, nI_add, pk_mul] <;> rfl) (by omega) | decide) (by omega) ?_
  refine ax_iastN (3) dX10_knows_58 (lo_s hok 118 rfl) (by decide) (by decide) (by decide) ?_
  refine ax_gen (fun M4 hM4 => ?_)
  have hok : lo_ok M4.2 := by rw [hM4]; exact hok
  have g4 := kI_s g3 hM4 ((g3.2.1 _ _ (by decide)).trans (hr.2.2.1 c hc))
  refine ax_aload_n dX10_knows_59 rfl ?_
  refine ax_getK (f := 27) 118 dX10_knows_60 acl_10 wd_1627 (by decide) rfl (lo_s hok 90 rfl) (lo_r hok 96 rfl) ?_
  refine ax_iconst (v := 4) dX10_knows_63 (by decide) ?_
  refine ax_aload_n dX10_knows_64 rfl ?_
  refine ax_aload_n dX10_knows_65 rfl ?_
  refine ax_getK (f := 41) 379 dX10_knows_66 acl_10 wd_1641 (by decide) rfl (lo_s hok 90 rfl) (lo_r hok 106 rfl) ?_
  refine ax_iload_n dX10_knows_69 rfl ?_
  refine ax_ialdN (c) dX10_knows_70 (lo_s hok 379 rfl) (by decide) (by first | with_reducible rfl | assumption | exact ax_nix (by simp only [nx_0, nx_1, nx_2, nx_3, nx_4, nx_10, nx_20, nx_21, nx_100, nI_add, pk_mul] <;> rfl) (by omega) | decide) (by omega) ?_
  refine ax_callV (As := _) (d2 := _) (c1 := 0) (n1 := 0) (c_rWet (M := M4) hok (kI_rr g4 hr) ho (mt_pos r c t) hp ((g4.2.1 _ _ (by decide)).trans hcell)) dX10_knows_71 mX10_isWet wd_1911 acl_10 (lo_s hok 90 rfl) rfl (by omega) (by omega) (by omega) rfl rfl (fun _ _ h => by cases h.1) ?_
  rintro r M9 ⟨h1, h9⟩; cases h1; rw [h9]; clear h9 M9
  refine ax_join1 (rd_wet r (mt_pos r c t) = true) 82 (1) (0) ?_ (fun ja jb => ?_)
  rotate_left
  · refine ax_ifB_eq (tgt := 81) dX10_knows_74 (by decide) (fun h74 => ?_) (fun h74 => ?_)
    · refine ax_iconst (v := 0) dX10_knows_81 (by decide) ?_
      first | exact ja h74 | exact jb h74
    · refine ax_iconst (v := 1) dX10_knows_77 (by decide) ?_
      refine ax_goto (tgt := 82) dX10_knows_78 (by decide) ?_
      first | exact ja h74 | exact jb h74
  refine ax_iastN (4) dX10_knows_82 (lo_s hok 118 rfl) (by decide) (by decide) (by decide) ?_
  refine ax_gen (fun M5 hM5 => ?_)
  have hok : lo_ok M5.2 := by rw [hM5]; exact hok
  have g5 := kI_s g4 hM5 rfl
  refine ax_aload_n dX10_knows_83 rfl ?_
  refine ax_getK (f := 27) 118 dX10_knows_84 acl_10 wd_1627 (by decide) rfl (lo_s hok 90 rfl) (lo_r hok 96 rfl) ?_
  refine ax_iconst (v := 5) dX10_knows_87 (by decide) ?_
  refine ax_aload_n dX10_knows_88 rfl ?_
  refine ax_iload_n dX10_knows_89 rfl ?_
  refine ax_callV (As := _) (d2 := _) (c1 := 0) (n1 := 0) (c_rTilt (d := 0) (M := M5) hok (kI_rr g5 hr) hc rfl) dX10_knows_90 mX10_tiltOf wd_1927 acl_10 (lo_s hok 90 rfl) rfl (by omega) (by omega) (by omega) rfl rfl (fun _ _ h => by cases h.1) ?_
  rintro r M9 ⟨h1, h9⟩; cases h1; rw [h9]; clear h9 M9
  refine ax_iastN (5) dX10_knows_93 (lo_s hok 118 rfl) (by decide) (by decide) (by decide) ?_
  refine ax_gen (fun M6 hM6 => ?_)
  have hok : lo_ok M6.2 := by rw [hM6]; exact hok
  have g6 := kI_s g5 hM6 rfl
  refine ax_aload_n dX10_knows_94 rfl ?_
  refine ax_getK (f := 27) 118 dX10_knows_95 acl_10 wd_1627 (by decide) rfl (lo_s hok 90 rfl) (lo_r hok 96 rfl) ?_
  refine ax_bipush (v := 6) dX10_knows_98 (by decide) ?_
  refine ax_aload_n dX10_knows_100 rfl ?_
  refine ax_iload_n dX10_knows_101 rfl ?_
  refine ax_callV (As := _) (d2 := _) (c1 := 0) (n1 := 0) (c_rPace (d := 0) (M := M6) hok (kI_rr g6 hr) hc rfl) dX10_knows_102 mX10_paceOf wd_1923 acl_10 (lo_s hok 90 rfl) rfl (by omega) (by omega) (by omega) rfl rfl (fun _ _ h => by cases h.1) ?_
  rintro r M9 ⟨h1, h9⟩; cases h1; rw [h9]; clear h9 M9
  refine ax_iastN (6) dX10_knows_105 (lo_s hok 118 rfl) (by decide) (by decide) (by decide) ?_
  refine ax_gen (fun M7 hM7 => ?_)
  have hok : lo_ok M7.2 := by rw [hM7]; exact hok
  have g7 := kI_s g6 hM7 rfl
  refine ax_aload_n dX10_knows_106 rfl ?_
  refine ax_getK (f := 27) 118 dX10_knows_107 acl_10 wd_1627 (by decide) rfl (lo_s hok 90 rfl) (lo_r hok 96 rfl) ?_
  refine ax_bipush (v := 7) dX10_knows_110 (by decide) ?_
  refine ax_iload_n dX10_knows_112 rfl ?_
  refine ax_iastN (7) dX10_knows_113 (lo_s hok 118 rfl) (by decide) (by decide) (by decide) ?_
  refine ax_gen (fun M8 hM8 => ?_)
  have hok : lo_ok M8.2 := by rw [hM8]; exact hok
  have g8 := kI_s g7 hM8 rfl
  refine ax_aload_n dX10_knows_114 rfl ?_
  refine ax_getK (f := 27) 118 dX10_knows_115 acl_10 wd_1627 (by decide) rfl (lo_s hok 90 rfl) (lo_r hok 96 rfl) ?_
  refine ax_bipush (v := 8) dX10_knows_118 (by decide) ?_
  refine ax_iload dX10_knows_120 rfl ?_
  refine ax_join1 (mt_view r t = true) 145 (iI (mt_far r t)) (99) ?_ (fun ja jb => ?_)
  rotate_left
  · refine ax_ifB_eq (tgt := 143) dX10_knows_122 (by decide) (fun h122 => ?_) (fun h122 => ?_)
    · refine ax_bipush (v := 99) dX10_knows_143 (by decide) ?_
      first | exact jb h122 | (have e := hfar h122; rw [← g8.2.1 379 0 (by decide), ← g8.2.1 379 1 (by decide)] at e; rw [e]; exact ja h122)
    · refine ax_aload_n dX10_knows_125 rfl ?_
      refine ax_getK (f := 41) 379 dX10_knows_126 acl_10 wd_1641 (by decide) rfl (lo_s hok 90 rfl) (lo_r hok 106 rfl) ?_
      refine ax_iconst (v := 0) dX10_knows_129 (by decide) ?_
      refine ax_ialdN (0) dX10_knows_130 (lo_s hok 379 rfl) (by decide) (by decide) (by decide) ?_
      refine ax_aload_n dX10_knows_131 rfl ?_
      refine ax_getK (f := 41) 379 dX10_knows_132 acl_10 wd_1641 (by decide) rfl (lo_s hok 90 rfl) (lo_r hok 106 rfl) ?_
      refine ax_iconst (v := 1) dX10_knows_135 (by decide) ?_
      refine ax_ialdN (1) dX10_knows_136 (lo_s hok 379 rfl) (by decide) (by decide) (by decide) ?_
      refine ax_callS (As := _) (c1 := 0) (n1 := 0) (c_X10_far (d := 0) (M := M8) _ _) dX10_knows_137 mX10_far wd_1963 rfl (by omega) (by omega) (by omega) rfl rfl (fun _ _ h => by cases h.1) ?_
      rintro r M9 ⟨h1, h9⟩; cases h1; rw [h9]; clear h9 M9
      refine ax_goto (tgt := 145) dX10_knows_140 (by decide) ?_
      first | exact jb h122 | (have e := hfar h122; rw [← g8.2.1 379 0 (by decide), ← g8.2.1 379 1 (by decide)] at e; rw [e]; exact ja h122)
  refine ax_iastN (8) dX10_knows_145 (lo_s hok 118 rfl) (by decide) (by decide) (by decide) ?_
  refine ax_gen (fun M9 hM9 => ?_)
  have hok : lo_ok M9.2 := by rw [hM9]; exact hok
  have g9 := kI_s g8 hM9 rfl
  refine ax_aload_n dX10_knows_146 rfl ?_
  refine ax_getK (f := 27) 118 dX10_knows_147 acl_10 wd_1627 (by decide) rfl (lo_s hok 90 rfl) (lo_r hok 96 rfl) ?_
  refine ax_bipush (v := 9) dX10_knows_150 (by decide) ?_
  refine ax_iload dX10_knows_152 rfl ?_
  refine ax_join1 (mt_met r t = true) 162 (1) (0) ?_ (fun ja jb => ?_)
  rotate_left
  · refine ax_ifB_eq (tgt := 161) dX10_knows_154 (by decide) (fun h154 => ?_) (fun h154 => ?_)
    · refine ax_iconst (v := 0) dX10_knows_161 (by decide) ?_
      first | exact ja h154 | exact jb h154
    · refine ax_iconst (v := 1) dX10_knows_157 (by decide) ?_
      refine ax_goto (tgt := 162) dX10_knows_158 (by decide) ?_
      first | exact ja h154 | exact jb h154
  refine ax_iastN (9) dX10_knows_162 (lo_s hok 118 rfl) (by decide) (by decide) (by decide) ?_
  refine ax_gen (fun M10 hM10 => ?_)
  have hok : lo_ok M10.2 := by rw [hM10]; exact hok
  have g10 := kI_s g9 hM10 rfl
  refine ax_aload_n dX10_knows_163 rfl ?_
  refine ax_getK (f := 27) 118 dX10_knows_164 acl_10 wd_1627 (by decide) rfl (lo_s hok 90 rfl) (lo_r hok 96 rfl) ?_
  refine ax_bipush (v := 10) dX10_knows_167 (by decide) ?_
  refine ax_iload dX10_knows_169 rfl ?_
  refine ax_join1 (mt_view r t = true) 180 (o) (0) ?_ (fun ja jb => ?_)
  rotate_left
  · refine ax_ifB_eq (tgt := 179) dX10_knows_171 (by decide) (fun h171 => ?_) (fun h171 => ?_)
    · refine ax_iconst (v := 0) dX10_knows_179 (by decide) ?_
      first | exact ja h171 | exact jb h171
    · refine ax_iload dX10_knows_174 rfl ?_
      refine ax_goto (tgt := 180) dX10_knows_176 (by decide) ?_
      first | exact ja h171 | exact jb h171
  refine ax_iastN (10) dX10_knows_180 (lo_s hok 118 rfl) (by decide) (by decide) (by decide) ?_
  refine ax_gen (fun M11 hM11 => ?_)
  have hok : lo_ok M11.2 := by rw [hM11]; exact hok
  have g11 := kI_s g10 hM11 rfl
  refine ax_aload_n dX10_knows_181 rfl ?_
  refine ax_getK (f := 27) 118 dX10_knows_182 acl_10 wd_1627 (by decide) rfl (lo_s hok 90 rfl) (lo_r hok 96 rfl) ?_
  refine ax_bipush (v := 11) dX10_knows_185 (by decide) ?_
  refine ax_iload_n dX10_knows_187 rfl ?_
  refine ax_iastN (11) dX10_knows_188 (lo_s hok 118 rfl) (by decide) (by decide) (by decide) ?_
  refine ax_gen (fun M12 hM12 => ?_)
  have hok : lo_ok M12.2 := by rw [hM12]; exact hok
  have g12 := kI_s g11 hM12 rfl
  refine ax_vret dX10_knows_189 rfl ?_
  exact ⟨rfl, g12⟩
end MK

