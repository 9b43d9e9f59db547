/-! ===== least sight, hits counted, costs: the class ===== -/
theorem mt_ls_tn {r : Nat → Int} {lw : mt_L} {d : Nat → Int32} (ho : rd_ok r) {c : Nat} (hc : c < 2) : ∀ {n : Nat}, tn r c ≤ n → mt_ls r lw d c n = mt_ls r lw d c (tn r c)
  | 0, h => by rw [show tn r c = 0 by omega]
  | n + 1, h => by
    by_cases e : tn r c = n + 1
    · rw [e]
    · have hno : ¬ mt_on r c n = true := fun z => by have := (tn_on ho hc n).mp z; omega
      show (if mt_on r c n = true then _ else mt_ls r lw d c n) = _
      rw [if_neg hno]
      exact mt_ls_tn ho hc (by omega)
def bcx (x : Int32) : Int32 :=
  let a := x - ((x.toUInt32 >>> ((1 : Int32).toUInt32 &&& Int32.toUInt32 31)).toInt32 &&& 1431655765)
  let b := (a &&& 858993459) + ((a.toUInt32 >>> ((2 : Int32).toUInt32 &&& Int32.toUInt32 31)).toInt32 &&& 858993459)
  let c := b + (b.toUInt32 >>> ((4 : Int32).toUInt32 &&& Int32.toUInt32 31)).toInt32 &&& 252645135
  let d := c + (c.toUInt32 >>> ((8 : Int32).toUInt32 &&& Int32.toUInt32 31)).toInt32
  let e := d + (d.toUInt32 >>> ((16 : Int32).toUInt32 &&& Int32.toUInt32 31)).toInt32
  e &&& 63
theorem bcx_10 : ∀ b0 b1 b2 b3 b4 b5 b6 b7 b8 b9 : Bool, bcx (((((((((((0 : Int32) ||| (if b0 = true then mt_bit 0 else 0)) ||| (if b1 = true then mt_bit 1 else 0)) ||| (if b2 = true then mt_bit 2 else 0)) ||| (if b3 = true then mt_bit 3 else 0)) ||| (if b4 = true then mt_bit 4 else 0)) ||| (if b5 = true then mt_bit 5 else 0)) ||| (if b6 = true then mt_bit 6 else 0)) ||| (if b7 = true then mt_bit 7 else 0)) ||| (if b8 = true then mt_bit 8 else 0)) ||| (if b9 = true then mt_bit 9 else 0)) = nI (0 + (if b0 = true then 1 else 0) + (if b1 = true then 1 else 0) + (if b2 = true then 1 else 0) + (if b3 = true then 1 else 0) + (if b4 = true then 1 else 0) + (if b5 = true then 1 else 0) + (if b6 = true then 1 else 0) + (if b7 = true then 1 else 0) + (if b8 = true then 1 else 0) + (if b9 = true then 1 else 0)) := by decide +kernel
theorem bcx_or (p : Nat → Bool) : bcx (mt_or p 10) = nI (mt_cnt p 10) := bcx_10 (p 0) (p 1) (p 2) (p 3) (p 4) (p 5) (p 6) (p 7) (p 8) (p 9)
theorem mt_or_0 {p : Nat → Bool} {n : Nat} : ∀ {m : Nat}, n ≤ m → (∀ x, n ≤ x → x < m → p x = false) → mt_or p m = mt_or p n
  | 0, h, _ => by rw [show n = 0 by omega]
  | m + 1, h, hp => by
    by_cases e : n = m + 1
    · rw [e]
    · show mt_or p m ||| _ = _
      rw [mt_or_0 (m := m) (by omega) (fun x h1 h2 => hp x h1 (by omega)), hp m (by omega) (by omega)]
      exact Int32.or_zero
theorem or_cong2 {p q : Nat → Bool} : ∀ {m : Nat}, (∀ x, x < m → p x = q x) → mt_or p m = mt_or q m
  | 0, _ => rfl
  | m + 1, h => by
    show mt_or p m ||| _ = mt_or q m ||| _
    rw [or_cong2 (fun x hx => h x (by omega)), h m (by omega)]
section XSS
variable {l : Launch} {G : ax_G} {M : ax_M} {r : Nat → Int} {R T U : Nat} {lw : mt_L} {dd : Nat → Int32} {c : Nat}
theorem c_leastSight {d : Nat} (hok : lo_ok M.2) (hT : xh_T T) (ho : rd_ok r) (hc2 : c < 2) (ht : xtp M T r lw dd c) : ax_Met l G kX8_leastSight d 0 0 M [av_r T] (ax_p (av_i (iI (mt_ls r lw dd c (mt_T r)))) M) := by
  have h60 := tn_60 ho hc2
  rw [mt_ls_tn ho hc2 (tn_T ho hc2)]
  refine ax_body (by decide) (Nat.le_of_ble_eq_true rfl) ?_
  refine ax_iconst (v := (-1)) dX8_leastSight_0 (by decide) ?_
  refine ax_istore_n dX8_leastSight_1 (by decide) rfl ?_
  refine ax_iconst (v := 0) dX8_leastSight_2 (by decide) ?_
  refine ax_istore_n dX8_leastSight_3 (by decide) rfl ?_
  refine ax_for (tn r c) (fun i N L => N = M ∧ L = [some (av_r T), some (av_i (iI (mt_ls r lw dd c i))), some (av_i (nI i))]) 4 ?_ ?_ (i := 0) (by omega) ⟨rfl, rfl⟩
  · rintro i N L hi ⟨rfl, rfl⟩ next
    have q4 := (ht.2.2 i hi).2.2.2.1
    have lb := mt_ls_b r lw dd c i
    have sb := mt_si_b r lw dd c i
    have hs : mt_ls r lw dd c (i + 1) = if mt_ls r lw dd c i = -1 then mt_si r lw dd c i else min (mt_ls r lw dd c i) (mt_si r lw dd c i) := by
      show (if mt_on r c i = true then _ else _) = _
      rw [if_pos ((tn_on ho hc2 i).mpr hi)]
    have goon : ∀ v : Int, v = mt_ls r lw dd c (i + 1) → ax_W l G kX8_leastSight (ax_FQ G (ax_p (av_i (iI (mt_ls r lw dd c (tn r c)))) N)) d 0 0 N 34 [some (av_r T), some (av_i (iI v)), some (av_i (nI i))] [] := by
      intro v hv
      subst hv
      refine ax_iinc (v := 1) dX8_leastSight_34 rfl (by decide) (by decide) rfl ?_
      refine ax_goto (tgt := 4) dX8_leastSight_37 (by decide) ?_
      rw [nI_1]
      exact next _ _ ⟨rfl, rfl⟩
    have take : mt_si r lw dd c i = mt_ls r lw dd c (i + 1) → ax_W l G kX8_leastSight (ax_FQ G (ax_p (av_i (iI (mt_ls r lw dd c (tn r c)))) N)) d 0 0 N 27 [some (av_r T), some (av_i (iI (mt_ls r lw dd c i))), some (av_i (nI i))] [] := by
      intro hv
      refine ax_aload_n dX8_leastSight_27 rfl ?_
      refine ax_getK (f := 13) (T + 4) dX8_leastSight_28 acl_8 wd_444 (by decide) rfl (xs_T_0 hT hok) (xr_T_13 hT hok) ?_
      refine ax_iload_n dX8_leastSight_31 rfl ?_
      refine ax_ialdN (i) dX8_leastSight_32 (xs_T_4 hT hok) (by decide) (by first | with_reducible rfl | assumption | exact ax_nix (by simp only [nx_0, nx_1, nx_2, nx_3, nx_4, nx_10, nx_20, nx_21, nx_100, nI_add, pk_mul] <;> rfl) (by omega) | decide) (by omega) ?_
      rw [q4]
      refine ax_istore_n dX8_leastSight_33 (by decide) rfl ?_
      exact goon _ hv
    refine ax_iload_n dX8_leastSight_4 rfl ?_
    refine ax_aload_n dX8_leastSight_5 rfl ?_
    refine ax_getI (f := 9) dX8_leastSight_6 acl_8 wd_436 (by decide) rfl (xs_T_0 hT hok) ?_
    rw [ht.2.1]
    refine ax_icmp_ge (tgt := 40) dX8_leastSight_9 (by decide) (fun hc => absurd ((nI_leI (by omega) (by omega)).mp hc) (by omega)) (fun hc => ?_)
    refine ax_iload_n dX8_leastSight_12 rfl ?_
    refine ax_iconst (v := (-1)) dX8_leastSight_13 (by decide) ?_
    refine ax_icmp_eq (tgt := 27) dX8_leastSight_14 (by decide) (fun hc => ?_) (fun hc => ?_)
    · have := (iI_eq (b := -1) (by unfold iI_b; omega) (by unfold iI_b; omega)).mp hc
      exact take (by rw [hs, if_pos this])
    have h1 : ¬ mt_ls r lw dd c i = -1 := fun q => hc (by rw [q]; rfl)
    clear hc
    refine ax_aload_n dX8_leastSight_17 rfl ?_
    refine ax_getK (f := 13) (T + 4) dX8_leastSight_18 acl_8 wd_444 (by decide) rfl (xs_T_0 hT hok) (xr_T_13 hT hok) ?_
    refine ax_iload_n dX8_leastSight_21 rfl ?_
    refine ax_ialdN (i) dX8_leastSight_22 (xs_T_4 hT hok) (by decide) (by first | with_reducible rfl | assumption | exact ax_nix (by simp only [nx_0, nx_1, nx_2, nx_3, nx_4, nx_10, nx_20, nx_21, nx_100, nI_add, pk_mul] <;> rfl) (by omega) | decide) (by omega) ?_
    refine ax_iload_n dX8_leastSight_23 rfl ?_
    rw [q4]
    refine ax_icmp_ge (tgt := 34) dX8_leastSight_24 (by decide) (fun hc => ?_) (fun hc => ?_)
    · have := (iI_le (by unfold iI_b; omega) (by unfold iI_b; omega)).mp hc
      exact goon _ (by rw [hs, if_neg h1]; omega)
    · have : ¬ mt_ls r lw dd c i ≤ mt_si r lw dd c i := fun q => hc ((iI_le (by unfold iI_b; omega) (by unfold iI_b; omega)).mpr q)
      exact take (by rw [hs, if_neg h1]; omega)
  · rintro N L ⟨rfl, rfl⟩
    refine ax_iload_n dX8_leastSight_4 rfl ?_
    refine ax_aload_n dX8_leastSight_5 rfl ?_
    refine ax_getI (f := 9) dX8_leastSight_6 acl_8 wd_436 (by decide) rfl (xs_T_0 hT hok) ?_
    rw [ht.2.1]
    refine ax_icmp_ge (tgt := 40) dX8_leastSight_9 (by decide) (fun hc => ?_) (fun hc => absurd ((nI_leI (by omega) (by omega)).mpr (by omega)) hc)
    refine ax_iload_n dX8_leastSight_40 rfl ?_
    refine ax_iret dX8_leastSight_41 rfl ?_
    exact ⟨rfl, rfl⟩
theorem c_bitCount {d : Nat} (x : Int32) : ax_Met l G kJ6_bitCount_0f7a4 d 0 0 M [av_i x] (ax_p (av_i (bcx x)) M) := by
  refine ax_body (by decide) (Nat.le_of_ble_eq_true rfl) ?_
  refine ax_iload_n dJ6_bitCount_0f7a4_0 rfl ?_
  refine ax_iload_n dJ6_bitCount_0f7a4_1 rfl ?_
  refine ax_iconst (v := 1) dJ6_bitCount_0f7a4_2 (by decide) ?_
  refine ax_iushr dJ6_bitCount_0f7a4_3 ?_
  refine ax_ldc_w dJ6_bitCount_0f7a4_4 wd_1282 ?_
  refine ax_iand dJ6_bitCount_0f7a4_7 ?_
  refine ax_isub dJ6_bitCount_0f7a4_8 ?_
  refine ax_istore_n dJ6_bitCount_0f7a4_9 (by decide) rfl ?_
  refine ax_iload_n dJ6_bitCount_0f7a4_10 rfl ?_
  refine ax_ldc_w dJ6_bitCount_0f7a4_11 wd_1283 ?_
  refine ax_iand dJ6_bitCount_0f7a4_14 ?_
  refine ax_iload_n dJ6_bitCount_0f7a4_15 rfl ?_
  refine ax_iconst (v := 2) dJ6_bitCount_0f7a4_16 (by decide) ?_
  refine ax_iushr dJ6_bitCount_0f7a4_17 ?_
  refine ax_ldc_w dJ6_bitCount_0f7a4_18 wd_1283 ?_
  refine ax_iand dJ6_bitCount_0f7a4_21 ?_
  refine ax_iadd dJ6_bitCount_0f7a4_22 ?_
  refine ax_istore_n dJ6_bitCount_0f7a4_23 (by decide) rfl ?_
  refine ax_iload_n dJ6_bitCount_0f7a4_24 rfl ?_
  refine ax_iload_n dJ6_bitCount_0f7a4_25 rfl ?_
  refine ax_iconst (v := 4) dJ6_bitCount_0f7a4_26 (by decide) ?_
  refine ax_iushr dJ6_bitCount_0f7a4_27 ?_
  refine ax_iadd dJ6_bitCount_0f7a4_28 ?_
  refine ax_ldc_w dJ6_bitCount_0f7a4_29 wd_1284 ?_
  refine ax_iand dJ6_bitCount_0f7a4_32 ?_
  refine ax_istore_n dJ6_bitCount_0f7a4_33 (by decide) rfl ?_
  refine ax_iload_n dJ6_bitCount_0f7a4_34 rfl ?_
  refine ax_iload_n dJ6_bitCount_0f7a4_35 rfl ?_
  refine ax_bipush (v := 8) dJ6_bitCount_0f7a4_36 (by decide) ?_
  refine ax_iushr dJ6_bitCount_0f7a4_38 ?_
  refine ax_iadd dJ6_bitCount_0f7a4_39 ?_
  refine ax_istore_n dJ6_bitCount_0f7a4_40 (by decide) rfl ?_
  refine ax_iload_n dJ6_bitCount_0f7a4_41 rfl ?_
  refine ax_iload_n dJ6_bitCount_0f7a4_42 rfl ?_
  refine ax_bipush (v := 16) dJ6_bitCount_0f7a4_43 (by decide) ?_
  refine ax_iushr dJ6_bitCount_0f7a4_45 ?_
  refine ax_iadd dJ6_bitCount_0f7a4_46 ?_
  refine ax_istore_n dJ6_bitCount_0f7a4_47 (by decide) rfl ?_
  refine ax_iload_n dJ6_bitCount_0f7a4_48 rfl ?_
  refine ax_bipush (v := 63) dJ6_bitCount_0f7a4_49 (by decide) ?_
  refine ax_iand dJ6_bitCount_0f7a4_51 ?_
  refine ax_iret dJ6_bitCount_0f7a4_52 rfl ?_
  exact ⟨rfl, rfl⟩
theorem c_hitBits (hok : lo_ok M.2) (hU : xh_U U) (hR : xh_R R) (hr : xr M R r) (ho : rd_ok r) (hm : xmt M U r lw dd) (hc2 : c < 2) (hcr : (c : Int) < r 1) {w : Int32} (hw : w = nI c) : ax_Met l G kX4_hitBits 5 0 0 M [av_r U, av_r R, av_i w] (ax_p (av_i (mt_hit r lw dd c (mt_T r))) M) := by
  subst hw
  have h0 := ho.1
  have e8 : M.1 R 8 = nI (r 2).toNat := by rw [hr.1.2.2.1, iI_tn (by omega)]
  have e : mt_hit r lw dd c (mt_T r) = mt_or (fun k => mt_hits r lw dd c (r (14 + 2 * k)) (r (15 + 2 * k)) (mt_T r)) (r 2).toNat := by
    unfold mt_hit
    rw [mt_or_0 (n := (r 2).toNat) (by omega) (fun x h1 h2 => by rw [decide_eq_false (by omega)]; rfl)]
    exact or_cong2 (fun x hx => by rw [decide_eq_true (by omega)]; rfl)
  rw [e]
  refine ax_body (by decide) (Nat.le_of_ble_eq_true rfl) ?_
  refine ax_aload_n dX4_hitBits_0 rfl ?_
  refine ax_iload_n dX4_hitBits_1 rfl ?_
  refine ax_callV (As := _) (d2 := _) (c1 := 0) (n1 := 0) (c_tripOf (d := 0) (M := M) hok hU hc2 rfl) dX4_hitBits_2 mX4_tripOf wd_680 acl_4 (xs_U_0 hU hok) rfl (by omega) (by omega) (by omega) rfl rfl (fun _ _ h => by cases h.1) ?_
  rintro r M9 ⟨h1, h9⟩; cases h1; rw [h9]; clear h9 M9
  refine ax_astore_n dX4_hitBits_5 (by decide) rfl ?_
  refine ax_iconst (v := 0) dX4_hitBits_6 (by decide) ?_
  refine ax_istore dX4_hitBits_7 (by decide) rfl ?_
  refine ax_iconst (v := 0) dX4_hitBits_9 (by decide) ?_
  refine ax_istore dX4_hitBits_10 (by decide) rfl ?_
  refine ax_for (r 2).toNat (fun i N L => N = M ∧ L = [some (av_r U), some (av_r R), some (av_i (nI c)), some (av_r (U + 1 + 7 * c)), some (av_i (mt_or (fun k => mt_hits r lw dd c (r (14 + 2 * k)) (r (15 + 2 * k)) (mt_T r)) i)), some (av_i (nI i))]) 12 ?_ ?_ (i := 0) (by omega) ⟨rfl, rfl⟩
  · rintro i N L hi ⟨rfl, rfl⟩ next
    have hk := ho.2.2.1 i (by omega)
    obtain ⟨k1, k2⟩ := hr.2.2.1 i (by omega)
    refine ax_iload dX4_hitBits_12 rfl ?_
    refine ax_aload_n dX4_hitBits_14 rfl ?_
    refine ax_getIN (f := 8) dX4_hitBits_15 acl_5 wd_270 (by decide) rfl (xs_R_0 hR hok) ?_
    rw [e8]
    refine ax_icmp_ge (tgt := 58) dX4_hitBits_18 (by decide) (fun hc => absurd ((nI_leI (by omega) (by omega)).mp hc) (by omega)) (fun hc => ?_)
    refine ax_aload_n dX4_hitBits_21 rfl ?_
    refine ax_aload_n dX4_hitBits_22 rfl ?_
    refine ax_aload_n dX4_hitBits_23 rfl ?_
    refine ax_getKN (f := 6) (R + 3) dX4_hitBits_24 acl_5 wd_263 (by decide) rfl (xs_R_0 hR hok) (xr_R_6 hR hok) ?_
    refine ax_iload dX4_hitBits_27 rfl ?_
    refine ax_ialdN (i) dX4_hitBits_29 (xs_R_3 hR hok) (by decide) (by first | with_reducible rfl | assumption | exact ax_nix (by simp only [nx_0, nx_1, nx_2, nx_3, nx_4, nx_10, nx_20, nx_21, nx_100, nI_add, pk_mul] <;> rfl) (by omega) | decide) (by omega) ?_
    rw [k1]
    refine ax_aload_n dX4_hitBits_30 rfl ?_
    refine ax_getKN (f := 7) (R + 4) dX4_hitBits_31 acl_5 wd_267 (by decide) rfl (xs_R_0 hR hok) (xr_R_7 hR hok) ?_
    refine ax_iload dX4_hitBits_34 rfl ?_
    refine ax_ialdN (i) dX4_hitBits_36 (xs_R_4 hR hok) (by decide) (by first | with_reducible rfl | assumption | exact ax_nix (by simp only [nx_0, nx_1, nx_2, nx_3, nx_4, nx_10, nx_20, nx_21, nx_100, nI_add, pk_mul] <;> rfl) (by omega) | decide) (by omega) ?_
    rw [k2]
    refine ax_callVN (As := _) (d2 := _) (c1 := 0) (n1 := 0) (c_doesHit (M := N) hok (xh_UT hU hc2) hR hr ho hc2 hcr (xmt_tp hm hc2) (by omega) (by omega) rfl rfl) dX4_hitBits_37 mX8_doesHit wd_1176 acl_8 (xs_T_0 (xh_UT hU hc2) hok) rfl (by omega) (by omega) (by omega) rfl rfl (fun _ _ h => by cases h.1) ?_
    rintro r M9 ⟨h1, h9⟩; cases h1; rw [h9]; clear h9 M9
    refine ax_ifB_eq (tgt := 52) dX4_hitBits_40 (by decide) (fun hc => ?_) (fun hc => ?_)
    · have e2 : mt_or (fun k => mt_hits r lw dd c (r (14 + 2 * k)) (r (15 + 2 * k)) (mt_T r)) (i + 1) = mt_or (fun k => mt_hits r lw dd c (r (14 + 2 * k)) (r (15 + 2 * k)) (mt_T r)) i := by
        show _ ||| (if _ then _ else _) = _
        rw [if_neg hc]
        exact Int32.or_zero
      refine ax_iinc (v := 1) dX4_hitBits_52 rfl (by decide) (by decide) rfl ?_
      refine ax_goto (tgt := 12) dX4_hitBits_55 (by decide) ?_
      rw [nI_1]
      exact next _ _ ⟨rfl, by rw [e2]; rfl⟩
    · refine ax_iload dX4_hitBits_43 rfl ?_
      refine ax_iconst (v := 1) dX4_hitBits_45 (by decide) ?_
      refine ax_iload dX4_hitBits_46 rfl ?_
      refine ax_ishl dX4_hitBits_48 ?_
      refine ax_ior dX4_hitBits_49 ?_
      have e2 : mt_or (fun k => mt_hits r lw dd c (r (14 + 2 * k)) (r (15 + 2 * k)) (mt_T r)) i ||| (1 : Int32) <<< (nI i &&& 31) = mt_or (fun k => mt_hits r lw dd c (r (14 + 2 * k)) (r (15 + 2 * k)) (mt_T r)) (i + 1) := by
        show _ = _ ||| (if _ then _ else _)
        rw [if_pos hc]; rfl
      rw [e2]
      refine ax_istore dX4_hitBits_50 (by decide) rfl ?_
      refine ax_iinc (v := 1) dX4_hitBits_52 rfl (by decide) (by decide) rfl ?_
      refine ax_goto (tgt := 12) dX4_hitBits_55 (by decide) ?_
      rw [nI_1]
      exact next _ _ ⟨rfl, rfl⟩
  · rintro N L ⟨rfl, rfl⟩
    refine ax_iload dX4_hitBits_12 rfl ?_
    refine ax_aload_n dX4_hitBits_14 rfl ?_
    refine ax_getIN (f := 8) dX4_hitBits_15 acl_5 wd_270 (by decide) rfl (xs_R_0 hR hok) ?_
    rw [e8]
    refine ax_icmp_ge (tgt := 58) dX4_hitBits_18 (by decide) (fun hc => ?_) (fun hc => absurd ((nI_leI (by omega) (by omega)).mpr (by omega)) hc)
    refine ax_iload dX4_hitBits_58 rfl ?_
    refine ax_iret dX4_hitBits_60 rfl ?_
    exact ⟨rfl, rfl⟩
theorem c_hitCount (hok : lo_ok M.2) (hU : xh_U U) (hR : xh_R R) (hr : xr M R r) (ho : rd_ok r) (hm : xmt M U r lw dd) (hc2 : c < 2) (hcr : (c : Int) < r 1) {w : Int32} (hw : w = nI c) : ax_Met l G kX4_hitCount 6 0 0 M [av_r U, av_r R, av_i w] (ax_p (av_i (nI (mt_hn r lw dd c))) M) := by
  refine ax_body (by decide) (Nat.le_of_ble_eq_true rfl) ?_
  refine ax_aload_n dX4_hitCount_0 rfl ?_
  refine ax_aload_n dX4_hitCount_1 rfl ?_
  refine ax_iload_n dX4_hitCount_2 rfl ?_
  refine ax_callV (As := _) (d2 := _) (c1 := 0) (n1 := 0) (c_hitBits (M := M) hok hU hR hr ho hm hc2 hcr hw) dX4_hitCount_3 mX4_hitBits wd_1278 acl_4 (xs_U_0 hU hok) rfl (by omega) (by omega) (by omega) rfl rfl (fun _ _ h => by cases h.1) ?_
  rintro r M9 ⟨h1, h9⟩; cases h1; rw [h9]; clear h9 M9
  refine ax_callS (As := _) (c1 := 0) (n1 := 0) (c_bitCount (d := 0) (M := M) _) dX4_hitCount_6 mJ6_bitCount_0f7a4 wd_1279 rfl (by omega) (by omega) (by omega) rfl rfl (fun _ _ h => by cases h.1) ?_
  rintro r M9 ⟨h1, h9⟩; cases h1; rw [h9]; clear h9 M9
  refine ax_iret dX4_hitCount_9 rfl ?_
  refine ⟨?_, rfl⟩
  unfold mt_hit
  rw [bcx_or]; rfl
theorem c_xcostOf (hok : lo_ok M.2) (hU : xh_U U) (hR : xh_R R) (hr : xr M R r) (ho : rd_ok r) (hm : xmt M U r lw dd) (hc2 : c < 2) (hcr : (c : Int) < r 1) {w : Int32} (hw : w = nI c) : ax_Met l G kX4_costOf 7 0 0 M [av_r U, av_r R, av_i w] (ax_p (av_i (nI (mt_cost r lw dd c))) M) := by
  subst hw
  refine ax_body (by decide) (Nat.le_of_ble_eq_true rfl) ?_
  refine ax_bipush (v := 10) dX4_costOf_0 (by decide) ?_
  refine ax_aload_n dX4_costOf_2 rfl ?_
  refine ax_aload_n dX4_costOf_3 rfl ?_
  refine ax_iload_n dX4_costOf_4 rfl ?_
  refine ax_callV (As := _) (d2 := _) (c1 := 0) (n1 := 0) (c_hitBits (M := M) hok hU hR hr ho hm hc2 hcr rfl) dX4_costOf_5 mX4_hitBits wd_1278 acl_4 (xs_U_0 hU hok) rfl (by omega) (by omega) (by omega) rfl rfl (fun _ _ h => by cases h.1) ?_
  rintro r M9 ⟨h1, h9⟩; cases h1; rw [h9]; clear h9 M9
  refine ax_callS (As := _) (c1 := 0) (n1 := 0) (c_bitCount (d := 0) (M := M) _) dX4_costOf_8 mJ6_bitCount_0f7a4 wd_1279 rfl (by omega) (by omega) (by omega) rfl rfl (fun _ _ h => by cases h.1) ?_
  rintro r M9 ⟨h1, h9⟩; cases h1; rw [h9]; clear h9 M9
  rw [show bcx (mt_hit r lw dd c (mt_T r)) = nI (mt_hn r lw dd c) by unfold mt_hit; rw [bcx_or]; rfl]
  refine ax_imul dX4_costOf_11 ?_
  refine ax_aload_n dX4_costOf_12 rfl ?_
  refine ax_iload_n dX4_costOf_13 rfl ?_
  refine ax_callV (As := _) (d2 := _) (c1 := 0) (n1 := 0) (c_tripOf (d := 0) (M := M) hok hU hc2 rfl) dX4_costOf_14 mX4_tripOf wd_680 acl_4 (xs_U_0 hU hok) rfl (by omega) (by omega) (by omega) rfl rfl (fun _ _ h => by cases h.1) ?_
  rintro r M9 ⟨h1, h9⟩; cases h1; rw [h9]; clear h9 M9
  refine ax_callVN (As := _) (d2 := _) (c1 := 0) (n1 := 0) (c_unsafeTenths (M := M) hok (xh_UT hU hc2) ho hc2 (xmt_tp hm hc2)) dX4_costOf_17 mX8_unsafeTenths wd_1285 acl_8 (xs_T_0 (xh_UT hU hc2) hok) rfl (by omega) (by omega) (by omega) rfl rfl (fun _ _ h => by cases h.1) ?_
  rintro r M9 ⟨h1, h9⟩; cases h1; rw [h9]; clear h9 M9
  refine ax_iadd dX4_costOf_20 ?_
  refine ax_iret dX4_costOf_21 rfl ?_
  refine ⟨?_, rfl⟩
  rw [show (10 : Int32) = nI 10 from rfl, pk_mul, nI_add]; rfl
theorem c_everApartBy {d : Nat} (hok : lo_ok M.2) (hU : xh_U U) (ho : rd_ok r) (hm : xmt M U r lw dd) {i : Nat} (hi0 : 0 < i) (hi1 : i ≤ 100) {w : Int32} (hw : w = nI i) : ax_Met l G kX4_everApartBy d 0 0 M [av_r U, av_i w] (ax_p (av_i (if (mt_first (fun t => mt_view r t && decide (mt_far r t = (i : Int))) (mt_T r)).isSome = true then 1 else 0)) M) := by
  subst hw
  have h60 := T_60 ho
  refine ax_body (by decide) (Nat.le_of_ble_eq_true rfl) ?_
  refine ax_iconst (v := 0) dX4_everApartBy_0 (by decide) ?_
  refine ax_istore_n dX4_everApartBy_1 (by decide) rfl ?_
  refine ax_for (mt_T r) (fun t N L => N = M ∧ L = [some (av_r U), some (av_i (nI i)), some (av_i (nI t))] ∧ ∀ j, j < t → (mt_view r j && decide (mt_far r j = (i : Int))) = false) 2 ?_ ?_ (i := 0) (by omega) ⟨rfl, rfl, fun j hj => by omega⟩
  · rintro t N L ht ⟨rfl, rfl, hno⟩ next
    have hap := hm.2.2.1 t ht
    unfold xap at hap
    refine ax_iload_n dX4_everApartBy_2 rfl ?_
    refine ax_aload_n dX4_everApartBy_3 rfl ?_
    refine ax_getI (f := 3) dX4_everApartBy_4 acl_4 wd_484 (by decide) rfl (xs_U_0 hU hok) ?_
    rw [hm.1]
    refine ax_icmp_ge (tgt := 28) dX4_everApartBy_7 (by decide) (fun hc => absurd ((nI_leI (by omega) (by omega)).mp hc) (by omega)) (fun hc => ?_)
    refine ax_aload_n dX4_everApartBy_10 rfl ?_
    refine ax_getK (f := 2) (U + 15) dX4_everApartBy_11 acl_4 wd_483 (by decide) rfl (xs_U_0 hU hok) (xr_U_2 hU hok) ?_
    refine ax_iload_n dX4_everApartBy_14 rfl ?_
    refine ax_ialdN (t) dX4_everApartBy_15 (xs_U_15 hU hok) (by decide) (by first | with_reducible rfl | assumption | exact ax_nix (by simp only [nx_0, nx_1, nx_2, nx_3, nx_4, nx_10, nx_20, nx_21, nx_100, nI_add, pk_mul] <;> rfl) (by omega) | decide) (by omega) ?_
    rw [hap]
    refine ax_iload_n dX4_everApartBy_16 rfl ?_
    have key : (if mt_view r t = true then iI (mt_far r t) else 0) = nI i ↔ (mt_view r t && decide (mt_far r t = (i : Int))) = true := by
      rw [Bool.and_eq_true, decide_eq_true_eq, iI_nI]
      by_cases hv : mt_view r t = true
      · have := xap_b ho hv
        rw [if_pos hv, iI_eq (by unfold iI_b; omega) (by unfold iI_b; omega)]
        exact ⟨fun q => ⟨hv, q⟩, fun q => q.2⟩
      · rw [if_neg hv, show (0 : Int32) = iI 0 from rfl, iI_eq (by unfold iI_b; omega) (by unfold iI_b; omega)]
        exact ⟨fun q => by omega, fun q => absurd q.1 hv⟩
    refine ax_icmp_ne (tgt := 22) dX4_everApartBy_17 (by decide) (fun hc => ?_) (fun hc => ?_)
    · refine ax_iinc (v := 1) dX4_everApartBy_22 rfl (by decide) (by decide) rfl ?_
      refine ax_goto (tgt := 2) dX4_everApartBy_25 (by decide) ?_
      rw [nI_1]
      refine next _ _ ⟨rfl, rfl, fun j hj => ?_⟩
      by_cases e : j = t
      · subst e; exact Bool.eq_false_iff.mpr (fun z => hc (key.mpr z))
      · exact hno j (by omega)
    · refine ax_iconst (v := 1) dX4_everApartBy_20 (by decide) ?_
      refine ax_zret dX4_everApartBy_21 rfl ?_ ?_
      · exact Or.inr rfl
      · rw [mt_first_of (p := fun t => mt_view r t && decide (mt_far r t = (i : Int))) (u := t) (key.mp hc) hno ht]; exact ⟨rfl, rfl⟩
  · rintro N L ⟨rfl, rfl, hno⟩
    refine ax_iload_n dX4_everApartBy_2 rfl ?_
    refine ax_aload_n dX4_everApartBy_3 rfl ?_
    refine ax_getI (f := 3) dX4_everApartBy_4 acl_4 wd_484 (by decide) rfl (xs_U_0 hU hok) ?_
    rw [hm.1]
    refine ax_icmp_ge (tgt := 28) dX4_everApartBy_7 (by decide) (fun hc => ?_) (fun hc => absurd ((nI_leI (by omega) (by omega)).mpr (by omega)) hc)
    refine ax_iconst (v := 0) dX4_everApartBy_28 (by decide) ?_
    refine ax_zret dX4_everApartBy_29 rfl ?_ ?_
    · exact Or.inl rfl
    · rw [mt_first_no (p := fun t => mt_view r t && decide (mt_far r t = (i : Int))) hno]; exact ⟨rfl, rfl⟩
end XSS

