/-! ===== asks of the class: look, finds, nights ===== -/
theorem inb_dup {es : List (Nat × Nat)} {t : Nat} : inb es.length (bkE es) t = true ↔ bk_dup es t = true := by
  rw [bk_dup_iff]
  unfold inb
  constructor
  · intro h
    cases hf : mt_first (fun k => decide ((bkE es k).1 = t)) es.length with
    | none => rw [hf] at h; cases h
    | some u =>
      obtain ⟨u1, u2, -⟩ := mt_first_some hf
      refine ⟨u, es.getD u (0, 0), ?_, of_decide_eq_true u2⟩
      simp [List.getD, List.getElem?_eq_getElem u1]
  · rintro ⟨j, q, hj, hq⟩
    have hl : j < es.length := (List.getElem?_eq_some_iff.mp hj).1
    cases hf : mt_first (fun k => decide ((bkE es k).1 = t)) es.length with
    | none =>
      have := mt_first_none hf j hl
      have e : (bkE es j).1 = t := by
        show (es.getD j (0, 0)).1 = t
        simp [List.getD, hj, hq]
      rw [decide_eq_true e] at this
      cases this
    | some u => rfl
theorem lkb_off {cand : Nat → Bool} {w : Nat → Nat} {a : Nat} : ∀ n, a ≤ n → (∀ t, a ≤ t → t < n → cand t = false) → lkb cand w n = lkb cand w a
  | 0, h, _ => by rw [show a = 0 by omega]
  | n + 1, h, hp => by
    by_cases e : a = n + 1
    · rw [e]
    · have ih := lkb_off (cand := cand) (w := w) n (by omega) (fun t h1 h2 => hp t h1 (by omega))
      have st : lkb cand w (n + 1) = if cand n = true ∧ (∀ u, lkb cand w n = some u → w n < w u) then some n else lkb cand w n := rfl
      rw [st, if_neg (fun z => by rw [hp n (by omega) (by omega)] at z; cases z.1)]
      exact ih
theorem bt_bv (b : BitVec 64) {d : Nat} (hd : d < 41) : (b.sshiftRight d &&& 1#64) = (b >>> d &&& 1#64) := by
  apply BitVec.eq_of_getLsbD_eq
  intro i hi
  rw [BitVec.getLsbD_and, BitVec.getLsbD_and, BitVec.getLsbD_sshiftRight, BitVec.getLsbD_ushiftRight]
  by_cases e : i = 0
  · subst e
    simp
    omega
  · have : (1#64).getLsbD i = false := by
      rw [BitVec.getLsbD_one]; simp [e]
    rw [this]; simp
theorem bt_a1 : ∀ d, d < 41 → ((nI d).toInt64 &&& 63).toBitVec.smod 64#64 = BitVec.ofNat 64 d := by decide
theorem bt_a2 : ∀ d, d < 41 → ((nI d).toInt64.toUInt64 &&& Int64.toUInt64 63).toBitVec % 64#64 = BitVec.ofNat 64 d := by decide
theorem bt_sh (b : Int64) {d : Nat} (hd : d < 41) : ((b.toUInt64 >>> ((nI d).toInt64.toUInt64 &&& Int64.toUInt64 63)).toInt64 &&& 1 = 0 ↔ ¬ bt b d = true) := by
  have e : (b.toUInt64 >>> ((nI d).toInt64.toUInt64 &&& Int64.toUInt64 63)).toInt64 &&& 1 = b >>> ((nI d).toInt64 &&& 63) &&& 1 := by
    apply Int64.toBitVec_inj.mp
    rw [Int64.toBitVec_and, Int64.toBitVec_and, Int64.toBitVec_shiftRight]
    show (b.toBitVec >>> (((nI d).toInt64.toUInt64 &&& Int64.toUInt64 63).toBitVec % 64#64)) &&& 1#64 = b.toBitVec.sshiftRight' (((nI d).toInt64 &&& 63).toBitVec.smod 64#64) &&& 1#64
    rw [bt_a1 d hd, bt_a2 d hd]
    show b.toBitVec >>> (BitVec.ofNat 64 d).toNat &&& 1#64 = b.toBitVec.sshiftRight (BitVec.ofNat 64 d).toNat &&& 1#64
    rw [show (BitVec.ofNat 64 d).toNat = d by rw [BitVec.toNat_ofNat]; exact Nat.mod_eq_of_lt (by omega)]
    exact (bt_bv _ hd).symm
  rw [e]
  unfold bt
  simp
section X85
variable {l : Launch} {G : ax_G} {M : ax_M} {p : Nat → Nat} {r : Nat → Int} {lw : mt_L} {es : List (Nat × Nat)}
theorem x_worstLeft (hT : xT M p r lw es) (m1 : xmt M 40 r lw mt_n) (bits : Int64) {t : Nat} (ht : t < tn r 1) {x : Int32} (hxt : x = nI t) : ax_Met l G kX9_worstLeft 4 0 0 M [av_r 40, av_l bits, av_i x] (ax_p (av_i (nI (lk_w r lw bits t))) M) := by
  subst hxt
  have hx := hT.1
  have hok := hx.1
  have ho := hT.2.2.1
  have hc2 : 1 < 2 := by omega
  have h60 := tn_60 ho hc2
  have hTn := tn_T ho hc2
  have hon := (tn_on ho hc2 t).mpr ht
  obtain ⟨q, hq⟩ : ∃ q, q = lk_p r lw bits t := ⟨_, rfl⟩
  obtain ⟨b, hb⟩ : ∃ b, b = bt bits := ⟨_, rfl⟩
  have sub : ∀ k, q k = true → b k = true := fun k h => by rw [hq] at h; unfold lk_p at h; rw [Bool.and_eq_true] at h; rw [hb]; exact h.1
  refine ax_body (by decide) (Nat.le_of_ble_eq_true rfl) ?_
  refine ax_iconst (v := 0) dX9_worstLeft_0 (by decide) ?_
  refine ax_istore dX9_worstLeft_1 (by decide) rfl ?_
  refine ax_iconst (v := 0) dX9_worstLeft_3 (by decide) ?_
  refine ax_istore dX9_worstLeft_4 (by decide) rfl ?_
  refine ax_iconst (v := 0) dX9_worstLeft_6 (by decide) ?_
  refine ax_istore dX9_worstLeft_7 (by decide) rfl ?_
  refine ax_for 41 (fun d N L => N = M ∧ ∃ y, L = [some (av_r 40), some (av_l bits), none, some (av_i (nI t)), some (av_i (nI (mt_cnt q d))), some (av_i (nI (mt_cnt b d - mt_cnt q d))), some (av_i (nI d)), y]) 9 ?_ ?_ (i := 0) (by omega) ⟨rfl, _, rfl⟩
  · rintro d N L hd ⟨rfl, y, rfl⟩ next
    have c1 := mt_cnt_le q d
    have c2 := mt_cnt_le b d
    have c3 := mt_cnt_sub sub d
    have s1 : mt_cnt q (d + 1) = mt_cnt q d + (if q d = true then 1 else 0) := rfl
    have s2 : mt_cnt b (d + 1) = mt_cnt b d + (if b d = true then 1 else 0) := rfl
    refine ax_iload dX9_worstLeft_9 rfl ?_
    refine ax_bipush (v := 40) dX9_worstLeft_11 (by decide) ?_
    refine ax_icmp_gt (tgt := 58) dX9_worstLeft_13 (by decide) (fun hc => absurd ((nI_ltI (a := 40) (by omega) (by omega)).mp hc) (by omega)) (fun hc => ?_)
    refine ax_lload_n dX9_worstLeft_16 rfl ?_
    refine ax_iload dX9_worstLeft_17 rfl ?_
    refine ax_lushr dX9_worstLeft_19 ?_
    refine ax_lconst (v := 1) dX9_worstLeft_20 (by decide) ?_
    refine ax_land dX9_worstLeft_21 ?_
    refine ax_lconst (v := 0) dX9_worstLeft_22 (by decide) ?_
    refine ax_lcmp dX9_worstLeft_23 ?_
    refine ax_if_eq (tgt := 52) dX9_worstLeft_24 (by decide) (fun hc => ?_) (fun hc => ?_)
    · have hz := (bt_sh bits hd).mp ((lg_cmp_eq _ _).mp hc)
      have hbd : ¬ b d = true := by rw [hb]; exact hz
      have hqd : ¬ q d = true := fun z => hbd (sub d z)
      rw [if_neg hqd] at s1
      rw [if_neg hbd] at s2
      refine ax_iinc (v := 1) dX9_worstLeft_52 rfl (by decide) (by decide) rfl ?_
      refine ax_goto (tgt := 9) dX9_worstLeft_55 (by decide) ?_
      exact next _ _ ⟨rfl, _, by rw [nI_1, s1, s2]; rfl⟩
    · have hbd : b d = true := by
        rw [hb]
        cases z : bt bits d with
        | true => rfl
        | false => exact absurd ((lg_cmp_eq _ _).mpr ((bt_sh bits hd).mpr (by rw [z]; decide))) hc
      rw [if_pos hbd] at s2
      have hqd : q d = true ↔ 0 < (if mt_view r t = true then iI (mt_far r t) else 99) - nI d := by
        rw [hq]
        unfold lk_p
        rw [← hb, hbd, hon, fby hon (by omega)]
        by_cases z : 0 < (if mt_view r t = true then iI (mt_far r t) else 99) - nI d
        · rw [if_pos z]; simp [z]
        · rw [if_neg z]; simp [z]
      clear hc
      refine ax_aload_n dX9_worstLeft_27 rfl ?_
      refine ax_iload dX9_worstLeft_28 rfl ?_
      refine ax_iload_n dX9_worstLeft_30 rfl ?_
      refine ax_callVN (As := _) (d2 := _) (c1 := 0) (n1 := 0) (c_xbeamsBy (M := N) hok (Or.inl rfl) ho (t := t) (by omega) (m1.2.2.1 _ (by omega)) (y := nI d) rfl) dX9_worstLeft_31 mX4_beamsBy wd_1441 acl_4 (xs_U_0 (Or.inl rfl) hok) rfl (by omega) (by omega) (by omega) rfl rfl (fun _ _ h => by cases h.1) ?_
      rintro r M9 ⟨h1, h9⟩; cases h1; rw [h9]; clear h9 M9
      by_cases z : q d = true
      · rw [if_pos z] at s1
        rw [if_pos (hqd.mp z)]
        refine ax_istore dX9_worstLeft_34 (by decide) rfl ?_
        refine ax_iload dX9_worstLeft_36 rfl ?_
        refine ax_iload dX9_worstLeft_38 rfl ?_
        refine ax_iadd dX9_worstLeft_40 ?_
        refine ax_istore dX9_worstLeft_41 (by decide) rfl ?_
        refine ax_iload dX9_worstLeft_43 rfl ?_
        refine ax_iconst (v := 1) dX9_worstLeft_45 (by decide) ?_
        refine ax_iload dX9_worstLeft_46 rfl ?_
        refine ax_isub dX9_worstLeft_48 ?_
        refine ax_iadd dX9_worstLeft_49 ?_
        refine ax_istore dX9_worstLeft_50 (by decide) rfl ?_
        refine ax_iinc (v := 1) dX9_worstLeft_52 rfl (by decide) (by decide) rfl ?_
        refine ax_goto (tgt := 9) dX9_worstLeft_55 (by decide) ?_
        refine next _ _ ⟨rfl, some (av_i 1), ?_⟩
        rw [nI_1, nI_1, s1, show nI (mt_cnt b d - mt_cnt q d) + (1 - 1) = nI (mt_cnt b (d + 1) - (mt_cnt q d + 1)) by rw [s2, show (1 : Int32) - 1 = 0 from rfl, show mt_cnt b d + 1 - (mt_cnt q d + 1) = mt_cnt b d - mt_cnt q d by omega]; simp]
        rfl
      · rw [if_neg z] at s1
        rw [if_neg (fun y => z (hqd.mpr y))]
        refine ax_istore dX9_worstLeft_34 (by decide) rfl ?_
        refine ax_iload dX9_worstLeft_36 rfl ?_
        refine ax_iload dX9_worstLeft_38 rfl ?_
        refine ax_iadd dX9_worstLeft_40 ?_
        refine ax_istore dX9_worstLeft_41 (by decide) rfl ?_
        refine ax_iload dX9_worstLeft_43 rfl ?_
        refine ax_iconst (v := 1) dX9_worstLeft_45 (by decide) ?_
        refine ax_iload dX9_worstLeft_46 rfl ?_
        refine ax_isub dX9_worstLeft_48 ?_
        refine ax_iadd dX9_worstLeft_49 ?_
        refine ax_istore dX9_worstLeft_50 (by decide) rfl ?_
        refine ax_iinc (v := 1) dX9_worstLeft_52 rfl (by decide) (by decide) rfl ?_
        refine ax_goto (tgt := 9) dX9_worstLeft_55 (by decide) ?_
        refine next _ _ ⟨rfl, some (av_i 0), ?_⟩
        rw [nI_1, s1, show nI (mt_cnt q d) + 0 = nI (mt_cnt q d + 0) by simp, show nI (mt_cnt b d - mt_cnt q d) + (1 - 0) = nI (mt_cnt b (d + 1) - (mt_cnt q d + 0)) by rw [s2, show (1 : Int32) - 0 = 1 from rfl, nI_1]; congr 1; omega]
        rfl
  · rintro N L ⟨rfl, y, rfl⟩
    have c1 := mt_cnt_le q 41
    have c2 := mt_cnt_le b 41
    refine ax_iload dX9_worstLeft_9 rfl ?_
    refine ax_bipush (v := 40) dX9_worstLeft_11 (by decide) ?_
    refine ax_icmp_gt (tgt := 58) dX9_worstLeft_13 (by decide) (fun hc => ?_) (fun hc => absurd ((nI_ltI (a := 40) (by omega) (by omega)).mpr (by omega)) hc)
    refine ax_iload dX9_worstLeft_58 rfl ?_
    refine ax_iload dX9_worstLeft_60 rfl ?_
    refine ax_mmax dX9_worstLeft_62 wd_1357 wd_maxs wd_182 wd_maxc (by decide) rfl ?_
    refine ax_iret dX9_worstLeft_65 rfl ?_
    refine ⟨?_, rfl⟩
    unfold lk_w
    rw [← hq, ← hb]
    by_cases z : nI (mt_cnt q 41) < nI (mt_cnt b 41 - mt_cnt q 41)
    · rw [if_pos z]; have := (nI_ltI (by omega) (by omega)).mp z; congr 4; omega
    · rw [if_neg z]; have : ¬ mt_cnt q 41 < mt_cnt b 41 - mt_cnt q 41 := fun y => z ((nI_ltI (by omega) (by omega)).mpr y); congr 4; omega
theorem x_look (hl9 : l.stackTraces = false) (hI : xI M p r lw es) (x : Int32) : ax_Met l G kX9_look 8 2 12 M [av_r 1, av_i x] (xA p r lw es M (qa_look r lw es.length (bkE es) x)) := by
  have hx := hI.1.1
  have hok := hx.1
  have hr := hI.1.2.1
  have ho := hI.1.2.2.1
  have h0 := ho.1
  refine ax_body (by decide) (Nat.le_of_ble_eq_true rfl) ?_
  refine ax_aload_n dX9_look_0 rfl ?_
  refine ax_iload_n dX9_look_1 rfl ?_
  refine ax_iconst (v := 0) dX9_look_2 (by decide) ?_
  refine ax_iconst (v := 1) dX9_look_3 (by decide) ?_
  refine ax_callVX (As := _) (d2 := _) (c1 := 1) (n1 := 6) (c_needRange (M := M) hl9 hok) dX9_look_4 mX9_needRange wd_1121 acl_9 (lo_s hok 1 rfl) rfl (by omega) (by omega) (by omega) rfl rfl (fun E M2 h => xA_ex h (fun z => by unfold qa_look; rw [if_pos z])) ?_
  refine xN_k (fun g1 => ?_)
  refine ax_aload_n dX9_look_7 rfl ?_
  refine ax_callVX (As := _) (d2 := _) (c1 := 0) (n1 := 0) (c_needTwoCars (M := M) hl9 hx hr ho) dX9_look_8 mX9_needTwoCars wd_1254 acl_9 (lo_s hok 1 rfl) rfl (by omega) (by omega) (by omega) rfl rfl (fun E M2 h => xA_ex h (fun z => by unfold qa_look; rw [if_neg (fun q => q g1), if_pos (dn z)])) ?_
  refine xN_k (fun g2 => ?_)
  obtain ⟨k, hk, rfl⟩ := in_nat g1 (n := 1) rfl (by decide)
  have hc2 : 1 < 2 := by omega
  have h60 := tn_60 ho hc2
  have hTn := tn_T ho hc2
  refine ax_aload_n dX9_look_11 rfl ?_
  refine ax_callV (As := _) (d2 := _) (c1 := 0) (n1 := 0) (c_freshMeeting (M := M) hI) dX9_look_12 mX9_freshMeeting wd_609 acl_9 (lo_s hok 1 rfl) rfl (by omega) (by omega) (by omega) rfl rfl (fun _ _ h => by cases h.1) ?_
  rintro _ M1 ⟨h1, f1, I1, -, m1, -⟩
  cases h1
  have hx := I1.1.1
  have hok := hx.1
  have hr := I1.1.2.1
  refine ax_astore_n dX9_look_15 (by decide) rfl ?_
  refine ax_aload_n dX9_look_16 rfl ?_
  refine ax_aload_n dX9_look_17 rfl ?_
  refine ax_callV (As := _) (d2 := _) (c1 := 0) (n1 := 0) (x_distanceBits (M := M1) I1.1 m1) dX9_look_18 mX9_distanceBits wd_1433 acl_9 (lo_s hok 1 rfl) rfl (by omega) (by omega) (by omega) rfl rfl (fun _ _ h => by cases h.1) ?_
  rintro r M9 ⟨h1, h9⟩; cases h1; rw [h9]; clear h9 M9
  have tp := xmt_tp m1 hc2
  have hTT : xh_T (40 + 1 + 7 * 1) := xh_UT (Or.inl rfl) hc2
  obtain ⟨bits, hbits⟩ : ∃ b, b = db (fit r lw es.length (bkE es)) 41 := ⟨_, rfl⟩
  rw [← hbits]
  obtain ⟨w, hw⟩ : ∃ w, w = lk_w r lw bits := ⟨_, rfl⟩
  obtain ⟨cd, hcd⟩ : ∃ c, c = lk_c r es.length (bkE es) := ⟨_, rfl⟩
  have wl : ∀ t, w t ≤ 41 := fun t => by
    rw [hw]; unfold lk_w
    have c1 := mt_cnt_le (lk_p r lw bits t) 41
    have c2 := mt_cnt_le (bt bits) 41
    omega
  have off := lkb_off (cand := cd) (w := w) (a := tn r 1) (mt_T r) hTn (fun t h1 h2 => by
    rw [hcd]; unfold lk_c; cases hh : mt_on r 1 t; rfl; exact absurd ((tn_on ho hc2 t).mp hh) (by omega))
  have e : ∀ v, v = (match lkb cd w (tn r 1) with | none => -1 | some u => if k = 0 then nI u else nI (w u)) → xA p r lw es M (qa_look r lw es.length (bkE es) (nI k)) (.inl (some (av_i v))) M1 := fun v hv => by
    unfold qa_look
    rw [if_neg (fun z => z g1), if_neg g2, nI_clamp (by omega), hv]
    unfold qv_look
    rw [← hbits, ← hw, ← hcd, off]
    exact xA_in f1 I1
  refine ax_lstore_n dX9_look_21 (by decide) rfl ?_
  refine ax_iconst (v := (-1)) dX9_look_22 (by decide) ?_
  refine ax_istore dX9_look_23 (by decide) rfl ?_
  refine ax_iconst (v := (-1)) dX9_look_25 (by decide) ?_
  refine ax_istore dX9_look_26 (by decide) rfl ?_
  refine ax_iconst (v := 0) dX9_look_28 (by decide) ?_
  refine ax_istore dX9_look_29 (by decide) rfl ?_
  refine ax_for (tn r 1) (fun t N L => N = M1 ∧ ∃ bs ls y, L = [some (av_r 1), some (av_i (nI k)), some (av_r 40), some (av_l bits), none, some (av_i bs), some (av_i ls), some (av_i (nI t)), y] ∧ (lkb cd w t = none → bs = -1 ∧ ls = -1) ∧ ∀ u, lkb cd w t = some u → u < t ∧ bs = nI u ∧ ls = nI (w u)) 31 ?_ ?_ (i := 0) (by omega) ⟨rfl, _, _, _, rfl, fun _ => ⟨rfl, rfl⟩, fun u z => by cases z⟩
  · rintro t N L ht ⟨rfl, bs, ls, y, rfl, i0, i1⟩ next
    have st : lkb cd w (t + 1) = if cd t = true ∧ (∀ u, lkb cd w t = some u → w t < w u) then some t else lkb cd w t := rfl
    have wt := wl t
    have ecd : cd t = true ↔ ¬ bk_dup es t = true := by
      rw [hcd]; unfold lk_c
      rw [(tn_on ho hc2 t).mpr ht, ← inb_dup]
      simp
    refine ax_iload dX9_look_31 rfl ?_
    refine ax_aload_n dX9_look_33 rfl ?_
    refine ax_iconst (v := 1) dX9_look_34 (by decide) ?_
    refine ax_callVN (As := _) (d2 := _) (c1 := 0) (n1 := 0) (c_tripOf (d := 6) (M := N) hok (Or.inl rfl) (c := 1) hc2 rfl) dX9_look_35 mX4_tripOf wd_1159 acl_4 (xs_U_0 (Or.inl rfl) hok) rfl (by omega) (by omega) (by omega) rfl rfl (fun _ _ h => by cases h.1) ?_
    rintro r M9 ⟨h1, h9⟩; cases h1; rw [h9]; clear h9 M9
    refine ax_getIN (f := 9) dX9_look_38 acl_8 wd_437 (by decide) rfl (xs_T_0 (xh_UT (Or.inl rfl) (by omega)) hok) ?_
    rw [tp.2.1]
    refine ax_icmp_ge (tgt := 92) dX9_look_41 (by decide) (fun hc => ?_) (fun hc => ?_)
    · have := (nI_leI (by omega) (by omega)).mp hc; omega
    clear hc
    refine ax_aload_n dX9_look_44 rfl ?_
    refine ax_lload_n dX9_look_45 rfl ?_
    refine ax_iload dX9_look_46 rfl ?_
    refine ax_callS (As := _) (c1 := 0) (n1 := 0) (x_worstLeft (M := N) I1.1 m1 bits ht rfl) dX9_look_48 mX9_worstLeft wd_1449 rfl (by omega) (by omega) (by omega) rfl rfl (fun _ _ h => by cases h.1) ?_
    rintro r M9 ⟨h1, h9⟩; cases h1; rw [h9]; clear h9 M9
    have ew : lk_w r lw bits t = w t := by rw [hw]
    rw [ew]
    refine ax_istore dX9_look_51 (by decide) rfl ?_
    refine ax_aload_n dX9_look_53 rfl ?_
    refine ax_getK (f := 4) (p 6) dX9_look_54 acl_9 wd_551 (by decide) rfl (lo_s hok 1 rfl) (xk_r6 hx) ?_
    refine ax_iload dX9_look_57 rfl ?_
    refine ax_callVN (As := _) (d2 := _) (c1 := 0) (n1 := 0) (c_xtells (d := 6) (M := N) hok (xk_b6 hx) I1.1.2.2.2.2 (t := t) (by omega) rfl) dX9_look_59 mX0_tells wd_1452 acl_0 (xs_K_0 (xk_b6 hx) hok) rfl (by omega) (by omega) (by omega) rfl rfl (fun _ _ h => by cases h.1) ?_
    rintro r M9 ⟨h1, h9⟩; cases h1; rw [h9]; clear h9 M9
    have stay : ¬ (cd t = true ∧ (∀ u, lkb cd w t = some u → w t < w u)) → ax_W l G kX9_look (ax_FQ G (xA p r lw es M (qa_look r lw es.length (bkE es) (nI k)))) 8 0 0 N 86 [some (av_r 1), some (av_i (nI k)), some (av_r 40), some (av_l bits), none, some (av_i bs), some (av_i ls), some (av_i (nI t)), some (av_i (nI (w t)))] [] := by
      intro hn
      rw [if_neg hn] at st
      refine ax_iinc (v := 1) dX9_look_86 rfl (by decide) (by decide) rfl ?_
      refine ax_goto (tgt := 31) dX9_look_89 (by decide) ?_
      exact next _ _ ⟨rfl, bs, ls, _, by rw [nI_1]; rfl, fun z => i0 (st ▸ z), fun u z => ⟨by have := (i1 u (st ▸ z)).1; omega, (i1 u (st ▸ z)).2⟩⟩
    have take : (cd t = true ∧ (∀ u, lkb cd w t = some u → w t < w u)) → ax_W l G kX9_look (ax_FQ G (xA p r lw es M (qa_look r lw es.length (bkE es) (nI k)))) 8 0 0 N 78 [some (av_r 1), some (av_i (nI k)), some (av_r 40), some (av_l bits), none, some (av_i bs), some (av_i ls), some (av_i (nI t)), some (av_i (nI (w t)))] [] := by
      intro hn
      rw [if_pos hn] at st
      refine ax_iload dX9_look_78 rfl ?_
      refine ax_istore dX9_look_80 (by decide) rfl ?_
      refine ax_iload dX9_look_82 rfl ?_
      refine ax_istore dX9_look_84 (by decide) rfl ?_
      refine ax_iinc (v := 1) dX9_look_86 rfl (by decide) (by decide) rfl ?_
      refine ax_goto (tgt := 31) dX9_look_89 (by decide) ?_
      exact next _ _ ⟨rfl, nI t, nI (w t), some (av_i (nI (w t))), (by rw [nI_1]; rfl), (fun z => by rw [st] at z; cases z), (fun u z => by rw [st] at z; cases z; exact ⟨by omega, rfl, rfl⟩)⟩
    refine ax_ifB_ne (tgt := 86) dX9_look_62 (by decide) (fun hc => ?_) (fun hc => ?_)
    · exact stay (fun z => ecd.mp z.1 hc)
    · have hcd9 := ecd.mpr hc
      clear hc
      refine ax_iload dX9_look_65 rfl ?_
      refine ax_iconst (v := (-1)) dX9_look_67 (by decide) ?_
      cases hl : lkb cd w t with
      | none =>
        obtain ⟨rfl, rfl⟩ := i0 hl
        refine ax_icmp_eq (tgt := 78) dX9_look_68 (by decide) (fun hc => ?_) (fun hc => ?_)
        · exact take ⟨hcd9, fun u z => by rw [hl] at z; cases z⟩
        · exact absurd rfl hc
      | some u =>
        obtain ⟨u1, rfl, rfl⟩ := i1 u hl
        have wu := wl u
        refine ax_icmp_eq (tgt := 78) dX9_look_68 (by decide) (fun hc => ?_) (fun hc => ?_)
        · exact absurd hc (nI_m1 (by omega))
        · clear hc
          refine ax_iload dX9_look_71 rfl ?_
          refine ax_iload dX9_look_73 rfl ?_
          refine ax_icmp_ge (tgt := 86) dX9_look_75 (by decide) (fun hc => ?_) (fun hc => ?_)
          · have := (nI_leI (by omega) (by omega)).mp hc
            exact stay (fun z => by have := z.2 u hl; omega)
          · have h1 : ¬ w u ≤ w t := fun z => hc ((nI_leI (by omega) (by omega)).mpr z)
            exact take ⟨hcd9, fun v z => by rw [hl] at z; cases z; omega⟩
  · rintro N L ⟨rfl, bs, ls, y, rfl, i0, i1⟩
    refine ax_iload dX9_look_31 rfl ?_
    refine ax_aload_n dX9_look_33 rfl ?_
    refine ax_iconst (v := 1) dX9_look_34 (by decide) ?_
    refine ax_callVN (As := _) (d2 := _) (c1 := 0) (n1 := 0) (c_tripOf (d := 6) (M := N) hok (Or.inl rfl) (c := 1) hc2 rfl) dX9_look_35 mX4_tripOf wd_1159 acl_4 (xs_U_0 (Or.inl rfl) hok) rfl (by omega) (by omega) (by omega) rfl rfl (fun _ _ h => by cases h.1) ?_
    rintro r M9 ⟨h1, h9⟩; cases h1; rw [h9]; clear h9 M9
    refine ax_getIN (f := 9) dX9_look_38 acl_8 wd_437 (by decide) rfl (xs_T_0 (xh_UT (Or.inl rfl) (by omega)) hok) ?_
    rw [tp.2.1]
    refine ax_icmp_ge (tgt := 92) dX9_look_41 (by decide) (fun hc => ?_) (fun hc => ?_)
    rotate_left
    · exact absurd ((nI_leI (by omega) (by omega)).mpr (Nat.le_refl _)) hc
    clear hc
    have hb : bs = (match lkb cd w (tn r 1) with | none => -1 | some u => nI u) ∧ ls = (match lkb cd w (tn r 1) with | none => -1 | some u => nI (w u)) := by
      cases hl : lkb cd w (tn r 1) with
      | none => exact i0 hl
      | some u => exact (i1 u hl).2
    refine ax_iload_n dX9_look_92 rfl ?_
    rcases (show k = 0 ∨ k = 1 by omega) with rfl | rfl
    · refine ax_if_ne (tgt := 101) dX9_look_93 (by decide) (fun hc => ?_) (fun hc => ?_)
      · exact absurd rfl hc
      · refine ax_iload dX9_look_96 rfl ?_
        refine ax_goto (tgt := 103) dX9_look_98 (by decide) ?_
        refine ax_iret dX9_look_103 rfl ?_
        refine e _ ?_
        rw [hb.1]
        cases lkb cd w (tn r 1) <;> rfl
    · refine ax_if_ne (tgt := 101) dX9_look_93 (by decide) (fun hc => ?_) (fun hc => ?_)
      · refine ax_iload dX9_look_101 rfl ?_
        refine ax_iret dX9_look_103 rfl ?_
        refine e _ ?_
        rw [hb.2]
        cases lkb cd w (tn r 1) <;> rfl
      · exact absurd hc (by decide)
end X85

