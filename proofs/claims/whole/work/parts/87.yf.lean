/-! ===== asks of the class: nights ===== -/
theorem nt_bv (b : BitVec 32) : (b >>> 16 &&& 32767#32) = (b.sshiftRight 16 &&& 32767#32) := by
  apply BitVec.eq_of_getLsbD_eq
  intro i hi
  rw [BitVec.getLsbD_and, BitVec.getLsbD_and, BitVec.getLsbD_sshiftRight, BitVec.getLsbD_ushiftRight]
  by_cases e : i < 15
  · rw [if_pos (show 16 + i < 32 by omega), decide_eq_false (show ¬ 32 ≤ i by omega)]
    simp
  · have : (32767#32).getLsbD i = false := (show ∀ i, i < 32 → ¬ i < 15 → (32767#32).getLsbD i = false by decide) i hi e
    rw [this]; simp
theorem nt_sh (b : Int32) : (b.toUInt32 >>> ((16 : Int32).toUInt32 &&& Int32.toUInt32 31)).toInt32 &&& 32767 = b >>> ((16 : Int32) &&& 31) &&& (32767 : Int32) := by
  apply Int32.toBitVec_inj.mp
  rw [Int32.toBitVec_and, Int32.toBitVec_and, Int32.toBitVec_shiftRight]
  exact nt_bv b.toBitVec
/-- night n's coat k lies hit -/
def nP (r : Nat → Int) (lw : mt_L) (s : Int32) (c n k : Nat) : Bool := decide ((k : Int) < r 2) && hx r lw c (nc r s (n * (r 2).toNat + k + 1)) (r (15 + 2 * k))
theorem nP_ni {r : Nat → Int} (ho : rd_ok r) {lw : mt_L} {s : Int32} {c n : Nat} : mt_cnt (nP r lw s c n) (r 2).toNat = ni_h r lw s c n := by
  have h0 := ho.1
  refine (mt_cnt_0 (p := nP r lw s c n) (n := (r 2).toNat) (m := 10) (by omega) (fun x h1 h2 => ?_)).symm
  unfold nP
  rw [decide_eq_false (by omega)]; rfl
theorem nP_of {r : Nat → Int} {lw : mt_L} {s : Int32} {c n k : Nat} (hk : (k : Int) < r 2) : nP r lw s c n k = mt_hits r lw mt_n c (nc r s (n * (r 2).toNat + k + 1)) (r (15 + 2 * k)) (mt_T r) := by
  unfold nP
  rw [decide_eq_true hk]; rfl
section X87
variable {l : Launch} {G : ax_G} {M : ax_M} {p : Nat → Nat} {r : Nat → Int} {lw : mt_L} {es : List (Nat × Nat)}
theorem x_nights (hl9 : l.stackTraces = false) (hI : xI M p r lw es) (sd x y : Int32) : ax_Met l G kX9_nights 8 2 12 M [av_r 1, av_i sd, av_i x, av_i y] (xA p r lw es M (qa_nights r lw sd x y)) := by
  have hx := hI.1.1
  have hok := hx.1
  have hr := hI.1.2.1
  have ho := hI.1.2.2.1
  have h0 := ho.1
  refine ax_body (by decide) (Nat.le_of_ble_eq_true rfl) ?_
  refine ax_aload_n dX9_nights_0 rfl ?_
  refine ax_iload_n dX9_nights_1 rfl ?_
  refine ax_iconst (v := 1) dX9_nights_2 (by decide) ?_
  refine ax_bipush (v := 20) dX9_nights_3 (by decide) ?_
  refine ax_callVX (As := _) (d2 := _) (c1 := 1) (n1 := 6) (c_needRange (M := M) hl9 hok) dX9_nights_5 mX9_needRange wd_1121 acl_9 (lo_s hok 1 rfl) rfl (by omega) (by omega) (by omega) rfl rfl (fun E M2 h => xA_ex h (fun z => by unfold qa_nights; rw [if_pos (Or.inl z)])) ?_
  refine xN_k (fun g1 => ?_)
  refine ax_aload_n dX9_nights_8 rfl ?_
  refine ax_iload_n dX9_nights_9 rfl ?_
  refine ax_iconst (v := 0) dX9_nights_10 (by decide) ?_
  refine ax_iconst (v := 3) dX9_nights_11 (by decide) ?_
  refine ax_callVX (As := _) (d2 := _) (c1 := 0) (n1 := 0) (c_needRange (M := M) hl9 hok) dX9_nights_12 mX9_needRange wd_1121 acl_9 (lo_s hok 1 rfl) rfl (by omega) (by omega) (by omega) rfl rfl (fun E M2 h => xA_ex h (fun z => by unfold qa_nights; rw [if_pos (Or.inr z)])) ?_
  refine xN_k (fun g2 => ?_)
  obtain ⟨m, hm1, hm, rfl⟩ := in_nat1 g1 (n := 20) rfl (by decide)
  obtain ⟨k, hk, rfl⟩ := in_nat g2 (n := 3) rfl (by decide)
  refine ax_aload_n dX9_nights_15 rfl ?_
  refine ax_getK (f := 1) 4 dX9_nights_16 acl_9 wd_548 (by decide) rfl (lo_s hok 1 rfl) (lo_r hok 1 rfl) ?_
  refine ax_getKN (f := 0) (p 0) dX9_nights_19 acl_7 wd_367 (by decide) rfl (lo_s hok 4 rfl) (xk_r0 hx) ?_
  refine ax_astore dX9_nights_22 (by decide) rfl ?_
  refine ax_aload_n dX9_nights_24 rfl ?_
  refine ax_callV (As := _) (d2 := _) (c1 := 0) (n1 := 0) (c_freshMeeting (M := M) hI) dX9_nights_25 mX9_freshMeeting wd_609 acl_9 (lo_s hok 1 rfl) rfl (by omega) (by omega) (by omega) rfl rfl (fun _ _ h => by cases h.1) ?_
  rintro _ M1 ⟨h1, f1, I1, -, m1, -⟩
  cases h1
  have hx := I1.1.1
  have hok := hx.1
  have hr := I1.1.2.1
  have e : ∀ v, v = qv_nights r lw sd m k → xA p r lw es M (qa_nights r lw sd (nI m) (nI k)) (.inl (some (av_i v))) M1 := fun v hv => by
    unfold qa_nights
    rw [if_neg (fun z => z.elim (fun q => q g1) (fun q => q g2)), nI_clamp (by omega), nI_clamp (by omega), hv]
    exact xA_in f1 I1
  obtain ⟨a0, ha0⟩ : ∃ f, f = ni_h r lw sd 0 := ⟨_, rfl⟩
  obtain ⟨a1, ha1⟩ : ∃ f, f = ni_h r lw sd 1 := ⟨_, rfl⟩
  have l0 : ∀ n, a0 n ≤ 10 := fun n => by rw [ha0]; exact ni_le _ _ _ _ _
  have l1 : ∀ n, a1 n ≤ 10 := fun n => by rw [ha1]; exact ni_le _ _ _ _ _
  obtain ⟨zz, hzz⟩ : ∃ f, f = fun n => decide (a0 n + a1 n = 0) := ⟨_, rfl⟩
  obtain ⟨mm, hmm⟩ : ∃ f, f = fun n => a0 n + a1 n := ⟨_, rfl⟩
  have lm : ∀ n, mm n ≤ 20 := fun n => by have := l0 n; have := l1 n; rw [hmm]; show a0 n + a1 n ≤ 20; omega
  obtain ⟨K, hK⟩ : ∃ K, K = (r 2).toNat := ⟨_, rfl⟩
  have iK : iI (r 2) = nI K := by rw [hK]; exact iI_tn (show 0 ≤ r 2 by omega)
  refine ax_astore dX9_nights_28 (by decide) rfl ?_
  refine ax_iload_n dX9_nights_30 rfl ?_
  refine ax_istore dX9_nights_31 (by decide) rfl ?_
  refine ax_iconst (v := 0) dX9_nights_33 (by decide) ?_
  refine ax_istore dX9_nights_34 (by decide) rfl ?_
  refine ax_iconst (v := 0) dX9_nights_36 (by decide) ?_
  refine ax_istore dX9_nights_37 (by decide) rfl ?_
  refine ax_iconst (v := 0) dX9_nights_39 (by decide) ?_
  refine ax_istore dX9_nights_40 (by decide) rfl ?_
  refine ax_iconst (v := 0) dX9_nights_42 (by decide) ?_
  refine ax_istore dX9_nights_43 (by decide) rfl ?_
  refine ax_iconst (v := 0) dX9_nights_45 (by decide) ?_
  refine ax_istore dX9_nights_46 (by decide) rfl ?_
  refine ax_for m (fun n N L => N = M1 ∧ ∃ y12 y13 y14 y15, L = [some (av_r 1), some (av_i sd), some (av_i (nI m)), some (av_i (nI k)), some (av_r (p 0)), some (av_r 40), some (av_i (dl sd (n * K))), some (av_i (nI (su a0 n))), some (av_i (nI (su a1 n))), some (av_i (nI (mt_cnt zz n))), some (av_i (nI (mxn mm n))), some (av_i (nI n)), y12, y13, y14, y15]) 48 ?_ ?_ (i := 0) (by omega) ⟨rfl, _, _, _, _, by rw [Nat.zero_mul]; rfl⟩
  · rintro n N L hn ⟨rfl, y12, y13, y14, y15, rfl⟩ next
    refine ax_iload dX9_nights_48 rfl ?_
    refine ax_iload_n dX9_nights_50 rfl ?_
    refine ax_icmp_ge (tgt := 203) dX9_nights_51 (by decide) (fun hc => absurd ((nI_leI (by omega) (by omega)).mp hc) (by omega)) (fun hc => ?_)
    refine ax_iconst (v := 0) dX9_nights_54 (by decide) ?_
    refine ax_istore dX9_nights_55 (by decide) rfl ?_
    refine ax_iconst (v := 0) dX9_nights_57 (by decide) ?_
    refine ax_istore dX9_nights_58 (by decide) rfl ?_
    refine ax_iconst (v := 0) dX9_nights_60 (by decide) ?_
    refine ax_istore dX9_nights_61 (by decide) rfl ?_
    refine ax_for K (fun j N9 L => N9 = N ∧ ∃ y15, L = [some (av_r 1), some (av_i sd), some (av_i (nI m)), some (av_i (nI k)), some (av_r (p 0)), some (av_r 40), some (av_i (dl sd (n * K + j))), some (av_i (nI (su a0 n))), some (av_i (nI (su a1 n))), some (av_i (nI (mt_cnt zz n))), some (av_i (nI (mxn mm n))), some (av_i (nI n)), some (av_i (nI (mt_cnt (nP r lw sd 0 n) j))), some (av_i (nI (mt_cnt (nP r lw sd 1 n) j))), some (av_i (nI j)), y15]) 63 ?_ ?_ (i := 0) (by omega) ⟨rfl, _, rfl⟩
    · rintro j N9 L hj ⟨rfl, y15, rfl⟩ next2
      have hj2 : (j : Int) < r 2 := by omega
      have ok := ho.2.2.1 j (by omega)
      obtain ⟨-, b2⟩ := hr.2.2.1 j hj2
      have d1 : dl sd (n * K + j) * 1103515245 + 12345 = dl sd (n * K + j + 1) := rfl
      obtain ⟨w, hw1, hw2⟩ := pk_andE (dl sd (n * K + j + 1) >>> (16 &&& 31)) (m := 32767) 15 (by decide)
      have hw3 : nc_w sd (n * K + j + 1) = w := by unfold nc_w; rw [hw2, nI_toInt (by omega)]; omega
      have hnc : nc r sd (n * K + j + 1) = ((w % (r 0).toNat : Nat) : Int) := by unfold nc; rw [hw3]
      have hcb := nc_b ho sd (n * K + j + 1)
      have q0 := nP_of (lw := lw) (s := sd) (c := 0) (n := n) hj2
      have q1 := nP_of (lw := lw) (s := sd) (c := 1) (n := n) hj2
      rw [← hK] at q0 q1
      refine ax_iload dX9_nights_63 rfl ?_
      refine ax_aload dX9_nights_65 rfl ?_
      refine ax_getIN (f := 8) dX9_nights_67 acl_5 wd_269 (by decide) rfl (xs_R_0 (xk_b0 hx) hok) ?_
      rw [hr.1.2.2.1, iK]
      refine ax_icmp_ge (tgt := 153) dX9_nights_70 (by decide) (fun hc => absurd ((nI_leI (by omega) (by omega)).mp hc) (by omega)) (fun hc => ?_)
      refine ax_iload dX9_nights_73 rfl ?_
      refine ax_ldc_w dX9_nights_75 wd_1467 ?_
      refine ax_imul dX9_nights_78 ?_
      refine ax_sipush (v := 12345) dX9_nights_79 (by decide) ?_
      refine ax_iadd dX9_nights_82 ?_
      rw [d1]
      refine ax_istore dX9_nights_83 (by decide) rfl ?_
      refine ax_aload dX9_nights_85 rfl ?_
      refine ax_iload dX9_nights_87 rfl ?_
      refine ax_bipush (v := 16) dX9_nights_89 (by decide) ?_
      refine ax_iushr dX9_nights_91 ?_
      refine ax_sipush (v := 32767) dX9_nights_92 (by decide) ?_
      refine ax_iand dX9_nights_95 ?_
      rw [nt_sh, hw2]
      refine ax_callVN (As := _) (d2 := _) (c1 := 0) (n1 := 0) (c_cellOfDraw (d := 6) (M := N9) hok (xk_b0 hx) hr ho (n := w) (by omega) rfl) dX9_nights_96 mX5_cellOfDraw wd_1468 acl_5 (xs_R_0 (xk_b0 hx) hok) rfl (by omega) (by omega) (by omega) rfl rfl (fun _ _ h => by cases h.1) ?_
      rintro r M9 ⟨h1, h9⟩; cases h1; rw [h9]; clear h9 M9
      refine ax_istore dX9_nights_99 (by decide) rfl ?_
      refine ax_iload dX9_nights_101 rfl ?_
      refine ax_aload dX9_nights_103 rfl ?_
      refine ax_aload dX9_nights_105 rfl ?_
      refine ax_iconst (v := 0) dX9_nights_107 (by decide) ?_
      refine ax_iload dX9_nights_108 rfl ?_
      refine ax_aload dX9_nights_110 rfl ?_
      refine ax_getKN (f := 7) ((p 0) + 4) dX9_nights_112 acl_5 wd_266 (by decide) rfl (xs_R_0 (xk_b0 hx) hok) (xr_R_7 (xk_b0 hx) hok) ?_
      refine ax_iload dX9_nights_115 rfl ?_
      refine ax_ialdN (j) dX9_nights_117 (xs_R_4 (xk_b0 hx) hok) (by decide) (by first | with_reducible rfl | assumption | exact ax_nix (by simp only [nx_0, nx_1, nx_2, nx_3, nx_4, nx_10, nx_20, nx_21, nx_100, nI_add, pk_mul] <;> rfl) (by omega) | decide) (by omega) ?_
      rw [b2]
      refine ax_callVN (As := _) (d2 := _) (c1 := 0) (n1 := 0) (c_hitBy (M := N9) hok (Or.inl rfl) (xk_b0 hx) hr ho m1 (c := 0) (by omega) (x := nc r sd (n * K + j + 1)) (h := r (15 + 2 * j)) (by omega) (by omega) rfl (by rw [hnc]; exact iI_nI _) rfl) dX9_nights_118 mX4_hitBy wd_1472 acl_4 (xs_U_0 (Or.inl rfl) hok) rfl (by omega) (by omega) (by omega) rfl rfl (fun _ _ h => by cases h.1) ?_
      rintro r M9 ⟨h1, h9⟩; cases h1; rw [h9]; clear h9 M9
      rw [← q0]
      refine ax_iadd dX9_nights_121 ?_
      refine ax_istore dX9_nights_122 (by decide) rfl ?_
      refine ax_iload dX9_nights_124 rfl ?_
      refine ax_aload dX9_nights_126 rfl ?_
      refine ax_aload dX9_nights_128 rfl ?_
      refine ax_iconst (v := 1) dX9_nights_130 (by decide) ?_
      refine ax_iload dX9_nights_131 rfl ?_
      refine ax_aload dX9_nights_133 rfl ?_
      refine ax_getKN (f := 7) ((p 0) + 4) dX9_nights_135 acl_5 wd_266 (by decide) rfl (xs_R_0 (xk_b0 hx) hok) (xr_R_7 (xk_b0 hx) hok) ?_
      refine ax_iload dX9_nights_138 rfl ?_
      refine ax_ialdN (j) dX9_nights_140 (xs_R_4 (xk_b0 hx) hok) (by decide) (by first | with_reducible rfl | assumption | exact ax_nix (by simp only [nx_0, nx_1, nx_2, nx_3, nx_4, nx_10, nx_20, nx_21, nx_100, nI_add, pk_mul] <;> rfl) (by omega) | decide) (by omega) ?_
      rw [b2]
      refine ax_callVN (As := _) (d2 := _) (c1 := 0) (n1 := 0) (c_hitBy (M := N9) hok (Or.inl rfl) (xk_b0 hx) hr ho m1 (c := 1) (by omega) (x := nc r sd (n * K + j + 1)) (h := r (15 + 2 * j)) (by omega) (by omega) rfl (by rw [hnc]; exact iI_nI _) rfl) dX9_nights_141 mX4_hitBy wd_1472 acl_4 (xs_U_0 (Or.inl rfl) hok) rfl (by omega) (by omega) (by omega) rfl rfl (fun _ _ h => by cases h.1) ?_
      rintro r M9 ⟨h1, h9⟩; cases h1; rw [h9]; clear h9 M9
      rw [← q1]
      have st : ∀ P : Nat → Bool, nI (mt_cnt P j) + (if P j = true then 1 else 0) = nI (mt_cnt P (j + 1)) := fun P => by
        have h9 : mt_cnt P (j + 1) = mt_cnt P j + if P j = true then 1 else 0 := rfl
        rw [h9]
        by_cases q : P j = true
        · rw [if_pos q, if_pos q, nI_1]
        · rw [if_neg q, if_neg q]; simp
      refine ax_iadd dX9_nights_144 ?_
      refine ax_istore dX9_nights_145 (by decide) rfl ?_
      refine ax_iinc (v := 1) dX9_nights_147 rfl (by decide) (by decide) rfl ?_
      refine ax_goto (tgt := 63) dX9_nights_150 (by decide) ?_
      refine next2 _ _ ⟨rfl, some (av_i (nI (w % (r 0).toNat))), ?_⟩
      rw [st, st, nI_1]
      rfl
    · rintro N9 L ⟨rfl, y15, rfl⟩
      have z0 := l0 n
      have z1 := l1 n
      have e0 : mt_cnt (nP r lw sd 0 n) K = a0 n := by rw [hK, ha0]; exact nP_ni ho
      have e1 : mt_cnt (nP r lw sd 1 n) K = a1 n := by rw [hK, ha1]; exact nP_ni ho
      rw [e0, e1]
      refine ax_iload dX9_nights_63 rfl ?_
      refine ax_aload dX9_nights_65 rfl ?_
      refine ax_getIN (f := 8) dX9_nights_67 acl_5 wd_269 (by decide) rfl (xs_R_0 (xk_b0 hx) hok) ?_
      rw [hr.1.2.2.1, iK]
      refine ax_icmp_ge (tgt := 153) dX9_nights_70 (by decide) (fun hc => ?_) (fun hc => absurd ((nI_leI (by omega) (by omega)).mpr (by omega)) hc)
      refine ax_iload dX9_nights_153 rfl ?_
      refine ax_iload dX9_nights_155 rfl ?_
      refine ax_iadd dX9_nights_157 ?_
      refine ax_istore dX9_nights_158 (by decide) rfl ?_
      refine ax_iload dX9_nights_160 rfl ?_
      refine ax_iload dX9_nights_162 rfl ?_
      refine ax_iadd dX9_nights_164 ?_
      refine ax_istore dX9_nights_165 (by decide) rfl ?_
      refine ax_iload dX9_nights_167 rfl ?_
      refine ax_iload dX9_nights_169 rfl ?_
      refine ax_iload dX9_nights_171 rfl ?_
      refine ax_iadd dX9_nights_173 ?_
      rw [nI_add, nI_add, nI_add]
      have hmz : nI (a0 n + a1 n) = 0 ↔ a0 n + a1 n = 0 := nI_eq (b := 0) (by omega) (by omega)
      refine ax_join1 (a0 n + a1 n = 0) 182 (1) (0) ?_ (fun ja jb => ?_)
      rotate_left
      · refine ax_if_ne (tgt := 181) dX9_nights_174 (by decide) (fun h174 => ?_) (fun h174 => ?_)
        · refine ax_iconst (v := 0) dX9_nights_181 (by decide) ?_
          first | exact jb (fun z => h174 (hmz.mpr z)) | exact ja (hmz.mp h174)
        · refine ax_iconst (v := 1) dX9_nights_177 (by decide) ?_
          refine ax_goto (tgt := 182) dX9_nights_178 (by decide) ?_
          first | exact jb (fun z => h174 (hmz.mpr z)) | exact ja (hmz.mp h174)
      have mx := mxn_le lm n
      refine ax_iadd dX9_nights_182 ?_
      refine ax_istore dX9_nights_183 (by decide) rfl ?_
      refine ax_iload dX9_nights_185 rfl ?_
      refine ax_iload dX9_nights_187 rfl ?_
      refine ax_iload dX9_nights_189 rfl ?_
      refine ax_iadd dX9_nights_191 ?_
      refine ax_mmax dX9_nights_192 wd_1357 wd_maxs wd_182 wd_maxc (by decide) rfl ?_
      refine ax_istore dX9_nights_195 (by decide) rfl ?_
      refine ax_iinc (v := 1) dX9_nights_197 rfl (by decide) (by decide) rfl ?_
      refine ax_goto (tgt := 48) dX9_nights_200 (by decide) ?_
      refine next _ _ ⟨rfl, some (av_i (nI (a0 n))), some (av_i (nI (a1 n))), some (av_i (nI K)), y15, ?_⟩
      have s3 : nI (mt_cnt zz n) + (if a0 n + a1 n = 0 then 1 else 0) = nI (mt_cnt zz (n + 1)) := by
        show _ = nI (mt_cnt zz n + if zz n = true then 1 else 0)
        rw [← nI_add, hzz]; congr 1
        by_cases q : a0 n + a1 n = 0
        · rw [if_pos q, if_pos (decide_eq_true q)]; rfl
        · rw [if_neg q, if_neg (fun z => q (of_decide_eq_true z))]; rfl
      have s4 : (if nI (mxn mm n) < nI (a0 n + a1 n) then nI (a0 n + a1 n) else nI (mxn mm n)) = nI (mxn mm (n + 1)) := by
        have hs : mxn mm (n + 1) = max (mxn mm n) (a0 n + a1 n) := by rw [hmm]; rfl
        rw [hs]
        by_cases q : nI (mxn mm n) < nI (a0 n + a1 n)
        · rw [if_pos q]; have := (nI_ltI (by omega) (by omega)).mp q; congr 1; omega
        · rw [if_neg q]; have : ¬ mxn mm n < a0 n + a1 n := fun z => q ((nI_ltI (by omega) (by omega)).mpr z); congr 1; omega
      rw [nI_add, s3, s4, nI_1, show n * K + K = (n + 1) * K by rw [Nat.succ_mul]]
      rfl
  · rintro N L ⟨rfl, y12, y13, y14, y15, rfl⟩
    refine ax_iload dX9_nights_48 rfl ?_
    refine ax_iload_n dX9_nights_50 rfl ?_
    refine ax_icmp_ge (tgt := 203) dX9_nights_51 (by decide) (fun hc => ?_) (fun hc => absurd ((nI_leI (by omega) (by omega)).mpr (by omega)) hc)
    refine ax_iload_n dX9_nights_203 rfl ?_
    rw [hzz, hmm, ha0, ha1]
    rcases (show k = 0 ∨ k = 1 ∨ k = 2 ∨ k = 3 by omega) with rfl | rfl | rfl | rfl
    · refine ax_tableIn (off := 28) (tgt := 232) dX9_nights_204 (by decide) (by decide) rfl (by decide) ?_
      refine ax_iload dX9_nights_232 rfl ?_
      refine ax_iret dX9_nights_234 rfl ?_
      exact e _ rfl
    · refine ax_tableIn (off := 31) (tgt := 235) dX9_nights_204 (by decide) (by decide) rfl (by decide) ?_
      refine ax_iload dX9_nights_235 rfl ?_
      refine ax_iret dX9_nights_237 rfl ?_
      exact e _ rfl
    · refine ax_tableIn (off := 34) (tgt := 238) dX9_nights_204 (by decide) (by decide) rfl (by decide) ?_
      refine ax_iload dX9_nights_238 rfl ?_
      refine ax_iret dX9_nights_240 rfl ?_
      exact e _ rfl
    · refine ax_tableOut (tgt := 241) dX9_nights_204 (by decide) (by decide) ?_
      refine ax_iload dX9_nights_241 rfl ?_
      refine ax_iret dX9_nights_243 rfl ?_
      exact e _ rfl
end X87

