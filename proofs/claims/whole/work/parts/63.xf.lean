/-! ===== the class reads formulas ===== -/
def enc (w : Int32 × Int32) : Int32 := if w.1 = 0 then 1000 + w.2 else if w.1 = 1 then 100 + w.2 else w.1 - 2
def ff (F : Nat) (M M2 : ax_M) : Prop := M2.2 = M.2 ∧ ∀ n i, ¬ (n = 2 ∧ 3 ≤ i ∧ i ≤ 8) → ¬ (n = F ∧ i = 1) → n ≠ F + 1 → M2.1 n i = M.1 n i
theorem ff_tr {F : Nat} {M M1 M2 : ax_M} (h1 : ff F M M1) (h2 : ff F M1 M2) : ff F M M2 := ⟨h2.1.trans h1.1, fun n i q1 q2 q3 => (h2.2 n i q1 q2 q3).trans (h1.2 n i q1 q2 q3)⟩
theorem ff_af {F : Nat} {M M2 : ax_M} (h : af M M2) : ff F M M2 := ⟨h.1, fun n i q1 _ _ => h.2 n i q1⟩
theorem ff_0 (F : Nat) (M : ax_M) : ff F M M := ⟨rfl, fun _ _ _ _ _ => rfl⟩
theorem xh_F2 {F : Nat} (h : xh_F F) : 13 ≤ F ∧ F ≤ 31 := by unfold xh_F at h; omega
/-- the class stands at a without FAULT, k steps noted -/
def xi (B : Nat → Int32) (M : ax_M) (z a k F : Nat) : Prop := xg M z B (a, none) ∧ z ≤ 150 ∧ M.1 F 1 = nI k ∧ k ≤ a
/-- from M with k steps on it has come to b, with the steps cs more -/
def xq (B : Nat → Int32) (F : Nat) (M N : ax_M) (z k b : Nat) (cs : List (Int32 × Int32)) : Prop := ff F M N ∧ xi B N z b (k + cs.length) F ∧ (∀ j, j < k → N.1 (F + 1) j = M.1 (F + 1) j) ∧ ∀ j w, cs[j]? = some w → N.1 (F + 1) (k + j) = enc w
def xv (B : Nat → Int32) (F : Nat) (M N : ax_M) (z : Nat) (e : Nat × Nat) : Prop := ff F M N ∧ ∀ a2, a2 ≤ z → xg N z B (a2, some e)
def xo (B : Nat → Int32) (F : Nat) (M N : ax_M) (z k : Nat) (o : ax_O) (x : ps_R) : Prop := match x with
  | .inl e => o = .inl (some (av_i 0)) ∧ xv B F M N z e
  | .inr q => o = .inl (some (av_i 1)) ∧ xq B F M N z k q.1 q.2
theorem xq_0 {B : Nat → Int32} {F : Nat} {M : ax_M} {z k a : Nat} (h : xi B M z a k F) : xq B F M M z k a [] := ⟨ff_0 F M, h, fun _ _ => rfl, fun j w h => by simp at h⟩
theorem xq_af {B : Nat → Int32} {F : Nat} {M N N2 : ax_M} {z k b c : Nat} {cs : List (Int32 × Int32)} (hF : xh_F F) (h : xq B F M N z k b cs) (hf : af N N2) (hg : xg N2 z B (c, none)) (hbc : b ≤ c) : xq B F M N2 z k c cs := by
  have h2 := xh_F2 hF
  obtain ⟨h1, ⟨i1, i2, i3, i4⟩, h3, h4⟩ := h
  exact ⟨ff_tr h1 (ff_af hf), ⟨hg, i2, (hf.2 F 1 (by omega)).trans i3, by omega⟩, fun j hj => (hf.2 _ _ (by omega)).trans (h3 j hj), fun j w hw => (hf.2 _ _ (by omega)).trans (h4 j w hw)⟩
theorem xq_sk {B : Nat → Int32} {F : Nat} {M N : ax_M} {z k b : Nat} {cs : List (Int32 × Int32)} (h : xq B F M N z k b cs) : xq B F M N z k (tx_sk B z b) cs := by
  obtain ⟨h1, ⟨i1, i2, i3, i4⟩, h3, h4⟩ := h
  exact ⟨h1, ⟨xg_sk i1, i2, i3, Nat.le_trans i4 tx_sk_ge⟩, h3, h4⟩
theorem xq_add {B : Nat → Int32} {F : Nat} {M N N2 : ax_M} {z k b : Nat} {cs : List (Int32 × Int32)} {w : Int32 × Int32} {v : Int32} (hF : xh_F F) (h : xq B F M N z k b cs) (hb : k + cs.length + 1 ≤ b) (hv : v = enc w) (e : N2 = ax_pI (ax_pI N (F + 1) (k + cs.length) v) F 1 (nI (k + cs.length + 1))) : xq B F M N2 z k b (cs ++ [w]) := by
  subst e hv
  have h2 := xh_F2 hF
  obtain ⟨h1, ⟨i1, i2, i3, i4⟩, h3, h4⟩ := h
  have hl : (cs ++ [w]).length = cs.length + 1 := by simp
  refine ⟨⟨h1.1, fun n i q1 q2 q3 => ?_⟩, ⟨xg_fr i1 rfl (fun n i hn => ?_), i2, ?_, by rw [hl]; omega⟩, fun j hj => ?_, fun j x hx => ?_⟩
  · rw [ax_pn (by omega), ax_pn (by omega)]; exact h1.2 n i q1 q2 q3
  · rw [ax_pn (by omega), ax_pn (by omega)]
  · rw [ax_pa, hl]; rfl
  · rw [ax_pn (by omega), ax_pn (by omega)]; exact h3 j hj
  · by_cases hlt : j < cs.length
    · rw [List.getElem?_append_left hlt] at hx
      rw [ax_pn (by omega), ax_pn (by omega)]; exact h4 j x hx
    · rw [List.getElem?_append_right (by omega)] at hx
      cases hj : j - cs.length with
      | zero =>
        rw [hj] at hx
        have e : w = x := by simpa using hx
        subst e
        rw [ax_pn (by omega), show k + j = k + cs.length by omega, ax_pa]
      | succ m => rw [hj] at hx; simp at hx
theorem xq_tr {B : Nat → Int32} {F : Nat} {M N N2 : ax_M} {z k b c : Nat} {cs ds : List (Int32 × Int32)} (h : xq B F M N z k b cs) (h2 : xq B F N N2 z (k + cs.length) c ds) : xq B F M N2 z k c (cs ++ ds) := by
  obtain ⟨a1, a2, a3, a4⟩ := h
  obtain ⟨b1, b2, b3, b4⟩ := h2
  refine ⟨ff_tr a1 b1, by rw [List.length_append, ← Nat.add_assoc]; exact b2, fun j hj => (b3 j (by omega)).trans (a3 j hj), fun j w hw => ?_⟩
  by_cases hlt : j < cs.length
  · rw [List.getElem?_append_left hlt] at hw
    rw [b3 _ (by omega)]; exact a4 j w hw
  · rw [List.getElem?_append_right (by omega)] at hw
    have := b4 (j - cs.length) w hw
    rw [show k + j = k + cs.length + (j - cs.length) by omega]; exact this
theorem xv_tr {B : Nat → Int32} {F : Nat} {M N N2 : ax_M} {z : Nat} {e : Nat × Nat} (h : ff F M N) (h2 : xv B F N N2 z e) : xv B F M N2 z e := ⟨ff_tr h h2.1, h2.2⟩
theorem xv_fail {B : Nat → Int32} {F : Nat} {M N N2 : ax_M} {z : Nat} {e : Nat × Nat} (h : ff F M N) (hf : af N N2) (hg : ∀ a2, a2 ≤ z → xg N2 z B (a2, some e)) : xv B F M N2 z e := ⟨ff_tr h (ff_af hf), hg⟩
theorem xv_of {B : Nat → Int32} {N : ax_M} {z p : Nat} {e : Nat × Nat} (h : xg N z B (p, some e)) : ∀ a2, a2 ≤ z → xg N z B (a2, some e) := fun a2 h2 => ⟨h.1, ⟨h2, fun e2 c => h.2.1.2 e2 c⟩, h.2.2⟩
theorem sgn_43 : sgn 43 := ⟨rfl, by decide⟩
theorem sgn_45 : sgn 45 := ⟨rfl, by decide⟩
theorem sgn_42 : sgn 42 := ⟨rfl, by decide⟩
theorem sgn_47 : sgn 47 := ⟨rfl, by decide⟩
theorem sgn_40 : sgn 40 := ⟨rfl, by decide⟩
theorem sgn_41 : sgn 41 := ⟨rfl, by decide⟩
theorem sgn_91 : sgn 91 := ⟨rfl, by decide⟩
theorem sgn_93 : sgn 93 := ⟨rfl, by decide⟩
theorem sgn_44 : sgn 44 := ⟨rfl, by decide⟩
section XF
variable {l : Launch} {G : ax_G} {M : ax_M} {z : Nat} {B : Nat → Int32} {F : Nat}
theorem c_xadd {d k : Nat} (hok : lo_ok M.2) (hF : xh_F F) (hk : M.1 F 1 = nI k) (hk2 : k < 150) (v : Int32) : ax_Met l G kX2_add d 0 0 M [av_r F, av_i v] (fun o M2 => o = .inl none ∧ M2 = ax_pI (ax_pI M (F + 1) k v) F 1 (nI (k + 1))) := by
  refine ax_body (by decide) (Nat.le_of_ble_eq_true rfl) ?_
  refine ax_aload_n dX2_add_0 rfl ?_
  refine ax_getI (f := 1) dX2_add_1 acl_2 wd_340 (by decide) rfl (xs_F_0 hF hok) ?_
  refine ax_aload_n dX2_add_4 rfl ?_
  refine ax_getK (f := 0) (F + 1) dX2_add_5 acl_2 wd_339 (by decide) rfl (xs_F_0 hF hok) (xr_F_0 hF hok) ?_
  refine ax_alen dX2_add_8 (xs_F_1 hF hok) (by decide) ?_
  rw [hk]
  refine ax_icmp_ge (tgt := 32) dX2_add_9 (by decide) (fun hc => ?_) (fun hc => ?_)
  · have := (nI_leI (by omega) (by omega)).mp hc
    omega
  clear hc
  refine ax_aload_n dX2_add_12 rfl ?_
  refine ax_getK (f := 0) (F + 1) dX2_add_13 acl_2 wd_339 (by decide) rfl (xs_F_0 hF hok) (xr_F_0 hF hok) ?_
  refine ax_aload_n dX2_add_16 rfl ?_
  refine ax_getI (f := 1) dX2_add_17 acl_2 wd_340 (by decide) rfl (xs_F_0 hF hok) ?_
  rw [hk]
  refine ax_iload_n dX2_add_20 rfl ?_
  refine ax_iastN (k) dX2_add_21 (xs_F_1 hF hok) (by decide) (by first | with_reducible rfl | assumption | exact ax_nix (by simp only [nx_0, nx_1, nx_2, nx_3, nx_4, nx_10, nx_20, nx_21, nx_100, nI_add, pk_mul] <;> rfl) (by omega) | decide) (by omega) ?_
  refine ax_gen (fun M1 hM1 => ?_)
  have hok : lo_ok M1.2 := by rw [hM1]; exact hok
  refine ax_aload_n dX2_add_22 rfl ?_
  refine ax_dup dX2_add_23 (by first | rfl | exact ax_crf _) ?_
  refine ax_getI (f := 1) dX2_add_24 acl_2 wd_340 (by decide) rfl (xs_F_0 hF hok) ?_
  rw [hM1, ax_pn (by omega), hk, ← hM1]
  refine ax_iconst (v := 1) dX2_add_27 (by decide) ?_
  refine ax_iadd dX2_add_28 ?_
  rw [nI_1]
  refine ax_putI (f := 1) dX2_add_29 acl_2 wd_340 (by decide) rfl rfl (ax_nfI rfl) (xs_F_0 hF hok) ?_
  refine ax_vret dX2_add_32 rfl ?_
  rw [hM1]
  exact ⟨rfl, rfl⟩
theorem c_xaddF {d k : Nat} (hok : lo_ok M.2) (hF : xh_F F) (hk : M.1 F 1 = nI k) (hk2 : k ≤ 150) (v : Int32) : ax_Met l G kX2_add d 0 0 M [av_r F, av_i v] (fun o M2 => o = .inl none ∧ M2.2 = M.2 ∧ ∀ n i, ¬ (n = F ∧ i = 1) → n ≠ F + 1 → M2.1 n i = M.1 n i) := by
  by_cases c : k < 150
  · refine ax_mono (c_xadd hok hF hk c v) ?_
    rintro o M2 ⟨h1, h2⟩
    exact ⟨h1, by rw [h2]; rfl, fun n i q2 q3 => by rw [h2, ax_pn (by omega), ax_pn (by omega)]⟩
  · refine ax_body (by decide) (Nat.le_of_ble_eq_true rfl) ?_
    refine ax_aload_n dX2_add_0 rfl ?_
    refine ax_getI (f := 1) dX2_add_1 acl_2 wd_340 (by decide) rfl (xs_F_0 hF hok) ?_
    refine ax_aload_n dX2_add_4 rfl ?_
    refine ax_getK (f := 0) (F + 1) dX2_add_5 acl_2 wd_339 (by decide) rfl (xs_F_0 hF hok) (xr_F_0 hF hok) ?_
    refine ax_alen dX2_add_8 (xs_F_1 hF hok) (by decide) ?_
    rw [hk]
    refine ax_icmp_ge (tgt := 32) dX2_add_9 (by decide) (fun hc => ?_) (fun hc => ?_)
    · refine ax_vret dX2_add_32 rfl ?_
      exact ⟨rfl, rfl, fun _ _ _ _ => rfl⟩
    · exact absurd ((nI_leI (by omega) (by omega)).mpr (by omega)) hc
set_option maxHeartbeats 1000000 in
theorem c_varOfMeeting {a : Nat} (h : xg M z B (a, none)) (n0 : ¬ tx_wd B z (tx_sk B z a) = [18, 5, 1, 3, 8]) (n1 : ¬ tx_wd B z (tx_sk B z a) = [6, 15, 7]) (n2 : ¬ tx_wd B z (tx_sk B z a) = [2, 12, 9, 14, 4]) (n3 : ¬ tx_wd B z (tx_sk B z a) = [1, 7, 5]) (n4 : ¬ tx_wd B z (tx_sk B z a) = [23, 5, 20]) (n5 : ¬ tx_wd B z (tx_sk B z a) = [20, 9, 12, 20]) : ax_Met l G kX2_variableOfMeeting 5 0 0 M [av_r 2] (ax_p (av_i (tx_ix (tx_wd B z (tx_sk B z a)) tx_knowns 0)) M) := by
  have hok := h.1.1
  refine ax_body (by decide) (Nat.le_of_ble_eq_true rfl) ?_
  refine ax_aload_n dX2_variableOfMeeting_0 rfl ?_
  refine ax_ldcT (j := 15) dX2_variableOfMeeting_1 rfl rfl rfl ?_
  refine ax_callVN (As := _) (d2 := _) (c1 := 0) (n1 := 0) (c_xisWord (j := 15) (ws := [16, 1, 3, 5]) (M := M) h rfl rfl rfl rfl) dX2_variableOfMeeting_3 mX6_isWord wd_1033 acl_6 (lo_s hok 2 rfl) rfl (by omega) (by omega) (by omega) rfl rfl (fun _ _ h => by cases h.1) ?_
  rintro r M9 ⟨h1, h9⟩; cases h1; rw [h9]; clear h9 M9
  refine ax_ifB_eq (tgt := 12) dX2_variableOfMeeting_6 (by decide) (fun hc => ?_) (fun hc => ?_)
  rotate_left
  · refine ax_bipush (v := 6) dX2_variableOfMeeting_9 (by decide) ?_
    refine ax_iret dX2_variableOfMeeting_11 rfl ?_
    exact ⟨by rw [hc]; rfl, rfl⟩
  have n6 := hc
  clear hc
  refine ax_aload_n dX2_variableOfMeeting_12 rfl ?_
  refine ax_ldcT (j := 16) dX2_variableOfMeeting_13 rfl rfl rfl ?_
  refine ax_callVN (As := _) (d2 := _) (c1 := 0) (n1 := 0) (c_xisWord (j := 16) (ws := [20, 5, 14, 20, 8]) (M := M) h rfl rfl rfl rfl) dX2_variableOfMeeting_15 mX6_isWord wd_1033 acl_6 (lo_s hok 2 rfl) rfl (by omega) (by omega) (by omega) rfl rfl (fun _ _ h => by cases h.1) ?_
  rintro r M9 ⟨h1, h9⟩; cases h1; rw [h9]; clear h9 M9
  refine ax_ifB_eq (tgt := 24) dX2_variableOfMeeting_18 (by decide) (fun hc => ?_) (fun hc => ?_)
  rotate_left
  · refine ax_bipush (v := 7) dX2_variableOfMeeting_21 (by decide) ?_
    refine ax_iret dX2_variableOfMeeting_23 rfl ?_
    exact ⟨by rw [hc]; rfl, rfl⟩
  have n7 := hc
  clear hc
  refine ax_aload_n dX2_variableOfMeeting_24 rfl ?_
  refine ax_ldcT (j := 17) dX2_variableOfMeeting_25 rfl rfl rfl ?_
  refine ax_callVN (As := _) (d2 := _) (c1 := 0) (n1 := 0) (c_xisWord (j := 17) (ws := [6, 1, 18]) (M := M) h rfl rfl rfl rfl) dX2_variableOfMeeting_27 mX6_isWord wd_1033 acl_6 (lo_s hok 2 rfl) rfl (by omega) (by omega) (by omega) rfl rfl (fun _ _ h => by cases h.1) ?_
  rintro r M9 ⟨h1, h9⟩; cases h1; rw [h9]; clear h9 M9
  refine ax_ifB_eq (tgt := 36) dX2_variableOfMeeting_30 (by decide) (fun hc => ?_) (fun hc => ?_)
  rotate_left
  · refine ax_bipush (v := 8) dX2_variableOfMeeting_33 (by decide) ?_
    refine ax_iret dX2_variableOfMeeting_35 rfl ?_
    exact ⟨by rw [hc]; rfl, rfl⟩
  have n8 := hc
  clear hc
  refine ax_aload_n dX2_variableOfMeeting_36 rfl ?_
  refine ax_ldcT (j := 18) dX2_variableOfMeeting_37 rfl rfl rfl ?_
  refine ax_callVN (As := _) (d2 := _) (c1 := 0) (n1 := 0) (c_xisWord (j := 18) (ws := [13, 5, 20]) (M := M) h rfl rfl rfl rfl) dX2_variableOfMeeting_39 mX6_isWord wd_1033 acl_6 (lo_s hok 2 rfl) rfl (by omega) (by omega) (by omega) rfl rfl (fun _ _ h => by cases h.1) ?_
  rintro r M9 ⟨h1, h9⟩; cases h1; rw [h9]; clear h9 M9
  refine ax_ifB_eq (tgt := 48) dX2_variableOfMeeting_42 (by decide) (fun hc => ?_) (fun hc => ?_)
  rotate_left
  · refine ax_bipush (v := 9) dX2_variableOfMeeting_45 (by decide) ?_
    refine ax_iret dX2_variableOfMeeting_47 rfl ?_
    exact ⟨by rw [hc]; rfl, rfl⟩
  have n9 := hc
  clear hc
  refine ax_aload_n dX2_variableOfMeeting_48 rfl ?_
  refine ax_ldcT (j := 19) dX2_variableOfMeeting_49 rfl rfl rfl ?_
  refine ax_callVN (As := _) (d2 := _) (c1 := 0) (n1 := 0) (c_xisWord (j := 19) (ws := [15, 20, 8, 5, 18]) (M := M) h rfl rfl rfl rfl) dX2_variableOfMeeting_51 mX6_isWord wd_1033 acl_6 (lo_s hok 2 rfl) rfl (by omega) (by omega) (by omega) rfl rfl (fun _ _ h => by cases h.1) ?_
  rintro r M9 ⟨h1, h9⟩; cases h1; rw [h9]; clear h9 M9
  refine ax_ifB_eq (tgt := 60) dX2_variableOfMeeting_54 (by decide) (fun hc => ?_) (fun hc => ?_)
  rotate_left
  · refine ax_bipush (v := 10) dX2_variableOfMeeting_57 (by decide) ?_
    refine ax_iret dX2_variableOfMeeting_59 rfl ?_
    exact ⟨by rw [hc]; rfl, rfl⟩
  have n10 := hc
  clear hc
  refine ax_aload_n dX2_variableOfMeeting_60 rfl ?_
  refine ax_ldcT (j := 20) dX2_variableOfMeeting_61 rfl rfl rfl ?_
  refine ax_callVN (As := _) (d2 := _) (c1 := 0) (n1 := 0) (c_xisWord (j := 20) (ws := [13, 9, 14, 5]) (M := M) h rfl rfl rfl rfl) dX2_variableOfMeeting_63 mX6_isWord wd_1033 acl_6 (lo_s hok 2 rfl) rfl (by omega) (by omega) (by omega) rfl rfl (fun _ _ h => by cases h.1) ?_
  rintro r M9 ⟨h1, h9⟩; cases h1; rw [h9]; clear h9 M9
  refine ax_ifB_eq (tgt := 74) dX2_variableOfMeeting_66 (by decide) (fun hc => ?_) (fun hc => ?_)
  rotate_left
  · refine ax_bipush (v := 11) dX2_variableOfMeeting_69 (by decide) ?_
    refine ax_goto (tgt := 75) dX2_variableOfMeeting_71 (by decide) ?_
    refine ax_iret dX2_variableOfMeeting_75 rfl ?_
    exact ⟨by rw [hc]; rfl, rfl⟩
  have n11 := hc
  clear hc
  refine ax_iconst (v := (-1)) dX2_variableOfMeeting_74 (by decide) ?_
  refine ax_iret dX2_variableOfMeeting_75 rfl ?_
  refine ⟨?_, rfl⟩
  unfold tx_knowns tx_ix
  simp only [tx_ix, if_neg n0, if_neg n1, if_neg n2, if_neg n3, if_neg n4, if_neg n5, if_neg n6, if_neg n7, if_neg n8, if_neg n9, if_neg n10, if_neg n11]
set_option maxHeartbeats 1000000 in
theorem c_variableOf {a : Nat} (h : xg M z B (a, none)) : ax_Met l G kX2_variableOf 6 0 0 M [av_r 2] (ax_p (av_i (tx_ix (tx_wd B z (tx_sk B z a)) tx_knowns 0)) M) := by
  have hok := h.1.1
  obtain ⟨ht, h7, h8, haz⟩ := xg_t h
  have hsk := tx_sk_z (B := B) haz
  have h600 := h.1.2.2.1
  have h3 := tk_3 (B := B) (z := z) (b := tx_sk B z a)
  refine ax_body (by decide) (Nat.le_of_ble_eq_true rfl) ?_
  refine ax_aload_n dX2_variableOf_0 rfl ?_
  refine ax_getIN (f := 5) dX2_variableOf_1 acl_6 wd_214 (by decide) rfl (lo_s hok 2 rfl) ?_
  refine ax_iconst (v := 2) dX2_variableOf_4 (by decide) ?_
  rw [ht.2.1]
  refine ax_icmp_eq (tgt := 10) dX2_variableOf_5 (by decide) (fun hc => ?_) (fun hc => ?_)
  rotate_left
  · have hne : ¬ tk B z (tx_sk B z a) = 2 := fun q => hc (by rw [q]; rfl)
    refine ax_iconst (v := (-1)) dX2_variableOf_8 (by decide) ?_
    refine ax_iret dX2_variableOf_9 rfl ?_
    refine ⟨?_, rfl⟩
    have e : tx_wd B z (tx_sk B z a) = [] := by
      have h2 := tk_sm (b := tx_sk B z a) h.1.2.2.2.1 (by omega)
      unfold tx_wd
      cases e : z - tx_sk B z a with
      | zero => rfl
      | succ n => rw [tx_w_s, if_neg (fun q => hne (h2.mpr q))]
    rw [e]; rfl
  clear hc
  refine ax_aload_n dX2_variableOf_10 rfl ?_
  refine ax_ldcT (j := 9) dX2_variableOf_11 rfl rfl rfl ?_
  refine ax_callVN (As := _) (d2 := _) (c1 := 0) (n1 := 0) (c_xisWord (j := 9) (ws := [18, 5, 1, 3, 8]) (M := M) h rfl rfl rfl rfl) dX2_variableOf_13 mX6_isWord wd_1033 acl_6 (lo_s hok 2 rfl) rfl (by omega) (by omega) (by omega) rfl rfl (fun _ _ h => by cases h.1) ?_
  rintro r M9 ⟨h1, h9⟩; cases h1; rw [h9]; clear h9 M9
  refine ax_ifB_eq (tgt := 21) dX2_variableOf_16 (by decide) (fun hc => ?_) (fun hc => ?_)
  rotate_left
  · refine ax_iconst (v := 0) dX2_variableOf_19 (by decide) ?_
    refine ax_iret dX2_variableOf_20 rfl ?_
    exact ⟨by rw [hc]; rfl, rfl⟩
  have n0 := hc
  clear hc
  refine ax_aload_n dX2_variableOf_21 rfl ?_
  refine ax_ldcT (j := 10) dX2_variableOf_22 rfl rfl rfl ?_
  refine ax_callVN (As := _) (d2 := _) (c1 := 0) (n1 := 0) (c_xisWord (j := 10) (ws := [6, 15, 7]) (M := M) h rfl rfl rfl rfl) dX2_variableOf_24 mX6_isWord wd_1033 acl_6 (lo_s hok 2 rfl) rfl (by omega) (by omega) (by omega) rfl rfl (fun _ _ h => by cases h.1) ?_
  rintro r M9 ⟨h1, h9⟩; cases h1; rw [h9]; clear h9 M9
  refine ax_ifB_eq (tgt := 32) dX2_variableOf_27 (by decide) (fun hc => ?_) (fun hc => ?_)
  rotate_left
  · refine ax_iconst (v := 1) dX2_variableOf_30 (by decide) ?_
    refine ax_iret dX2_variableOf_31 rfl ?_
    exact ⟨by rw [hc]; rfl, rfl⟩
  have n1 := hc
  clear hc
  refine ax_aload_n dX2_variableOf_32 rfl ?_
  refine ax_ldcT (j := 11) dX2_variableOf_33 rfl rfl rfl ?_
  refine ax_callVN (As := _) (d2 := _) (c1 := 0) (n1 := 0) (c_xisWord (j := 11) (ws := [2, 12, 9, 14, 4]) (M := M) h rfl rfl rfl rfl) dX2_variableOf_35 mX6_isWord wd_1033 acl_6 (lo_s hok 2 rfl) rfl (by omega) (by omega) (by omega) rfl rfl (fun _ _ h => by cases h.1) ?_
  rintro r M9 ⟨h1, h9⟩; cases h1; rw [h9]; clear h9 M9
  refine ax_ifB_eq (tgt := 43) dX2_variableOf_38 (by decide) (fun hc => ?_) (fun hc => ?_)
  rotate_left
  · refine ax_iconst (v := 2) dX2_variableOf_41 (by decide) ?_
    refine ax_iret dX2_variableOf_42 rfl ?_
    exact ⟨by rw [hc]; rfl, rfl⟩
  have n2 := hc
  clear hc
  refine ax_aload_n dX2_variableOf_43 rfl ?_
  refine ax_ldcT (j := 12) dX2_variableOf_44 rfl rfl rfl ?_
  refine ax_callVN (As := _) (d2 := _) (c1 := 0) (n1 := 0) (c_xisWord (j := 12) (ws := [1, 7, 5]) (M := M) h rfl rfl rfl rfl) dX2_variableOf_46 mX6_isWord wd_1033 acl_6 (lo_s hok 2 rfl) rfl (by omega) (by omega) (by omega) rfl rfl (fun _ _ h => by cases h.1) ?_
  rintro r M9 ⟨h1, h9⟩; cases h1; rw [h9]; clear h9 M9
  refine ax_ifB_eq (tgt := 54) dX2_variableOf_49 (by decide) (fun hc => ?_) (fun hc => ?_)
  rotate_left
  · refine ax_iconst (v := 3) dX2_variableOf_52 (by decide) ?_
    refine ax_iret dX2_variableOf_53 rfl ?_
    exact ⟨by rw [hc]; rfl, rfl⟩
  have n3 := hc
  clear hc
  refine ax_aload_n dX2_variableOf_54 rfl ?_
  refine ax_ldcT (j := 13) dX2_variableOf_55 rfl rfl rfl ?_
  refine ax_callVN (As := _) (d2 := _) (c1 := 0) (n1 := 0) (c_xisWord (j := 13) (ws := [23, 5, 20]) (M := M) h rfl rfl rfl rfl) dX2_variableOf_57 mX6_isWord wd_1033 acl_6 (lo_s hok 2 rfl) rfl (by omega) (by omega) (by omega) rfl rfl (fun _ _ h => by cases h.1) ?_
  rintro r M9 ⟨h1, h9⟩; cases h1; rw [h9]; clear h9 M9
  refine ax_ifB_eq (tgt := 65) dX2_variableOf_60 (by decide) (fun hc => ?_) (fun hc => ?_)
  rotate_left
  · refine ax_iconst (v := 4) dX2_variableOf_63 (by decide) ?_
    refine ax_iret dX2_variableOf_64 rfl ?_
    exact ⟨by rw [hc]; rfl, rfl⟩
  have n4 := hc
  clear hc
  refine ax_aload_n dX2_variableOf_65 rfl ?_
  refine ax_ldcT (j := 14) dX2_variableOf_66 rfl rfl rfl ?_
  refine ax_callVN (As := _) (d2 := _) (c1 := 0) (n1 := 0) (c_xisWord (j := 14) (ws := [20, 9, 12, 20]) (M := M) h rfl rfl rfl rfl) dX2_variableOf_68 mX6_isWord wd_1033 acl_6 (lo_s hok 2 rfl) rfl (by omega) (by omega) (by omega) rfl rfl (fun _ _ h => by cases h.1) ?_
  rintro r M9 ⟨h1, h9⟩; cases h1; rw [h9]; clear h9 M9
  refine ax_ifB_eq (tgt := 76) dX2_variableOf_71 (by decide) (fun hc => ?_) (fun hc => ?_)
  rotate_left
  · refine ax_iconst (v := 5) dX2_variableOf_74 (by decide) ?_
    refine ax_iret dX2_variableOf_75 rfl ?_
    exact ⟨by rw [hc]; rfl, rfl⟩
  have n5 := hc
  clear hc
  refine ax_aload_n dX2_variableOf_76 rfl ?_
  refine ax_callS (As := _) (c1 := 0) (n1 := 0) (c_varOfMeeting (M := M) h n0 n1 n2 n3 n4 n5) dX2_variableOf_77 mX2_variableOfMeeting wd_1039 rfl (by omega) (by omega) (by omega) rfl rfl (fun _ _ h => by cases h.1) ?_
  rintro r M9 ⟨h1, h9⟩; cases h1; rw [h9]; clear h9 M9
  refine ax_iret dX2_variableOf_80 rfl ?_
  exact ⟨rfl, rfl⟩
set_option maxHeartbeats 2000000 in
theorem c_readProduct {D : Nat} {u : Nat → ps_R} {op : Int32} (hF : xh_F F) (hB : ps_B B z) (hu : ps_gd z u) (hC : ∀ (M : ax_M) (a k : Nat), xi B M z a k F → ax_Met l G kX2_readUnit (D + 5) 0 0 M [av_r F, av_r 2, av_i op] (fun o M2 => xo B F M M2 z k o (u a))) {a k : Nat} (hi : xi B M z a k F) : ax_Met l G kX2_readProduct (D + 6) 0 0 M [av_r F, av_r 2, av_i op] (fun o M2 => xo B F M M2 z k o (ps_th (u a) (fun b cs => ps_many B z u 42 47 4 5 ps_fu b cs))) := by
  have hok := hi.1.1.1
  have h150 := hi.2.1
  have hua := hu a hi.1.2.1.1
  generalize hQ : (fun (o : ax_O) (M2 : ax_M) => xo B F M M2 z k o (ps_th (u a) (fun b cs => ps_many B z u 42 47 4 5 ps_fu b cs))) = Q
  have bad : ∀ (N : ax_M) (e : Nat × Nat), ps_th (u a) (fun b cs => ps_many B z u 42 47 4 5 ps_fu b cs) = .inl e → xv B F M N z e → Q (.inl (some (av_i 0))) N := by
    intro N e h1 h2
    rw [← hQ]
    show xo B F M N z k _ _
    rw [h1]
    exact ⟨rfl, h2⟩
  have good : ∀ (N : ax_M) (b : Nat) (cs : List (Int32 × Int32)), ps_th (u a) (fun b cs => ps_many B z u 42 47 4 5 ps_fu b cs) = .inr (b, cs) → xq B F M N z k b cs → Q (.inl (some (av_i 1))) N := by
    intro N b cs h1 h2
    rw [← hQ]
    show xo B F M N z k _ _
    rw [h1]
    exact ⟨rfl, h2⟩
  have loop : ∀ (n i b : Nat) (cs : List (Int32 × Int32)) (N : ax_M) (y : Option ax_V), z < n + b → i < b → xq B F M N z k b cs → ps_many B z u 42 47 4 5 n b cs = ps_th (u a) (fun b cs => ps_many B z u 42 47 4 5 ps_fu b cs) → ax_W l G kX2_readProduct (ax_FQ G Q) (D + 6) 0 0 N 13 [some (av_r F), some (av_r 2), some (av_i op), some (av_i (nI i)), y] [] := by
    intro n
    induction n with
    | zero =>
      intro i b cs N y hn hib h1 h2
      exact absurd h1.2.1.1.2.1.1 (by show ¬ b ≤ z; omega)
    | succ n ih =>
      intro i b cs N y hn hib h1 hm
      have hi1 := h1.2.1
      have hg1 := hi1.1
      have hok := hg1.1.1
      have hbz : b ≤ z := hg1.2.1.1
      have hsz := tx_sk_z (B := B) hbz
      have hsb : b ≤ tx_sk B z b := tx_sk_ge
      have hkb : k + cs.length ≤ b := hi1.2.2.2
      have ht := xg_t hg1
      refine ax_iload_n dX2_readProduct_13 rfl ?_
      refine ax_sipush (v := 150) dX2_readProduct_14 (by decide) ?_
      refine ax_icmp_ge (tgt := 79) dX2_readProduct_17 (by decide) (fun hc => ?_) (fun hc => ?_)
      · have := (nI_leI (a := 150) (by omega) (by omega)).mp hc
        omega
      clear hc
      -- one more
      have more : ∀ (h : Int32) (v4 : Int32) (x : Int32), B (tx_sk B z b) = x → sgn x → (if v4 = 0 then 3 else 2) = enc (h, 0) → ps_th (u (tx_sk B z b + 1)) (fun b ds => ps_many B z u 42 47 4 5 n b (cs ++ ds ++ [(h, 0)])) = ps_th (u a) (fun b cs => ps_many B z u 42 47 4 5 ps_fu b cs) → ax_W l G kX2_readProduct (ax_FQ G Q) (D + 6) 0 0 N 44 [some (av_r F), some (av_r 2), some (av_i op), some (av_i (nI i)), some (av_i v4)] [] := by
        intro h v4 x hx hsg hv4 hm2
        have hlt := ps_in_z (i := tx_sk B z b) hB (by omega) (by rw [hx]; exact hsg.2)
        have hg := hu (tx_sk B z b + 1) (by omega)
        have h3 := ((tk_sg (b := tx_sk B z b) hB (by omega) hsg).mpr hx).1
        refine ax_aload_n dX2_readProduct_44 rfl ?_
        refine ax_callVN (As := _) (d2 := _) (c1 := 0) (n1 := 0) (c_adv (M := N) (a := tx_sk B z b + 1) hg1 (by rw [ht.1.2.2.1]; unfold ta; rw [if_pos h3]) (by omega)) dX2_readProduct_45 mX6_advance wd_1048 acl_6 (lo_s hok 2 rfl) rfl (by omega) (by omega) (by omega) rfl rfl (fun _ _ h => by cases h.1) ?_
        rintro o9 N2 ⟨h4, f2, g2⟩; cases h4
        have h5 := xq_af hF h1 f2 g2 (by omega)
        have hok := g2.1.1
        refine ax_aload_n dX2_readProduct_48 rfl ?_
        refine ax_aload_n dX2_readProduct_49 rfl ?_
        refine ax_iload_n dX2_readProduct_50 rfl ?_
        refine ax_callV (As := _) (d2 := _) (c1 := 0) (n1 := 0) (hC N2 (tx_sk B z b + 1) (k + cs.length) h5.2.1) dX2_readProduct_51 mX2_readUnit wd_1024 acl_2 (xs_F_0 hF hok) rfl (by omega) (by omega) (by omega) rfl rfl (fun E M9 h9 => by cases hx9 : u (tx_sk B z b + 1) <;> rw [hx9] at h9 <;> cases h9.1) ?_
        intro o9 N3 h6
        cases hy : u (tx_sk B z b + 1) with
        | inl e =>
          rw [hy] at h6 hm2
          obtain ⟨h7, h8⟩ := h6
          cases h7
          have hok : lo_ok N3.2 := by rw [h8.1.1]; exact hok
          refine ax_if_ne (tgt := 59) dX2_readProduct_54 (by decide) (fun hc => ?_) (fun hc => ?_)
          · exact absurd rfl hc
          · refine ax_iconst (v := 0) dX2_readProduct_57 (by decide) ?_
            refine ax_zret dX2_readProduct_58 rfl ?_ ?_
            · exact Or.inl rfl
            · exact bad N3 e hm2.symm (xv_tr h5.1 h8)
        | inr q =>
          obtain ⟨b2, ds⟩ := q
          rw [hy] at h6 hm2 hg
          obtain ⟨h7, h8⟩ := h6
          cases h7
          have hg1 : tx_sk B z b + 1 + ds.length ≤ b2 ∧ b2 ≤ z ∧ tx_sk B z b + 1 < b2 := hg
          have h9 := xq_tr h5 h8
          have hok := h9.2.1.1.1.1
          have e1 := h9.2.1.2.2.1
          refine ax_if_ne (tgt := 59) dX2_readProduct_54 (by decide) (fun hc => ?_) (fun hc => ?_)
          · refine ax_aload_n dX2_readProduct_59 rfl ?_
            refine ax_iload dX2_readProduct_60 rfl ?_
            have ad : ∀ v : Int32, v = enc (h, 0) → ax_W l G kX2_readProduct (ax_FQ G Q) (D + 6) 0 0 N3 70 [some (av_r F), some (av_r 2), some (av_i op), some (av_i (nI i)), some (av_i v4)] [av_i v, av_r F] := by
              intro v hv
              refine ax_callV (As := _) (d2 := _) (c1 := 0) (n1 := 0) (c_xadd (d := 0) (M := N3) (k := k + (cs ++ ds).length) hok hF e1 (by rw [List.length_append]; omega) v) dX2_readProduct_70 mX2_add wd_357 acl_2 (xs_F_0 hF hok) rfl (by omega) (by omega) (by omega) rfl rfl (fun _ _ h => by cases h.1) ?_
              rintro o9 N4 ⟨h10, h11⟩; cases h10
              refine ax_iinc (v := 1) dX2_readProduct_73 rfl (by decide) (by decide) rfl ?_
              refine ax_goto (tgt := 13) dX2_readProduct_76 (by decide) ?_
              rw [nI_1]
              have h12 := xq_add hF h9 (by rw [List.length_append]; omega) hv h11
              exact ih (i + 1) b2 _ N4 _ (by omega) (by omega) h12 hm2
            refine ax_if_eq (tgt := 69) dX2_readProduct_62 (by decide) (fun hc => ?_) (fun hc => ?_)
            · refine ax_iconst (v := 3) dX2_readProduct_69 (by decide) ?_
              exact ad 3 (by rw [← hv4, if_pos hc])
            · refine ax_iconst (v := 2) dX2_readProduct_65 (by decide) ?_
              refine ax_goto (tgt := 70) dX2_readProduct_66 (by decide) ?_
              exact ad 2 (by rw [← hv4, if_neg hc])
          · exact absurd hc (by decide)
      refine ax_aload_n dX2_readProduct_20 rfl ?_
      refine ax_bipush (v := 42) dX2_readProduct_21 (by decide) ?_
      refine ax_callVN (As := _) (d2 := _) (c1 := 0) (n1 := 0) (c_isSign (d := 0) (M := N) (c := 42) hg1 sgn_42) dX2_readProduct_23 mX6_isSign wd_1051 acl_6 (lo_s hok 2 rfl) rfl (by omega) (by omega) (by omega) rfl rfl (fun _ _ h => by cases h.1) ?_
      rintro r M9 ⟨h1, h9⟩; cases h1; rw [h9]; clear h9 M9
      refine ax_istore dX2_readProduct_26 (by decide) rfl ?_
      refine ax_iload dX2_readProduct_28 rfl ?_
      refine ax_ifB_ne (tgt := 44) dX2_readProduct_30 (by decide) (fun hc => ?_) (fun hc => ?_)
      · refine more 4 _ 42 hc sgn_42 (by rw [if_pos hc]; rfl) ?_
        rw [← hm]
        show _ = if _ then _ else _
        rw [if_pos hc]
      have hn1 := hc
      clear hc
      rw [if_neg hn1]
      refine ax_aload_n dX2_readProduct_33 rfl ?_
      refine ax_bipush (v := 47) dX2_readProduct_34 (by decide) ?_
      refine ax_callVN (As := _) (d2 := _) (c1 := 0) (n1 := 0) (c_isSign (d := 0) (M := N) (c := 47) hg1 sgn_47) dX2_readProduct_36 mX6_isSign wd_1051 acl_6 (lo_s hok 2 rfl) rfl (by omega) (by omega) (by omega) rfl rfl (fun _ _ h => by cases h.1) ?_
      rintro r M9 ⟨h1, h9⟩; cases h1; rw [h9]; clear h9 M9
      refine ax_ifB_ne (tgt := 44) dX2_readProduct_39 (by decide) (fun hc => ?_) (fun hc => ?_)
      · refine more 5 0 47 hc sgn_47 rfl ?_
        rw [← hm]
        show _ = if _ then _ else if _ then _ else _
        rw [if_neg hn1, if_pos hc]
      · refine ax_iconst (v := 1) dX2_readProduct_42 (by decide) ?_
        refine ax_zret dX2_readProduct_43 rfl ?_ ?_
        · exact Or.inr rfl
        · refine good N _ _ ?_ (xq_sk h1)
          rw [← hm]
          show (if _ then _ else if _ then _ else _) = _
          rw [if_neg hn1, if_neg hc]
  refine ax_body (by decide) (Nat.le_of_ble_eq_true rfl) ?_
  refine ax_aload_n dX2_readProduct_0 rfl ?_
  refine ax_aload_n dX2_readProduct_1 rfl ?_
  refine ax_iload_n dX2_readProduct_2 rfl ?_
  refine ax_callV (As := _) (d2 := _) (c1 := 0) (n1 := 0) (hC M a k hi) dX2_readProduct_3 mX2_readUnit wd_1024 acl_2 (xs_F_0 hF hok) rfl (by omega) (by omega) (by omega) rfl rfl (fun E M9 h9 => by cases hx9 : u a <;> rw [hx9] at h9 <;> cases h9.1) ?_
  intro o9 N3 h6
  cases hy : u a with
  | inl e =>
    rw [hy] at h6
    obtain ⟨h7, h8⟩ := h6
    cases h7
    have hok : lo_ok N3.2 := by rw [h8.1.1]; exact hok
    refine ax_if_ne (tgt := 11) dX2_readProduct_6 (by decide) (fun hc => ?_) (fun hc => ?_)
    · exact absurd rfl hc
    · refine ax_iconst (v := 0) dX2_readProduct_9 (by decide) ?_
      refine ax_zret dX2_readProduct_10 rfl ?_ ?_
      · exact Or.inl rfl
      · exact bad N3 e (by rw [hy, ps_th_l]) h8
  | inr q =>
    obtain ⟨b2, ds⟩ := q
    rw [hy] at h6 hua
    obtain ⟨h7, h8⟩ := h6
    cases h7
    have hu1 : a + ds.length ≤ b2 ∧ b2 ≤ z ∧ a < b2 := hua
    have hok := h8.2.1.1.1.1
    refine ax_if_ne (tgt := 11) dX2_readProduct_6 (by decide) (fun hc => ?_) (fun hc => ?_)
    · refine ax_iconst (v := 0) dX2_readProduct_11 (by decide) ?_
      refine ax_istore_n dX2_readProduct_12 (by decide) rfl ?_
      exact loop ps_fu 0 b2 ds N3 _ (by rw [ps_fu_eq]; omega) (by omega) h8 (by rw [hy, ps_th_r])
    · exact absurd hc (by decide)
set_option maxHeartbeats 2000000 in
theorem c_readSum {D : Nat} {u : Nat → ps_R} {op : Int32} (hF : xh_F F) (hB : ps_B B z) (hu : ps_gd z u) (hC : ∀ (M : ax_M) (a k : Nat), xi B M z a k F → ax_Met l G kX2_readProduct (D + 5) 0 0 M [av_r F, av_r 2, av_i op] (fun o M2 => xo B F M M2 z k o (u a))) {a k : Nat} (hi : xi B M z a k F) : ax_Met l G kX2_readSum (D + 6) 0 0 M [av_r F, av_r 2, av_i op] (fun o M2 => xo B F M M2 z k o (ps_th (u a) (fun b cs => ps_many B z u 43 45 2 3 ps_fu b cs))) := by
  have hok := hi.1.1.1
  have h150 := hi.2.1
  have hua := hu a hi.1.2.1.1
  generalize hQ : (fun (o : ax_O) (M2 : ax_M) => xo B F M M2 z k o (ps_th (u a) (fun b cs => ps_many B z u 43 45 2 3 ps_fu b cs))) = Q
  have bad : ∀ (N : ax_M) (e : Nat × Nat), ps_th (u a) (fun b cs => ps_many B z u 43 45 2 3 ps_fu b cs) = .inl e → xv B F M N z e → Q (.inl (some (av_i 0))) N := by
    intro N e h1 h2
    rw [← hQ]
    show xo B F M N z k _ _
    rw [h1]
    exact ⟨rfl, h2⟩
  have good : ∀ (N : ax_M) (b : Nat) (cs : List (Int32 × Int32)), ps_th (u a) (fun b cs => ps_many B z u 43 45 2 3 ps_fu b cs) = .inr (b, cs) → xq B F M N z k b cs → Q (.inl (some (av_i 1))) N := by
    intro N b cs h1 h2
    rw [← hQ]
    show xo B F M N z k _ _
    rw [h1]
    exact ⟨rfl, h2⟩
  have loop : ∀ (n i b : Nat) (cs : List (Int32 × Int32)) (N : ax_M) (y : Option ax_V), z < n + b → i < b → xq B F M N z k b cs → ps_many B z u 43 45 2 3 n b cs = ps_th (u a) (fun b cs => ps_many B z u 43 45 2 3 ps_fu b cs) → ax_W l G kX2_readSum (ax_FQ G Q) (D + 6) 0 0 N 13 [some (av_r F), some (av_r 2), some (av_i op), some (av_i (nI i)), y] [] := by
    intro n
    induction n with
    | zero =>
      intro i b cs N y hn hib h1 h2
      exact absurd h1.2.1.1.2.1.1 (by show ¬ b ≤ z; omega)
    | succ n ih =>
      intro i b cs N y hn hib h1 hm
      have hi1 := h1.2.1
      have hg1 := hi1.1
      have hok := hg1.1.1
      have hbz : b ≤ z := hg1.2.1.1
      have hsz := tx_sk_z (B := B) hbz
      have hsb : b ≤ tx_sk B z b := tx_sk_ge
      have hkb : k + cs.length ≤ b := hi1.2.2.2
      have ht := xg_t hg1
      refine ax_iload_n dX2_readSum_13 rfl ?_
      refine ax_sipush (v := 150) dX2_readSum_14 (by decide) ?_
      refine ax_icmp_ge (tgt := 79) dX2_readSum_17 (by decide) (fun hc => ?_) (fun hc => ?_)
      · have := (nI_leI (a := 150) (by omega) (by omega)).mp hc
        omega
      clear hc
      -- one more
      have more : ∀ (h : Int32) (v4 : Int32) (x : Int32), B (tx_sk B z b) = x → sgn x → (if v4 = 0 then 1 else 0) = enc (h, 0) → ps_th (u (tx_sk B z b + 1)) (fun b ds => ps_many B z u 43 45 2 3 n b (cs ++ ds ++ [(h, 0)])) = ps_th (u a) (fun b cs => ps_many B z u 43 45 2 3 ps_fu b cs) → ax_W l G kX2_readSum (ax_FQ G Q) (D + 6) 0 0 N 44 [some (av_r F), some (av_r 2), some (av_i op), some (av_i (nI i)), some (av_i v4)] [] := by
        intro h v4 x hx hsg hv4 hm2
        have hlt := ps_in_z (i := tx_sk B z b) hB (by omega) (by rw [hx]; exact hsg.2)
        have hg := hu (tx_sk B z b + 1) (by omega)
        have h3 := ((tk_sg (b := tx_sk B z b) hB (by omega) hsg).mpr hx).1
        refine ax_aload_n dX2_readSum_44 rfl ?_
        refine ax_callVN (As := _) (d2 := _) (c1 := 0) (n1 := 0) (c_adv (M := N) (a := tx_sk B z b + 1) hg1 (by rw [ht.1.2.2.1]; unfold ta; rw [if_pos h3]) (by omega)) dX2_readSum_45 mX6_advance wd_1048 acl_6 (lo_s hok 2 rfl) rfl (by omega) (by omega) (by omega) rfl rfl (fun _ _ h => by cases h.1) ?_
        rintro o9 N2 ⟨h4, f2, g2⟩; cases h4
        have h5 := xq_af hF h1 f2 g2 (by omega)
        have hok := g2.1.1
        refine ax_aload_n dX2_readSum_48 rfl ?_
        refine ax_aload_n dX2_readSum_49 rfl ?_
        refine ax_iload_n dX2_readSum_50 rfl ?_
        refine ax_callV (As := _) (d2 := _) (c1 := 0) (n1 := 0) (hC N2 (tx_sk B z b + 1) (k + cs.length) h5.2.1) dX2_readSum_51 mX2_readProduct wd_1020 acl_2 (xs_F_0 hF hok) rfl (by omega) (by omega) (by omega) rfl rfl (fun E M9 h9 => by cases hx9 : u (tx_sk B z b + 1) <;> rw [hx9] at h9 <;> cases h9.1) ?_
        intro o9 N3 h6
        cases hy : u (tx_sk B z b + 1) with
        | inl e =>
          rw [hy] at h6 hm2
          obtain ⟨h7, h8⟩ := h6
          cases h7
          have hok : lo_ok N3.2 := by rw [h8.1.1]; exact hok
          refine ax_if_ne (tgt := 59) dX2_readSum_54 (by decide) (fun hc => ?_) (fun hc => ?_)
          · exact absurd rfl hc
          · refine ax_iconst (v := 0) dX2_readSum_57 (by decide) ?_
            refine ax_zret dX2_readSum_58 rfl ?_ ?_
            · exact Or.inl rfl
            · exact bad N3 e hm2.symm (xv_tr h5.1 h8)
        | inr q =>
          obtain ⟨b2, ds⟩ := q
          rw [hy] at h6 hm2 hg
          obtain ⟨h7, h8⟩ := h6
          cases h7
          have hg1 : tx_sk B z b + 1 + ds.length ≤ b2 ∧ b2 ≤ z ∧ tx_sk B z b + 1 < b2 := hg
          have h9 := xq_tr h5 h8
          have hok := h9.2.1.1.1.1
          have e1 := h9.2.1.2.2.1
          refine ax_if_ne (tgt := 59) dX2_readSum_54 (by decide) (fun hc => ?_) (fun hc => ?_)
          · refine ax_aload_n dX2_readSum_59 rfl ?_
            refine ax_iload dX2_readSum_60 rfl ?_
            have ad : ∀ v : Int32, v = enc (h, 0) → ax_W l G kX2_readSum (ax_FQ G Q) (D + 6) 0 0 N3 70 [some (av_r F), some (av_r 2), some (av_i op), some (av_i (nI i)), some (av_i v4)] [av_i v, av_r F] := by
              intro v hv
              refine ax_callV (As := _) (d2 := _) (c1 := 0) (n1 := 0) (c_xadd (d := 0) (M := N3) (k := k + (cs ++ ds).length) hok hF e1 (by rw [List.length_append]; omega) v) dX2_readSum_70 mX2_add wd_357 acl_2 (xs_F_0 hF hok) rfl (by omega) (by omega) (by omega) rfl rfl (fun _ _ h => by cases h.1) ?_
              rintro o9 N4 ⟨h10, h11⟩; cases h10
              refine ax_iinc (v := 1) dX2_readSum_73 rfl (by decide) (by decide) rfl ?_
              refine ax_goto (tgt := 13) dX2_readSum_76 (by decide) ?_
              rw [nI_1]
              have h12 := xq_add hF h9 (by rw [List.length_append]; omega) hv h11
              exact ih (i + 1) b2 _ N4 _ (by omega) (by omega) h12 hm2
            refine ax_if_eq (tgt := 69) dX2_readSum_62 (by decide) (fun hc => ?_) (fun hc => ?_)
            · refine ax_iconst (v := 1) dX2_readSum_69 (by decide) ?_
              exact ad 1 (by rw [← hv4, if_pos hc])
            · refine ax_iconst (v := 0) dX2_readSum_65 (by decide) ?_
              refine ax_goto (tgt := 70) dX2_readSum_66 (by decide) ?_
              exact ad 0 (by rw [← hv4, if_neg hc])
          · exact absurd hc (by decide)
      refine ax_aload_n dX2_readSum_20 rfl ?_
      refine ax_bipush (v := 43) dX2_readSum_21 (by decide) ?_
      refine ax_callVN (As := _) (d2 := _) (c1 := 0) (n1 := 0) (c_isSign (d := 0) (M := N) (c := 43) hg1 sgn_43) dX2_readSum_23 mX6_isSign wd_1051 acl_6 (lo_s hok 2 rfl) rfl (by omega) (by omega) (by omega) rfl rfl (fun _ _ h => by cases h.1) ?_
      rintro r M9 ⟨h1, h9⟩; cases h1; rw [h9]; clear h9 M9
      refine ax_istore dX2_readSum_26 (by decide) rfl ?_
      refine ax_iload dX2_readSum_28 rfl ?_
      refine ax_ifB_ne (tgt := 44) dX2_readSum_30 (by decide) (fun hc => ?_) (fun hc => ?_)
      · refine more 2 _ 43 hc sgn_43 (by rw [if_pos hc]; rfl) ?_
        rw [← hm]
        show _ = if _ then _ else _
        rw [if_pos hc]
      have hn1 := hc
      clear hc
      rw [if_neg hn1]
      refine ax_aload_n dX2_readSum_33 rfl ?_
      refine ax_bipush (v := 45) dX2_readSum_34 (by decide) ?_
      refine ax_callVN (As := _) (d2 := _) (c1 := 0) (n1 := 0) (c_isSign (d := 0) (M := N) (c := 45) hg1 sgn_45) dX2_readSum_36 mX6_isSign wd_1051 acl_6 (lo_s hok 2 rfl) rfl (by omega) (by omega) (by omega) rfl rfl (fun _ _ h => by cases h.1) ?_
      rintro r M9 ⟨h1, h9⟩; cases h1; rw [h9]; clear h9 M9
      refine ax_ifB_ne (tgt := 44) dX2_readSum_39 (by decide) (fun hc => ?_) (fun hc => ?_)
      · refine more 3 0 45 hc sgn_45 rfl ?_
        rw [← hm]
        show _ = if _ then _ else if _ then _ else _
        rw [if_neg hn1, if_pos hc]
      · refine ax_iconst (v := 1) dX2_readSum_42 (by decide) ?_
        refine ax_zret dX2_readSum_43 rfl ?_ ?_
        · exact Or.inr rfl
        · refine good N _ _ ?_ (xq_sk h1)
          rw [← hm]
          show (if _ then _ else if _ then _ else _) = _
          rw [if_neg hn1, if_neg hc]
  refine ax_body (by decide) (Nat.le_of_ble_eq_true rfl) ?_
  refine ax_aload_n dX2_readSum_0 rfl ?_
  refine ax_aload_n dX2_readSum_1 rfl ?_
  refine ax_iload_n dX2_readSum_2 rfl ?_
  refine ax_callV (As := _) (d2 := _) (c1 := 0) (n1 := 0) (hC M a k hi) dX2_readSum_3 mX2_readProduct wd_1020 acl_2 (xs_F_0 hF hok) rfl (by omega) (by omega) (by omega) rfl rfl (fun E M9 h9 => by cases hx9 : u a <;> rw [hx9] at h9 <;> cases h9.1) ?_
  intro o9 N3 h6
  cases hy : u a with
  | inl e =>
    rw [hy] at h6
    obtain ⟨h7, h8⟩ := h6
    cases h7
    have hok : lo_ok N3.2 := by rw [h8.1.1]; exact hok
    refine ax_if_ne (tgt := 11) dX2_readSum_6 (by decide) (fun hc => ?_) (fun hc => ?_)
    · exact absurd rfl hc
    · refine ax_iconst (v := 0) dX2_readSum_9 (by decide) ?_
      refine ax_zret dX2_readSum_10 rfl ?_ ?_
      · exact Or.inl rfl
      · exact bad N3 e (by rw [hy, ps_th_l]) h8
  | inr q =>
    obtain ⟨b2, ds⟩ := q
    rw [hy] at h6 hua
    obtain ⟨h7, h8⟩ := h6
    cases h7
    have hu1 : a + ds.length ≤ b2 ∧ b2 ≤ z ∧ a < b2 := hua
    have hok := h8.2.1.1.1.1
    refine ax_if_ne (tgt := 11) dX2_readSum_6 (by decide) (fun hc => ?_) (fun hc => ?_)
    · refine ax_iconst (v := 0) dX2_readSum_11 (by decide) ?_
      refine ax_istore_n dX2_readSum_12 (by decide) rfl ?_
      exact loop ps_fu 0 b2 ds N3 _ (by rw [ps_fu_eq]; omega) (by omega) h8 (by rw [hy, ps_th_r])
    · exact absurd hc (by decide)
end XF

