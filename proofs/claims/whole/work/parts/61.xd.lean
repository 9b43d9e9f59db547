/-! ===== the class reads a road ===== -/
def xkd (k : Nat) : Int32 := if k = 0 then 0 else if k = 1 then 7 else if k = 2 then 3 else if k = 3 then 1 else if k = 4 then 2 else if k = 5 then 6 else if k = 6 then 4 else if k = 7 then 5 else -1
theorem xr_fld' {M M2 : ax_M} {S j f : Nat} {q : Nat → Int} {v : Int} (h : xr M S q) (o1 : q 1 ≤ 2) (o2 : q 2 ≤ 10) (o3 : q 3 ≤ 6) (hj : (j = 5 ∧ f = 11) ∨ (j = 6 ∧ f = 12) ∨ (j = 34 ∧ f = 9) ∨ (j = 35 ∧ f = 10)) (e : M2 = ax_pI M S f (iI v)) : xr M2 S (up q j v) := by
  subst e
  obtain ⟨⟨a0, a1, a2, a3, a4, a5, a6, a7, a8⟩, h2, h3, h4, nb, bs, b1, b2, b3, b4, b5, b6⟩ := h
  have key : ∀ g p, M.1 S g = iI (q p) → (g = f ↔ p = j) → (ax_pI M S f (iI v)).1 S g = iI (up q j v p) := by
    intro g p e1 e2
    by_cases c : g = f
    · have := e2.mp c; subst this; subst c; rw [ax_pa, up_a]
    · rw [ax_pn (by omega), up_n (fun z => c (e2.mpr z)), e1]
  refine ⟨⟨key _ _ a0 (by omega), key _ _ a1 (by omega), key _ _ a2 (by omega), key _ _ a3 (by omega), key _ _ a4 (by omega), key _ _ a5 (by omega), key _ _ a6 (by omega), key _ _ a7 (by omega), key _ _ a8 (by omega)⟩, fun c hc => ?_, fun k hk => ?_, fun x hx => ?_, nb, bs, ?_, ?_, fun i hi => ?_, b4, fun i hi => ?_, fun k hk => ?_⟩
  · rw [up_n (by omega)] at hc
    simp (disch := omega) only [ax_pn, up_n]; exact h2 c hc
  · rw [up_n (by omega)] at hk
    simp (disch := omega) only [ax_pn, up_n]; exact h3 k hk
  · rw [ax_pn (by omega), rd_wet_up (by omega) (by omega)]; exact h4 x hx
  · rw [up_n (by omega)]; exact b1
  · rw [ax_pn (by omega)]; exact b2
  · rw [ax_pn (by omega), up_n (by omega)]; exact b3 i hi
  · obtain ⟨k, k1, k2⟩ := b5 i hi
    exact ⟨k, by rw [up_n (by omega)]; exact k1, by rw [up_n (by omega)]; exact k2⟩
  · rw [up_n (by omega)] at hk
    obtain ⟨i, i1, i2⟩ := b6 k hk
    exact ⟨i, i1, by rw [up_n (by omega)]; exact i2⟩
section XD
variable {l : Launch} {G : ax_G} {M : ax_M} {z : Nat} {B : Nat → Int32} {S : Nat} {q : Nat → Int}
set_option maxHeartbeats 1000000 in
theorem c_clauseOf {a : Nat} (h : xg M z B (a, none)) : ax_Met l G kX5_clauseOf 5 0 0 M [av_r 2] (ax_p (av_i (xkd (kd (tx_wd B z (tx_sk B z a))))) M) := by
  have hok := h.1.1
  refine ax_body (by decide) (Nat.le_of_ble_eq_true rfl) ?_
  refine ax_aload_n dX5_clauseOf_0 rfl ?_
  refine ax_ldcT (j := 1) dX5_clauseOf_1 rfl rfl rfl ?_
  refine ax_callVN (As := _) (d2 := _) (c1 := 0) (n1 := 0) (c_xisWord (j := 1) (ws := [12, 5, 14, 7, 20, 8]) (M := M) h rfl rfl rfl rfl) dX5_clauseOf_3 mX6_isWord wd_887 acl_6 (lo_s hok 2 rfl) rfl (by omega) (by omega) (by omega) rfl rfl (fun _ _ h => by cases h.1) ?_
  rintro r M9 ⟨h1, h9⟩; cases h1; rw [h9]; clear h9 M9
  refine ax_ifB_eq (tgt := 11) dX5_clauseOf_6 (by decide) (fun hc => ?_) (fun hc => ?_)
  rotate_left
  · refine ax_iconst (v := 0) dX5_clauseOf_9 (by decide) ?_
    refine ax_iret dX5_clauseOf_10 rfl ?_
    exact ⟨by rw [hc]; rfl, rfl⟩
  have n0 := hc
  clear hc
  refine ax_aload_n dX5_clauseOf_11 rfl ?_
  refine ax_ldcT (j := 2) dX5_clauseOf_12 rfl rfl rfl ?_
  refine ax_callVN (As := _) (d2 := _) (c1 := 0) (n1 := 0) (c_xisWord (j := 2) (ws := [2, 5, 14, 4]) (M := M) h rfl rfl rfl rfl) dX5_clauseOf_14 mX6_isWord wd_887 acl_6 (lo_s hok 2 rfl) rfl (by omega) (by omega) (by omega) rfl rfl (fun _ _ h => by cases h.1) ?_
  rintro r M9 ⟨h1, h9⟩; cases h1; rw [h9]; clear h9 M9
  refine ax_ifB_eq (tgt := 22) dX5_clauseOf_17 (by decide) (fun hc => ?_) (fun hc => ?_)
  rotate_left
  · refine ax_iconst (v := 1) dX5_clauseOf_20 (by decide) ?_
    refine ax_iret dX5_clauseOf_21 rfl ?_
    exact ⟨by rw [hc]; rfl, rfl⟩
  have n1 := hc
  clear hc
  refine ax_aload_n dX5_clauseOf_22 rfl ?_
  refine ax_ldcT (j := 3) dX5_clauseOf_23 rfl rfl rfl ?_
  refine ax_callVN (As := _) (d2 := _) (c1 := 0) (n1 := 0) (c_xisWord (j := 3) (ws := [23, 5, 20]) (M := M) h rfl rfl rfl rfl) dX5_clauseOf_25 mX6_isWord wd_887 acl_6 (lo_s hok 2 rfl) rfl (by omega) (by omega) (by omega) rfl rfl (fun _ _ h => by cases h.1) ?_
  rintro r M9 ⟨h1, h9⟩; cases h1; rw [h9]; clear h9 M9
  refine ax_ifB_eq (tgt := 33) dX5_clauseOf_28 (by decide) (fun hc => ?_) (fun hc => ?_)
  rotate_left
  · refine ax_iconst (v := 2) dX5_clauseOf_31 (by decide) ?_
    refine ax_iret dX5_clauseOf_32 rfl ?_
    exact ⟨by rw [hc]; rfl, rfl⟩
  have n2 := hc
  clear hc
  refine ax_aload_n dX5_clauseOf_33 rfl ?_
  refine ax_ldcT (j := 4) dX5_clauseOf_34 rfl rfl rfl ?_
  refine ax_callVN (As := _) (d2 := _) (c1 := 0) (n1 := 0) (c_xisWord (j := 4) (ws := [3, 15, 1, 20]) (M := M) h rfl rfl rfl rfl) dX5_clauseOf_36 mX6_isWord wd_887 acl_6 (lo_s hok 2 rfl) rfl (by omega) (by omega) (by omega) rfl rfl (fun _ _ h => by cases h.1) ?_
  rintro r M9 ⟨h1, h9⟩; cases h1; rw [h9]; clear h9 M9
  refine ax_ifB_eq (tgt := 44) dX5_clauseOf_39 (by decide) (fun hc => ?_) (fun hc => ?_)
  rotate_left
  · refine ax_iconst (v := 3) dX5_clauseOf_42 (by decide) ?_
    refine ax_iret dX5_clauseOf_43 rfl ?_
    exact ⟨by rw [hc]; rfl, rfl⟩
  have n3 := hc
  clear hc
  refine ax_aload_n dX5_clauseOf_44 rfl ?_
  refine ax_ldcT (j := 5) dX5_clauseOf_45 rfl rfl rfl ?_
  refine ax_callVN (As := _) (d2 := _) (c1 := 0) (n1 := 0) (c_xisWord (j := 5) (ws := [6, 15, 7]) (M := M) h rfl rfl rfl rfl) dX5_clauseOf_47 mX6_isWord wd_887 acl_6 (lo_s hok 2 rfl) rfl (by omega) (by omega) (by omega) rfl rfl (fun _ _ h => by cases h.1) ?_
  rintro r M9 ⟨h1, h9⟩; cases h1; rw [h9]; clear h9 M9
  refine ax_ifB_eq (tgt := 55) dX5_clauseOf_50 (by decide) (fun hc => ?_) (fun hc => ?_)
  rotate_left
  · refine ax_iconst (v := 4) dX5_clauseOf_53 (by decide) ?_
    refine ax_iret dX5_clauseOf_54 rfl ?_
    exact ⟨by rw [hc]; rfl, rfl⟩
  have n4 := hc
  clear hc
  refine ax_aload_n dX5_clauseOf_55 rfl ?_
  refine ax_ldcT (j := 6) dX5_clauseOf_56 rfl rfl rfl ?_
  refine ax_callVN (As := _) (d2 := _) (c1 := 0) (n1 := 0) (c_xisWord (j := 6) (ws := [2, 12, 9, 14, 4]) (M := M) h rfl rfl rfl rfl) dX5_clauseOf_58 mX6_isWord wd_887 acl_6 (lo_s hok 2 rfl) rfl (by omega) (by omega) (by omega) rfl rfl (fun _ _ h => by cases h.1) ?_
  rintro r M9 ⟨h1, h9⟩; cases h1; rw [h9]; clear h9 M9
  refine ax_ifB_eq (tgt := 66) dX5_clauseOf_61 (by decide) (fun hc => ?_) (fun hc => ?_)
  rotate_left
  · refine ax_iconst (v := 5) dX5_clauseOf_64 (by decide) ?_
    refine ax_iret dX5_clauseOf_65 rfl ?_
    exact ⟨by rw [hc]; rfl, rfl⟩
  have n5 := hc
  clear hc
  refine ax_aload_n dX5_clauseOf_66 rfl ?_
  refine ax_ldcT (j := 7) dX5_clauseOf_67 rfl rfl rfl ?_
  refine ax_callVN (As := _) (d2 := _) (c1 := 0) (n1 := 0) (c_xisWord (j := 7) (ws := [18, 5, 1, 3, 8]) (M := M) h rfl rfl rfl rfl) dX5_clauseOf_69 mX6_isWord wd_887 acl_6 (lo_s hok 2 rfl) rfl (by omega) (by omega) (by omega) rfl rfl (fun _ _ h => by cases h.1) ?_
  rintro r M9 ⟨h1, h9⟩; cases h1; rw [h9]; clear h9 M9
  refine ax_ifB_eq (tgt := 78) dX5_clauseOf_72 (by decide) (fun hc => ?_) (fun hc => ?_)
  rotate_left
  · refine ax_bipush (v := 6) dX5_clauseOf_75 (by decide) ?_
    refine ax_iret dX5_clauseOf_77 rfl ?_
    exact ⟨by rw [hc]; rfl, rfl⟩
  have n6 := hc
  clear hc
  refine ax_aload_n dX5_clauseOf_78 rfl ?_
  refine ax_ldcT (j := 8) dX5_clauseOf_79 rfl rfl rfl ?_
  refine ax_callVN (As := _) (d2 := _) (c1 := 0) (n1 := 0) (c_xisWord (j := 8) (ws := [3, 1, 18]) (M := M) h rfl rfl rfl rfl) dX5_clauseOf_81 mX6_isWord wd_887 acl_6 (lo_s hok 2 rfl) rfl (by omega) (by omega) (by omega) rfl rfl (fun _ _ h => by cases h.1) ?_
  rintro r M9 ⟨h1, h9⟩; cases h1; rw [h9]; clear h9 M9
  refine ax_ifB_eq (tgt := 92) dX5_clauseOf_84 (by decide) (fun hc => ?_) (fun hc => ?_)
  rotate_left
  · refine ax_bipush (v := 7) dX5_clauseOf_87 (by decide) ?_
    refine ax_goto (tgt := 93) dX5_clauseOf_89 (by decide) ?_
    refine ax_iret dX5_clauseOf_93 rfl ?_
    exact ⟨by rw [hc]; rfl, rfl⟩
  have n7 := hc
  clear hc
  refine ax_iconst (v := (-1)) dX5_clauseOf_92 (by decide) ?_
  refine ax_iret dX5_clauseOf_93 rfl ?_
  refine ⟨?_, rfl⟩
  have e : kd (tx_wd B z (tx_sk B z a)) = 8 := by
    unfold kd kd_ix tx_kinds
    simp only [kd_ix, if_neg n0, if_neg n1, if_neg n2, if_neg n3, if_neg n4, if_neg n5, if_neg n6, if_neg n7]
  rw [e]; rfl
theorem c_hasRoomFor {d : Nat} (hok : lo_ok M.2) (hS : xh_R S) (hr : xr M S q) (ho : rd_ok q) {k : Nat} (hk : k < 8) : ax_Met l G kX5_hasRoomFor d 0 0 M [av_r S, av_i (xkd k)] (ax_p (av_i (if fl_k q k then 0 else 1)) M) := by
  have h0 := ho.1
  obtain ⟨a0, a1, a2, a3, a4, a5, a6, a7, a8⟩ := hr.1
  refine ax_body (by decide) (Nat.le_of_ble_eq_true rfl) ?_
  refine ax_iload_n dX5_hasRoomFor_0 rfl ?_
  rcases (show k = 0 ∨ k = 1 ∨ k = 2 ∨ k = 3 ∨ k = 4 ∨ k = 5 ∨ k = 6 ∨ k = 7 by omega) with rfl | rfl | rfl | rfl | rfl | rfl | rfl | rfl
  · refine ax_tableOut (tgt := 102) dX5_hasRoomFor_1 (by decide) (by decide) ?_
    refine ax_iconst (v := 1) dX5_hasRoomFor_102 (by decide) ?_
    refine ax_zret dX5_hasRoomFor_103 rfl ?_ ?_
    · exact Or.inr rfl
    · rw [if_neg (show ¬ fl_k q 0 by unfold fl_k; omega)]; exact ⟨rfl, rfl⟩
  · refine ax_tableIn (off := 87) (tgt := 88) dX5_hasRoomFor_1 (by decide) (by decide) rfl (by decide) ?_
    refine ax_aload_n dX5_hasRoomFor_88 rfl ?_
    refine ax_getI (f := 16) dX5_hasRoomFor_89 acl_5 wd_294 (by decide) rfl (xs_R_0 hS hok) ?_
    rw [a1]
    refine ax_iconst (v := 2) dX5_hasRoomFor_92 (by decide) ?_
    refine ax_icmp_ge (tgt := 100) dX5_hasRoomFor_93 (by decide) (fun hc => ?_) (fun hc => ?_)
    · have := (iI_le (a := 2) (by unfold iI_b; omega) (by unfold iI_b; omega)).mp hc
      refine ax_iconst (v := 0) dX5_hasRoomFor_100 (by decide) ?_
      refine ax_zret dX5_hasRoomFor_101 rfl ?_ ?_
      · exact Or.inl rfl
      · rw [if_pos (show fl_k q 1 by unfold fl_k; omega)]; exact ⟨rfl, rfl⟩
    · have : ¬ 2 ≤ q 1 := fun c => hc ((iI_le (a := 2) (by unfold iI_b; omega) (by unfold iI_b; omega)).mpr c)
      refine ax_iconst (v := 1) dX5_hasRoomFor_96 (by decide) ?_
      refine ax_goto (tgt := 101) dX5_hasRoomFor_97 (by decide) ?_
      refine ax_zret dX5_hasRoomFor_101 rfl ?_ ?_
      · exact Or.inr rfl
      · rw [if_neg (show ¬ fl_k q 1 by unfold fl_k; omega)]; exact ⟨rfl, rfl⟩
  · refine ax_tableIn (off := 72) (tgt := 73) dX5_hasRoomFor_1 (by decide) (by decide) rfl (by decide) ?_
    refine ax_aload_n dX5_hasRoomFor_73 rfl ?_
    refine ax_getI (f := 8) dX5_hasRoomFor_74 acl_5 wd_268 (by decide) rfl (xs_R_0 hS hok) ?_
    rw [a2]
    refine ax_bipush (v := 10) dX5_hasRoomFor_77 (by decide) ?_
    refine ax_icmp_ge (tgt := 86) dX5_hasRoomFor_79 (by decide) (fun hc => ?_) (fun hc => ?_)
    · have := (iI_le (a := 10) (by unfold iI_b; omega) (by unfold iI_b; omega)).mp hc
      refine ax_iconst (v := 0) dX5_hasRoomFor_86 (by decide) ?_
      refine ax_zret dX5_hasRoomFor_87 rfl ?_ ?_
      · exact Or.inl rfl
      · rw [if_pos (show fl_k q 2 by unfold fl_k; omega)]; exact ⟨rfl, rfl⟩
    · have : ¬ 10 ≤ q 2 := fun c => hc ((iI_le (a := 10) (by unfold iI_b; omega) (by unfold iI_b; omega)).mpr c)
      refine ax_iconst (v := 1) dX5_hasRoomFor_82 (by decide) ?_
      refine ax_goto (tgt := 87) dX5_hasRoomFor_83 (by decide) ?_
      refine ax_zret dX5_hasRoomFor_87 rfl ?_ ?_
      · exact Or.inr rfl
      · rw [if_neg (show ¬ fl_k q 2 by unfold fl_k; omega)]; exact ⟨rfl, rfl⟩
  · refine ax_tableIn (off := 43) (tgt := 44) dX5_hasRoomFor_1 (by decide) (by decide) rfl (by decide) ?_
    refine ax_aload_n dX5_hasRoomFor_44 rfl ?_
    refine ax_getI (f := 3) dX5_hasRoomFor_45 acl_5 wd_257 (by decide) rfl (xs_R_0 hS hok) ?_
    rw [a3]
    refine ax_bipush (v := 6) dX5_hasRoomFor_48 (by decide) ?_
    refine ax_icmp_ge (tgt := 57) dX5_hasRoomFor_50 (by decide) (fun hc => ?_) (fun hc => ?_)
    · have := (iI_le (a := 6) (by unfold iI_b; omega) (by unfold iI_b; omega)).mp hc
      refine ax_iconst (v := 0) dX5_hasRoomFor_57 (by decide) ?_
      refine ax_zret dX5_hasRoomFor_58 rfl ?_ ?_
      · exact Or.inl rfl
      · rw [if_pos (show fl_k q 3 by unfold fl_k; omega)]; exact ⟨rfl, rfl⟩
    · have : ¬ 6 ≤ q 3 := fun c => hc ((iI_le (a := 6) (by unfold iI_b; omega) (by unfold iI_b; omega)).mpr c)
      refine ax_iconst (v := 1) dX5_hasRoomFor_53 (by decide) ?_
      refine ax_goto (tgt := 58) dX5_hasRoomFor_54 (by decide) ?_
      refine ax_zret dX5_hasRoomFor_58 rfl ?_ ?_
      · exact Or.inr rfl
      · rw [if_neg (show ¬ fl_k q 3 by unfold fl_k; omega)]; exact ⟨rfl, rfl⟩
  · refine ax_tableIn (off := 58) (tgt := 59) dX5_hasRoomFor_1 (by decide) (by decide) rfl (by decide) ?_
    refine ax_aload_n dX5_hasRoomFor_59 rfl ?_
    refine ax_getI (f := 5) dX5_hasRoomFor_60 acl_5 wd_259 (by decide) rfl (xs_R_0 hS hok) ?_
    rw [a4]
    refine ax_iconst (v := 4) dX5_hasRoomFor_63 (by decide) ?_
    refine ax_icmp_ge (tgt := 71) dX5_hasRoomFor_64 (by decide) (fun hc => ?_) (fun hc => ?_)
    · have := (iI_le (a := 4) (by unfold iI_b; omega) (by unfold iI_b; omega)).mp hc
      refine ax_iconst (v := 0) dX5_hasRoomFor_71 (by decide) ?_
      refine ax_zret dX5_hasRoomFor_72 rfl ?_ ?_
      · exact Or.inl rfl
      · rw [if_pos (show fl_k q 4 by unfold fl_k; omega)]; exact ⟨rfl, rfl⟩
    · have : ¬ 4 ≤ q 4 := fun c => hc ((iI_le (a := 4) (by unfold iI_b; omega) (by unfold iI_b; omega)).mpr c)
      refine ax_iconst (v := 1) dX5_hasRoomFor_67 (by decide) ?_
      refine ax_goto (tgt := 72) dX5_hasRoomFor_68 (by decide) ?_
      refine ax_zret dX5_hasRoomFor_72 rfl ?_ ?_
      · exact Or.inr rfl
      · rw [if_neg (show ¬ fl_k q 4 by unfold fl_k; omega)]; exact ⟨rfl, rfl⟩
  · refine ax_tableIn (off := 101) (tgt := 102) dX5_hasRoomFor_1 (by decide) (by decide) rfl (by decide) ?_
    refine ax_iconst (v := 1) dX5_hasRoomFor_102 (by decide) ?_
    refine ax_zret dX5_hasRoomFor_103 rfl ?_ ?_
    · exact Or.inr rfl
    · rw [if_neg (show ¬ fl_k q 5 by unfold fl_k; omega)]; exact ⟨rfl, rfl⟩
  · refine ax_tableIn (off := 101) (tgt := 102) dX5_hasRoomFor_1 (by decide) (by decide) rfl (by decide) ?_
    refine ax_iconst (v := 1) dX5_hasRoomFor_102 (by decide) ?_
    refine ax_zret dX5_hasRoomFor_103 rfl ?_ ?_
    · exact Or.inr rfl
    · rw [if_neg (show ¬ fl_k q 6 by unfold fl_k; omega)]; exact ⟨rfl, rfl⟩
  · refine ax_tableIn (off := 101) (tgt := 102) dX5_hasRoomFor_1 (by decide) (by decide) rfl (by decide) ?_
    refine ax_iconst (v := 1) dX5_hasRoomFor_102 (by decide) ?_
    refine ax_zret dX5_hasRoomFor_103 rfl ?_ ?_
    · exact Or.inr rfl
    · rw [if_neg (show ¬ fl_k q 7 by unfold fl_k; omega)]; exact ⟨rfl, rfl⟩
set_option maxHeartbeats 1000000 in
theorem c_readCoat (hS : xh_R S) {a : Nat} (hg : xg M z B (a, none)) (hr : xr M S q) (ho : rd_ok q) (hnf : ¬ fl_k q 2) : ax_Met l G kX5_readCoat 3 0 0 M [av_r S, av_r 2] (fun o M2 => o = .inl (some (av_i (if (ca B z q 2 (a, none)).1.2 = none then 1 else 0))) ∧ wf S M M2 ∧ xg M2 z B (ca B z q 2 (a, none)).1 ∧ ((ca B z q 2 (a, none)).1.2 = none → xr M2 S (cn (ca B z q 2 (a, none)).2 2 (ca B z q 2 (a, none)).1))) := by
  have hok := hg.1.1
  have h0 := ho.1
  have eN : iI (q 0 - 1) = nI (q 0 - 1).toNat := iI_tn (by omega)
  obtain ⟨a0, a1, a2, a3, a4, a5, a6, a7, a8⟩ := hr.1
  generalize hQ : (fun (o : ax_O) (M2 : ax_M) => o = .inl (some (av_i (if (ca B z q 2 (a, none)).1.2 = none then 1 else 0))) ∧ wf S M M2 ∧ xg M2 z B (ca B z q 2 (a, none)).1 ∧ ((ca B z q 2 (a, none)).1.2 = none → xr M2 S (cn (ca B z q 2 (a, none)).2 2 (ca B z q 2 (a, none)).1))) = Q
  have bad : ∀ (M2 : ax_M) (s : rk), (ca B z q 2 (a, none)).1 = s → ¬ s.2 = none → wf S M M2 → xg M2 z B s → Q (.inl (some (av_i 0))) M2 := by
    intro M2 s h1 h2 h3 h4
    rw [← hQ]
    subst h1
    exact ⟨by rw [if_neg h2], h3, h4, fun c => absurd c h2⟩
  have good : ∀ (M2 : ax_M) (s : rk) (q2 : Nat → Int), ca B z q 2 (a, none) = (s, q2) → s.2 = none → wf S M M2 → xg M2 z B s → xr M2 S (cn q2 2 s) → Q (.inl (some (av_i 1))) M2 := by
    intro M2 s q2 h1 h2 h3 h4 h5
    rw [← hQ, h1]
    exact ⟨by rw [if_pos h2], h3, h4, fun _ => h5⟩
  have neg1 : ∀ v : Nat, v < 1000 → ¬ nI v = -1 := fun v hv c => by
    rw [iI_nI, show (-1 : Int32) = iI (-1) from rfl, iI_eq (by unfold iI_b; omega) (by unfold iI_b; omega)] at c
    omega
  unfold ca at bad good
  simp only [if_neg (show ¬ 2 = 0 by decide), if_neg (show ¬ 2 = 1 by decide), if_true] at bad good
  refine ax_body (by decide) (Nat.le_of_ble_eq_true rfl) ?_
  have hq2 : ¬ q 2 = 10 := fun c => hnf (Or.inr (Or.inl ⟨rfl, c⟩))
  have ec : iI (q 2) = nI (q 2).toNat := iI_tn (by omega)
  refine ax_aload_n dX5_readCoat_0 rfl ?_
  refine ax_iconst (v := 0) dX5_readCoat_1 (by decide) ?_
  refine ax_aload_n dX5_readCoat_2 rfl ?_
  refine ax_getI (f := 0) dX5_readCoat_3 acl_5 wd_252 (by decide) rfl (xs_R_0 hS hok) ?_
  rw [a0]
  refine ax_iconst (v := 1) dX5_readCoat_6 (by decide) ?_
  refine ax_isub dX5_readCoat_7 ?_
  rw [show (1 : Int32) = iI 1 from rfl, iI_sub]
  refine ax_callVN (As := _) (d2 := _) (c1 := 0) (n1 := 0) (c_takeNumber (M := M) hg eN (by omega)) dX5_readCoat_8 mX6_takeNumber wd_959 acl_6 (lo_s hok 2 rfl) rfl (by omega) (by omega) (by omega) rfl rfl (fun _ _ h => by cases h.1) ?_
  rintro o9 M1 ⟨h1, f1, g1⟩; cases h1
  have v1 := rk_num_le (B := B) (z := z) (lo := 0) (hi := iI (q 0 - 1)) (s := (a, none)) eN (by omega)
  generalize rk_num B z 0 (iI (q 0 - 1)) (a, none) = x1 at *
  have hok := g1.1.1
  by_cases n1 : x1.1.2 = none
  rotate_left
  · rw [if_neg n1]
    refine ax_istore_n dX5_readCoat_11 (by decide) rfl ?_
    refine ax_iload_n dX5_readCoat_12 rfl ?_
    refine ax_iconst (v := (-1)) dX5_readCoat_13 (by decide) ?_
    refine ax_icmp_ne (tgt := 19) dX5_readCoat_14 (by decide) (fun hc => ?_) (fun hc => ?_)
    · exact absurd rfl hc
    · refine ax_iconst (v := 0) dX5_readCoat_17 (by decide) ?_
      refine ax_zret dX5_readCoat_18 rfl ?_ ?_
      · exact Or.inl rfl
      · rw [rk_num_F n1] at bad
        exact bad M1 _ rfl n1 (wf_af f1) g1
  rw [if_pos n1]
  refine ax_istore_n dX5_readCoat_11 (by decide) rfl ?_
  refine ax_iload_n dX5_readCoat_12 rfl ?_
  refine ax_iconst (v := (-1)) dX5_readCoat_13 (by decide) ?_
  refine ax_icmp_ne (tgt := 19) dX5_readCoat_14 (by decide) (fun hc => ?_) (fun hc => ?_)
  rotate_left
  · exact absurd hc (neg1 _ (by omega))
  clear hc
  rw [rk_e n1] at g1
  refine ax_aload_n dX5_readCoat_19 rfl ?_
  refine ax_iconst (v := 0) dX5_readCoat_20 (by decide) ?_
  refine ax_bipush (v := 9) dX5_readCoat_21 (by decide) ?_
  refine ax_callVN (As := _) (d2 := _) (c1 := 0) (n1 := 0) (c_takeNumber (M := M1) (m := 9) (hi := 9) g1 rfl (by omega)) dX5_readCoat_23 mX6_takeNumber wd_959 acl_6 (lo_s hok 2 rfl) rfl (by omega) (by omega) (by omega) rfl rfl (fun _ _ h => by cases h.1) ?_
  rintro o9 M2 ⟨h1, f2, g2⟩; cases h1
  rw [← rk_e n1] at g2
  rw [← rk_e n1]
  have v2 := rk_num_le (B := B) (z := z) (lo := 0) (hi := 9) (s := x1.1) (m := 9) rfl (by omega)
  generalize rk_num B z 0 9 x1.1 = x2 at *
  have hok := g2.1.1
  have fA : wf S M M2 := wf_tr (wf_af f1) (wf_af f2)
  have r2 := xr_af hS (xr_af hS hr f1) f2
  have e8 := r2.1.2.2.1
  by_cases n2 : x2.1.2 = none
  rotate_left
  · rw [if_neg n2]
    refine ax_istore_n dX5_readCoat_26 (by decide) rfl ?_
    refine ax_iload_n dX5_readCoat_27 rfl ?_
    refine ax_iconst (v := (-1)) dX5_readCoat_28 (by decide) ?_
    refine ax_icmp_eq (tgt := 41) dX5_readCoat_29 (by decide) (fun hc => ?_) (fun hc => ?_)
    · refine ax_iconst (v := 0) dX5_readCoat_41 (by decide) ?_
      refine ax_zret dX5_readCoat_42 rfl ?_ ?_
      · exact Or.inl rfl
      · exact bad M2 _ rfl n2 fA g2
    · exact absurd rfl hc
  rw [if_pos n2]
  refine ax_istore_n dX5_readCoat_26 (by decide) rfl ?_
  refine ax_iload_n dX5_readCoat_27 rfl ?_
  refine ax_iconst (v := (-1)) dX5_readCoat_28 (by decide) ?_
  refine ax_icmp_eq (tgt := 41) dX5_readCoat_29 (by decide) (fun hc => ?_) (fun hc => ?_)
  · exact absurd hc (neg1 _ (by omega))
  clear hc
  refine ax_aload_n dX5_readCoat_32 rfl ?_
  refine ax_getI (f := 8) dX5_readCoat_33 acl_5 wd_268 (by decide) rfl (xs_R_0 hS hok) ?_
  refine ax_bipush (v := 10) dX5_readCoat_36 (by decide) ?_
  rw [e8]
  refine ax_icmp_lt (tgt := 43) dX5_readCoat_38 (by decide) (fun hc => ?_) (fun hc => ?_)
  rotate_left
  · exact absurd ((iI_lt (b := 10) (by unfold iI_b; omega) (by unfold iI_b; omega)).mpr (by omega)) hc
  clear hc
  refine ax_aload_n dX5_readCoat_43 rfl ?_
  refine ax_getK (f := 6) (S + 3) dX5_readCoat_44 acl_5 wd_260 (by decide) rfl (xs_R_0 hS hok) (xr_R_6 hS hok) ?_
  refine ax_aload_n dX5_readCoat_47 rfl ?_
  refine ax_getI (f := 8) dX5_readCoat_48 acl_5 wd_268 (by decide) rfl (xs_R_0 hS hok) ?_
  rw [e8, ec]
  generalize hc0 : (q 2).toNat = c0 at *
  have hqc : q 2 = c0 := by omega
  refine ax_iload_n dX5_readCoat_51 rfl ?_
  refine ax_iastN (c0) dX5_readCoat_52 (xs_R_3 hS hok) (by decide) (by first | with_reducible rfl | assumption | exact ax_nix (by simp only [nx_0, nx_1, nx_2, nx_3, nx_4, nx_10, nx_20, nx_21, nx_100, nI_add, pk_mul] <;> rfl) (by omega) | decide) (by omega) ?_
  refine ax_gen (fun M3 hM3 => ?_)
  have hok : lo_ok M3.2 := by rw [hM3]; exact hok
  have g3 := xg_p hS g2 (by omega) hM3
  have e83 : M3.1 S 8 = nI c0 := by rw [hM3, ax_pn (by omega), e8, ec]
  refine ax_aload_n dX5_readCoat_53 rfl ?_
  refine ax_getK (f := 7) (S + 4) dX5_readCoat_54 acl_5 wd_264 (by decide) rfl (xs_R_0 hS hok) (xr_R_7 hS hok) ?_
  refine ax_aload_n dX5_readCoat_57 rfl ?_
  refine ax_getI (f := 8) dX5_readCoat_58 acl_5 wd_268 (by decide) rfl (xs_R_0 hS hok) ?_
  rw [e83]
  refine ax_iload_n dX5_readCoat_61 rfl ?_
  refine ax_iastN (c0) dX5_readCoat_62 (xs_R_4 hS hok) (by decide) (by first | with_reducible rfl | assumption | exact ax_nix (by simp only [nx_0, nx_1, nx_2, nx_3, nx_4, nx_10, nx_20, nx_21, nx_100, nI_add, pk_mul] <;> rfl) (by omega) | decide) (by omega) ?_
  refine ax_gen (fun M4 hM4 => ?_)
  have hok : lo_ok M4.2 := by rw [hM4]; exact hok
  have g4 := xg_p hS g3 (by omega) hM4
  have e84 : M4.1 S 8 = nI c0 := by rw [hM4, ax_pn (by omega), e83]
  refine ax_aload_n dX5_readCoat_63 rfl ?_
  refine ax_dup dX5_readCoat_64 (by first | rfl | exact ax_crf _) ?_
  refine ax_getI (f := 8) dX5_readCoat_65 acl_5 wd_268 (by decide) rfl (xs_R_0 hS hok) ?_
  rw [e84]
  refine ax_iconst (v := 1) dX5_readCoat_68 (by decide) ?_
  refine ax_iadd dX5_readCoat_69 ?_
  refine ax_putI (f := 8) dX5_readCoat_70 acl_5 wd_268 (by decide) rfl rfl (ax_nfI rfl) (xs_R_0 hS hok) ?_
  refine ax_gen (fun M5 hM5 => ?_)
  have hok : lo_ok M5.2 := by rw [hM5]; exact hok
  have g5 := xg_p hS g4 (by omega) hM5
  refine ax_iconst (v := 1) dX5_readCoat_73 (by decide) ?_
  refine ax_zret dX5_readCoat_74 rfl ?_ ?_
  · exact Or.inr rfl
  · refine good M5 _ _ rfl n2 (wf_tr fA ?_) g5 ?_
    · rw [hM5, hM4, hM3]
      exact wf_tr (wf_tr (wf_p (by omega)) (wf_p (by omega))) (wf_p (by omega))
    · rw [rd_cn (by omega), if_pos n2, up_n (by omega), up_n (by omega)]
      refine xr_coat r2 ho hqc (by omega) (iI_nI _) (iI_nI _) ?_
      rw [hM5, hM4, hM3, nI_1, hqc, show ((c0 : Int) + 1) = ((c0 + 1 : Nat) : Int) by omega, ← iI_nI]
set_option maxHeartbeats 1000000 in
theorem c_readReach (hS : xh_R S) {a : Nat} (hg : xg M z B (a, none)) (hr : xr M S q) (ho : rd_ok q) (hnf : ¬ fl_k q 5) : ax_Met l G kX5_readReach 3 0 0 M [av_r S, av_r 2] (fun o M2 => o = .inl (some (av_i (if (ca B z q 5 (a, none)).1.2 = none then 1 else 0))) ∧ wf S M M2 ∧ xg M2 z B (ca B z q 5 (a, none)).1 ∧ ((ca B z q 5 (a, none)).1.2 = none → xr M2 S (cn (ca B z q 5 (a, none)).2 5 (ca B z q 5 (a, none)).1))) := by
  have hok := hg.1.1
  have h0 := ho.1
  have eN : iI (q 0 - 1) = nI (q 0 - 1).toNat := iI_tn (by omega)
  obtain ⟨a0, a1, a2, a3, a4, a5, a6, a7, a8⟩ := hr.1
  generalize hQ : (fun (o : ax_O) (M2 : ax_M) => o = .inl (some (av_i (if (ca B z q 5 (a, none)).1.2 = none then 1 else 0))) ∧ wf S M M2 ∧ xg M2 z B (ca B z q 5 (a, none)).1 ∧ ((ca B z q 5 (a, none)).1.2 = none → xr M2 S (cn (ca B z q 5 (a, none)).2 5 (ca B z q 5 (a, none)).1))) = Q
  have bad : ∀ (M2 : ax_M) (s : rk), (ca B z q 5 (a, none)).1 = s → ¬ s.2 = none → wf S M M2 → xg M2 z B s → Q (.inl (some (av_i 0))) M2 := by
    intro M2 s h1 h2 h3 h4
    rw [← hQ]
    subst h1
    exact ⟨by rw [if_neg h2], h3, h4, fun c => absurd c h2⟩
  have good : ∀ (M2 : ax_M) (s : rk) (q2 : Nat → Int), ca B z q 5 (a, none) = (s, q2) → s.2 = none → wf S M M2 → xg M2 z B s → xr M2 S (cn q2 5 s) → Q (.inl (some (av_i 1))) M2 := by
    intro M2 s q2 h1 h2 h3 h4 h5
    rw [← hQ, h1]
    exact ⟨by rw [if_pos h2], h3, h4, fun _ => h5⟩
  have neg1 : ∀ v : Nat, v < 1000 → ¬ nI v = -1 := fun v hv c => by
    rw [iI_nI, show (-1 : Int32) = iI (-1) from rfl, iI_eq (by unfold iI_b; omega) (by unfold iI_b; omega)] at c
    omega
  unfold ca at bad good
  simp only [if_neg (show ¬ 5 = 0 by decide), if_neg (show ¬ 5 = 1 by decide), if_neg (show ¬ 5 = 2 by decide), if_neg (show ¬ 5 = 3 by decide), if_neg (show ¬ 5 = 4 by decide), if_true] at bad good
  refine ax_body (by decide) (Nat.le_of_ble_eq_true rfl) ?_
  refine ax_aload_n dX5_readReach_0 rfl ?_
  refine ax_aload_n dX5_readReach_1 rfl ?_
  refine ax_iconst (v := 1) dX5_readReach_2 (by decide) ?_
  refine ax_bipush (v := 40) dX5_readReach_3 (by decide) ?_
  refine ax_callVN (As := _) (d2 := _) (c1 := 0) (n1 := 0) (c_takeNumber (M := M) (m := 40) (hi := 40) hg rfl (by omega)) dX5_readReach_5 mX6_takeNumber wd_959 acl_6 (lo_s hok 2 rfl) rfl (by omega) (by omega) (by omega) rfl rfl (fun _ _ h => by cases h.1) ?_
  rintro o9 M1 ⟨h1, f1, g1⟩; cases h1
  have v1 := rk_num_le (B := B) (z := z) (lo := 1) (hi := 40) (s := (a, none)) (m := 40) rfl (by omega)
  generalize rk_num B z 1 40 (a, none) = x1 at *
  have hok := g1.1.1
  have r1 := xr_af hS hr f1
  by_cases n1 : x1.1.2 = none
  rotate_left
  · rw [if_neg n1]
    refine ax_putI (f := 11) dX5_readReach_8 acl_5 wd_279 (by decide) rfl rfl (ax_nfI rfl) (xs_R_0 hS hok) ?_
    refine ax_gen (fun M2 hM2 => ?_)
    have hok : lo_ok M2.2 := by rw [hM2]; exact hok
    refine ax_aload_n dX5_readReach_11 rfl ?_
    refine ax_getI (f := 11) dX5_readReach_12 acl_5 wd_279 (by decide) rfl (xs_R_0 hS hok) ?_
    rw [hM2, ax_pa, ← hM2]
    refine ax_iconst (v := (-1)) dX5_readReach_15 (by decide) ?_
    refine ax_icmp_ne (tgt := 21) dX5_readReach_16 (by decide) (fun hc => ?_) (fun hc => ?_)
    · exact absurd rfl hc
    · refine ax_iconst (v := 0) dX5_readReach_19 (by decide) ?_
      refine ax_zret dX5_readReach_20 rfl ?_ ?_
      · exact Or.inl rfl
      · rw [rk_num_F n1] at bad
        exact bad M2 _ rfl n1 (wf_tr (wf_af f1) (by rw [hM2]; exact wf_p (by omega))) (xg_p hS g1 (by omega) hM2)
  rw [if_pos n1]
  refine ax_putI (f := 11) dX5_readReach_8 acl_5 wd_279 (by decide) rfl rfl (ax_nfI rfl) (xs_R_0 hS hok) ?_
  refine ax_gen (fun M2 hM2 => ?_)
  have hok : lo_ok M2.2 := by rw [hM2]; exact hok
  have g2 := xg_p hS g1 (by omega) hM2
  have r2 := xr_fld (M2 := M2) (j := 5) (f := 11) (v := x1.2) r1 ho (by omega) (by rw [hM2, iI_nI])
  have o2 : rd_ok (up q 5 x1.2) ∨ True := Or.inr trivial
  refine ax_aload_n dX5_readReach_11 rfl ?_
  refine ax_getI (f := 11) dX5_readReach_12 acl_5 wd_279 (by decide) rfl (xs_R_0 hS hok) ?_
  rw [hM2, ax_pa, ← hM2]
  refine ax_iconst (v := (-1)) dX5_readReach_15 (by decide) ?_
  refine ax_icmp_ne (tgt := 21) dX5_readReach_16 (by decide) (fun hc => ?_) (fun hc => ?_)
  rotate_left
  · exact absurd hc (neg1 _ (by omega))
  clear hc
  rw [rk_e n1] at g2
  refine ax_aload_n dX5_readReach_21 rfl ?_
  refine ax_aload_n dX5_readReach_22 rfl ?_
  refine ax_iconst (v := 1) dX5_readReach_23 (by decide) ?_
  refine ax_bipush (v := 20) dX5_readReach_24 (by decide) ?_
  refine ax_callVN (As := _) (d2 := _) (c1 := 0) (n1 := 0) (c_takeNumber (M := M2) (m := 20) (hi := 20) g2 rfl (by omega)) dX5_readReach_26 mX6_takeNumber wd_959 acl_6 (lo_s hok 2 rfl) rfl (by omega) (by omega) (by omega) rfl rfl (fun _ _ h => by cases h.1) ?_
  rintro o9 M3 ⟨h1, f3, g3⟩; cases h1
  rw [← rk_e n1] at g3
  rw [← rk_e n1]
  have v2 := rk_num_le (B := B) (z := z) (lo := 1) (hi := 20) (s := x1.1) (m := 20) rfl (by omega)
  have l1 : (rk_num B z 1 20 x1.1).1.2 = none → True := fun _ => trivial
  generalize rk_num B z 1 20 x1.1 = x2 at *
  have hok := g3.1.1
  have r3 := xr_af hS r2 f3
  have fA : wf S M M3 := wf_tr (wf_tr (wf_af f1) (by rw [hM2]; exact wf_p (by omega))) (wf_af f3)
  by_cases n2 : x2.1.2 = none
  rotate_left
  · rw [if_neg n2]
    refine ax_putI (f := 12) dX5_readReach_29 acl_5 wd_281 (by decide) rfl rfl (ax_nfI rfl) (xs_R_0 hS hok) ?_
    refine ax_gen (fun M4 hM4 => ?_)
    have hok : lo_ok M4.2 := by rw [hM4]; exact hok
    refine ax_aload_n dX5_readReach_32 rfl ?_
    refine ax_getI (f := 12) dX5_readReach_33 acl_5 wd_281 (by decide) rfl (xs_R_0 hS hok) ?_
    rw [hM4, ax_pa, ← hM4]
    refine ax_iconst (v := (-1)) dX5_readReach_36 (by decide) ?_
    refine ax_icmp_eq (tgt := 44) dX5_readReach_37 (by decide) (fun hc => ?_) (fun hc => ?_)
    · refine ax_iconst (v := 0) dX5_readReach_44 (by decide) ?_
      refine ax_zret dX5_readReach_45 rfl ?_ ?_
      · exact Or.inl rfl
      · exact bad M4 _ rfl n2 (wf_tr fA (by rw [hM4]; exact wf_p (by omega))) (xg_p hS g3 (by omega) hM4)
    · exact absurd rfl hc
  rw [if_pos n2]
  refine ax_putI (f := 12) dX5_readReach_29 acl_5 wd_281 (by decide) rfl rfl (ax_nfI rfl) (xs_R_0 hS hok) ?_
  refine ax_gen (fun M4 hM4 => ?_)
  have hok : lo_ok M4.2 := by rw [hM4]; exact hok
  refine ax_aload_n dX5_readReach_32 rfl ?_
  refine ax_getI (f := 12) dX5_readReach_33 acl_5 wd_281 (by decide) rfl (xs_R_0 hS hok) ?_
  rw [hM4, ax_pa, ← hM4]
  refine ax_iconst (v := (-1)) dX5_readReach_36 (by decide) ?_
  refine ax_icmp_eq (tgt := 44) dX5_readReach_37 (by decide) (fun hc => ?_) (fun hc => ?_)
  · exact absurd hc (neg1 _ (by omega))
  refine ax_iconst (v := 1) dX5_readReach_40 (by decide) ?_
  refine ax_goto (tgt := 45) dX5_readReach_41 (by decide) ?_
  refine ax_zret dX5_readReach_45 rfl ?_ ?_
  · exact Or.inr rfl
  · refine good M4 _ _ (by rw [if_pos n2]) n2 (wf_tr fA (by rw [hM4]; exact wf_p (by omega))) (xg_p hS g3 (by omega) hM4) ?_
    rw [rd_cn0 (by omega)]
    exact xr_fld' (j := 6) (f := 12) (v := x2.2) r3 (by rw [up_n (by omega)]; omega) (by rw [up_n (by omega)]; omega) (by rw [up_n (by omega)]; omega) (by omega) (by rw [hM4, iI_nI])
set_option maxHeartbeats 1000000 in
theorem c_readCar (hS : xh_R S) {a : Nat} (hg : xg M z B (a, none)) (hr : xr M S q) (ho : rd_ok q) (hnf : ¬ fl_k q 1) : ax_Met l G kX5_readCar 3 0 0 M [av_r S, av_r 2] (fun o M2 => o = .inl (some (av_i (if (ca B z q 1 (a, none)).1.2 = none then 1 else 0))) ∧ wf S M M2 ∧ xg M2 z B (ca B z q 1 (a, none)).1 ∧ ((ca B z q 1 (a, none)).1.2 = none → xr M2 S (cn (ca B z q 1 (a, none)).2 1 (ca B z q 1 (a, none)).1))) := by
  have hok := hg.1.1
  have h0 := ho.1
  have eN : iI (q 0 - 1) = nI (q 0 - 1).toNat := iI_tn (by omega)
  obtain ⟨a0, a1, a2, a3, a4, a5, a6, a7, a8⟩ := hr.1
  generalize hQ : (fun (o : ax_O) (M2 : ax_M) => o = .inl (some (av_i (if (ca B z q 1 (a, none)).1.2 = none then 1 else 0))) ∧ wf S M M2 ∧ xg M2 z B (ca B z q 1 (a, none)).1 ∧ ((ca B z q 1 (a, none)).1.2 = none → xr M2 S (cn (ca B z q 1 (a, none)).2 1 (ca B z q 1 (a, none)).1))) = Q
  have bad : ∀ (M2 : ax_M) (s : rk), (ca B z q 1 (a, none)).1 = s → ¬ s.2 = none → wf S M M2 → xg M2 z B s → Q (.inl (some (av_i 0))) M2 := by
    intro M2 s h1 h2 h3 h4
    rw [← hQ]
    subst h1
    exact ⟨by rw [if_neg h2], h3, h4, fun c => absurd c h2⟩
  have good : ∀ (M2 : ax_M) (s : rk) (q2 : Nat → Int), ca B z q 1 (a, none) = (s, q2) → s.2 = none → wf S M M2 → xg M2 z B s → xr M2 S (cn q2 1 s) → Q (.inl (some (av_i 1))) M2 := by
    intro M2 s q2 h1 h2 h3 h4 h5
    rw [← hQ, h1]
    exact ⟨by rw [if_pos h2], h3, h4, fun _ => h5⟩
  have neg1 : ∀ v : Nat, v < 1000 → ¬ nI v = -1 := fun v hv c => by
    rw [iI_nI, show (-1 : Int32) = iI (-1) from rfl, iI_eq (by unfold iI_b; omega) (by unfold iI_b; omega)] at c
    omega
  unfold ca at bad good
  simp only [if_neg (show ¬ 1 = 0 by decide), if_true] at bad good
  refine ax_body (by decide) (Nat.le_of_ble_eq_true rfl) ?_
  have hq1 : ¬ q 1 = 2 := fun c => hnf (Or.inl ⟨rfl, c⟩)
  have ec : iI (q 1) = nI (q 1).toNat := iI_tn (by omega)
  refine ax_aload_n dX5_readCar_0 rfl ?_
  refine ax_bipush (v := 17) dX5_readCar_1 (by decide) ?_
  refine ax_bipush (v := 99) dX5_readCar_3 (by decide) ?_
  refine ax_callVN (As := _) (d2 := _) (c1 := 0) (n1 := 0) (c_takeNumber (M := M) (m := 99) (hi := 99) hg rfl (by omega)) dX5_readCar_5 mX6_takeNumber wd_959 acl_6 (lo_s hok 2 rfl) rfl (by omega) (by omega) (by omega) rfl rfl (fun _ _ h => by cases h.1) ?_
  rintro o9 M1 ⟨h1, f1, g1⟩; cases h1
  have v1 := rk_num_le (B := B) (z := z) (lo := 17) (hi := 99) (s := (a, none)) (m := 99) rfl (by omega)
  generalize rk_num B z 17 99 (a, none) = x1 at *
  have hok := g1.1.1
  by_cases n1 : x1.1.2 = none
  rotate_left
  · rw [if_neg n1]
    refine ax_istore_n dX5_readCar_8 (by decide) rfl ?_
    refine ax_iload_n dX5_readCar_9 rfl ?_
    refine ax_iconst (v := (-1)) dX5_readCar_10 (by decide) ?_
    refine ax_icmp_ne (tgt := 16) dX5_readCar_11 (by decide) (fun hc => ?_) (fun hc => ?_)
    · exact absurd rfl hc
    · refine ax_iconst (v := 0) dX5_readCar_14 (by decide) ?_
      refine ax_zret dX5_readCar_15 rfl ?_ ?_
      · exact Or.inl rfl
      · rw [rk_num_F n1, rk_num_F n1] at bad
        exact bad M1 _ rfl n1 (wf_af f1) g1
  rw [if_pos n1]
  refine ax_istore_n dX5_readCar_8 (by decide) rfl ?_
  refine ax_iload_n dX5_readCar_9 rfl ?_
  refine ax_iconst (v := (-1)) dX5_readCar_10 (by decide) ?_
  refine ax_icmp_ne (tgt := 16) dX5_readCar_11 (by decide) (fun hc => ?_) (fun hc => ?_)
  rotate_left
  · exact absurd hc (neg1 _ (by omega))
  clear hc
  rw [rk_e n1] at g1
  refine ax_aload_n dX5_readCar_16 rfl ?_
  refine ax_iconst (v := 1) dX5_readCar_17 (by decide) ?_
  refine ax_iconst (v := 3) dX5_readCar_18 (by decide) ?_
  refine ax_callVN (As := _) (d2 := _) (c1 := 0) (n1 := 0) (c_takeNumber (M := M1) (m := 3) (hi := 3) g1 rfl (by omega)) dX5_readCar_19 mX6_takeNumber wd_959 acl_6 (lo_s hok 2 rfl) rfl (by omega) (by omega) (by omega) rfl rfl (fun _ _ h => by cases h.1) ?_
  rintro o9 M2 ⟨h1, f2, g2⟩; cases h1
  rw [← rk_e n1] at g2
  rw [← rk_e n1]
  have v2 := rk_num_le (B := B) (z := z) (lo := 1) (hi := 3) (s := x1.1) (m := 3) rfl (by omega)
  generalize rk_num B z 1 3 x1.1 = x2 at *
  have hok := g2.1.1
  have fA : wf S M M2 := wf_tr (wf_af f1) (wf_af f2)
  by_cases n2 : x2.1.2 = none
  rotate_left
  · rw [if_neg n2]
    refine ax_istore_n dX5_readCar_22 (by decide) rfl ?_
    refine ax_iload_n dX5_readCar_23 rfl ?_
    refine ax_iconst (v := (-1)) dX5_readCar_24 (by decide) ?_
    refine ax_icmp_ne (tgt := 30) dX5_readCar_25 (by decide) (fun hc => ?_) (fun hc => ?_)
    · exact absurd rfl hc
    · refine ax_iconst (v := 0) dX5_readCar_28 (by decide) ?_
      refine ax_zret dX5_readCar_29 rfl ?_ ?_
      · exact Or.inl rfl
      · rw [rk_num_F n2] at bad
        exact bad M2 _ rfl n2 fA g2
  rw [if_pos n2]
  refine ax_istore_n dX5_readCar_22 (by decide) rfl ?_
  refine ax_iload_n dX5_readCar_23 rfl ?_
  refine ax_iconst (v := (-1)) dX5_readCar_24 (by decide) ?_
  refine ax_icmp_ne (tgt := 30) dX5_readCar_25 (by decide) (fun hc => ?_) (fun hc => ?_)
  rotate_left
  · exact absurd hc (neg1 _ (by omega))
  clear hc
  rw [rk_e n2] at g2
  refine ax_aload_n dX5_readCar_30 rfl ?_
  refine ax_iconst (v := 0) dX5_readCar_31 (by decide) ?_
  refine ax_bipush (v := 9) dX5_readCar_32 (by decide) ?_
  refine ax_callVN (As := _) (d2 := _) (c1 := 0) (n1 := 0) (c_takeNumber (M := M2) (m := 9) (hi := 9) g2 rfl (by omega)) dX5_readCar_34 mX6_takeNumber wd_959 acl_6 (lo_s hok 2 rfl) rfl (by omega) (by omega) (by omega) rfl rfl (fun _ _ h => by cases h.1) ?_
  rintro o9 M3 ⟨h1, f3, g3⟩; cases h1
  rw [← rk_e n2] at g3
  rw [← rk_e n2]
  have v3 := rk_num_le (B := B) (z := z) (lo := 0) (hi := 9) (s := x2.1) (m := 9) rfl (by omega)
  generalize rk_num B z 0 9 x2.1 = x3 at *
  have hok := g3.1.1
  have fB : wf S M M3 := wf_tr fA (wf_af f3)
  have r3 := xr_af hS (xr_af hS (xr_af hS hr f1) f2) f3
  have e16 := r3.1.2.1
  by_cases n3 : x3.1.2 = none
  rotate_left
  · rw [if_neg n3]
    refine ax_istore dX5_readCar_37 (by decide) rfl ?_
    refine ax_iload dX5_readCar_39 rfl ?_
    refine ax_iconst (v := (-1)) dX5_readCar_41 (by decide) ?_
    refine ax_icmp_eq (tgt := 53) dX5_readCar_42 (by decide) (fun hc => ?_) (fun hc => ?_)
    · refine ax_iconst (v := 0) dX5_readCar_53 (by decide) ?_
      refine ax_zret dX5_readCar_54 rfl ?_ ?_
      · exact Or.inl rfl
      · exact bad M3 _ rfl n3 fB g3
    · exact absurd rfl hc
  rw [if_pos n3]
  refine ax_istore dX5_readCar_37 (by decide) rfl ?_
  refine ax_iload dX5_readCar_39 rfl ?_
  refine ax_iconst (v := (-1)) dX5_readCar_41 (by decide) ?_
  refine ax_icmp_eq (tgt := 53) dX5_readCar_42 (by decide) (fun hc => ?_) (fun hc => ?_)
  · exact absurd hc (neg1 _ (by omega))
  clear hc
  refine ax_aload_n dX5_readCar_45 rfl ?_
  refine ax_getI (f := 16) dX5_readCar_46 acl_5 wd_294 (by decide) rfl (xs_R_0 hS hok) ?_
  refine ax_iconst (v := 2) dX5_readCar_49 (by decide) ?_
  rw [e16]
  refine ax_icmp_lt (tgt := 55) dX5_readCar_50 (by decide) (fun hc => ?_) (fun hc => ?_)
  rotate_left
  · exact absurd ((iI_lt (b := 2) (by unfold iI_b; omega) (by unfold iI_b; omega)).mpr (by omega)) hc
  clear hc
  refine ax_aload_n dX5_readCar_55 rfl ?_
  refine ax_getK (f := 13) (S + 5) dX5_readCar_56 acl_5 wd_283 (by decide) rfl (xs_R_0 hS hok) (xr_R_13 hS hok) ?_
  refine ax_aload_n dX5_readCar_59 rfl ?_
  refine ax_getI (f := 16) dX5_readCar_60 acl_5 wd_294 (by decide) rfl (xs_R_0 hS hok) ?_
  rw [e16, ec]
  generalize hc0 : (q 1).toNat = c0 at *
  have hqc : q 1 = c0 := by omega
  refine ax_iload_n dX5_readCar_63 rfl ?_
  refine ax_iastN (c0) dX5_readCar_64 (xs_R_5 hS hok) (by decide) (by first | with_reducible rfl | assumption | exact ax_nix (by simp only [nx_0, nx_1, nx_2, nx_3, nx_4, nx_10, nx_20, nx_21, nx_100, nI_add, pk_mul] <;> rfl) (by omega) | decide) (by omega) ?_
  refine ax_gen (fun M4 hM4 => ?_)
  have hok : lo_ok M4.2 := by rw [hM4]; exact hok
  have g4 := xg_p hS g3 (by omega) hM4
  have e4 : M4.1 S 16 = nI c0 := by rw [hM4, ax_pn (by omega), e16, ec]
  refine ax_aload_n dX5_readCar_65 rfl ?_
  refine ax_getK (f := 14) (S + 6) dX5_readCar_66 acl_5 wd_286 (by decide) rfl (xs_R_0 hS hok) (xr_R_14 hS hok) ?_
  refine ax_aload_n dX5_readCar_69 rfl ?_
  refine ax_getI (f := 16) dX5_readCar_70 acl_5 wd_294 (by decide) rfl (xs_R_0 hS hok) ?_
  rw [e4]
  refine ax_iload_n dX5_readCar_73 rfl ?_
  refine ax_iastN (c0) dX5_readCar_74 (xs_R_6 hS hok) (by decide) (by first | with_reducible rfl | assumption | exact ax_nix (by simp only [nx_0, nx_1, nx_2, nx_3, nx_4, nx_10, nx_20, nx_21, nx_100, nI_add, pk_mul] <;> rfl) (by omega) | decide) (by omega) ?_
  refine ax_gen (fun M5 hM5 => ?_)
  have hok : lo_ok M5.2 := by rw [hM5]; exact hok
  have g5 := xg_p hS g4 (by omega) hM5
  have e5 : M5.1 S 16 = nI c0 := by rw [hM5, ax_pn (by omega), e4]
  refine ax_aload_n dX5_readCar_75 rfl ?_
  refine ax_getK (f := 15) (S + 7) dX5_readCar_76 acl_5 wd_290 (by decide) rfl (xs_R_0 hS hok) (xr_R_15 hS hok) ?_
  refine ax_aload_n dX5_readCar_79 rfl ?_
  refine ax_getI (f := 16) dX5_readCar_80 acl_5 wd_294 (by decide) rfl (xs_R_0 hS hok) ?_
  rw [e5]
  refine ax_iload dX5_readCar_83 rfl ?_
  refine ax_iastN (c0) dX5_readCar_85 (xs_R_7 hS hok) (by decide) (by first | with_reducible rfl | assumption | exact ax_nix (by simp only [nx_0, nx_1, nx_2, nx_3, nx_4, nx_10, nx_20, nx_21, nx_100, nI_add, pk_mul] <;> rfl) (by omega) | decide) (by omega) ?_
  refine ax_gen (fun M6 hM6 => ?_)
  have hok : lo_ok M6.2 := by rw [hM6]; exact hok
  have g6 := xg_p hS g5 (by omega) hM6
  have e6 : M6.1 S 16 = nI c0 := by rw [hM6, ax_pn (by omega), e5]
  refine ax_aload_n dX5_readCar_86 rfl ?_
  refine ax_dup dX5_readCar_87 (by first | rfl | exact ax_crf _) ?_
  refine ax_getI (f := 16) dX5_readCar_88 acl_5 wd_294 (by decide) rfl (xs_R_0 hS hok) ?_
  rw [e6]
  refine ax_iconst (v := 1) dX5_readCar_91 (by decide) ?_
  refine ax_iadd dX5_readCar_92 ?_
  refine ax_putI (f := 16) dX5_readCar_93 acl_5 wd_294 (by decide) rfl rfl (ax_nfI rfl) (xs_R_0 hS hok) ?_
  refine ax_gen (fun M7 hM7 => ?_)
  have hok : lo_ok M7.2 := by rw [hM7]; exact hok
  have g7 := xg_p hS g6 (by omega) hM7
  refine ax_iconst (v := 1) dX5_readCar_96 (by decide) ?_
  refine ax_zret dX5_readCar_97 rfl ?_ ?_
  · exact Or.inr rfl
  · refine good M7 _ _ rfl n3 (wf_tr fB ?_) g7 ?_
    · rw [hM7, hM6, hM5, hM4]
      exact wf_tr (wf_tr (wf_tr (wf_p (by omega)) (wf_p (by omega))) (wf_p (by omega))) (wf_p (by omega))
    · rw [rd_cn (by omega), if_pos n3, up_n (by omega), up_n (by omega), up_n (by omega)]
      refine xr_car r3 ho hqc (by omega) (iI_nI _) (iI_nI _) (iI_nI _) ?_
      rw [hM7, hM6, hM5, hM4, nI_1, hqc, show ((c0 : Int) + 1) = ((c0 + 1 : Nat) : Int) by omega, ← iI_nI]
set_option maxHeartbeats 1000000 in
theorem c_readBend (hS : xh_R S) {a : Nat} (hg : xg M z B (a, none)) (hr : xr M S q) (ho : rd_ok q) (hnf : ¬ fl_k q 3) : ax_Met l G kX5_readBend 3 0 0 M [av_r S, av_r 2] (fun o M2 => o = .inl (some (av_i (if (ca B z q 3 (a, none)).1.2 = none then 1 else 0))) ∧ wf S M M2 ∧ xg M2 z B (ca B z q 3 (a, none)).1 ∧ ((ca B z q 3 (a, none)).1.2 = none → xr M2 S (cn (ca B z q 3 (a, none)).2 3 (ca B z q 3 (a, none)).1))) := by
  have hok := hg.1.1
  have h0 := ho.1
  have eN : iI (q 0 - 1) = nI (q 0 - 1).toNat := iI_tn (by omega)
  obtain ⟨a0, a1, a2, a3, a4, a5, a6, a7, a8⟩ := hr.1
  generalize hQ : (fun (o : ax_O) (M2 : ax_M) => o = .inl (some (av_i (if (ca B z q 3 (a, none)).1.2 = none then 1 else 0))) ∧ wf S M M2 ∧ xg M2 z B (ca B z q 3 (a, none)).1 ∧ ((ca B z q 3 (a, none)).1.2 = none → xr M2 S (cn (ca B z q 3 (a, none)).2 3 (ca B z q 3 (a, none)).1))) = Q
  have bad : ∀ (M2 : ax_M) (s : rk), (ca B z q 3 (a, none)).1 = s → ¬ s.2 = none → wf S M M2 → xg M2 z B s → Q (.inl (some (av_i 0))) M2 := by
    intro M2 s h1 h2 h3 h4
    rw [← hQ]
    subst h1
    exact ⟨by rw [if_neg h2], h3, h4, fun c => absurd c h2⟩
  have good : ∀ (M2 : ax_M) (s : rk) (q2 : Nat → Int), ca B z q 3 (a, none) = (s, q2) → s.2 = none → wf S M M2 → xg M2 z B s → xr M2 S (cn q2 3 s) → Q (.inl (some (av_i 1))) M2 := by
    intro M2 s q2 h1 h2 h3 h4 h5
    rw [← hQ, h1]
    exact ⟨by rw [if_pos h2], h3, h4, fun _ => h5⟩
  have neg1 : ∀ v : Nat, v < 1000 → ¬ nI v = -1 := fun v hv c => by
    rw [iI_nI, show (-1 : Int32) = iI (-1) from rfl, iI_eq (by unfold iI_b; omega) (by unfold iI_b; omega)] at c
    omega
  unfold ca at bad good
  simp only [if_neg (show ¬ 3 = 0 by decide), if_neg (show ¬ 3 = 1 by decide), if_neg (show ¬ 3 = 2 by decide), if_true] at bad good
  refine ax_body (by decide) (Nat.le_of_ble_eq_true rfl) ?_
  have hq3 : ¬ q 3 = 6 := fun c => hnf (Or.inr (Or.inr (Or.inl ⟨rfl, c⟩)))
  obtain ⟨nb, bs, hbd⟩ := hr.2.2.2.2
  have h6 := hbd.1
  have ec : iI (q 3) = nI (q 3).toNat := iI_tn (by omega)
  refine ax_aload_n dX5_readBend_0 rfl ?_
  refine ax_iconst (v := 0) dX5_readBend_1 (by decide) ?_
  refine ax_aload_n dX5_readBend_2 rfl ?_
  refine ax_getI (f := 0) dX5_readBend_3 acl_5 wd_252 (by decide) rfl (xs_R_0 hS hok) ?_
  rw [a0]
  refine ax_iconst (v := 1) dX5_readBend_6 (by decide) ?_
  refine ax_isub dX5_readBend_7 ?_
  rw [show (1 : Int32) = iI 1 from rfl, iI_sub]
  refine ax_callVN (As := _) (d2 := _) (c1 := 0) (n1 := 0) (c_takeNumber (M := M) hg eN (by omega)) dX5_readBend_8 mX6_takeNumber wd_959 acl_6 (lo_s hok 2 rfl) rfl (by omega) (by omega) (by omega) rfl rfl (fun _ _ h => by cases h.1) ?_
  rintro o9 M1 ⟨h1, f1, g1⟩; cases h1
  have v1 := rk_num_le (B := B) (z := z) (lo := 0) (hi := iI (q 0 - 1)) (s := (a, none)) eN (by omega)
  generalize rk_num B z 0 (iI (q 0 - 1)) (a, none) = x1 at *
  have hok := g1.1.1
  have m1 : ∀ n i, S ≤ n → n ≤ S + 7 → M1.1 n i = M.1 n i := fun n i c1 c2 => f1.2 n i (by unfold xh_R at hS; omega)
  by_cases n1 : x1.1.2 = none
  rotate_left
  · rw [if_neg n1]
    refine ax_istore_n dX5_readBend_11 (by decide) rfl ?_
    refine ax_iload_n dX5_readBend_12 rfl ?_
    refine ax_iconst (v := (-1)) dX5_readBend_13 (by decide) ?_
    refine ax_icmp_ne (tgt := 19) dX5_readBend_14 (by decide) (fun hc => ?_) (fun hc => ?_)
    · exact absurd rfl hc
    · refine ax_iconst (v := 0) dX5_readBend_17 (by decide) ?_
      refine ax_zret dX5_readBend_18 rfl ?_ ?_
      · exact Or.inl rfl
      · exact bad M1 _ rfl n1 (wf_af f1) g1
  rw [if_pos n1]
  refine ax_istore_n dX5_readBend_11 (by decide) rfl ?_
  refine ax_iload_n dX5_readBend_12 rfl ?_
  refine ax_iconst (v := (-1)) dX5_readBend_13 (by decide) ?_
  refine ax_icmp_ne (tgt := 19) dX5_readBend_14 (by decide) (fun hc => ?_) (fun hc => ?_)
  rotate_left
  · exact absurd hc (neg1 _ (by omega))
  clear hc
  refine ax_aload_n dX5_readBend_19 rfl ?_
  refine ax_dup dX5_readBend_20 (by first | rfl | exact ax_crf _) ?_
  refine ax_getI (f := 3) dX5_readBend_21 acl_5 wd_257 (by decide) rfl (xs_R_0 hS hok) ?_
  rw [m1 S 3 (by omega) (by omega), a3, ec]
  generalize hc0 : (q 3).toNat = c0 at *
  have hqc : q 3 = c0 := by omega
  refine ax_iconst (v := 1) dX5_readBend_24 (by decide) ?_
  refine ax_iadd dX5_readBend_25 ?_
  rw [nI_1]
  refine ax_putI (f := 3) dX5_readBend_26 acl_5 wd_257 (by decide) rfl rfl (ax_nfI rfl) (xs_R_0 hS hok) ?_
  refine ax_gen (fun M2 hM2 => ?_)
  have hok : lo_ok M2.2 := by rw [hM2]; exact hok
  have g2 := xg_p hS g1 (by omega) hM2
  have m2 : ∀ n i, S ≤ n → n ≤ S + 7 → ¬ (n = S ∧ i = 3) → M2.1 n i = M.1 n i := fun n i c1 c2 c3 => by rw [hM2, ax_pn (by omega)]; exact m1 n i c1 c2
  have e23 : M2.1 S 3 = iI (q 3 + 1) := by rw [hM2, ax_pa, hqc, show ((c0 : Int) + 1) = ((c0 + 1 : Nat) : Int) by omega, ← iI_nI]
  have fA : wf S M M2 := wf_tr (wf_af f1) (by rw [hM2]; exact wf_p (by omega))
  have e22 : M2.1 S 2 = nI nb := (m2 S 2 (by omega) (by omega) (by omega)).trans hbd.2.1
  have fin : ∀ (N : ax_M) (nb2 : Nat) (bs2 : Nat → Int), wf S M2 N → xg N z B x1.1 → N.1 S 3 = iI (q 3 + 1) → ((nb2 = nb ∧ bs2 = bs ∧ ∃ i, i < nb ∧ bs i = (x1.2 : Int)) ∨ (nb2 = nb + 1 ∧ bs2 = (fun i => if i = nb then (x1.2 : Int) else bs i) ∧ ∀ i, i < nb → bs i ≠ (x1.2 : Int))) → N.1 S 2 = nI nb2 → (∀ i, i < nb2 → N.1 (S + 1) i = iI (bs2 i)) → (∀ n i, S ≤ n → n ≤ S + 7 → ¬ (n = S ∧ (i = 2 ∨ i = 3)) → n ≠ S + 1 → N.1 n i = M.1 n i) → Q (.inl (some (av_i 1))) N := by
    intro N nb2 bs2 w1 w2 w3 w4 w5 w6 w7
    refine good N _ _ rfl n1 (wf_tr fA w1) w2 ?_
    rw [rd_cn (by omega), if_pos n1, up_n (by omega)]
    have hw : ∀ n i, ¬ (n = S ∧ (i = 2 ∨ i = 3)) → n ≠ S + 1 → ((fun n i => if S ≤ n ∧ n ≤ S + 7 then N.1 n i else M.1 n i) n i : Int32) = M.1 n i := fun n i c1 c2 => by
      by_cases c3 : S ≤ n ∧ n ≤ S + 7
      · simp only [if_pos c3]; exact w7 n i c3.1 c3.2 c1 c2
      · simp only [if_neg c3]
    have k1 := xr_bend (M2 := ((fun n i => if S ≤ n ∧ n ≤ S + 7 then N.1 n i else M.1 n i), N.2)) hr hbd ho hqc (by omega) (v := (x1.2 : Int)) (by omega) (by simp only []; rw [if_pos (by omega)]; exact w3) w4 (by simp only []; rw [if_pos (by omega)]; exact w5) (fun i hi => by simp only []; rw [if_pos (by omega)]; exact w6 i hi) hw
    exact xr_fr k1 (fun n i c1 c2 => by simp only []; rw [if_pos ⟨c1, c2⟩])
  refine ax_iconst (v := 0) dX5_readBend_29 (by decide) ?_
  refine ax_istore_n dX5_readBend_30 (by decide) rfl ?_
  refine ax_for nb (fun i N L => N = M2 ∧ L = [some (av_r S), some (av_r 2), some (av_i (nI x1.2)), some (av_i (nI i))] ∧ ∀ j, j < i → bs j ≠ (x1.2 : Int)) 31 ?_ ?_ (i := 0) (by omega) ⟨rfl, rfl, fun j hj => by omega⟩
  · rintro i N L hi ⟨rfl, rfl, hno⟩ next
    obtain ⟨e1, e2, e3⟩ := hbd.2.2.1 i hi
    refine ax_iload_n dX5_readBend_31 rfl ?_
    refine ax_aload_n dX5_readBend_32 rfl ?_
    refine ax_getI (f := 2) dX5_readBend_33 acl_5 wd_255 (by decide) rfl (xs_R_0 hS hok) ?_
    rw [e22]
    refine ax_icmp_ge (tgt := 57) dX5_readBend_36 (by decide) (fun hc => absurd ((nI_leI (by omega) (by omega)).mp hc) (by omega)) (fun hc => ?_)
    refine ax_aload_n dX5_readBend_39 rfl ?_
    refine ax_getK (f := 1) (S + 1) dX5_readBend_40 acl_5 wd_254 (by decide) rfl (xs_R_0 hS hok) (xr_R_1 hS hok) ?_
    refine ax_iload_n dX5_readBend_43 rfl ?_
    refine ax_ialdN (i) dX5_readBend_44 (xs_R_1 hS hok) (by decide) (by first | with_reducible rfl | assumption | exact ax_nix (by simp only [nx_0, nx_1, nx_2, nx_3, nx_4, nx_10, nx_20, nx_21, nx_100, nI_add, pk_mul] <;> rfl) (by omega) | decide) (by omega) ?_
    rw [m2 (S + 1) i (by omega) (by omega) (by omega), e1]
    refine ax_iload_n dX5_readBend_45 rfl ?_
    refine ax_icmp_ne (tgt := 51) dX5_readBend_46 (by decide) (fun hc => ?_) (fun hc => ?_)
    · refine ax_iinc (v := 1) dX5_readBend_51 rfl (by decide) (by decide) rfl ?_
      refine ax_goto (tgt := 31) dX5_readBend_54 (by decide) ?_
      rw [nI_1]
      refine next _ _ ⟨rfl, rfl, fun j hj => ?_⟩
      by_cases c9 : j = i
      · subst c9; intro c8; exact hc (by rw [c8, ← iI_nI])
      · exact hno j (by omega)
    · have hv : bs i = (x1.2 : Int) := by
        rw [iI_nI] at hc
        exact (iI_eq (by unfold iI_b; omega) (by unfold iI_b; omega)).mp hc
      refine ax_iconst (v := 1) dX5_readBend_49 (by decide) ?_
      refine ax_zret dX5_readBend_50 rfl ?_ ?_
      · exact Or.inr rfl
      · exact fin N nb bs (wf_0 S N) g2 e23 (Or.inl ⟨rfl, rfl, i, hi, hv⟩) e22 (fun j hj => (m2 _ _ (by omega) (by omega) (by omega)).trans (hbd.2.2.1 j hj).1) (fun n i c1 c2 c3 c4 => m2 n i c1 c2 (by omega))
  · rintro N L ⟨rfl, rfl, hno⟩
    refine ax_iload_n dX5_readBend_31 rfl ?_
    refine ax_aload_n dX5_readBend_32 rfl ?_
    refine ax_getI (f := 2) dX5_readBend_33 acl_5 wd_255 (by decide) rfl (xs_R_0 hS hok) ?_
    rw [e22]
    refine ax_icmp_ge (tgt := 57) dX5_readBend_36 (by decide) (fun hc => ?_) (fun hc => absurd ((nI_leI (by omega) (by omega)).mpr (by omega)) hc)
    refine ax_aload_n dX5_readBend_57 rfl ?_
    refine ax_getI (f := 2) dX5_readBend_58 acl_5 wd_255 (by decide) rfl (xs_R_0 hS hok) ?_
    refine ax_bipush (v := 6) dX5_readBend_61 (by decide) ?_
    rw [e22]
    refine ax_icmp_ge (tgt := 86) dX5_readBend_63 (by decide) (fun hc => ?_) (fun hc => ?_)
    · have := (nI_leI (a := 6) (by omega) (by omega)).mp hc
      omega
    clear hc
    refine ax_aload_n dX5_readBend_66 rfl ?_
    refine ax_getK (f := 1) (S + 1) dX5_readBend_67 acl_5 wd_254 (by decide) rfl (xs_R_0 hS hok) (xr_R_1 hS hok) ?_
    refine ax_aload_n dX5_readBend_70 rfl ?_
    refine ax_getI (f := 2) dX5_readBend_71 acl_5 wd_255 (by decide) rfl (xs_R_0 hS hok) ?_
    rw [e22]
    refine ax_iload_n dX5_readBend_74 rfl ?_
    refine ax_iastN (nb) dX5_readBend_75 (xs_R_1 hS hok) (by decide) (by first | with_reducible rfl | assumption | exact ax_nix (by simp only [nx_0, nx_1, nx_2, nx_3, nx_4, nx_10, nx_20, nx_21, nx_100, nI_add, pk_mul] <;> rfl) (by omega) | decide) (by omega) ?_
    refine ax_gen (fun M3 hM3 => ?_)
    have hok : lo_ok M3.2 := by rw [hM3]; exact hok
    have g3 := xg_p hS g2 (by omega) hM3
    have e32 : M3.1 S 2 = nI nb := by rw [hM3, ax_pn (by omega)]; exact e22
    refine ax_aload_n dX5_readBend_76 rfl ?_
    refine ax_dup dX5_readBend_77 (by first | rfl | exact ax_crf _) ?_
    refine ax_getI (f := 2) dX5_readBend_78 acl_5 wd_255 (by decide) rfl (xs_R_0 hS hok) ?_
    rw [e32]
    refine ax_iconst (v := 1) dX5_readBend_81 (by decide) ?_
    refine ax_iadd dX5_readBend_82 ?_
    rw [nI_1]
    refine ax_putI (f := 2) dX5_readBend_83 acl_5 wd_255 (by decide) rfl rfl (ax_nfI rfl) (xs_R_0 hS hok) ?_
    refine ax_gen (fun M4 hM4 => ?_)
    have hok : lo_ok M4.2 := by rw [hM4]; exact hok
    have g4 := xg_p hS g3 (by omega) hM4
    refine ax_iconst (v := 1) dX5_readBend_86 (by decide) ?_
    refine ax_zret dX5_readBend_87 rfl ?_ ?_
    · exact Or.inr rfl
    · refine fin M4 (nb + 1) _ ?_ g4 ?_ (Or.inr ⟨rfl, rfl, hno⟩) ?_ (fun j hj => ?_) (fun n i c1 c2 c3 c4 => ?_)
      · rw [hM4, hM3]; exact wf_tr (wf_p (by omega)) (wf_p (by omega))
      · rw [hM4, ax_pn (by omega), hM3, ax_pn (by omega)]; exact e23
      · rw [hM4, ax_pa]
      · rw [hM4, ax_pn (by omega), hM3]
        by_cases c9 : j = nb
        · subst c9; rw [ax_pa, if_pos rfl, iI_nI]
        · rw [ax_pn (by omega), if_neg c9, m2 _ _ (by omega) (by omega) (by omega)]
          exact (hbd.2.2.1 j (by omega)).1
      · rw [hM4, ax_pn (by omega), hM3, ax_pn (by omega)]; exact m2 n i c1 c2 (by omega)
set_option maxHeartbeats 1000000 in
theorem c_readWet (hS : xh_R S) {a : Nat} (hg : xg M z B (a, none)) (hr : xr M S q) (ho : rd_ok q) (hnf : ¬ fl_k q 4) : ax_Met l G kX5_readWet 3 0 0 M [av_r S, av_r 2] (fun o M2 => o = .inl (some (av_i (if (ca B z q 4 (a, none)).1.2 = none then 1 else 0))) ∧ wf S M M2 ∧ xg M2 z B (ca B z q 4 (a, none)).1 ∧ ((ca B z q 4 (a, none)).1.2 = none → xr M2 S (cn (ca B z q 4 (a, none)).2 4 (ca B z q 4 (a, none)).1))) := by
  have hok := hg.1.1
  have h0 := ho.1
  have eN : iI (q 0 - 1) = nI (q 0 - 1).toNat := iI_tn (by omega)
  obtain ⟨a0, a1, a2, a3, a4, a5, a6, a7, a8⟩ := hr.1
  generalize hQ : (fun (o : ax_O) (M2 : ax_M) => o = .inl (some (av_i (if (ca B z q 4 (a, none)).1.2 = none then 1 else 0))) ∧ wf S M M2 ∧ xg M2 z B (ca B z q 4 (a, none)).1 ∧ ((ca B z q 4 (a, none)).1.2 = none → xr M2 S (cn (ca B z q 4 (a, none)).2 4 (ca B z q 4 (a, none)).1))) = Q
  have bad : ∀ (M2 : ax_M) (s : rk), (ca B z q 4 (a, none)).1 = s → ¬ s.2 = none → wf S M M2 → xg M2 z B s → Q (.inl (some (av_i 0))) M2 := by
    intro M2 s h1 h2 h3 h4
    rw [← hQ]
    subst h1
    exact ⟨by rw [if_neg h2], h3, h4, fun c => absurd c h2⟩
  have good : ∀ (M2 : ax_M) (s : rk) (q2 : Nat → Int), ca B z q 4 (a, none) = (s, q2) → s.2 = none → wf S M M2 → xg M2 z B s → xr M2 S (cn q2 4 s) → Q (.inl (some (av_i 1))) M2 := by
    intro M2 s q2 h1 h2 h3 h4 h5
    rw [← hQ, h1]
    exact ⟨by rw [if_pos h2], h3, h4, fun _ => h5⟩
  have neg1 : ∀ v : Nat, v < 1000 → ¬ nI v = -1 := fun v hv c => by
    rw [iI_nI, show (-1 : Int32) = iI (-1) from rfl, iI_eq (by unfold iI_b; omega) (by unfold iI_b; omega)] at c
    omega
  unfold ca at bad good
  simp only [if_neg (show ¬ 4 = 0 by decide), if_neg (show ¬ 4 = 1 by decide), if_neg (show ¬ 4 = 2 by decide), if_neg (show ¬ 4 = 3 by decide), if_true] at bad good
  refine ax_body (by decide) (Nat.le_of_ble_eq_true rfl) ?_
  have hq4 : ¬ q 4 = 4 := fun c => hnf (Or.inr (Or.inr (Or.inr ⟨rfl, c⟩)))
  have ec : iI (q 4) = nI (q 4).toNat := iI_tn (by omega)
  refine ax_aload_n dX5_readWet_0 rfl ?_
  refine ax_iconst (v := 0) dX5_readWet_1 (by decide) ?_
  refine ax_aload_n dX5_readWet_2 rfl ?_
  refine ax_getI (f := 0) dX5_readWet_3 acl_5 wd_252 (by decide) rfl (xs_R_0 hS hok) ?_
  rw [a0]
  refine ax_iconst (v := 1) dX5_readWet_6 (by decide) ?_
  refine ax_isub dX5_readWet_7 ?_
  rw [show (1 : Int32) = iI 1 from rfl, iI_sub]
  refine ax_callVN (As := _) (d2 := _) (c1 := 0) (n1 := 0) (c_takeNumber (M := M) hg eN (by omega)) dX5_readWet_8 mX6_takeNumber wd_959 acl_6 (lo_s hok 2 rfl) rfl (by omega) (by omega) (by omega) rfl rfl (fun _ _ h => by cases h.1) ?_
  rintro o9 M1 ⟨h1, f1, g1⟩; cases h1
  have v1 := rk_num_le (B := B) (z := z) (lo := 0) (hi := iI (q 0 - 1)) (s := (a, none)) eN (by omega)
  generalize rk_num B z 0 (iI (q 0 - 1)) (a, none) = x1 at *
  have hok := g1.1.1
  have m1 : ∀ n i, S ≤ n → n ≤ S + 7 → M1.1 n i = M.1 n i := fun n i c1 c2 => f1.2 n i (by unfold xh_R at hS; omega)
  by_cases n1 : x1.1.2 = none
  rotate_left
  · rw [if_neg n1]
    refine ax_istore_n dX5_readWet_11 (by decide) rfl ?_
    refine ax_iload_n dX5_readWet_12 rfl ?_
    refine ax_iconst (v := (-1)) dX5_readWet_13 (by decide) ?_
    refine ax_icmp_ne (tgt := 19) dX5_readWet_14 (by decide) (fun hc => ?_) (fun hc => ?_)
    · exact absurd rfl hc
    · refine ax_iconst (v := 0) dX5_readWet_17 (by decide) ?_
      refine ax_zret dX5_readWet_18 rfl ?_ ?_
      · exact Or.inl rfl
      · rw [rk_num_F n1] at bad
        exact bad M1 _ rfl n1 (wf_af f1) g1
  rw [if_pos n1]
  refine ax_istore_n dX5_readWet_11 (by decide) rfl ?_
  refine ax_iload_n dX5_readWet_12 rfl ?_
  refine ax_iconst (v := (-1)) dX5_readWet_13 (by decide) ?_
  refine ax_icmp_ne (tgt := 19) dX5_readWet_14 (by decide) (fun hc => ?_) (fun hc => ?_)
  rotate_left
  · exact absurd hc (neg1 _ (by omega))
  clear hc
  rw [rk_e n1] at g1
  refine ax_aload_n dX5_readWet_19 rfl ?_
  refine ax_iload_n dX5_readWet_20 rfl ?_
  refine ax_aload_n dX5_readWet_21 rfl ?_
  refine ax_getI (f := 0) dX5_readWet_22 acl_5 wd_252 (by decide) rfl (xs_R_0 hS hok) ?_
  rw [m1 S 0 (by omega) (by omega), a0]
  refine ax_iconst (v := 1) dX5_readWet_25 (by decide) ?_
  refine ax_isub dX5_readWet_26 ?_
  rw [show (1 : Int32) = iI 1 from rfl, iI_sub]
  refine ax_callVN (As := _) (d2 := _) (c1 := 0) (n1 := 0) (c_takeNumber (M := M1) g1 eN (by omega)) dX5_readWet_27 mX6_takeNumber wd_959 acl_6 (lo_s hok 2 rfl) rfl (by omega) (by omega) (by omega) rfl rfl (fun _ _ h => by cases h.1) ?_
  rintro o9 M2 ⟨h1, f2, g2⟩; cases h1
  rw [← rk_e n1] at g2
  rw [← rk_e n1]
  have v2 := rk_num_le (B := B) (z := z) (lo := nI x1.2) (hi := iI (q 0 - 1)) (s := x1.1) eN (by omega)
  have lo2 : (rk_num B z (nI x1.2) (iI (q 0 - 1)) x1.1).1.2 = none → x1.2 ≤ (rk_num B z (nI x1.2) (iI (q 0 - 1)) x1.1).2 := fun c => rk_num_lo (m := x1.2) rfl (by omega) c
  generalize rk_num B z (nI x1.2) (iI (q 0 - 1)) x1.1 = x2 at *
  have hok := g2.1.1
  have fA : wf S M M2 := wf_tr (wf_af f1) (wf_af f2)
  have m2 : ∀ n i, S ≤ n → n ≤ S + 7 → M2.1 n i = M.1 n i := fun n i c1 c2 => (f2.2 n i (by unfold xh_R at hS; omega)).trans (m1 n i c1 c2)
  by_cases n2 : x2.1.2 = none
  rotate_left
  · rw [if_neg n2]
    refine ax_istore_n dX5_readWet_30 (by decide) rfl ?_
    refine ax_iload_n dX5_readWet_31 rfl ?_
    refine ax_iconst (v := (-1)) dX5_readWet_32 (by decide) ?_
    refine ax_icmp_ne (tgt := 38) dX5_readWet_33 (by decide) (fun hc => ?_) (fun hc => ?_)
    · exact absurd rfl hc
    · refine ax_iconst (v := 0) dX5_readWet_36 (by decide) ?_
      refine ax_zret dX5_readWet_37 rfl ?_ ?_
      · exact Or.inl rfl
      · exact bad M2 _ rfl n2 fA g2
  rw [if_pos n2]
  have lo3 := lo2 n2
  refine ax_istore_n dX5_readWet_30 (by decide) rfl ?_
  refine ax_iload_n dX5_readWet_31 rfl ?_
  refine ax_iconst (v := (-1)) dX5_readWet_32 (by decide) ?_
  refine ax_icmp_ne (tgt := 38) dX5_readWet_33 (by decide) (fun hc => ?_) (fun hc => ?_)
  rotate_left
  · exact absurd hc (neg1 _ (by omega))
  clear hc
  refine ax_iload_n dX5_readWet_38 rfl ?_
  refine ax_istore dX5_readWet_39 (by decide) rfl ?_
  refine ax_for (x2.2 + 1 - x1.2) (fun i N L => L = [some (av_r S), some (av_r 2), some (av_i (nI x1.2)), some (av_i (nI x2.2)), some (av_i (nI (x1.2 + i)))] ∧ N.2 = M2.2 ∧ (∀ n j, n ≠ S + 2 → N.1 n j = M2.1 n j) ∧ ∀ x : Nat, x < 60 → N.1 (S + 2) x = if x1.2 ≤ x ∧ x < x1.2 + i then 1 else M2.1 (S + 2) x) 41 ?_ ?_ (i := 0) (by omega) ⟨rfl, rfl, fun _ _ _ => rfl, fun x hx => by rw [if_neg (by omega)]⟩
  · rintro i N L hi ⟨rfl, e1, e2, e3⟩ next
    have hok : lo_ok N.2 := by rw [e1]; exact hok
    refine ax_iload dX5_readWet_41 rfl ?_
    refine ax_iload_n dX5_readWet_43 rfl ?_
    refine ax_icmp_gt (tgt := 68) dX5_readWet_44 (by decide) (fun hc => absurd ((nI_ltI (by omega) (by omega)).mp hc) (by omega)) (fun hc => ?_)
    refine ax_iload dX5_readWet_47 rfl ?_
    refine ax_bipush (v := 60) dX5_readWet_49 (by decide) ?_
    refine ax_icmp_ge (tgt := 68) dX5_readWet_51 (by decide) (fun hc => ?_) (fun hc => ?_)
    · have := (nI_leI (a := 60) (by omega) (by omega)).mp hc
      omega
    clear hc
    refine ax_aload_n dX5_readWet_54 rfl ?_
    refine ax_getK (f := 4) (S + 2) dX5_readWet_55 acl_5 wd_258 (by decide) rfl (xs_R_0 hS hok) (xr_R_4 hS hok) ?_
    refine ax_iload dX5_readWet_58 rfl ?_
    refine ax_iconst (v := 1) dX5_readWet_60 (by decide) ?_
    refine ax_iastN (x1.2 + i) dX5_readWet_61 (xs_R_2 hS hok) (by decide) (by first | with_reducible rfl | assumption | exact ax_nix (by simp only [nx_0, nx_1, nx_2, nx_3, nx_4, nx_10, nx_20, nx_21, nx_100, nI_add, pk_mul] <;> rfl) (by omega) | decide) (by omega) ?_
    refine ax_gen (fun N2 hN2 => ?_)
    have hok : lo_ok N2.2 := by rw [hN2]; exact hok
    refine ax_iinc (v := 1) dX5_readWet_62 rfl (by decide) (by decide) rfl ?_
    refine ax_goto (tgt := 41) dX5_readWet_65 (by decide) ?_
    rw [nI_1]
    refine next _ _ ⟨rfl, by rw [hN2]; exact e1, fun n j hn => by rw [hN2, ax_pn (by omega)]; exact e2 n j hn, fun x hx => ?_⟩
    rw [hN2]
    by_cases c9 : x = x1.2 + i
    · subst c9; rw [ax_pa, if_pos (by omega)]
    · rw [ax_pn (by omega), e3 x hx]
      by_cases c8 : x1.2 ≤ x ∧ x < x1.2 + i
      · rw [if_pos c8, if_pos (by omega)]
      · rw [if_neg c8, if_neg (by omega)]
  · rintro N L ⟨rfl, e1, e2, e3⟩
    have hok : lo_ok N.2 := by rw [e1]; exact hok
    have eN5 : N.1 S 5 = iI (q 4) := by rw [e2 S 5 (by omega), m2 S 5 (by omega) (by omega)]; exact a4
    have gN : xg N z B x2.1 := xg_fr g2 e1 (fun n i hn => e2 n i (by unfold xh_R at hS; omega))
    refine ax_iload dX5_readWet_41 rfl ?_
    refine ax_iload_n dX5_readWet_43 rfl ?_
    refine ax_icmp_gt (tgt := 68) dX5_readWet_44 (by decide) (fun hc => ?_) (fun hc => absurd ((nI_ltI (by omega) (by omega)).mpr (by omega)) hc)
    refine ax_aload_n dX5_readWet_68 rfl ?_
    refine ax_dup dX5_readWet_69 (by first | rfl | exact ax_crf _) ?_
    refine ax_getI (f := 5) dX5_readWet_70 acl_5 wd_259 (by decide) rfl (xs_R_0 hS hok) ?_
    rw [eN5]
    refine ax_iconst (v := 1) dX5_readWet_73 (by decide) ?_
    refine ax_iadd dX5_readWet_74 ?_
    rw [show (1 : Int32) = iI 1 from rfl, iI_add]
    refine ax_putI (f := 5) dX5_readWet_75 acl_5 wd_259 (by decide) rfl rfl (ax_nfI rfl) (xs_R_0 hS hok) ?_
    refine ax_gen (fun N2 hN2 => ?_)
    have hok : lo_ok N2.2 := by rw [hN2]; exact hok
    refine ax_iconst (v := 1) dX5_readWet_78 (by decide) ?_
    refine ax_zret dX5_readWet_79 rfl ?_ ?_
    · exact Or.inr rfl
    · refine good N2 _ _ rfl n2 (wf_tr fA ⟨by rw [hN2]; exact e1, fun n i c1 c2 => by rw [hN2, ax_pn (by omega)]; exact e2 n i (by omega)⟩) (xg_p hS gN (by omega) hN2) ?_
      rw [rd_cn (by omega), if_pos n2, up_n (by omega), up_n (by omega)]
      have hqc : q 4 = ((q 4).toNat : Int) := by omega
      have k1 := xr_wet (M := M2) (M2 := N2) (c := (q 4).toNat) (v1 := (x1.2 : Int)) (v2 := (x2.2 : Int)) (xr_fr hr m2) ho hqc (by omega) (by rw [hN2, ax_pa]) (fun x hx => by
        rw [hN2, ax_pn (by omega), e3 x hx]
        by_cases c8 : x1.2 ≤ x ∧ x < x1.2 + (x2.2 + 1 - x1.2)
        · rw [if_pos c8, if_pos (by omega)]
        · rw [if_neg c8, if_neg (by omega)]) (fun n i c1 c2 => by rw [hN2, ax_pn c1]; exact e2 n i c2)
      exact k1
end XD

