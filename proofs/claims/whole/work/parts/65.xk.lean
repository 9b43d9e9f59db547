/-! ===== the class reads a book ===== -/
def xbk (M : ax_M) (K : Nat) (es : List (Nat × Nat)) : Prop := M.1 K 2 = nI es.length ∧ es.length ≤ 12 ∧ ∀ j q, es[j]? = some q → q.1 ≤ 99 ∧ M.1 (K + 1) j = nI q.1 ∧ M.1 (K + 2) j = nI q.2
def kf (K : Nat) (M M2 : ax_M) : Prop := M2.2 = M.2 ∧ ∀ n i, ¬ (n = 2 ∧ 3 ≤ i ∧ i ≤ 8) → ¬ (K ≤ n ∧ n ≤ K + 2) → M2.1 n i = M.1 n i
theorem kf_tr {K : Nat} {M M1 M2 : ax_M} (h1 : kf K M M1) (h2 : kf K M1 M2) : kf K M M2 := ⟨h2.1.trans h1.1, fun n i q1 q2 => (h2.2 n i q1 q2).trans (h1.2 n i q1 q2)⟩
theorem kf_af {K : Nat} {M M2 : ax_M} (h : af M M2) : kf K M M2 := ⟨h.1, fun n i q1 _ => h.2 n i q1⟩
theorem kf_0 (K : Nat) (M : ax_M) : kf K M M := ⟨rfl, fun _ _ _ _ => rfl⟩
theorem kf_p {K : Nat} {M : ax_M} {n i : Nat} {x : Int32} (h : K ≤ n ∧ n ≤ K + 2) : kf K M (ax_pI M n i x) := ⟨rfl, fun m j q1 q2 => ax_pn (by omega)⟩
theorem xbk_af {K : Nat} {M M2 : ax_M} {es : List (Nat × Nat)} (hK : xh_K K) (h : xbk M K es) (hf : af M M2) : xbk M2 K es := by
  have hk : 34 ≤ K := by unfold xh_K at hK; omega
  exact ⟨(hf.2 _ _ (by omega)).trans h.1, h.2.1, fun j q hq => ⟨(h.2.2 j q hq).1, (hf.2 _ _ (by omega)).trans (h.2.2 j q hq).2.1, (hf.2 _ _ (by omega)).trans (h.2.2 j q hq).2.2⟩⟩
theorem rk_wr_F {f p : Nat} {s : rk} (h : ¬ s.2 = none) : rk_wr f p s = s := by
  unfold rk_wr
  cases e : s.2 with
  | none => exact absurd e h
  | some w => rfl
theorem rk_wr_y {f p : Nat} {s : rk} (h : s.2 = none) : rk_wr f p s = (s.1, some (f, p)) := by
  unfold rk_wr
  rw [h]
theorem bk_dup_iff {es : List (Nat × Nat)} {t : Nat} : bk_dup es t = true ↔ ∃ (j : Nat) (q : Nat × Nat), es[j]? = some q ∧ q.1 = t := by
  unfold bk_dup
  rw [List.any_eq_true]
  constructor
  · rintro ⟨q, h1, h2⟩
    obtain ⟨j, hj⟩ := List.mem_iff_getElem?.mp h1
    exact ⟨j, q, hj, by simpa using h2⟩
  · rintro ⟨j, q, h1, h2⟩
    exact ⟨q, List.mem_of_getElem? h1, by simpa using h2⟩
section XKB
variable {l : Launch} {G : ax_G} {M : ax_M} {z : Nat} {B : Nat → Int32} {K : Nat} {es : List (Nat × Nat)}
theorem c_xtells {d t : Nat} (hok : lo_ok M.2) (hK : xh_K K) (hb : xbk M K es) (ht : t ≤ 1000) {x : Int32} (hx : x = nI t) : ax_Met l G kX0_tells d 0 0 M [av_r K, av_i x] (ax_p (av_i (if bk_dup es t = true then 1 else 0)) M) := by
  subst hx
  obtain ⟨h1, h2, h3⟩ := hb
  refine ax_body (by decide) (Nat.le_of_ble_eq_true rfl) ?_
  refine ax_iconst (v := 0) dX0_tells_0 (by decide) ?_
  refine ax_istore_n dX0_tells_1 (by decide) rfl ?_
  refine ax_for es.length (fun i N L => N = M ∧ L = [some (av_r K), some (av_i (nI t)), some (av_i (nI i))] ∧ ∀ j q, j < i → es[j]? = some q → ¬ q.1 = t) 2 ?_ ?_ (i := 0) (by omega) ⟨rfl, rfl, fun j q hj => by omega⟩
  · rintro i N L hi ⟨rfl, rfl, hno⟩ next
    have hei : es[i]? = some es[i] := List.getElem?_eq_getElem hi
    have h4 := h3 i _ hei
    refine ax_iload_n dX0_tells_2 rfl ?_
    refine ax_aload_n dX0_tells_3 rfl ?_
    refine ax_getI (f := 2) dX0_tells_4 acl_0 wd_399 (by decide) rfl (xs_K_0 hK hok) ?_
    rw [h1]
    refine ax_icmp_ge (tgt := 28) dX0_tells_7 (by decide) (fun hc => absurd ((nI_leI (by omega) (by omega)).mp hc) (by omega)) (fun hc => ?_)
    refine ax_aload_n dX0_tells_10 rfl ?_
    refine ax_getK (f := 0) (K + 1) dX0_tells_11 acl_0 wd_395 (by decide) rfl (xs_K_0 hK hok) (xr_K_0 hK hok) ?_
    refine ax_iload_n dX0_tells_14 rfl ?_
    refine ax_ialdN (i) dX0_tells_15 (xs_K_1 hK hok) (by decide) (by first | with_reducible rfl | assumption | exact ax_nix (by simp only [nx_0, nx_1, nx_2, nx_3, nx_4, nx_10, nx_20, nx_21, nx_100, nI_add, pk_mul] <;> rfl) (by omega) | decide) (by omega) ?_
    rw [h4.2.1]
    refine ax_iload_n dX0_tells_16 rfl ?_
    refine ax_icmp_ne (tgt := 22) dX0_tells_17 (by decide) (fun hc => ?_) (fun hc => ?_)
    · refine ax_iinc (v := 1) dX0_tells_22 rfl (by decide) (by decide) rfl ?_
      refine ax_goto (tgt := 2) dX0_tells_25 (by decide) ?_
      rw [nI_1]
      refine next _ _ ⟨rfl, rfl, fun j q hj hq => ?_⟩
      by_cases e : j = i
      · subst e
        rw [hei] at hq; cases hq
        exact fun c => hc (by rw [c])
      · exact hno j q (by omega) hq
    · have := (nI_eq (by omega) (by omega)).mp hc
      refine ax_iconst (v := 1) dX0_tells_20 (by decide) ?_
      refine ax_zret dX0_tells_21 rfl ?_ ?_
      · exact Or.inr rfl
      · rw [if_pos (bk_dup_iff.mpr ⟨i, _, hei, this⟩)]; exact ⟨rfl, rfl⟩
  · rintro N L ⟨rfl, rfl, hno⟩
    refine ax_iload_n dX0_tells_2 rfl ?_
    refine ax_aload_n dX0_tells_3 rfl ?_
    refine ax_getI (f := 2) dX0_tells_4 acl_0 wd_399 (by decide) rfl (xs_K_0 hK hok) ?_
    rw [h1]
    refine ax_icmp_ge (tgt := 28) dX0_tells_7 (by decide) (fun hc => ?_) (fun hc => absurd ((nI_leI (by omega) (by omega)).mpr (by omega)) hc)
    refine ax_iconst (v := 0) dX0_tells_28 (by decide) ?_
    refine ax_zret dX0_tells_29 rfl ?_ ?_
    · exact Or.inl rfl
    · rw [if_neg (fun c => by obtain ⟨j, q, h4, h5⟩ := bk_dup_iff.mp c; exact hno j q (List.getElem?_eq_some_iff.mp h4).1 h4 h5)]; exact ⟨rfl, rfl⟩
set_option maxHeartbeats 2000000 in
theorem c_readLine {a : Nat} (hK : xh_K K) (hg : xg M z B (a, none)) (hb : xbk M K es) (hsa : tx_sk B z a = a) : ax_Met l G kX0_readLine 3 0 0 M [av_r K, av_r 2] (fun o M2 => o = .inl (some (av_i (if (bk_ln B z es (a, none)).1.2 = none then 1 else 0))) ∧ kf K M M2 ∧ xg M2 z B (bk_ln B z es (a, none)).1 ∧ ((bk_ln B z es (a, none)).1.2 = none → xbk M2 K (es ++ [((bk_ln B z es (a, none)).2.1, (bk_ln B z es (a, none)).2.2)]))) := by
  have hok := hg.1.1
  have hk : 34 ≤ K := by unfold xh_K at hK; omega
  have hl12 := hb.2.1
  have haz : a ≤ z := hg.2.1.1
  generalize hQ : (fun (o : ax_O) (M2 : ax_M) => o = .inl (some (av_i (if (bk_ln B z es (a, none)).1.2 = none then 1 else 0))) ∧ kf K M M2 ∧ xg M2 z B (bk_ln B z es (a, none)).1 ∧ ((bk_ln B z es (a, none)).1.2 = none → xbk M2 K (es ++ [((bk_ln B z es (a, none)).2.1, (bk_ln B z es (a, none)).2.2)]))) = Q
  have bad : ∀ (N : ax_M) (s : rk), (bk_ln B z es (a, none)).1 = s → ¬ s.2 = none → kf K M N → xg N z B s → Q (.inl (some (av_i 0))) N := by
    intro N s h1 h2 h3 h4
    rw [← hQ]
    subst h1
    exact ⟨by rw [if_neg h2], h3, h4, fun c => absurd c h2⟩
  have good : ∀ (N : ax_M) (s : rk) (t b : Nat), bk_ln B z es (a, none) = (s, t, b) → s.2 = none → kf K M N → xg N z B s → xbk N K (es ++ [(t, b)]) → Q (.inl (some (av_i 1))) N := by
    intro N s t b h1 h2 h3 h4 h5
    rw [← hQ, h1]
    exact ⟨by rw [if_pos h2], h3, h4, fun _ => h5⟩
  unfold bk_ln at bad good
  simp only [] at bad good
  have tle : (rk_num B z 0 99 (a, none)).2 ≤ 99 := rk_num_le rfl (by omega)
  refine ax_body (by decide) (Nat.le_of_ble_eq_true rfl) ?_
  refine ax_aload_n dX0_readLine_0 rfl ?_
  refine ax_iconst (v := 0) dX0_readLine_1 (by decide) ?_
  refine ax_bipush (v := 99) dX0_readLine_2 (by decide) ?_
  refine ax_callVN (As := _) (d2 := _) (c1 := 0) (n1 := 0) (c_standsNumber (M := M) (m := 99) (hi := 99) hg rfl (by omega)) dX0_readLine_4 mX6_standsNumber wd_1105 acl_6 (lo_s hok 2 rfl) rfl (by omega) (by omega) (by omega) rfl rfl (fun _ _ h => by rcases h with ⟨_, h, _⟩ | ⟨_, h, _⟩ <;> cases h) ?_
  rintro o9 M1 (⟨n1, h1, h2, h3, h4, h5⟩ | ⟨n1, h1, h2, h3⟩)
  rotate_left
  · cases h1
    have hok := h3.1.1
    generalize rk_num B z 0 99 (a, none) = x1 at *
    refine ax_if_ne (tgt := 12) dX0_readLine_7 (by decide) (fun hc => ?_) (fun hc => ?_)
    · exact absurd rfl hc
    · refine ax_iconst (v := 0) dX0_readLine_10 (by decide) ?_
      refine ax_zret dX0_readLine_11 rfl ?_ ?_
      · exact Or.inl rfl
      · refine bad M1 x1.1 ?_ n1 (kf_af h2) h3
        have e1 : (if bk_dup es x1.2 = true then rk_wr 2 a x1.1 else x1.1) = x1.1 := by split; exact rk_wr_F n1; rfl
        rw [e1]
        have e2 : (if es.length = 12 then rk_wr 3 a x1.1 else x1.1) = x1.1 := by split; exact rk_wr_F n1; rfl
        rw [e2, rk_num_F n1, rk_sign_F n1]
  cases h1
  subst h2
  generalize rk_num B z 0 99 (a, none) = x1 at *
  refine ax_if_ne (tgt := 12) dX0_readLine_7 (by decide) (fun hc => ?_) (fun hc => ?_)
  rotate_left
  · exact absurd hc (by decide)
  clear hc
  refine ax_aload_n dX0_readLine_12 rfl ?_
  refine ax_getIN (f := 6) dX0_readLine_13 acl_6 wd_216 (by decide) rfl (lo_s hok 2 rfl) ?_
  rw [h3]
  refine ax_istore_n dX0_readLine_16 (by decide) rfl ?_
  refine ax_aload_n dX0_readLine_17 rfl ?_
  refine ax_iload_n dX0_readLine_18 rfl ?_
  refine ax_callV (As := _) (d2 := _) (c1 := 0) (n1 := 0) (c_xtells (d := 0) (M := M1) hok hK hb (t := x1.2) (by omega) rfl) dX0_readLine_19 mX0_tells wd_1106 acl_0 (xs_K_0 hK hok) rfl (by omega) (by omega) (by omega) rfl rfl (fun _ _ h => by cases h.1) ?_
  rintro r M9 ⟨h1, h9⟩; cases h1; rw [h9]; clear h9 M9
  refine ax_ifB_eq (tgt := 31) dX0_readLine_22 (by decide) (fun hc => ?_) (fun hc => ?_)
  rotate_left
  · have hd := hc
    refine ax_aload_n dX0_readLine_25 rfl ?_
    refine ax_iconst (v := 2) dX0_readLine_26 (by decide) ?_
    refine ax_callVN (As := _) (d2 := _) (c1 := 0) (n1 := 0) (c_fail (d := 0) (M := M1) hg (k := 2) (by omega) rfl) dX0_readLine_27 mX6_fail wd_1110 acl_6 (lo_s hok 2 rfl) rfl (by omega) (by omega) (by omega) rfl rfl (fun _ _ h => by cases h.1) ?_
    rintro o9 N2 ⟨h1, f2, g2⟩; cases h1
    rw [hsa] at g2
    refine ax_zret dX0_readLine_30 rfl ?_ ?_
    · exact Or.inl rfl
    · refine bad N2 (x1.1.1, some (2, a)) ?_ (Option.some_ne_none _) (kf_af f2) (g2 _ h5)
      rw [if_pos hd, rk_wr_y n1]
      have e2 : (if es.length = 12 then rk_wr 3 a (x1.1.1, some (2, a)) else (x1.1.1, some (2, a))) = (x1.1.1, some (2, a)) := by split; exact rk_wr_F (Option.some_ne_none _); rfl
      rw [e2, rk_num_F (Option.some_ne_none _), rk_sign_F (Option.some_ne_none _)]
  have hd := hc
  clear hc
  rw [if_neg hd] at bad good
  refine ax_aload_n dX0_readLine_31 rfl ?_
  refine ax_getI (f := 2) dX0_readLine_32 acl_0 wd_399 (by decide) rfl (xs_K_0 hK hok) ?_
  refine ax_bipush (v := 12) dX0_readLine_35 (by decide) ?_
  rw [hb.1]
  refine ax_icmp_lt (tgt := 46) dX0_readLine_37 (by decide) (fun hc => ?_) (fun hc => ?_)
  rotate_left
  · have h12 : es.length = 12 := by
      by_cases c : es.length < 12
      · exact absurd ((nI_ltI (b := 12) (by omega) (by omega)).mpr c) hc
      · omega
    refine ax_aload_n dX0_readLine_40 rfl ?_
    refine ax_iconst (v := 3) dX0_readLine_41 (by decide) ?_
    refine ax_callVN (As := _) (d2 := _) (c1 := 0) (n1 := 0) (c_fail (d := 0) (M := M1) hg (k := 3) (by omega) rfl) dX0_readLine_42 mX6_fail wd_1110 acl_6 (lo_s hok 2 rfl) rfl (by omega) (by omega) (by omega) rfl rfl (fun _ _ h => by cases h.1) ?_
    rintro o9 N2 ⟨h1, f2, g2⟩; cases h1
    rw [hsa] at g2
    refine ax_zret dX0_readLine_45 rfl ?_ ?_
    · exact Or.inl rfl
    · refine bad N2 (x1.1.1, some (3, a)) ?_ (Option.some_ne_none _) (kf_af f2) (g2 _ h5)
      rw [if_pos h12, rk_wr_y n1, rk_num_F (Option.some_ne_none _), rk_sign_F (Option.some_ne_none _)]
  have h12 := (nI_ltI (b := 12) (by omega) (by omega)).mp hc
  clear hc
  rw [if_neg (show ¬ es.length = 12 by omega)] at bad good
  refine ax_aload_n dX0_readLine_46 rfl ?_
  refine ax_callVN (As := _) (d2 := _) (c1 := 0) (n1 := 0) (c_adv (M := M1) (a := x1.1.1) hg h4 h5) dX0_readLine_47 mX6_advance wd_1111 acl_6 (lo_s hok 2 rfl) rfl (by omega) (by omega) (by omega) rfl rfl (fun _ _ h => by cases h.1) ?_
  rintro o9 N2 ⟨h1, f2, g2⟩; cases h1
  have hok := g2.1.1
  refine ax_aload_n dX0_readLine_50 rfl ?_
  refine ax_iconst (v := 0) dX0_readLine_51 (by decide) ?_
  refine ax_iconst (v := 1) dX0_readLine_52 (by decide) ?_
  refine ax_callVN (As := _) (d2 := _) (c1 := 0) (n1 := 0) (c_takeNumber (M := N2) (m := 1) (hi := 1) g2 rfl (by omega)) dX0_readLine_53 mX6_takeNumber wd_1112 acl_6 (lo_s hok 2 rfl) rfl (by omega) (by omega) (by omega) rfl rfl (fun _ _ h => by cases h.1) ?_
  rintro o9 N3 ⟨h1, f3, g3⟩; cases h1
  rw [← rk_e n1] at g3
  rw [← rk_e n1]
  have v2 := rk_num_le (B := B) (z := z) (lo := 0) (hi := 1) (s := x1.1) (m := 1) rfl (by omega)
  generalize rk_num B z 0 1 x1.1 = x2 at *
  have hok := g3.1.1
  have fA : kf K M1 N3 := kf_tr (kf_af f2) (kf_af f3)
  by_cases n2 : x2.1.2 = none
  rotate_left
  · rw [if_neg n2]
    refine ax_istore_n dX0_readLine_56 (by decide) rfl ?_
    refine ax_iload_n dX0_readLine_57 rfl ?_
    refine ax_iconst (v := (-1)) dX0_readLine_58 (by decide) ?_
    refine ax_icmp_eq (tgt := 71) dX0_readLine_59 (by decide) (fun hc => ?_) (fun hc => ?_)
    · refine ax_iconst (v := 0) dX0_readLine_71 (by decide) ?_
      refine ax_zret dX0_readLine_72 rfl ?_ ?_
      · exact Or.inl rfl
      · rw [rk_sign_F n2] at bad
        exact bad N3 _ rfl n2 fA g3
    · exact absurd rfl hc
  rw [if_pos n2]
  refine ax_istore_n dX0_readLine_56 (by decide) rfl ?_
  refine ax_iload_n dX0_readLine_57 rfl ?_
  refine ax_iconst (v := (-1)) dX0_readLine_58 (by decide) ?_
  refine ax_icmp_eq (tgt := 71) dX0_readLine_59 (by decide) (fun hc => ?_) (fun hc => ?_)
  · exact absurd hc (nI_m1 (by omega))
  clear hc
  rw [rk_e n2] at g3
  refine ax_aload_n dX0_readLine_62 rfl ?_
  refine ax_bipush (v := 59) dX0_readLine_63 (by decide) ?_
  refine ax_callVN (As := _) (d2 := _) (c1 := 0) (n1 := 0) (c_takeSign (M := N3) (c := 59) g3 ⟨rfl, by decide⟩) dX0_readLine_65 mX6_takeSign wd_1113 acl_6 (lo_s hok 2 rfl) rfl (by omega) (by omega) (by omega) rfl rfl (fun _ _ h => by cases h.1) ?_
  rintro o9 N4 ⟨h1, f4, g4⟩; cases h1
  rw [← rk_e n2] at g4
  rw [← rk_e n2]
  have hok := g4.1.1
  have fB : kf K M1 N4 := kf_tr fA (kf_af f4)
  have b4 := xbk_af hK (xbk_af hK (xbk_af hK hb f2) f3) f4
  by_cases n4 : (rk_sign B z 59 x2.1).2 = none
  rotate_left
  · rw [if_neg n4]
    refine ax_if_ne (tgt := 73) dX0_readLine_68 (by decide) (fun hc => ?_) (fun hc => ?_)
    · exact absurd rfl hc
    · refine ax_iconst (v := 0) dX0_readLine_71 (by decide) ?_
      refine ax_zret dX0_readLine_72 rfl ?_ ?_
      · exact Or.inl rfl
      · exact bad N4 _ rfl n4 fB g4
  rw [if_pos n4]
  refine ax_if_ne (tgt := 73) dX0_readLine_68 (by decide) (fun hc => ?_) (fun hc => ?_)
  rotate_left
  · exact absurd hc (by decide)
  clear hc
  refine ax_aload_n dX0_readLine_73 rfl ?_
  refine ax_getK (f := 0) (K + 1) dX0_readLine_74 acl_0 wd_395 (by decide) rfl (xs_K_0 hK hok) (xr_K_0 hK hok) ?_
  refine ax_aload_n dX0_readLine_77 rfl ?_
  refine ax_getI (f := 2) dX0_readLine_78 acl_0 wd_399 (by decide) rfl (xs_K_0 hK hok) ?_
  rw [b4.1]
  refine ax_iload_n dX0_readLine_81 rfl ?_
  refine ax_iastN (es.length) dX0_readLine_82 (xs_K_1 hK hok) (by decide) (by first | with_reducible rfl | assumption | exact ax_nix (by simp only [nx_0, nx_1, nx_2, nx_3, nx_4, nx_10, nx_20, nx_21, nx_100, nI_add, pk_mul] <;> rfl) (by omega) | decide) (by omega) ?_
  refine ax_gen (fun N5 hN5 => ?_)
  have hok : lo_ok N5.2 := by rw [hN5]; exact hok
  have e52 : N5.1 K 2 = nI es.length := by rw [hN5, ax_pn (by omega)]; exact b4.1
  refine ax_aload_n dX0_readLine_83 rfl ?_
  refine ax_getK (f := 1) (K + 2) dX0_readLine_84 acl_0 wd_397 (by decide) rfl (xs_K_0 hK hok) (xr_K_1 hK hok) ?_
  refine ax_aload_n dX0_readLine_87 rfl ?_
  refine ax_getI (f := 2) dX0_readLine_88 acl_0 wd_399 (by decide) rfl (xs_K_0 hK hok) ?_
  rw [e52]
  refine ax_iload_n dX0_readLine_91 rfl ?_
  refine ax_iastN (es.length) dX0_readLine_92 (xs_K_2 hK hok) (by decide) (by first | with_reducible rfl | assumption | exact ax_nix (by simp only [nx_0, nx_1, nx_2, nx_3, nx_4, nx_10, nx_20, nx_21, nx_100, nI_add, pk_mul] <;> rfl) (by omega) | decide) (by omega) ?_
  refine ax_gen (fun N6 hN6 => ?_)
  have hok : lo_ok N6.2 := by rw [hN6]; exact hok
  have e62 : N6.1 K 2 = nI es.length := by rw [hN6, ax_pn (by omega)]; exact e52
  refine ax_aload_n dX0_readLine_93 rfl ?_
  refine ax_dup dX0_readLine_94 (by first | rfl | exact ax_crf _) ?_
  refine ax_getI (f := 2) dX0_readLine_95 acl_0 wd_399 (by decide) rfl (xs_K_0 hK hok) ?_
  rw [e62]
  refine ax_iconst (v := 1) dX0_readLine_98 (by decide) ?_
  refine ax_iadd dX0_readLine_99 ?_
  rw [nI_1]
  refine ax_putI (f := 2) dX0_readLine_100 acl_0 wd_399 (by decide) rfl rfl (ax_nfI rfl) (xs_K_0 hK hok) ?_
  refine ax_gen (fun N7 hN7 => ?_)
  have hok : lo_ok N7.2 := by rw [hN7]; exact hok
  have g7 : xg N7 z B (rk_sign B z 59 x2.1) := xg_fr g4 (by rw [hN7, hN6, hN5]; rfl) (fun n i hn => by rw [hN7, ax_pn (by omega), hN6, ax_pn (by omega), hN5, ax_pn (by omega)])
  refine ax_iconst (v := 1) dX0_readLine_103 (by decide) ?_
  refine ax_zret dX0_readLine_104 rfl ?_ ?_
  · exact Or.inr rfl
  · refine good N7 _ x1.2 x2.2 rfl n4 (kf_tr fB ?_) g7 ?_
    · rw [hN7, hN6, hN5]; exact kf_tr (kf_tr (kf_p (by omega)) (kf_p (by omega))) (kf_p (by omega))
    · have hl : (es ++ [(x1.2, x2.2)]).length = es.length + 1 := by simp
      refine ⟨by rw [hl, hN7, ax_pa], by rw [hl]; omega, fun j q hq => ?_⟩
      by_cases hj : j < es.length
      · rw [List.getElem?_append_left hj] at hq
        rw [hN7, ax_pn (by omega), ax_pn (by omega), hN6, ax_pn (by omega), ax_pn (by omega), hN5, ax_pn (by omega), ax_pn (by omega)]
        exact b4.2.2 j q hq
      · have hj2 : j < es.length + 1 := by rw [← hl]; exact (List.getElem?_eq_some_iff.mp hq).1
        have hj3 : j = es.length := by omega
        subst hj3
        rw [List.getElem?_append_right (Nat.le_refl _), Nat.sub_self] at hq
        cases hq
        refine ⟨tle, ?_, ?_⟩
        · rw [hN7, ax_pn (by omega), hN6, ax_pn (by omega), hN5, ax_pa]
        · rw [hN7, ax_pn (by omega), hN6, ax_pa]
set_option maxHeartbeats 2000000 in
theorem c_bookFrom (hK : xh_K K) (hg : xg M z B (0, none)) : ax_Met l G kX0_readFrom 4 0 0 M [av_r K, av_r 2] (fun o M2 => o = .inl (some (av_i (if (bk_text B z).1.2 = none then 1 else 0))) ∧ kf K M M2 ∧ xg M2 z B (bk_text B z).1 ∧ ((bk_text B z).1.2 = none → xbk M2 K (bk_text B z).2)) := by
  have hok := hg.1.1
  have hB := hg.1.2.2.2.1
  have h600 := hg.1.2.2.1
  have hk : 34 ≤ K := by unfold xh_K at hK; omega
  generalize hQ : (fun (o : ax_O) (M2 : ax_M) => o = .inl (some (av_i (if (bk_text B z).1.2 = none then 1 else 0))) ∧ kf K M M2 ∧ xg M2 z B (bk_text B z).1 ∧ ((bk_text B z).1.2 = none → xbk M2 K (bk_text B z).2)) = Q
  have bad : ∀ (N : ax_M) (s : rk), (bk_text B z).1 = s → ¬ s.2 = none → kf K M N → xg N z B s → Q (.inl (some (av_i 0))) N := by
    intro N s h1 h2 h3 h4
    rw [← hQ]
    subst h1
    exact ⟨by rw [if_neg h2], h3, h4, fun c => absurd c h2⟩
  have good : ∀ (N : ax_M) (s : rk) (es : List (Nat × Nat)), bk_text B z = (s, es) → s.2 = none → kf K M N → xg N z B s → xbk N K es → Q (.inl (some (av_i 1))) N := by
    intro N s es h1 h2 h3 h4 h5
    rw [← hQ, h1]
    exact ⟨by rw [if_pos h2], h3, h4, fun _ => h5⟩
  have loop : ∀ (f a : Nat) (es : List (Nat × Nat)) (N : ax_M), es.length + f = 601 → tx_sk B z a = a → xg N z B (a, none) → xbk N K es → kf K M N → bk_run B z f (a, none) es = bk_text B z → ax_W l G kX0_readFrom (ax_FQ G Q) 4 0 0 N 7 [some (av_r K), some (av_r 2), some (av_i (nI es.length))] [] := by
    intro f
    induction f with
    | zero => intro a es N h1 _ _ h2; have := h2.2.1; omega
    | succ f ih =>
      intro a es N hnf ha hgN hbN hwN hR
      have hok := hgN.1.1
      have h12 := hbN.2.1
      obtain ⟨ht, h7, h8, haz⟩ := xg_t hgN
      have t5 := ht.2.1
      rw [ha] at t5
      refine ax_iload_n dX0_readFrom_7 rfl ?_
      refine ax_bipush (v := 12) dX0_readFrom_8 (by decide) ?_
      refine ax_icmp_gt (tgt := 38) dX0_readFrom_10 (by decide) (fun hc => ?_) (fun hc => ?_)
      · have := (nI_ltI (a := 12) (by omega) (by omega)).mp hc
        omega
      clear hc
      refine ax_aload_n dX0_readFrom_13 rfl ?_
      refine ax_getIN (f := 5) dX0_readFrom_14 acl_6 wd_212 (by decide) rfl (lo_s hok 2 rfl) ?_
      rw [t5]
      refine ax_if_ne (tgt := 22) dX0_readFrom_17 (by decide) (fun hc => ?_) (fun hc => ?_)
      rotate_left
      · have ht0 : tk B z a = 0 := (nI_eq (b := 0) (by have := tk_3 (B := B) (z := z) (b := a); omega) (by omega)).mp hc
        have hge : ¬ a < z := fun c => by
          unfold tk at ht0
          rw [if_pos c] at ht0
          have := (tkc_b (B a)).1
          omega
        refine ax_iconst (v := 1) dX0_readFrom_20 (by decide) ?_
        refine ax_zret dX0_readFrom_21 rfl ?_ ?_
        · exact Or.inr rfl
        · exact good N (a, none) es (by rw [← hR]; exact bk_stop (fun c => hge c.2) _) rfl hwN hgN hbN
      have hlt : a < z := by
        by_cases c : a < z
        · exact c
        · exact absurd (by unfold tk; rw [if_neg c]; rfl) hc
      clear hc
      have hR2 : bk_run B z f (rk_bl B z (bk_ln B z es (a, none)).1) (if (bk_ln B z es (a, none)).1.2 = none then es ++ [((bk_ln B z es (a, none)).2.1, (bk_ln B z es (a, none)).2.2)] else es) = bk_text B z := by rw [← hR]; exact (if_pos ⟨rfl, hlt⟩).symm
      refine ax_aload_n dX0_readFrom_22 rfl ?_
      refine ax_aload_n dX0_readFrom_23 rfl ?_
      refine ax_callV (As := _) (d2 := _) (c1 := 0) (n1 := 0) (c_readLine (M := N) hK hgN hbN ha) dX0_readFrom_24 mX0_readLine wd_1101 acl_0 (xs_K_0 hK hok) rfl (by omega) (by omega) (by omega) rfl rfl (fun _ _ h => by cases h.1) ?_
      rintro o9 N2 ⟨h1, f2, g2, b2⟩; cases h1
      generalize bk_ln B z es (a, none) = y at *
      have hok := g2.1.1
      by_cases n2 : y.1.2 = none
      · rw [if_pos n2] at hR2 ⊢
        refine ax_if_ne (tgt := 32) dX0_readFrom_27 (by decide) (fun hc => ?_) (fun hc => ?_)
        · refine ax_iinc (v := 1) dX0_readFrom_32 rfl (by decide) (by decide) rfl ?_
          refine ax_goto (tgt := 7) dX0_readFrom_35 (by decide) ?_
          rw [nI_1]
          rw [rk_e n2] at g2
          have h3 := b2 n2
          have hl : (es ++ [(y.2.1, y.2.2)]).length = es.length + 1 := by simp
          have h4 := ih (tx_sk B z y.1.1) (es ++ [(y.2.1, y.2.2)]) N2 (by rw [hl]; omega) (tx_sk_sk _ _ _) (xg_sk g2) h3 (kf_tr hwN f2) (by rw [← hR2]; rw [show rk_bl B z y.1 = (tx_sk B z y.1.1, none) from Prod.ext rfl n2])
          rw [hl] at h4
          exact h4
        · exact absurd hc (by decide)
      · rw [if_neg n2] at hR2 ⊢
        refine ax_if_ne (tgt := 32) dX0_readFrom_27 (by decide) (fun hc => ?_) (fun hc => ?_)
        · exact absurd rfl hc
        · refine ax_iconst (v := 0) dX0_readFrom_30 (by decide) ?_
          refine ax_zret dX0_readFrom_31 rfl ?_ ?_
          · exact Or.inl rfl
          · obtain ⟨e, he⟩ := Option.ne_none_iff_exists'.mp n2
            rw [bk_stop (s := rk_bl B z y.1) (fun c => n2 c.1)] at hR2
            have hy : y.1 = (y.1.1, some e) := Prod.ext rfl he
            rw [hy] at g2
            refine bad N2 (rk_bl B z y.1) (by rw [← hR2]) n2 (kf_tr hwN f2) ?_
            rw [show rk_bl B z y.1 = (tx_sk B z y.1.1, some e) from Prod.ext rfl he]
            exact xv_of g2 _ (tx_sk_z g2.2.1.1)
  refine ax_body (by decide) (Nat.le_of_ble_eq_true rfl) ?_
  refine ax_aload_n dX0_readFrom_0 rfl ?_
  refine ax_iconst (v := 0) dX0_readFrom_1 (by decide) ?_
  refine ax_putI (f := 2) dX0_readFrom_2 acl_0 wd_399 (by decide) rfl rfl (ax_nfI rfl) (xs_K_0 hK hok) ?_
  refine ax_gen (fun M1 hM1 => ?_)
  have hok : lo_ok M1.2 := by rw [hM1]; exact hok
  have g1 : xg M1 z B (0, none) := xg_fr hg (by rw [hM1]; rfl) (fun n i hn => by rw [hM1, ax_pn (by omega)])
  refine ax_iconst (v := 0) dX0_readFrom_5 (by decide) ?_
  refine ax_istore_n dX0_readFrom_6 (by decide) rfl ?_
  exact loop 601 (tx_sk B z 0) [] M1 rfl (tx_sk_sk _ _ _) (xg_sk g1) ⟨by rw [hM1, ax_pa]; rfl, by simp, fun j q hq => by simp at hq⟩ (by rw [hM1]; exact kf_p (by omega)) rfl
end XKB

