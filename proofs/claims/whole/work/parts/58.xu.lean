/-! ===== the class's reader: numbers, signs, words ===== -/
theorem xg_z {M : ax_M} {z : Nat} {B : Nat → Int32} {s : rk} (h : xg M z B s) : xz M z B := h.1
theorem xg_t {M : ax_M} {z : Nat} {B : Nat → Int32} {a : Nat} (h : xg M z B (a, none)) : xt M z B a ∧ M.1 2 7 = 0 ∧ M.1 2 8 = -1 ∧ a ≤ z := ⟨h.2.2.1, h.2.2.2.1, h.2.2.2.2, h.2.1.1⟩
theorem xg_fr {M M2 : ax_M} {z : Nat} {B : Nat → Int32} {s : rk} (h : xg M z B s) (h2 : M2.2 = M.2) (hf : ∀ n i, n = 2 ∨ n = 3 → M2.1 n i = M.1 n i) : xg M2 z B s := by
  obtain ⟨h1, h3, h4⟩ := h
  refine ⟨⟨by rw [h2]; exact h1.1, (hf 2 2 (by omega)).trans h1.2.1, h1.2.2.1, h1.2.2.2.1, fun i hi => (hf 3 i (by omega)).trans (h1.2.2.2.2 i hi)⟩, h3, ?_⟩
  cases e : s.2 with
  | none =>
    rw [e] at h4
    obtain ⟨⟨a1, a2, a3, a4⟩, a5, a6⟩ := h4
    exact ⟨⟨(hf 2 4 (by omega)).trans a1, (hf 2 5 (by omega)).trans a2, (hf 2 3 (by omega)).trans a3, (hf 2 6 (by omega)).trans a4⟩, (hf 2 7 (by omega)).trans a5, (hf 2 8 (by omega)).trans a6⟩
  | some w => rw [e] at h4; exact ⟨(hf 2 7 (by omega)).trans h4.1, (hf 2 8 (by omega)).trans h4.2⟩
theorem tk_dg {B : Nat → Int32} {z b : Nat} (hB : ps_B B z) (hb : b < 2 ^ 31) : tk B z b = 1 ↔ tx_dg (B b) = true := by
  unfold tk
  by_cases h : b < z
  · rw [if_pos h]
    have := tkc_1 (B b)
    unfold tp at this
    rw [← this, decide_eq_true_eq]
  · rw [if_neg h, hB b (by omega) hb]
    exact ⟨fun q => by omega, fun q => absurd q (by decide)⟩
theorem tk_sm {B : Nat → Int32} {z b : Nat} (hB : ps_B B z) (hb : b < 2 ^ 31) : tk B z b = 2 ↔ tx_sm (B b) = true := by
  unfold tk
  by_cases h : b < z
  · rw [if_pos h]
    have := tkc_2 (B b)
    unfold tp at this
    rw [← this, decide_eq_true_eq]
  · rw [if_neg h, hB b (by omega) hb]
    exact ⟨fun q => by omega, fun q => absurd q (by decide)⟩
theorem tk_3 {B : Nat → Int32} {z b : Nat} : tk B z b ≤ 3 := by unfold tk; have := (tkc_b (B b)).2; split <;> omega
/-- a sign: neither digit nor small letter, nor what stands behind the end -/
def sgn (c : Int32) : Prop := tkc c = 3 ∧ c ≠ -1
theorem tk_sg {B : Nat → Int32} {z b : Nat} {c : Int32} (hB : ps_B B z) (hb : b < 2 ^ 31) (hc : sgn c) : (tk B z b = 3 ∧ B b = c) ↔ B b = c := by
  constructor
  · exact fun q => q.2
  · intro q
    refine ⟨?_, q⟩
    have h := ps_in_z hB hb (by rw [q]; exact hc.2)
    unfold tk
    rw [if_pos h, q]; exact hc.1
section XU
variable {l : Launch} {G : ax_G} {M : ax_M} {z : Nat} {B : Nat → Int32}
theorem c_fail {d : Nat} {a k : Nat} (h : xg M z B (a, none)) (hk : 1 ≤ k ∧ k ≤ 4) {x : Int32} (hx : x = nI k) : ax_Met l G kX6_fail d 0 0 M [av_r 2, av_i x] (fun o M2 => o = .inl (some (av_i 0)) ∧ af M M2 ∧ ∀ a2, a2 ≤ z → xg M2 z B (a2, some (k, tx_sk B z a))) := by
  subst hx
  have hok := h.1.1
  obtain ⟨ht, h7, h8, haz⟩ := xg_t h
  refine ax_body (by decide) (Nat.le_of_ble_eq_true rfl) ?_
  refine ax_aload_n dX6_fail_0 rfl ?_
  refine ax_getI (f := 7) dX6_fail_1 acl_6 wd_217 (by decide) rfl (lo_s hok 2 rfl) ?_
  rw [h7]
  refine ax_if_ne (tgt := 20) dX6_fail_4 (by decide) (fun hc => ?_) (fun hc => ?_)
  · exact absurd rfl hc
  refine ax_aload_n dX6_fail_7 rfl ?_
  refine ax_iload_n dX6_fail_8 rfl ?_
  refine ax_putI (f := 7) dX6_fail_9 acl_6 wd_217 (by decide) rfl rfl (ax_nfI rfl) (lo_s hok 2 rfl) ?_
  refine ax_gen (fun M1 hM1 => ?_)
  have hok : lo_ok M1.2 := by rw [hM1]; exact hok
  refine ax_aload_n dX6_fail_12 rfl ?_
  refine ax_aload_n dX6_fail_13 rfl ?_
  refine ax_getI (f := 4) dX6_fail_14 acl_6 wd_210 (by decide) rfl (lo_s hok 2 rfl) ?_
  rw [hM1, ax_pn (by omega), ht.1, ← hM1]
  refine ax_putI (f := 8) dX6_fail_17 acl_6 wd_218 (by decide) rfl rfl (ax_nfI rfl) (lo_s hok 2 rfl) ?_
  refine ax_gen (fun M2 hM2 => ?_)
  have hok : lo_ok M2.2 := by rw [hM2]; exact hok
  refine ax_iconst (v := 0) dX6_fail_20 (by decide) ?_
  refine ax_zret dX6_fail_21 rfl ?_ ?_
  · exact Or.inl rfl
  · have hf : af M M2 := by rw [hM2, hM1]; exact af_tr (af_p (by omega)) (af_p (by omega))
    refine ⟨rfl, hf, fun a2 ha2 => ⟨af_z hf h.1, ⟨ha2, fun e q => by cases q; exact ⟨hk.1, hk.2, tx_sk_z haz⟩⟩, ?_⟩⟩
    exact ⟨by rw [hM2, ax_pn (by omega), hM1, ax_pa], by rw [hM2, ax_pa]⟩
theorem c_answerOfFault {d : Nat} (hok : lo_ok M.2) : ax_Met l G kX6_answerOfFault d 0 0 M [av_r 2] (ax_p (av_i (M.1 2 7 - 10)) M) := by
  refine ax_body (by decide) (Nat.le_of_ble_eq_true rfl) ?_
  refine ax_aload_n dX6_answerOfFault_0 rfl ?_
  refine ax_getI (f := 7) dX6_answerOfFault_1 acl_6 wd_217 (by decide) rfl (lo_s hok 2 rfl) ?_
  refine ax_bipush (v := 10) dX6_answerOfFault_4 (by decide) ?_
  refine ax_isub dX6_answerOfFault_6 ?_
  refine ax_iret dX6_answerOfFault_7 rfl ?_
  exact ⟨rfl, rfl⟩
/-- looks at the next token, no FAULT till now -/
theorem c_adv {a a0 : Nat} (h : xg M z B (a0, none)) (ha : M.1 2 3 = nI a) (haz : a ≤ z) : ax_Met l G kX6_advance 1 0 0 M [av_r 2] (fun o M2 => o = .inl none ∧ af M M2 ∧ xg M2 z B (a, none)) := by
  obtain ⟨ht, h7, h8, _⟩ := xg_t h
  refine ax_mono (c_advance h.1 ha haz) ?_
  rintro o M2 ⟨h1, ⟨h2, h3⟩, h4⟩
  have hf : af M M2 := ⟨h2, fun n i q => h3 n i (by omega)⟩
  exact ⟨h1, hf, af_z hf h.1, ⟨haz, fun e q => by cases q⟩, h4, (h3 2 7 (by omega)).trans h7, (h3 2 8 (by omega)).trans h8⟩
theorem c_isSign {d a : Nat} (h : xg M z B (a, none)) {c : Int32} (hc0 : sgn c) : ax_Met l G kX6_isSign d 0 0 M [av_r 2, av_i c] (ax_p (av_i (if B (tx_sk B z a) = c then 1 else 0)) M) := by
  have hok := h.1.1
  have h600 := h.1.2.2.1
  obtain ⟨ht, h7, h8, haz⟩ := xg_t h
  have hsk := tx_sk_z (B := B) haz
  have hsg := tk_sg (b := tx_sk B z a) h.1.2.2.2.1 (by omega) hc0
  have h3 := tk_3 (B := B) (z := z) (b := tx_sk B z a)
  refine ax_body (by decide) (Nat.le_of_ble_eq_true rfl) ?_
  refine ax_aload_n dX6_isSign_0 rfl ?_
  refine ax_getI (f := 5) dX6_isSign_1 acl_6 wd_211 (by decide) rfl (lo_s hok 2 rfl) ?_
  refine ax_iconst (v := 3) dX6_isSign_4 (by decide) ?_
  rw [ht.2.1]
  refine ax_icmp_ne (tgt := 25) dX6_isSign_5 (by decide) (fun hc => ?_) (fun hc => ?_)
  · have hne : ¬ tk B z (tx_sk B z a) = 3 := fun q => hc (by rw [q]; rfl)
    refine ax_iconst (v := 0) dX6_isSign_25 (by decide) ?_
    refine ax_zret dX6_isSign_26 rfl ?_ ?_
    · exact Or.inl rfl
    · rw [if_neg (fun q => hne (hsg.mpr q).1)]; exact ⟨rfl, rfl⟩
  have he : tk B z (tx_sk B z a) = 3 := (nI_eq (b := 3) (by omega) (by omega)).mp hc
  clear hc
  have hlt : tx_sk B z a < z := by
    unfold tk at he
    by_cases q : tx_sk B z a < z
    · exact q
    · rw [if_neg q] at he; omega
  refine ax_aload_n dX6_isSign_8 rfl ?_
  refine ax_getK (f := 0) 3 dX6_isSign_9 acl_6 wd_205 (by decide) rfl (lo_s hok 2 rfl) (lo_r hok 9 rfl) ?_
  refine ax_aload_n dX6_isSign_12 rfl ?_
  refine ax_getI (f := 4) dX6_isSign_13 acl_6 wd_210 (by decide) rfl (lo_s hok 2 rfl) ?_
  rw [ht.1]
  refine ax_ialdN (tx_sk B z a) dX6_isSign_16 (lo_s hok 3 rfl) (by decide) (by first | with_reducible rfl | assumption | exact ax_nix (by simp only [nx_0, nx_1, nx_2, nx_3, nx_4, nx_10, nx_20, nx_21, nx_100, nI_add, pk_mul] <;> rfl) (by omega) | decide) (by omega) ?_
  rw [h.1.2.2.2.2 _ hlt]
  refine ax_iload_n dX6_isSign_17 rfl ?_
  refine ax_icmp_ne (tgt := 25) dX6_isSign_18 (by decide) (fun hc => ?_) (fun hc => ?_)
  · refine ax_iconst (v := 0) dX6_isSign_25 (by decide) ?_
    refine ax_zret dX6_isSign_26 rfl ?_ ?_
    · exact Or.inl rfl
    · rw [if_neg hc]; exact ⟨rfl, rfl⟩
  · refine ax_iconst (v := 1) dX6_isSign_21 (by decide) ?_
    refine ax_goto (tgt := 26) dX6_isSign_22 (by decide) ?_
    refine ax_zret dX6_isSign_26 rfl ?_ ?_
    · exact Or.inr rfl
    · rw [if_pos hc]; exact ⟨rfl, rfl⟩
theorem c_takeSign {a : Nat} (h : xg M z B (a, none)) {c : Int32} (hc0 : sgn c) : ax_Met l G kX6_takeSign 2 0 0 M [av_r 2, av_i c] (fun o M2 => o = .inl (some (av_i (if (rk_sign B z c (a, none)).2 = none then 1 else 0))) ∧ af M M2 ∧ xg M2 z B (rk_sign B z c (a, none))) := by
  have hok := h.1.1
  have h600 := h.1.2.2.1
  obtain ⟨ht, h7, h8, haz⟩ := xg_t h
  have hsk := tx_sk_z (B := B) haz
  refine ax_body (by decide) (Nat.le_of_ble_eq_true rfl) ?_
  refine ax_aload_n dX6_takeSign_0 rfl ?_
  refine ax_iload_n dX6_takeSign_1 rfl ?_
  refine ax_callV (As := _) (d2 := _) (c1 := 0) (n1 := 0) (c_isSign (d := 0) (M := M) h hc0) dX6_takeSign_2 mX6_isSign wd_992 acl_6 (lo_s hok 2 rfl) rfl (by omega) (by omega) (by omega) rfl rfl (fun _ _ h => by cases h.1) ?_
  rintro r M9 ⟨h1, h9⟩; cases h1; rw [h9]; clear h9 M9
  refine ax_ifB_ne (tgt := 14) dX6_takeSign_5 (by decide) (fun hc => ?_) (fun hc => ?_)
  · have hr : rk_sign B z c (a, none) = (tx_sk B z a + 1, none) := if_pos hc
    have hsg := (tk_sg (b := tx_sk B z a) h.1.2.2.2.1 (by omega) hc0).mpr hc
    have hlt := ps_in_z (i := tx_sk B z a) h.1.2.2.2.1 (by omega) (by rw [hc]; exact hc0.2)
    refine ax_aload_n dX6_takeSign_14 rfl ?_
    refine ax_callV (As := _) (d2 := _) (c1 := 0) (n1 := 0) (c_adv (M := M) (a := tx_sk B z a + 1) h (by rw [ht.2.2.1]; unfold ta; rw [if_pos hsg.1]) (by omega)) dX6_takeSign_15 mX6_advance wd_867 acl_6 (lo_s hok 2 rfl) rfl (by omega) (by omega) (by omega) rfl rfl (fun _ _ h => by cases h.1) ?_
    rintro o9 M1 ⟨h1, f1, g1⟩; cases h1
    refine ax_iconst (v := 1) dX6_takeSign_18 (by decide) ?_
    refine ax_zret dX6_takeSign_19 rfl ?_ ?_
    · exact Or.inr rfl
    · rw [hr]; exact ⟨rfl, f1, g1⟩
  · have hr : rk_sign B z c (a, none) = (tx_sk B z a, some (1, tx_sk B z a)) := if_neg hc
    refine ax_aload_n dX6_takeSign_8 rfl ?_
    refine ax_iconst (v := 1) dX6_takeSign_9 (by decide) ?_
    refine ax_callV (As := _) (d2 := _) (c1 := 0) (n1 := 0) (c_fail (d := 0) (M := M) h (k := 1) (by omega) rfl) dX6_takeSign_10 mX6_fail wd_967 acl_6 (lo_s hok 2 rfl) rfl (by omega) (by omega) (by omega) rfl rfl (fun _ _ h => by cases h.1) ?_
    rintro o9 M1 ⟨h1, f1, g1⟩; cases h1
    refine ax_zret dX6_takeSign_13 rfl ?_ ?_
    · exact Or.inl rfl
    · rw [hr]; exact ⟨rfl, f1, g1 _ hsk⟩
/-- what stands here as a number -/
theorem xn_num {lo hi : Int32} {a m : Nat} (hB : ps_B B z) (hz : z ≤ 600) (haz : a ≤ z) (hh : hi = nI m) (hm : m < 100000) : rk_num B z lo hi (a, none) = if tk B z (tx_sk B z a) = 1 then (if lo ≤ nI (xn B 1 (z - tx_sk B z a) (tx_sk B z a) 0) ∧ nI (xn B 1 (z - tx_sk B z a) (tx_sk B z a) 0) ≤ hi then ((ta B z (tx_sk B z a), none), xn B 1 (z - tx_sk B z a) (tx_sk B z a) 0) else ((ta B z (tx_sk B z a), some (2, tx_sk B z a)), 0)) else ((tx_sk B z a, some (1, tx_sk B z a)), 0) := by
  have hsk := tx_sk_z (B := B) haz
  have hnv := xn_nv B (z - tx_sk B z a) (tx_sk B z a) 0 0 rfl
  have hxl := xn_le B 1 (z - tx_sk B z a) (tx_sk B z a) 0 (by omega)
  have hdg := tk_dg (b := tx_sk B z a) hB (by omega)
  have en : tx_num B z lo hi a = if tx_dg (B (tx_sk B z a)) = true then (if lo ≤ nI (tx_nv B (z - tx_sk B z a) (tx_sk B z a) 0) ∧ nI (tx_nv B (z - tx_sk B z a) (tx_sk B z a) 0) ≤ hi then (tx_run tx_dg B (z - tx_sk B z a) (tx_sk B z a), 0, 0, tx_nv B (z - tx_sk B z a) (tx_sk B z a) 0) else (tx_run tx_dg B (z - tx_sk B z a) (tx_sk B z a), 2, tx_sk B z a, 0)) else (tx_sk B z a, 1, tx_sk B z a, 0) := rfl
  have r0 : ∀ T y, tx_num B z lo hi a = (T, 0, 0, y) → rk_num B z lo hi (a, none) = ((T, none), y) := fun T y e => by
    show (if (tx_num B z lo hi a).2.1 = 0 then _ else _) = _
    rw [e]; exact if_pos rfl
  have r1 : ∀ T f y, tx_num B z lo hi a = (T, f + 1, y, 0) → rk_num B z lo hi (a, none) = ((T, some (f + 1, y)), 0) := fun T f y e => by
    show (if (tx_num B z lo hi a).2.1 = 0 then _ else _) = _
    rw [e]; exact if_neg (by show ¬ f + 1 = 0; omega)
  by_cases h1 : tk B z (tx_sk B z a) = 1
  · rw [if_pos h1]
    have hta : ta B z (tx_sk B z a) = tx_run tx_dg B (z - tx_sk B z a) (tx_sk B z a) := by
      unfold ta
      rw [if_neg (by omega), h1]
      exact tx_run_p tkc_1 _ _ _
    rw [if_pos (hdg.mp h1), ← hta] at en
    generalize xn B 1 (z - tx_sk B z a) (tx_sk B z a) 0 = x at *
    generalize tx_nv B (z - tx_sk B z a) (tx_sk B z a) 0 = y at *
    subst hh
    by_cases hx : x < 100000
    · have e : y = x := by omega
      subst e
      by_cases q : lo ≤ nI y ∧ nI y ≤ nI m
      · rw [if_pos q] at en ⊢; exact r0 _ _ en
      · rw [if_neg q] at en ⊢; exact r1 _ 1 _ en
    · have q1 : ¬ (lo ≤ nI y ∧ nI y ≤ nI m) := fun q => by have := (nI_leI (by omega) (by omega)).mp q.2; omega
      have q2 : ¬ (lo ≤ nI x ∧ nI x ≤ nI m) := fun q => by have := (nI_leI (by omega) (by omega)).mp q.2; omega
      rw [if_neg q1] at en
      rw [if_neg q2]
      exact r1 _ 1 _ en
  · rw [if_neg h1]
    rw [if_neg (fun q => h1 (hdg.mpr q))] at en
    exact r1 _ 0 _ en
theorem c_standsNumber {a m : Nat} (h : xg M z B (a, none)) {lo hi : Int32} (hh : hi = nI m) (hm : m < 100000) : ax_Met l G kX6_standsNumber 1 0 0 M [av_r 2, av_i lo, av_i hi] (fun o M2 => ((rk_num B z lo hi (a, none)).1.2 = none ∧ o = .inl (some (av_i 1)) ∧ M2 = M ∧ M.1 2 6 = nI (rk_num B z lo hi (a, none)).2 ∧ M.1 2 3 = nI (rk_num B z lo hi (a, none)).1.1 ∧ (rk_num B z lo hi (a, none)).1.1 ≤ z) ∨ (¬ (rk_num B z lo hi (a, none)).1.2 = none ∧ o = .inl (some (av_i 0)) ∧ af M M2 ∧ xg M2 z B (rk_num B z lo hi (a, none)).1)) := by
  have hok := h.1.1
  have h600 := h.1.2.2.1
  obtain ⟨ht, h7, h8, haz⟩ := xg_t h
  have hsk := tx_sk_z (B := B) haz
  have h3 := tk_3 (B := B) (z := z) (b := tx_sk B z a)
  have hxl := xn_le B 1 (z - tx_sk B z a) (tx_sk B z a) 0 (by omega)
  have hta := ta_z (B := B) hsk
  have hn := xn_num (lo := lo) h.1.2.2.2.1 h600 haz hh hm
  generalize hQ : (fun (o : ax_O) (M2 : ax_M) => ((rk_num B z lo hi (a, none)).1.2 = none ∧ o = .inl (some (av_i 1)) ∧ M2 = M ∧ M.1 2 6 = nI (rk_num B z lo hi (a, none)).2 ∧ M.1 2 3 = nI (rk_num B z lo hi (a, none)).1.1 ∧ (rk_num B z lo hi (a, none)).1.1 ≤ z) ∨ (¬ (rk_num B z lo hi (a, none)).1.2 = none ∧ o = .inl (some (av_i 0)) ∧ af M M2 ∧ xg M2 z B (rk_num B z lo hi (a, none)).1)) = Q
  have e6 : tk B z (tx_sk B z a) = 1 → M.1 2 6 = nI (xn B 1 (z - tx_sk B z a) (tx_sk B z a) 0) := fun h1 => by
    have := ht.2.2.2
    rw [h1] at this
    exact this
  have yes : tk B z (tx_sk B z a) = 1 → lo ≤ nI (xn B 1 (z - tx_sk B z a) (tx_sk B z a) 0) ∧ nI (xn B 1 (z - tx_sk B z a) (tx_sk B z a) 0) ≤ hi → Q (.inl (some (av_i 1))) M := by
    intro h1 h2
    rw [← hQ]
    rw [if_pos h1, if_pos h2] at hn
    rw [hn]
    exact Or.inl ⟨rfl, rfl, rfl, e6 h1, ht.2.2.1, hta⟩
  have no2 : tk B z (tx_sk B z a) = 1 → ¬ (lo ≤ nI (xn B 1 (z - tx_sk B z a) (tx_sk B z a) 0) ∧ nI (xn B 1 (z - tx_sk B z a) (tx_sk B z a) 0) ≤ hi) → ∀ M2, af M M2 → (∀ a2, a2 ≤ z → xg M2 z B (a2, some (2, tx_sk B z a))) → Q (.inl (some (av_i 0))) M2 := by
    intro h1 h2 M2 h3 h4
    rw [← hQ]
    rw [if_pos h1, if_neg h2] at hn
    rw [hn]
    exact Or.inr ⟨Option.some_ne_none _, rfl, h3, h4 _ hta⟩
  have no1 : ¬ tk B z (tx_sk B z a) = 1 → ∀ M2, af M M2 → (∀ a2, a2 ≤ z → xg M2 z B (a2, some (1, tx_sk B z a))) → Q (.inl (some (av_i 0))) M2 := by
    intro h1 M2 h3 h4
    rw [← hQ]
    rw [if_neg h1] at hn
    rw [hn]
    exact Or.inr ⟨Option.some_ne_none _, rfl, h3, h4 _ hsk⟩
  refine ax_body (by decide) (Nat.le_of_ble_eq_true rfl) ?_
  refine ax_aload_n dX6_standsNumber_0 rfl ?_
  refine ax_getI (f := 5) dX6_standsNumber_1 acl_6 wd_211 (by decide) rfl (lo_s hok 2 rfl) ?_
  refine ax_iconst (v := 1) dX6_standsNumber_4 (by decide) ?_
  rw [ht.2.1]
  refine ax_icmp_eq (tgt := 14) dX6_standsNumber_5 (by decide) (fun hc => ?_) (fun hc => ?_)
  · have h1 : tk B z (tx_sk B z a) = 1 := (nI_eq (b := 1) (by omega) (by omega)).mp hc
    clear hc
    have bad : ¬ (lo ≤ nI (xn B 1 (z - tx_sk B z a) (tx_sk B z a) 0) ∧ nI (xn B 1 (z - tx_sk B z a) (tx_sk B z a) 0) ≤ hi) → ax_W l G kX6_standsNumber (ax_FQ G Q) 1 0 0 M 30 [some (av_r 2), some (av_i lo), some (av_i hi)] [] := by
      intro hno
      refine ax_aload_n dX6_standsNumber_30 rfl ?_
      refine ax_iconst (v := 2) dX6_standsNumber_31 (by decide) ?_
      refine ax_callV (As := _) (d2 := _) (c1 := 0) (n1 := 0) (c_fail (d := 0) (M := M) h (k := 2) (by omega) rfl) dX6_standsNumber_32 mX6_fail wd_967 acl_6 (lo_s hok 2 rfl) rfl (by omega) (by omega) (by omega) rfl rfl (fun _ _ h => by cases h.1) ?_
      rintro o9 M1 ⟨h5, f1, g1⟩; cases h5
      refine ax_if_eq (tgt := 42) dX6_standsNumber_35 (by decide) (fun hc => ?_) (fun hc => ?_)
      · refine ax_iconst (v := 0) dX6_standsNumber_42 (by decide) ?_
        refine ax_zret dX6_standsNumber_43 rfl ?_ ?_
        · exact Or.inl rfl
        · exact no2 h1 hno M1 f1 g1
      · exact absurd rfl hc
    refine ax_aload_n dX6_standsNumber_14 rfl ?_
    refine ax_getI (f := 6) dX6_standsNumber_15 acl_6 wd_215 (by decide) rfl (lo_s hok 2 rfl) ?_
    refine ax_iload_n dX6_standsNumber_18 rfl ?_
    rw [e6 h1]
    refine ax_icmp_lt (tgt := 30) dX6_standsNumber_19 (by decide) (fun hc => ?_) (fun hc => ?_)
    · exact bad (fun q => Int32.not_lt.mpr q.1 hc)
    have q1 := Int32.not_lt.mp hc
    clear hc
    refine ax_aload_n dX6_standsNumber_22 rfl ?_
    refine ax_getI (f := 6) dX6_standsNumber_23 acl_6 wd_215 (by decide) rfl (lo_s hok 2 rfl) ?_
    refine ax_iload_n dX6_standsNumber_26 rfl ?_
    rw [e6 h1]
    refine ax_icmp_le (tgt := 38) dX6_standsNumber_27 (by decide) (fun hc => ?_) (fun hc => ?_)
    · refine ax_iconst (v := 1) dX6_standsNumber_38 (by decide) ?_
      refine ax_goto (tgt := 43) dX6_standsNumber_39 (by decide) ?_
      refine ax_zret dX6_standsNumber_43 rfl ?_ ?_
      · exact Or.inr rfl
      · exact yes h1 ⟨q1, hc⟩
    · exact bad (fun q => hc q.2)
  · have h1 : ¬ tk B z (tx_sk B z a) = 1 := fun q => hc (by rw [q]; rfl)
    refine ax_aload_n dX6_standsNumber_8 rfl ?_
    refine ax_iconst (v := 1) dX6_standsNumber_9 (by decide) ?_
    refine ax_callV (As := _) (d2 := _) (c1 := 0) (n1 := 0) (c_fail (d := 0) (M := M) h (k := 1) (by omega) rfl) dX6_standsNumber_10 mX6_fail wd_967 acl_6 (lo_s hok 2 rfl) rfl (by omega) (by omega) (by omega) rfl rfl (fun _ _ h => by cases h.1) ?_
    rintro o9 M1 ⟨h5, f1, g1⟩; cases h5
    refine ax_zret dX6_standsNumber_13 rfl ?_ ?_
    · exact Or.inl rfl
    · exact no1 h1 M1 f1 g1
theorem c_takeNumber {a m : Nat} (h : xg M z B (a, none)) {lo hi : Int32} (hh : hi = nI m) (hm : m < 100000) : ax_Met l G kX6_takeNumber 2 0 0 M [av_r 2, av_i lo, av_i hi] (fun o M2 => o = .inl (some (av_i (if (rk_num B z lo hi (a, none)).1.2 = none then nI (rk_num B z lo hi (a, none)).2 else -1))) ∧ af M M2 ∧ xg M2 z B (rk_num B z lo hi (a, none)).1) := by
  have hok := h.1.1
  refine ax_body (by decide) (Nat.le_of_ble_eq_true rfl) ?_
  refine ax_aload_n dX6_takeNumber_0 rfl ?_
  refine ax_iload_n dX6_takeNumber_1 rfl ?_
  refine ax_iload_n dX6_takeNumber_2 rfl ?_
  refine ax_callV (As := _) (d2 := _) (c1 := 0) (n1 := 0) (c_standsNumber (M := M) h hh hm) dX6_takeNumber_3 mX6_standsNumber wd_963 acl_6 (lo_s hok 2 rfl) rfl (by omega) (by omega) (by omega) rfl rfl (fun _ _ h => by rcases h with ⟨_, h, _⟩ | ⟨_, h, _⟩ <;> cases h) ?_
  rintro o9 M1 (⟨g0, h1, h2, h3, h4, h5⟩ | ⟨g0, h1, h2, h3⟩) <;> cases h1
  · subst h2
    refine ax_if_ne (tgt := 11) dX6_takeNumber_6 (by decide) (fun hc => ?_) (fun hc => ?_)
    · refine ax_aload_n dX6_takeNumber_11 rfl ?_
      refine ax_getI (f := 6) dX6_takeNumber_12 acl_6 wd_215 (by decide) rfl (lo_s hok 2 rfl) ?_
      rw [h3]
      refine ax_istore_n dX6_takeNumber_15 (by decide) rfl ?_
      refine ax_aload_n dX6_takeNumber_16 rfl ?_
      refine ax_callV (As := _) (d2 := _) (c1 := 0) (n1 := 0) (c_adv (M := M1) (a := (rk_num B z lo hi (a, none)).1.1) h h4 h5) dX6_takeNumber_17 mX6_advance wd_867 acl_6 (lo_s hok 2 rfl) rfl (by omega) (by omega) (by omega) rfl rfl (fun _ _ h => by cases h.1) ?_
      rintro o9 M2 ⟨h1, f1, g1⟩; cases h1
      refine ax_iload_n dX6_takeNumber_20 rfl ?_
      refine ax_iret dX6_takeNumber_21 rfl ?_
      rw [if_pos g0]
      refine ⟨rfl, f1, ?_⟩
      have : (rk_num B z lo hi (a, none)).1 = ((rk_num B z lo hi (a, none)).1.1, none) := Prod.ext rfl g0
      rw [this]; exact g1
    · exact absurd hc (by decide)
  · refine ax_if_ne (tgt := 11) dX6_takeNumber_6 (by decide) (fun hc => ?_) (fun hc => ?_)
    · exact absurd rfl hc
    · refine ax_iconst (v := (-1)) dX6_takeNumber_9 (by decide) ?_
      refine ax_iret dX6_takeNumber_10 rfl ?_
      rw [if_neg g0]
      exact ⟨rfl, h2, h3⟩
theorem c_beginText (hok : lo_ok M.2) {n : Nat} (hn : n ≤ 600) {x : Int32} (hx : x = nI n) (hB : ps_B B n) (hb : ∀ i, i < n → M.1 3 i = B i) : ax_Met l G kX6_beginText 2 0 0 M [av_r 2, av_i x] (fun o M2 => o = .inl none ∧ (M2.2 = M.2 ∧ ∀ n i, ¬ (n = 2 ∧ 1 ≤ i ∧ i ≤ 8) → M2.1 n i = M.1 n i) ∧ M2.1 2 1 = 0 ∧ xg M2 n B (0, none)) := by
  subst hx
  refine ax_body (by decide) (Nat.le_of_ble_eq_true rfl) ?_
  refine ax_aload_n dX6_beginText_0 rfl ?_
  refine ax_iload_n dX6_beginText_1 rfl ?_
  refine ax_sipush (v := 600) dX6_beginText_2 (by decide) ?_
  refine ax_mmin dX6_beginText_5 wd_866 wd_mins wd_182 wd_minc (by decide) rfl ?_
  rw [if_neg (fun q => by have := (nI_ltI (a := 600) (by omega) (by omega)).mp q; omega)]
  refine ax_putI (f := 2) dX6_beginText_8 acl_6 wd_208 (by decide) rfl rfl (ax_nfI rfl) (lo_s hok 2 rfl) ?_
  refine ax_aload_n dX6_beginText_11 rfl ?_
  refine ax_iconst (v := 0) dX6_beginText_12 (by decide) ?_
  refine ax_putI (f := 1) dX6_beginText_13 acl_6 wd_206 (by decide) rfl rfl (ax_nfI rfl) (lo_s hok 2 rfl) ?_
  refine ax_aload_n dX6_beginText_16 rfl ?_
  refine ax_iconst (v := 0) dX6_beginText_17 (by decide) ?_
  refine ax_putI (f := 3) dX6_beginText_18 acl_6 wd_209 (by decide) rfl rfl (ax_nfI rfl) (lo_s hok 2 rfl) ?_
  refine ax_aload_n dX6_beginText_21 rfl ?_
  refine ax_iconst (v := 0) dX6_beginText_22 (by decide) ?_
  refine ax_putI (f := 7) dX6_beginText_23 acl_6 wd_217 (by decide) rfl rfl (ax_nfI rfl) (lo_s hok 2 rfl) ?_
  refine ax_aload_n dX6_beginText_26 rfl ?_
  refine ax_iconst (v := (-1)) dX6_beginText_27 (by decide) ?_
  refine ax_putI (f := 8) dX6_beginText_28 acl_6 wd_218 (by decide) rfl rfl (ax_nfI rfl) (lo_s hok 2 rfl) ?_
  refine ax_gen (fun M1 hM1 => ?_)
  have hok : lo_ok M1.2 := by rw [hM1]; exact hok
  refine ax_aload_n dX6_beginText_31 rfl ?_
  have hz1 : xz M1 n B := ⟨hok, by rw [hM1, ax_pn (by omega), ax_pn (by omega), ax_pn (by omega), ax_pn (by omega), ax_pa], hn, hB, fun i hi => by rw [hM1, ax_pn (by omega), ax_pn (by omega), ax_pn (by omega), ax_pn (by omega), ax_pn (by omega)]; exact hb i hi⟩
  refine ax_callV (As := _) (d2 := _) (c1 := 0) (n1 := 0) (c_advance (M := M1) (a := 0) hz1 (by rw [hM1, ax_pn (by omega), ax_pn (by omega), ax_pa]; rfl) (by omega)) dX6_beginText_32 mX6_advance wd_867 acl_6 (lo_s hok 2 rfl) rfl (by omega) (by omega) (by omega) rfl rfl (fun _ _ h => by cases h.1) ?_
  rintro o9 M2 ⟨h1, ⟨h2, h3⟩, h4⟩; cases h1
  refine ax_vret dX6_beginText_35 rfl ?_
  have hz2 : xz M2 n B := ⟨by rw [h2]; exact hok, (h3 2 2 (by omega)).trans hz1.2.1, hn, hB, fun i hi => (h3 3 i (by omega)).trans (hz1.2.2.2.2 i hi)⟩
  refine ⟨rfl, ⟨by rw [h2, hM1]; rfl, fun m i q => by rw [h3 m i (by omega), hM1, ax_pn (by omega), ax_pn (by omega), ax_pn (by omega), ax_pn (by omega), ax_pn (by omega)]⟩, ?_, hz2, ⟨by omega, fun e q => by cases q⟩, h4, ?_, ?_⟩
  · rw [h3 2 1 (by omega), hM1, ax_pn (by omega), ax_pn (by omega), ax_pn (by omega), ax_pa]
  · rw [h3 2 7 (by omega), hM1, ax_pn (by omega), ax_pa]
  · rw [h3 2 8 (by omega), hM1, ax_pa]
/-- the word here against a text of the class file -/
theorem xw_eq (hB : ps_B B z) (hz : z ≤ 600) {b : Nat} (hb : b ≤ z) {bs : List Int32} (hs : ∀ x ∈ bs, tx_sm x = true) (h0 : bs ≠ []) : tx_wd B z b = bs.map tx_l ↔ (tk B z b = 2 ∧ ta B z b = b + bs.length ∧ ∀ i, i < bs.length → B (b + i) = bs.getD i 0) := by
  have key : ∀ (n b : Nat) (bs : List Int32), (∀ x ∈ bs, tx_sm x = true) → (tx_w B n b = bs.map tx_l ↔ (tx_run tx_sm B n b = b + bs.length ∧ ∀ i, i < bs.length → B (b + i) = bs.getD i 0)) := by
    intro n
    induction n with
    | zero =>
      intro b bs hs
      cases bs with
      | nil => exact ⟨fun _ => ⟨rfl, fun i hi => absurd hi (Nat.not_lt_zero _)⟩, fun _ => rfl⟩
      | cons x r =>
        constructor
        · intro h; cases h
        · rintro ⟨h, _⟩; have : b = b + (r.length + 1) := h; omega
    | succ n ih =>
      intro b bs hs
      rw [tx_w_s, tx_run_s]
      by_cases hq : tx_sm (B b) = true
      · rw [if_pos hq, if_pos hq]
        have hge := (tx_run_le tx_sm B n (b + 1)).1
        cases bs with
        | nil =>
          constructor
          · intro h; cases h
          · rintro ⟨h, _⟩; have : tx_run tx_sm B n (b + 1) = b := h; omega
        | cons x r =>
          have h1 := ih (b + 1) r (fun y hy => hs y (List.mem_cons_of_mem _ hy))
          have hx := tx_sml (hs x List.mem_cons_self)
          have hbb := tx_sml hq
          rw [List.map_cons, List.cons_eq_cons, h1, List.length_cons]
          constructor
          · rintro ⟨e1, e2, e3⟩
            refine ⟨by omega, fun i hi => ?_⟩
            cases i with
            | zero => show B b = x; rw [hx.1, hbb.1, e1]
            | succ i => rw [show b + (i + 1) = b + 1 + i by omega]; exact e3 i (by omega)
          · rintro ⟨e2, e3⟩
            have e0 : B b = x := e3 0 (by omega)
            refine ⟨by rw [e0], by omega, fun i hi => ?_⟩
            have := e3 (i + 1) (by omega)
            rw [show b + (i + 1) = b + 1 + i by omega] at this; exact this
      · rw [if_neg hq, if_neg hq]
        cases bs with
        | nil => exact ⟨fun _ => ⟨rfl, fun i hi => absurd hi (Nat.not_lt_zero _)⟩, fun _ => rfl⟩
        | cons x r =>
          constructor
          · intro h; cases h
          · rintro ⟨h, _⟩; have : b = b + (r.length + 1) := h; omega
  have h1 := key (z - b) b bs hs
  have h2 := tk_sm (b := b) hB (by omega)
  unfold tx_wd
  rw [h1]
  have hta : tk B z b = 2 → ta B z b = tx_run tx_sm B (z - b) b := fun q => by
    unfold ta
    rw [if_neg (by omega), q]
    exact tx_run_p tkc_2 _ _ _
  constructor
  · rintro ⟨e1, e2⟩
    have q : tk B z b = 2 := by
      rw [h2]
      cases bs with
      | nil => exact absurd rfl h0
      | cons x r =>
        have e0 : B b = x := e2 0 (by rw [List.length_cons]; omega)
        rw [e0]; exact hs x List.mem_cons_self
    exact ⟨q, by rw [hta q]; exact e1, e2⟩
  · rintro ⟨q, e1, e2⟩
    exact ⟨by rw [← hta q]; exact e1, e2⟩
theorem c_xisWord {a j : Nat} {t : ax_T} (h : xg M z B (a, none)) (ht : ax_txts[j]? = some t) {ws : List Nat} (hws : t.2.2.2.map tx_l = ws) (hs : t.2.2.2.all tx_sm = true) (h0 : t.2.2.2.isEmpty = false) : ax_Met l G kX6_isWord 4 0 0 M [av_r 2, av_o (2 * j)] (ax_p (av_i (if tx_wd B z (tx_sk B z a) = ws then 1 else 0)) M) := by
  have hok := h.1.1
  have h600 := h.1.2.2.1
  obtain ⟨hx, h7, h8, haz⟩ := xg_t h
  have hsk := tx_sk_z (B := B) haz
  have h3 := tk_3 (B := B) (z := z) (b := tx_sk B z a)
  have hta := ta_z (B := B) hsk
  have hlen := (ax_asc_at ht).1
  have key := xw_eq (b := tx_sk B z a) h.1.2.2.2.1 h600 hsk (List.all_eq_true.mp hs) (fun q => by rw [q] at h0; cases h0)
  rw [hws] at key
  refine ax_body (by decide) (Nat.le_of_ble_eq_true rfl) ?_
  refine ax_aload_n dX6_isWord_0 rfl ?_
  refine ax_callT (As := []) (c1 := 0) (n1 := 0) (c_length (M := M) ht) dX6_isWord_1 mJ0_length_8abf5 wd_891 ht rfl rfl (by omega) (by omega) (by omega) rfl rfl (fun _ _ h => by cases h.1) ?_
  rintro r M9 ⟨h1, h9⟩; cases h1; rw [h9]; clear h9 M9
  have no : ¬ tx_wd B z (tx_sk B z a) = ws → ∀ y3, ax_W l G kX6_isWord (ax_FQ G (ax_p (av_i (if tx_wd B z (tx_sk B z a) = ws then 1 else 0)) M)) 4 0 0 M 26 [some (av_r 2), some (av_o (2 * j)), some (av_i (nI t.2.2.2.length)), y3] [] := by
    intro hno y3
    refine ax_iconst (v := 0) dX6_isWord_26 (by decide) ?_
    refine ax_zret dX6_isWord_27 rfl ?_ ?_
    · exact Or.inl rfl
    · rw [if_neg hno]; exact ⟨rfl, rfl⟩
  refine ax_istore_n dX6_isWord_4 (by decide) rfl ?_
  refine ax_aload_n dX6_isWord_5 rfl ?_
  refine ax_getI (f := 5) dX6_isWord_6 acl_6 wd_211 (by decide) rfl (lo_s hok 2 rfl) ?_
  refine ax_iconst (v := 2) dX6_isWord_9 (by decide) ?_
  rw [hx.2.1]
  refine ax_icmp_ne (tgt := 26) dX6_isWord_10 (by decide) (fun hc => ?_) (fun hc => ?_)
  · exact no (fun q => hc (by rw [(key.mp q).1]; rfl)) _
  have ht2 : tk B z (tx_sk B z a) = 2 := (nI_eq (b := 2) (by omega) (by omega)).mp hc
  clear hc
  have hge : tx_sk B z a ≤ ta B z (tx_sk B z a) := by
    unfold ta; split
    · omega
    · exact (tx_run_le _ _ _ _).1
  refine ax_aload_n dX6_isWord_13 rfl ?_
  refine ax_getI (f := 3) dX6_isWord_14 acl_6 wd_209 (by decide) rfl (lo_s hok 2 rfl) ?_
  refine ax_aload_n dX6_isWord_17 rfl ?_
  refine ax_getI (f := 4) dX6_isWord_18 acl_6 wd_210 (by decide) rfl (lo_s hok 2 rfl) ?_
  rw [hx.2.2.1, hx.1]
  refine ax_isub dX6_isWord_21 ?_
  refine ax_iload_n dX6_isWord_22 rfl ?_
  rw [pk_sub hge]
  refine ax_icmp_eq (tgt := 28) dX6_isWord_23 (by decide) (fun hc => ?_) (fun hc => ?_)
  rotate_left
  · exact no (fun q => hc (by rw [(key.mp q).2.1, Nat.add_sub_cancel_left])) _
  have hl : ta B z (tx_sk B z a) = tx_sk B z a + t.2.2.2.length := by
    have := (nI_eq (by omega) (by omega)).mp hc
    omega
  clear hc
  refine ax_iconst (v := 0) dX6_isWord_28 (by decide) ?_
  refine ax_istore_n dX6_isWord_29 (by decide) rfl ?_
  refine ax_for t.2.2.2.length (fun i N L => N = M ∧ L = [some (av_r 2), some (av_o (2 * j)), some (av_i (nI t.2.2.2.length)), some (av_i (nI i))] ∧ ∀ q, q < i → B (tx_sk B z a + q) = t.2.2.2.getD q 0) 30 ?_ ?_ (i := 0) (by omega) ⟨rfl, rfl, fun q hq => by omega⟩
  · rintro i N L hi ⟨rfl, rfl, hq⟩ next
    refine ax_iload_n dX6_isWord_30 rfl ?_
    refine ax_iload_n dX6_isWord_31 rfl ?_
    refine ax_icmp_ge (tgt := 62) dX6_isWord_32 (by decide) (fun hc => absurd ((nI_leI (by omega) (by omega)).mp hc) (by omega)) (fun hc => ?_)
    refine ax_aload_n dX6_isWord_35 rfl ?_
    refine ax_getK (f := 0) 3 dX6_isWord_36 acl_6 wd_205 (by decide) rfl (lo_s hok 2 rfl) (lo_r hok 9 rfl) ?_
    refine ax_aload_n dX6_isWord_39 rfl ?_
    refine ax_getI (f := 4) dX6_isWord_40 acl_6 wd_210 (by decide) rfl (lo_s hok 2 rfl) ?_
    rw [hx.1]
    refine ax_iload_n dX6_isWord_43 rfl ?_
    refine ax_iadd dX6_isWord_44 ?_
    refine ax_ialdN (tx_sk B z a + i) dX6_isWord_45 (lo_s hok 3 rfl) (by decide) (by first | with_reducible rfl | assumption | exact ax_nix (by simp only [nx_0, nx_1, nx_2, nx_3, nx_4, nx_10, nx_20, nx_21, nx_100, nI_add, pk_mul] <;> rfl) (by omega) | decide) (by omega) ?_
    rw [h.1.2.2.2.2 _ (by omega)]
    refine ax_aload_n dX6_isWord_46 rfl ?_
    refine ax_iload_n dX6_isWord_47 rfl ?_
    refine ax_callT (As := [av_i (nI i)]) (c1 := 0) (n1 := 0) (c_charAt (M := N) ht hi rfl) dX6_isWord_48 mJ0_charAt_5068e wd_901 ht rfl rfl (by omega) (by omega) (by omega) rfl rfl (fun _ _ h => by cases h.1) ?_
    rintro r M9 ⟨h1, h9⟩; cases h1; rw [h9]; clear h9 M9
    refine ax_icmp_eq (tgt := 56) dX6_isWord_51 (by decide) (fun hc => ?_) (fun hc => ?_)
    · refine ax_iinc (v := 1) dX6_isWord_56 rfl (by decide) (by decide) rfl ?_
      refine ax_goto (tgt := 30) dX6_isWord_59 (by decide) ?_
      rw [nI_1]
      refine next _ _ ⟨rfl, rfl, fun q hq2 => ?_⟩
      by_cases e : q = i
      · subst e; exact hc
      · exact hq q (by omega)
    · refine ax_iconst (v := 0) dX6_isWord_54 (by decide) ?_
      refine ax_zret dX6_isWord_55 rfl ?_ ?_
      · exact Or.inl rfl
      · rw [if_neg (fun q => hc ((key.mp q).2.2 i hi))]; exact ⟨rfl, rfl⟩
  · rintro N L ⟨rfl, rfl, hq⟩
    refine ax_iload_n dX6_isWord_30 rfl ?_
    refine ax_iload_n dX6_isWord_31 rfl ?_
    refine ax_icmp_ge (tgt := 62) dX6_isWord_32 (by decide) (fun hc => ?_) (fun hc => absurd ((nI_leI (by omega) (by omega)).mpr (by omega)) hc)
    refine ax_iconst (v := 1) dX6_isWord_62 (by decide) ?_
    refine ax_zret dX6_isWord_63 rfl ?_ ?_
    · exact Or.inr rfl
    · rw [if_pos (key.mpr ⟨ht2, hl, hq⟩)]; exact ⟨rfl, rfl⟩
end XU

