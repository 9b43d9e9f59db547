/-! ===== the road is read, whole: the reference ===== -/
def qt (q : Nat → Int) (j : Nat) : Int := if j = 0 then 40 else if j < 5 then 0 else if j = 5 then 20 else if j = 6 then 6 else if 10 ≤ j ∧ j < 35 then 0 else if j = 35 then 4 else q j
theorem qt_ok {q : Nat → Int} (h : rd_ok q) : rd_ok (qt q) := by
  obtain ⟨h1, h2, h3, h4, h5⟩ := h
  refine ⟨by simp [qt], fun c hc => ?_, fun j hj => ?_, fun j hj => ?_, fun j hj => ?_⟩
  · have := h2 c hc
    unfold rd_oc at this ⊢
    rw [show qt q (40 + c) = q (40 + c) by unfold qt; simp (disch := omega) only [if_neg]]
    rw [show qt q (10 + 2 * c) = 0 by unfold qt; simp (disch := omega) only [if_neg, if_pos]]
    rw [show qt q (11 + 2 * c) = 0 by unfold qt; simp (disch := omega) only [if_neg, if_pos]]
    rw [show qt q 1 = 0 from rfl]
    omega
  · rw [show qt q (14 + 2 * j) = 0 by unfold qt; simp (disch := omega) only [if_neg, if_pos]]
    rw [show qt q (15 + 2 * j) = 0 by unfold qt; simp (disch := omega) only [if_neg, if_pos]]
    rw [show qt q 2 = 0 from rfl, show qt q 0 = 40 from rfl]
    omega
  · have := h4 j hj
    rw [show qt q (50 + j) = q (50 + j) by unfold qt; simp (disch := omega) only [if_neg]]
    rw [show qt q 3 = 0 from rfl, show qt q 0 = 40 from rfl]
    omega
  · have := h5 j hj
    rw [show qt q (60 + 2 * j) = q (60 + 2 * j) by unfold qt; simp (disch := omega) only [if_neg]]
    rw [show qt q (61 + 2 * j) = q (61 + 2 * j) by unfold qt; simp (disch := omega) only [if_neg]]
    rw [show qt q 4 = 0 from rfl, show qt q 0 = 40 from rfl]
    omega
theorem ax_fill_n {M : ax_M} {b i n q j : Nat} {x : Int32} (h : ¬ (q = b ∧ i ≤ j ∧ j < n)) : (ax_fill M b i n x).1 q j = M.1 q j := if_neg h
theorem ax_fill_y {M : ax_M} {b i n j : Nat} {x : Int32} (h : i ≤ j ∧ j < n) : (ax_fill M b i n x).1 b j = x := if_pos ⟨rfl, h⟩
theorem tells_n {M : ax_M} {n i : Nat} (h : ¬ (n = 93 ∨ n = 99 ∨ (n = 90 ∧ i = 21))) : (mk_tells M).1 n i = M.1 n i := by
  unfold mk_tells
  rw [ax_pn (by omega), ax_pn (by omega), ax_fill_n (by omega), ax_pn (by omega), ax_pn (by omega), ax_fill_n (by omega), ax_pn (by omega)]
theorem tells_rp {M : ax_M} {q : Nat → Int} (h : rp M q) : rp (mk_tells M) (qt q) := by
  refine ⟨fun k hk => ?_, fun k hk => ?_, fun k hk => ?_, fun k hk => ?_, fun k hk => ?_⟩
  · unfold mk_tells
    rw [ax_pn (by omega), ax_pn (by omega), ax_fill_n (by omega)]
    rcases (show k = 0 ∨ k = 1 ∨ k = 2 ∨ k = 3 ∨ k = 4 ∨ k = 5 ∨ k = 6 by omega) with rfl | rfl | rfl | rfl | rfl | rfl | rfl
    · rw [ax_pn (by omega), ax_pn (by omega), ax_fill_n (by omega), ax_pa]; rfl
    · rw [ax_pn (by omega), ax_pn (by omega), ax_fill_y (by omega)]; rfl
    · rw [ax_pn (by omega), ax_pn (by omega), ax_fill_y (by omega)]; rfl
    · rw [ax_pn (by omega), ax_pn (by omega), ax_fill_y (by omega)]; rfl
    · rw [ax_pn (by omega), ax_pn (by omega), ax_fill_y (by omega)]; rfl
    · rw [ax_pn (by omega), ax_pa]; rfl
    · rw [ax_pa]; rfl
  · unfold mk_tells
    rw [ax_pn (by omega)]
    by_cases e : k = 25
    · subst e; rw [ax_pa]; rfl
    · rw [ax_pn (by omega), ax_fill_y (by omega)]
      rw [show qt q (10 + k) = 0 by unfold qt; simp (disch := omega) only [if_neg, if_pos]]
      rfl
  · rw [tells_n (by omega), h.2.2.1 k hk]
    rw [show qt q (40 + k) = q (40 + k) by unfold qt; simp (disch := omega) only [if_neg]]
  · rw [tells_n (by omega), h.2.2.2.1 k hk]
    rw [show qt q (50 + k) = q (50 + k) by unfold qt; simp (disch := omega) only [if_neg]]
  · rw [tells_n (by omega), tells_n (by omega), (h.2.2.2.2 k hk).1, (h.2.2.2.2 k hk).2]
    rw [show qt q (60 + 2 * k) = q (60 + 2 * k) by unfold qt; simp (disch := omega) only [if_neg], show qt q (61 + 2 * k) = q (61 + 2 * k) by unfold qt; simp (disch := omega) only [if_neg]]
    exact ⟨rfl, rfl⟩
theorem wets_n {M : ax_M} : ∀ {i n j : Nat}, ¬ (107 ≤ n ∧ n < 107 + i) → (mk_wets M i).1 n j = M.1 n j
  | 0, _, _, _ => rfl
  | i + 1, n, j, h => by
    show (ax_cp (mk_wets M i) (107 + i) (102 + i) 2).1 n j = _
    rw [ax_cp_n (by omega)]; exact wets_n (by omega)
theorem wets_y {M : ax_M} : ∀ {i k j : Nat}, i ≤ 4 → k < i → j < 2 → (mk_wets M i).1 (107 + k) j = M.1 (102 + k) j
  | 0, _, _, _, h, _ => by omega
  | i + 1, k, j, h4, h, hj => by
    show (ax_cp (mk_wets M i) (107 + i) (102 + i) 2).1 (107 + k) j = _
    by_cases e : k = i
    · subst e; rw [ax_cp_y hj]
      exact wets_n (by omega)
    · rw [ax_cp_n (by omega)]; exact wets_y (by omega) (by omega) hj
def rd_run (B : Nat → Int32) (z : Nat) : Nat → Nat → (Nat → Int) → rk → rk × (Nat → Int)
  | 0, _, q, s => (s, q)
  | f + 1, n, q, s => if s.2 = none ∧ s.1 < z then rd_run B z f (n + 1) (cl B z n q s.1).2 (rk_bl B z (cl B z n q s.1).1) else (s, q)
def rd_text (B : Nat → Int32) (z : Nat) (q : Nat → Int) : rk × (Nat → Int) := rd_run B z 62 0 q (tx_sk B z 0, none)
theorem rd_stop {B : Nat → Int32} {z n : Nat} {q : Nat → Int} {s : rk} (h : ¬ (s.2 = none ∧ s.1 < z)) : ∀ f, rd_run B z f n q s = (s, q)
  | 0 => rfl
  | f + 1 => if_neg h
def ro_out (M M2 : ax_M) (o : ax_O) (x : rk × (Nat → Int)) : Prop := M2.2 = M.2 ∧ M2.1 90 1 = 0 ∧ (∃ q, rp M2 q ∧ rd_ok q) ∧ (∀ n i, ¬ (n = 90 ∧ (1 ≤ i ∧ i ≤ 8 ∨ i = 21 ∨ i = 32 ∨ i = 33 ∨ i = 34)) → ¬ (93 ≤ n ∧ n ≤ 111) → M2.1 n i = M.1 n i) ∧ match x.1.2 with
  | some e => o = .inl (some (av_i (nI e.1 - 10))) ∧ M2.1 90 3 = nI e.2 ∧ (∀ i, 32 ≤ i → i ≤ 34 → M2.1 90 i = M.1 90 i) ∧ ∀ n i, n = 94 ∨ n = 96 ∨ n = 98 ∨ n = 100 ∨ (107 ≤ n ∧ n ≤ 111) → M2.1 n i = M.1 n i
  | none => o = .inl (some (av_i (iI (x.2 1)))) ∧ M2.1 90 3 = -1 ∧ rr M2 x.2 ∧ rd_ok x.2 ∧ M2.1 90 32 = 0 ∧ M2.1 90 33 = 0 ∧ M2.1 90 34 = 0 ∧ ∀ i, i < 3 → M2.1 111 i = 0
section RE
variable {l : Launch} {G : ax_G} {M : ax_M}
set_option maxHeartbeats 2000000 in
theorem c_road0 {M : ax_M} (hok : lo_ok M.2) {z : Nat} (hz : z ≤ 600) {q : Nat → Int} (hq : rp M q) (ho : rd_ok q) {F : ax_O → ax_M → Prop} (hF : ∀ o M2, ro_out M M2 o (rd_text (tx_tb M z) z (qt q)) → F o M2) : ax_W l G kX10_road (ax_FQ G F) 6 0 0 M 33 [some (av_r 90), some (av_i (nI z))] [] := by
  have hB := tx_tb_ok (M := M) (z := z) (by omega)
  obtain ⟨B, eB⟩ : ∃ B, B = tx_tb M z := ⟨_, rfl⟩
  rw [← eB] at hB hF
  refine ax_aload_n dX10_road_33 rfl ?_
  refine ax_iload_n dX10_road_34 rfl ?_
  refine ax_callV (As := _) (d2 := _) (c1 := 0) (n1 := 0) (c_X10_starts (M := M) hok (z := z) (by omega)) dX10_road_35 mX10_starts wd_1779 acl_10 (lo_s hok 90 rfl) rfl (by omega) (by omega) (by omega) rfl rfl (fun _ _ h => by cases h.1) ?_
  rintro r M1 ⟨h1, M0, hM0, hM1⟩; cases h1
  have fr0 : rd_fr M M0 := by
    rw [hM0]
    exact rd_fr_tr (rd_fr_tr (rd_fr_tr (rd_fr_tr (rd_fr_tr (rd_fr_tr (rd_fr_p (by omega)) (rd_fr_p (by omega))) (rd_fr_p (by omega))) (rd_fr_p (by omega))) (rd_fr_p (by omega))) (rd_fr_p (by omega))) (rd_fr_p (by omega))
  have eB0 : tx_B M0 = B := by rw [eB]; exact tx_tb_B (by rw [hM0]; rfl) (fun i => fr0.2 91 i (by omega) (by decide))
  rw [eB0] at hM1
  have fr1 : ∀ n i, ¬ (n = 90 ∧ 1 ≤ i ∧ i ≤ 8) → M1.1 n i = M.1 n i := fun n i q => by
    rw [hM1, ax_pn (by omega), hM0, ax_pn (by omega), ax_pn (by omega), ax_pn (by omega), ax_pn (by omega), ax_pn (by omega), ax_pn (by omega), ax_pn (by omega)]
  have h12 : M1.2 = M.2 := by rw [hM1, hM0]; rfl
  have hg1 : rg M1 z B (tx_sk B z 0, none) := by
    refine ⟨by rw [h12]; exact hok, ⟨by rw [hM1, ax_pn (by omega), hM0]; rfl, by omega⟩, ?_, ⟨tx_sk_z (Nat.zero_le _), fun e q => by cases q⟩, by rw [hM1, ax_pa], by show M1.1 90 5 = 0; rw [hM1, ax_pn (by omega), hM0]; rfl⟩
    rw [eB]
    exact tx_tb_B (by rw [hM1, ax_pn (by omega), hM0]; rfl) (fun i => fr1 91 i (by omega))
  have e11 : M1.1 90 1 = 0 := by rw [hM1, ax_pn (by omega), hM0]; rfl
  have e17 : M1.1 90 7 = nI 0 := by rw [hM1, ax_pn (by omega), hM0]; rfl
  have hok1 : lo_ok M1.2 := by rw [h12]; exact hok
  have hok := hok1
  refine ax_aload_n dX10_road_38 rfl ?_
  refine ax_callV (As := _) (d2 := _) (c1 := 0) (n1 := 0) (c_X10_tellsNothing (d := 0) (M := M1) hok) dX10_road_39 mX10_tellsNothing wd_1589 acl_10 (lo_s hok 90 rfl) rfl (by omega) (by omega) (by omega) rfl rfl (fun _ _ h => by cases h.1) ?_
  rintro r M2 ⟨h1, hM2⟩; cases h1
  have rp1 : rp M1 q := rp_fr hq (fun n i c => fr1 n i (by omega))
  have rp2 : rp M2 (qt q) := by rw [hM2]; exact tells_rp rp1
  have h22 : M2.2 = M.2 := by rw [hM2]; exact h12
  have g2 : rg M2 z B (tx_sk B z 0, none) := rg_fr hg1 (by rw [hM2]; rfl) (fun i c => by rw [hM2, tells_n (by omega)]) (fun i => by rw [hM2, tells_n (by omega)])
  have i2 : ci M2 M2 z B (tx_sk B z 0, none) (qt q) 0 := ⟨g2, rp2, ⟨rfl, fun _ _ _ _ => rfl⟩, by rw [hM2, tells_n (by omega)]; exact e17⟩
  have e21 : M2.1 90 1 = 0 := by rw [hM2, tells_n (by omega)]; exact e11
  have fr2 : ∀ n i, ¬ (n = 90 ∧ (1 ≤ i ∧ i ≤ 8 ∨ i = 21)) → ¬ (n = 93 ∨ n = 99) → M2.1 n i = M.1 n i := fun n i c1 c2 => by rw [hM2, tells_n (by omega)]; exact fr1 n i (by omega)
  clear hM2 hM1 hM0 eB0 fr0
  -- at the end
  have tail : ∀ (N : ax_M) (s : rk) (q2 : Nat → Int) (n : Nat), ci M2 N z B s q2 n → rd_ok q2 → ¬ (s.2 = none ∧ s.1 < z) → rd_text B z (qt q) = (s, q2) → ax_W l G kX10_road (ax_FQ G F) 6 0 0 N 71 [some (av_r 90), some (av_i (nI z))] [] := by
    intro N s q2 n hi hq2 hst hR
    have hg := hi.1
    have hok := hg.1
    have h0 := rg_0 hg
    have hcf := hi.2.2.1
    rw [hR] at hF
    have fN : ∀ n i, ¬ (n = 90 ∧ (1 ≤ i ∧ i ≤ 8 ∨ i = 21)) → ¬ (n = 93 ∨ n = 95 ∨ n = 97 ∨ n = 99 ∨ (102 ≤ n ∧ n ≤ 105)) → N.1 n i = M.1 n i := fun n i c1 c2 => (hcf.2 n i (by omega) c2).trans (fr2 n i c1 (by omega))
    refine ax_aload_n dX10_road_71 rfl ?_
    refine ax_getI (f := 5) dX10_road_72 acl_10 wd_1605 (by decide) rfl (lo_s hok 90 rfl) ?_
    refine ax_if_eq (tgt := 83) dX10_road_75 (by decide) (fun hc => ?_) (fun hc => ?_)
    · have hn := h0.mp hc
      refine ax_aload_n dX10_road_83 rfl ?_
      refine ax_iconst (v := (-1)) dX10_road_84 (by decide) ?_
      refine ax_putI (f := 3) dX10_road_85 acl_10 wd_1603 (by decide) rfl rfl (ax_nfI rfl) (lo_s hok 90 rfl) ?_
      refine ax_gen (fun N2 hN2 => ?_)
      have hok : lo_ok N2.2 := by rw [hN2]; exact hok
      refine ax_aload_n dX10_road_88 rfl ?_
      refine ax_callV (As := _) (d2 := _) (c1 := 0) (n1 := 0) (c_X10_standsNow (M := N2) hok) dX10_road_89 mX10_standsNow wd_1593 acl_10 (lo_s hok 90 rfl) rfl (by omega) (by omega) (by omega) rfl rfl (fun _ _ h => by cases h.1) ?_
      rintro r N3 ⟨h1, hN3⟩; cases h1
      have h32 : N3.2 = M.2 := by rw [hN3]; show (mk_wets _ 4).2 = _; rw [mk_wets_2]; show N2.2 = _; rw [hN2]; exact hcf.1.trans h22
      have hok : lo_ok N3.2 := by rw [h32, ← h22]; rw [← hcf.1]; exact hg.1
      have n2 : ∀ m i, ¬ (m = 90 ∧ i = 3) → N2.1 m i = N.1 m i := fun m i c => by rw [hN2, ax_pn c]
      have rpN := hi.2.1
      have e1 : ∀ m i, ¬ (m = 94 ∨ m = 96 ∨ m = 98 ∨ m = 100 ∨ (107 ≤ m ∧ m ≤ 111)) → ¬ (m = 90 ∧ 32 ≤ i ∧ i ≤ 34) → N3.1 m i = N2.1 m i := fun m i c1 c2 => by
        rw [hN3]; unfold mk_stands
        rw [ax_pn (by omega), ax_pn (by omega), ax_pn (by omega), ax_fill_n (by omega), wets_n (by omega), ax_cp_n (by omega), ax_cp_n (by omega), ax_cp_n (by omega), ax_cp_n (by omega)]
      have e94 : ∀ k, k < 7 → N3.1 94 k = iI (q2 k) := fun k hk => by
        rw [hN3]; unfold mk_stands
        rw [ax_pn (by omega), ax_pn (by omega), ax_pn (by omega), ax_fill_n (by omega), wets_n (by omega), ax_cp_n (by omega), ax_cp_n (by omega), ax_cp_n (by omega), ax_cp_y hk, n2 _ _ (by omega)]
        exact rpN.1 k hk
      have e96 : ∀ k, k < 2 → N3.1 96 k = iI (q2 (40 + k)) := fun k hk => by
        rw [hN3]; unfold mk_stands
        rw [ax_pn (by omega), ax_pn (by omega), ax_pn (by omega), ax_fill_n (by omega), wets_n (by omega), ax_cp_n (by omega), ax_cp_n (by omega), ax_cp_y hk, ax_cp_n (by omega), n2 _ _ (by omega)]
        exact rpN.2.2.1 k hk
      have e98 : ∀ k, k < 6 → N3.1 98 k = iI (q2 (50 + k)) := fun k hk => by
        rw [hN3]; unfold mk_stands
        rw [ax_pn (by omega), ax_pn (by omega), ax_pn (by omega), ax_fill_n (by omega), wets_n (by omega), ax_cp_n (by omega), ax_cp_y hk, ax_cp_n (by omega), ax_cp_n (by omega), n2 _ _ (by omega)]
        exact rpN.2.2.2.1 k hk
      have e100 : ∀ k, k < 26 → N3.1 100 k = iI (q2 (10 + k)) := fun k hk => by
        rw [hN3]; unfold mk_stands
        rw [ax_pn (by omega), ax_pn (by omega), ax_pn (by omega), ax_fill_n (by omega), wets_n (by omega), ax_cp_y hk, ax_cp_n (by omega), ax_cp_n (by omega), ax_cp_n (by omega), n2 _ _ (by omega)]
        exact rpN.2.1 k hk
      have e107 : ∀ k j, k < 4 → j < 2 → N3.1 (107 + k) j = N.1 (102 + k) j := fun k j hk hj => by
        rw [hN3]; unfold mk_stands
        rw [ax_pn (by omega), ax_pn (by omega), ax_pn (by omega), ax_fill_n (by omega), wets_y (by omega) hk hj, ax_cp_n (by omega), ax_cp_n (by omega), ax_cp_n (by omega), ax_cp_n (by omega), n2 _ _ (by omega)]
      refine ax_aload_n dX10_road_92 rfl ?_
      refine ax_getK (f := 12) 94 dX10_road_93 acl_10 wd_1612 (by decide) rfl (lo_s hok 90 rfl) (lo_r hok 83 rfl) ?_
      refine ax_iconst (v := 1) dX10_road_96 (by decide) ?_
      refine ax_ialdN (1) dX10_road_97 (lo_s hok 94 rfl) (by decide) (by decide) (by decide) ?_
      rw [e94 1 (by decide)]
      refine ax_iret dX10_road_98 rfl ?_
      refine hF _ _ ⟨h32, ?_, ⟨q2, rp_fr rpN (fun m i c => by rw [e1 m i (by omega) (by omega), n2 m i (by omega)]), hq2⟩, fun m i c1 c2 => ?_, ?_⟩
      · rw [e1 90 1 (by omega) (by omega), n2 90 1 (by omega), hcf.2 90 1 (by omega) (by omega)]; exact e21
      · by_cases c3 : m = 90 ∧ 32 ≤ i ∧ i ≤ 34
        · omega
        · rw [e1 m i (by omega) c3, n2 m i (by omega)]; exact fN m i (by omega) (by omega)
      · rw [hn]
        refine ⟨rfl, ?_, ⟨e94, e100, e96, e98, fun k hk => ⟨(e107 k 0 hk (by decide)).trans (rpN.2.2.2.2 k hk).1, (e107 k 1 hk (by decide)).trans (rpN.2.2.2.2 k hk).2⟩⟩, hq2, ?_, ?_, ?_, fun i hi3 => ?_⟩
        · rw [e1 90 3 (by omega) (by omega), hN2, ax_pa]
        · rw [hN3]; unfold mk_stands; rw [ax_pn (by omega), ax_pn (by omega), ax_pa]
        · rw [hN3]; unfold mk_stands; rw [ax_pn (by omega), ax_pa]
        · rw [hN3]; unfold mk_stands; rw [ax_pa]
        · rw [hN3]; unfold mk_stands; rw [ax_pn (by omega), ax_pn (by omega), ax_pn (by omega), ax_fill_y (by omega)]
    · have hn : ¬ s.2 = none := fun c => hc (h0.mpr c)
      obtain ⟨w, hw⟩ := Option.ne_none_iff_exists'.mp hn
      have h6 := hg.2.2.2.2.2
      rw [hw] at h6
      refine ax_aload_n dX10_road_78 rfl ?_
      refine ax_callV (As := _) (d2 := _) (c1 := 0) (n1 := 0) (c_X10_ends (d := 0) (M := N) hok) dX10_road_79 mX10_ends wd_1841 acl_10 (lo_s hok 90 rfl) rfl (by omega) (by omega) (by omega) rfl rfl (fun _ _ h => by cases h.1) ?_
      rintro r N2 ⟨h1, hN2⟩; cases h1
      refine ax_iret dX10_road_82 rfl ?_
      refine hF _ _ ⟨by rw [hN2]; exact hcf.1.trans h22, by rw [hN2, ax_pn (by omega), hcf.2 90 1 (by omega) (by omega)]; exact e21, ⟨q2, rp_fr hi.2.1 (fun m i c => by rw [hN2, ax_pn (by omega)]), hq2⟩, fun m i c1 c2 => by rw [hN2, ax_pn (by omega)]; exact fN m i (by omega) (by omega), ?_⟩
      rw [hw]
      exact ⟨by rw [h6.1], by rw [hN2, ax_pa]; exact h6.2, fun i c1 c2 => by rw [hN2, ax_pn (by omega)]; exact fN 90 i (by omega) (by omega), fun m i c => by rw [hN2, ax_pn (by omega)]; exact fN m i (by omega) (by omega)⟩
  have loop : ∀ (f : Nat) (N : ax_M) (s : rk) (q2 : Nat → Int) (n : Nat), ci M2 N z B s q2 n → rd_ok q2 → (s.2 = none → n ≤ 60 ∧ 62 ≤ f + n ∧ (n = 0 → q2 1 = 0 ∧ q2 2 = 0 ∧ q2 3 = 0 ∧ q2 4 = 0)) → rd_run B z f n q2 s = rd_text B z (qt q) → ax_W l G kX10_road (ax_FQ G F) 6 0 0 N 42 [some (av_r 90), some (av_i (nI z))] [] := by
    intro f
    induction f with
    | zero =>
      intro N s q2 n hi hq2 hn hR
      have hg := hi.1
      have hok := hg.1
      refine ax_aload_n dX10_road_42 rfl ?_
      refine ax_getI (f := 5) dX10_road_43 acl_10 wd_1605 (by decide) rfl (lo_s hok 90 rfl) ?_
      refine ax_if_ne (tgt := 71) dX10_road_46 (by decide) (fun hc => ?_) (fun hc => ?_)
      · have hnn : ¬ s.2 = none := fun c => hc ((rg_0 hg).mpr c)
        exact tail N s q2 n hi hq2 (fun c => hnn c.1) hR.symm
      · have := hn ((rg_0 hg).mp hc)
        omega
    | succ f ih =>
      intro N s q2 n hi hq2 hn hR
      have hg := hi.1
      have hok := hg.1
      have hle := hg.2.2.2.1.1
      refine ax_aload_n dX10_road_42 rfl ?_
      refine ax_getI (f := 5) dX10_road_43 acl_10 wd_1605 (by decide) rfl (lo_s hok 90 rfl) ?_
      refine ax_if_ne (tgt := 71) dX10_road_46 (by decide) (fun hc => ?_) (fun hc => ?_)
      · have hnn : ¬ s.2 = none := fun c => hc ((rg_0 hg).mpr c)
        exact tail N s q2 n hi hq2 (fun c => hnn c.1) (by rw [← hR]; exact rd_stop (fun c => hnn c.1) _)
      · have hnn := (rg_0 hg).mp hc
        obtain ⟨n1, n2, n3⟩ := hn hnn
        refine ax_aload_n dX10_road_49 rfl ?_
        refine ax_getI (f := 4) dX10_road_50 acl_10 wd_1604 (by decide) rfl (lo_s hok 90 rfl) ?_
        refine ax_aload_n dX10_road_53 rfl ?_
        refine ax_getI (f := 2) dX10_road_54 acl_10 wd_1602 (by decide) rfl (lo_s hok 90 rfl) ?_
        rw [hg.2.2.2.2.1, hg.2.1.1]
        refine ax_icmp_ge (tgt := 71) dX10_road_57 (by decide) (fun hc => ?_) (fun hc => ?_)
        · have hge := (nI_leI (by omega) (by omega)).mp hc
          exact tail N s q2 n hi hq2 (fun c => by omega) (by rw [← hR]; exact rd_stop (fun c => by omega) _)
        · have hlt : s.1 < z := Nat.lt_of_not_le (fun c => hc ((nI_leI (by omega) (by omega)).mpr c))
          obtain ⟨a, x⟩ := s
          have hx : x = none := hnn
          subst hx
          have hR2 : rd_run B z f (n + 1) (cl B z n q2 a).2 (rk_bl B z (cl B z n q2 a).1) = rd_text B z (qt q) := by rw [← hR]; exact (if_pos ⟨hnn, hlt⟩).symm
          refine ax_aload_n dX10_road_60 rfl ?_
          refine ax_callV (As := _) (d2 := _) (c1 := 0) (n1 := 0) (c_clause (M := N) hB (⟨hi.1, hi.2.1, ⟨rfl, fun _ _ _ _ => rfl⟩, hi.2.2.2⟩ : ci N N z B (a, none) q2 n) hq2 n1 n3) dX10_road_61 mX10_clause wd_1791 acl_10 (lo_s hok 90 rfl) rfl (by omega) (by omega) (by omega) rfl rfl (fun _ _ h => by cases h.1) ?_
          rintro o9 N1 ⟨h1, q3, n4, i4, e4, o4, l4⟩; cases h1
          have hok := i4.1.1
          refine ax_aload_n dX10_road_64 rfl ?_
          refine ax_callV (As := _) (d2 := _) (c1 := 0) (n1 := 0) (c_gblanks (M := N1) i4.1) dX10_road_65 mX10_blanks wd_1783 acl_10 (lo_s hok 90 rfl) rfl (by omega) (by omega) (by omega) rfl rfl (fun _ _ h => by cases h.1) ?_
          rintro o9 N2 ⟨h1, f5, g5⟩; cases h1
          refine ax_goto (tgt := 42) dX10_road_68 (by decide) ?_
          have i5 : ci M2 N1 z B (cl B z n q2 a).1 q3 n4 := ⟨i4.1, i4.2.1, cf_tr hi.2.2.1 i4.2.2.1, i4.2.2.2⟩
          have i6 := ci_gf i5 f5 g5
          rw [← e4] at hR2
          by_cases c9 : (cl B z n q2 a).1.2 = none
          · obtain ⟨e5, e6⟩ := l4 c9
            subst e5
            exact ih N2 _ q3 _ i6 o4 (fun _ => ⟨by omega, by omega, fun c => by omega⟩) hR2
          · have hst : ∀ m f2, rd_run B z f2 m q3 (rk_bl B z (cl B z n q2 a).1) = (rk_bl B z (cl B z n q2 a).1, q3) := fun m f2 => rd_stop (s := rk_bl B z (cl B z n q2 a).1) (fun c => c9 c.1) f2
            rw [hst] at hR2
            exact ih N2 _ q3 n4 i6 o4 (fun c => absurd c c9) (by rw [hst]; exact hR2)
  exact loop 62 M2 _ _ 0 i2 (qt_ok ho) (fun _ => ⟨by omega, by omega, fun _ => ⟨rfl, rfl, rfl, rfl⟩⟩) rfl
theorem c_road (hok : lo_ok M.2) {t : Nat} (ht : M.1 90 1 = nI t) (ht2 : t ≤ 600) {q : Nat → Int} (hq : rp M q) (ho : rd_ok q) (n : Int32) : ax_Met l G kX10_road 6 0 0 M [av_r 90, av_i n] (fun o M2 => if 0 ≤ n ∧ n ≤ nI t then ∃ z, z ≤ t ∧ n = nI z ∧ ro_out (ax_pI M 90 0 0) M2 o (rd_text (tx_tb M z) z (qt q)) else o = .inl (some (av_i 0)) ∧ M2 = mk_bad (ax_pI M 90 0 0) 1 1) := by
  refine ax_body (by decide) (Nat.le_of_ble_eq_true rfl) ?_
  refine ax_aload_n dX10_road_0 rfl ?_
  refine ax_iconst (v := 0) dX10_road_1 (by decide) ?_
  refine ax_putI (f := 0) dX10_road_2 acl_10 wd_1600 (by decide) rfl rfl (ax_nfI rfl) (lo_s hok 90 rfl) ?_
  refine ax_gen (fun M0 hM0 => ?_)
  have hok : lo_ok M0.2 := by rw [hM0]; exact hok
  have h00 : M0.1 90 0 = 0 := by rw [hM0, ax_pa]
  have ht0 : M0.1 90 1 = nI t := by rw [hM0, ax_pn (by omega)]; exact ht
  refine ax_aload_n dX10_road_5 rfl ?_
  refine ax_iload_n dX10_road_6 rfl ?_
  refine ax_iconst (v := 0) dX10_road_7 (by decide) ?_
  refine ax_aload_n dX10_road_8 rfl ?_
  refine ax_getI (f := 1) dX10_road_9 acl_10 wd_1601 (by decide) rfl (lo_s hok 90 rfl) ?_
  rw [ht0]
  refine ax_callS (As := _) (c1 := 0) (n1 := 0) (c_X10_in (d := 0) (M := M0) _ _ _) dX10_road_12 mX10_in wd_1772 rfl (by omega) (by omega) (by omega) rfl rfl (fun _ _ h => by cases h.1) ?_
  rintro r M9 ⟨h1, h9⟩; cases h1; rw [h9]; clear h9 M9
  refine ax_join1 (¬ (0 ≤ n ∧ n ≤ nI t)) 23 (1) (0) ?_ (fun ja jb => ?_)
  rotate_left
  · refine ax_ifB_ne (tgt := 22) dX10_road_15 (by decide) (fun h15 => ?_) (fun h15 => ?_)
    · refine ax_iconst (v := 0) dX10_road_22 (by decide) ?_
      first | exact ja h15 | exact jb (fun z => z h15)
    · refine ax_iconst (v := 1) dX10_road_18 (by decide) ?_
      refine ax_goto (tgt := 23) dX10_road_19 (by decide) ?_
      first | exact ja h15 | exact jb (fun z => z h15)
  refine ax_iconst (v := 1) dX10_road_23 (by decide) ?_
  refine ax_iconst (v := 1) dX10_road_24 (by decide) ?_
  refine ax_callV (As := _) (d2 := _) (c1 := 0) (n1 := 0) (c_badP (d := 0) (M := M0) (p := ¬ (0 ≤ n ∧ n ≤ nI t)) hok h00 (w := 1) (k := 1) (by decide) (by decide) (by decide) rfl rfl) dX10_road_25 mX10_bad wd_1775 acl_10 (lo_s hok 90 rfl) rfl (by omega) (by omega) (by omega) rfl rfl (fun _ _ h => by rcases h with ⟨_, h, _⟩ | ⟨_, h, _⟩ <;> cases h) ?_
  rintro o9 M9 (⟨g1, h1, h2⟩ | ⟨g1, h1, h2⟩) <;> cases h1 <;> rw [h2] <;> clear h2 M9
  · simp only [if_neg g1]
    refine ax_if_eq (tgt := 33) dX10_road_28 (by decide) (fun hc => ?_) (fun hc => ?_)
    · exact absurd hc (by decide)
    · refine ax_iconst (v := 0) dX10_road_31 (by decide) ?_
      refine ax_iret dX10_road_32 rfl ?_
      exact ⟨rfl, by rw [hM0]; rfl⟩
  · simp only [if_pos (dn g1)]
    obtain ⟨z, hz, rfl⟩ := in_nat (K := nI t) (x := n) (dn g1) (n := t) rfl (by omega)
    refine ax_if_eq (tgt := 33) dX10_road_28 (by decide) (fun hc => ?_) (fun hc => ?_)
    · refine c_road0 (M := M0) hok (by omega) (rp_fr hq (fun m i c => by rw [hM0, ax_pn (by omega)])) ho (fun o M2 h => ⟨z, hz, rfl, ?_⟩)
      have e : tx_tb M0 z = tx_tb M z := by
        funext i; unfold tx_tb; rw [hM0, ax_pn (by omega)]
      rw [e, hM0] at h
      exact h
    · exact absurd rfl hc
end RE

