/-! ===== the class: SIGHT and beams by what is told ===== -/
def fs (n : Nat) : Prop := n = 15 ∨ n = 18 ∨ n = 21 ∨ n = 33
theorem fs_F {F : Nat} (h : xh_F F) : fs (F + 2) := by unfold xh_F at h; unfold fs; omega
theorem fs_n {F : Nat} (h : xh_F F) : ¬ fs F ∧ ¬ fs (F + 1) ∧ F ≠ 22 ∧ F + 1 ≠ 22 := by unfold xh_F at h; unfold fs; omega
def cs_law : List (Int32 × Int32) := [(1, 0), (1, 1), (3, 0), (1, 2), (0, 1), (2, 0), (5, 0)]
def cs_rule : List (Int32 × Int32) := [(1, 8), (0, 12), (3, 0)]
theorem ev_pu {cap n : Nat} {q : Int32 × Int32} {r : List (Int32 × Int32)} (h : q.1 = 0 ∨ q.1 = 1) (hn : n < cap) : ev_d cap n (q :: r) = ev_d cap (n + 1) r := by rw [ev_d_s, if_pos h, if_pos hn]
theorem ev_po {cap n : Nat} {q : Int32 × Int32} {r : List (Int32 × Int32)} (h : ¬ (q.1 = 0 ∨ q.1 = 1)) (hn : 2 ≤ n) : ev_d cap n (q :: r) = ev_d cap (n - 1) r := by rw [ev_d_s, if_neg h, if_pos hn]
theorem ev_good_law : ev_good cs_law := by
  refine ⟨fun w hw => ?_, fun cap n hn => ?_, by decide, by decide⟩
  · unfold cs_law at hw
    simp only [List.mem_cons, List.not_mem_nil, or_false] at hw
    rcases hw with rfl | rfl | rfl | rfl | rfl | rfl | rfl
    · exact Or.inr (Or.inl ⟨rfl, 0, by decide, rfl⟩)
    · exact Or.inr (Or.inl ⟨rfl, 1, by decide, rfl⟩)
    · exact Or.inr (Or.inr ⟨3, by decide, by decide, rfl⟩)
    · exact Or.inr (Or.inl ⟨rfl, 2, by decide, rfl⟩)
    · exact Or.inl rfl
    · exact Or.inr (Or.inr ⟨2, by decide, by decide, rfl⟩)
    · exact Or.inr (Or.inr ⟨5, by decide, by decide, rfl⟩)
  · unfold cs_law
    rw [ev_pu (by decide) (by omega), ev_pu (by decide) (by omega), ev_po (by decide) (by omega), ev_pu (by decide) (by omega), ev_pu (by decide) (by omega), ev_po (by decide) (by omega), ev_po (by decide) (by omega)]
    show some _ = some _
    congr 1
theorem ev_good_rule : ev_good cs_rule := by
  refine ⟨fun w hw => ?_, fun cap n hn => ?_, by decide, by decide⟩
  · unfold cs_rule at hw
    simp only [List.mem_cons, List.not_mem_nil, or_false] at hw
    rcases hw with rfl | rfl | rfl
    · exact Or.inr (Or.inl ⟨rfl, 8, by decide, rfl⟩)
    · exact Or.inl rfl
    · exact Or.inr (Or.inr ⟨3, by decide, by decide, rfl⟩)
  · unfold cs_rule
    rw [ev_pu (by decide) (by omega), ev_pu (by decide) (by omega), ev_po (by decide) (by omega)]
    show some _ = some _
    congr 1
theorem nu_law : ∀ w ∈ cs_law, nu w := by
  intro w hw
  unfold cs_law at hw
  simp only [List.mem_cons, List.not_mem_nil, or_false] at hw
  rcases hw with rfl | rfl | rfl | rfl | rfl | rfl | rfl
  · exact fun c => absurd c (by decide)
  · exact fun c => absurd c (by decide)
  · exact fun c => absurd c (by decide)
  · exact fun c => absurd c (by decide)
  · exact fun _ => ⟨1, by decide, rfl⟩
  · exact fun c => absurd c (by decide)
  · exact fun c => absurd c (by decide)
theorem nu_rule : ∀ w ∈ cs_rule, nu w := by
  intro w hw
  unfold cs_rule at hw
  simp only [List.mem_cons, List.not_mem_nil, or_false] at hw
  rcases hw with rfl | rfl | rfl
  · exact fun c => absurd c (by decide)
  · exact fun _ => ⟨12, by decide, rfl⟩
  · exact fun c => absurd c (by decide)
theorem ev_law (kn : Nat → Int32) (h : ¬ kn 2 + 1 = 0) : ev kn cs_law = (kn 0 - kn 1) / (kn 2 + 1) := by
  have e : ev kn cs_law = ev_op 5 (kn 0 - kn 1) (kn 2 + 1) := rfl
  rw [e]
  show (if kn 2 + 1 = 0 then 0 else if kn 2 + 1 = -1 then -(kn 0 - kn 1) else (kn 0 - kn 1) / (kn 2 + 1)) = _
  rw [if_neg h]
  split
  · rename_i c; rw [c, i32_dn]
  · rfl
theorem ev_rul (kn : Nat → Int32) : ev kn cs_rule = kn 8 - 12 := rfl
/-- the laws as the class holds them -/
def xlw (M : ax_M) (p : Nat → Nat) (lw : mt_L) : Prop := xfm M (p 2) ((lw 0).getD cs_law) ∧ xfm M (p 3) ((lw 1).getD cs_rule) ∧ xfm M (p 4) ((lw 2).getD cs_rule)
theorem xlw_fr {M M2 : ax_M} {p : Nat → Nat} {lw : mt_L} (hx : xp p) (h : xlw M p lw) (hf : ∀ n i, 13 ≤ n ∧ n ≤ 32 → ¬ fs n → n ≠ 22 → M2.1 n i = M.1 n i) : xlw M2 p lw := by
  obtain ⟨-, -, ⟨f2, f3, f4, f5⟩, -⟩ := hx
  have k : ∀ F, xh_F F → ∀ n i, n = F ∨ n = F + 1 → M2.1 n i = M.1 n i := fun F hF n i hn => by
    unfold xh_F at hF
    exact hf n i (by omega) (by unfold fs; omega) (by omega)
  exact ⟨xfm_fr h.1 (k _ f2), xfm_fr h.2.1 (k _ f3), xfm_fr h.2.2 (k _ f4)⟩
theorem ev_sight_x (lw : Option (List (Int32 × Int32))) (kn : Nat → Int32) (h : ¬ kn 2 + 1 = 0) : ev_sight lw kn = ev_clamp (ev kn (lw.getD cs_law)) := by
  cases lw with
  | none => unfold ev_sight; rw [Option.getD_none, ev_law kn h]
  | some cs => rfl
theorem ev_rule_x (lw : Option (List (Int32 × Int32))) (kn : Nat → Int32) : ev_rule lw kn = ev kn (lw.getD cs_rule) := by
  cases lw with
  | none => rfl
  | some cs => rfl
theorem ev_clamp_x (v : Int32) : (if 0 < (if v < 60 then v else 60) then (if v < 60 then v else 60) else 0) = ev_clamp v := by
  unfold ev_clamp
  by_cases h1 : v < 60
  · rw [if_pos h1, if_neg (Int32.not_lt.mpr (Int32.le_of_lt h1))]
    by_cases h2 : v < 0
    · rw [if_pos h2, if_neg (Int32.not_lt.mpr (Int32.le_of_lt h2))]
    · rw [if_neg h2]
      by_cases h3 : 0 < v
      · rw [if_pos h3]
      · rw [if_neg h3]
        have := Int32.le_antisymm (Int32.not_lt.mp h3) (Int32.not_lt.mp h2)
        exact this.symm
  · rw [if_neg h1]
    by_cases h4 : 60 < v
    · rw [if_pos h4]; rfl
    · rw [if_neg h4]
      have := Int32.le_antisymm (Int32.not_lt.mp h4) (Int32.not_lt.mp h1)
      rw [this]; rfl
section XL
variable {l : Launch} {G : ax_G} {M : ax_M} {p : Nat → Nat} {lw : mt_L} {F : Nat}
theorem c_sightByLaw (hx : xk M.2 p) (hl : xfm M (p 2) ((lw 0).getD cs_law)) (hk : ¬ M.1 22 2 + 1 = 0) : ax_Met l G kX7_sightByLaw 2 0 0 M [av_r 4] (fun o M2 => o = .inl (some (av_i (ev_sight (lw 0) (M.1 22)))) ∧ M2.2 = M.2 ∧ ∀ n i, ¬ fs n → M2.1 n i = M.1 n i) := by
  have hok := hx.1
  refine ax_body (by decide) (Nat.le_of_ble_eq_true rfl) ?_
  refine ax_iconst (v := 0) dX7_sightByLaw_0 (by decide) ?_
  refine ax_bipush (v := 60) dX7_sightByLaw_1 (by decide) ?_
  refine ax_aload_n dX7_sightByLaw_3 rfl ?_
  refine ax_getK (f := 1) (p 2) dX7_sightByLaw_4 acl_7 wd_368 (by decide) rfl (lo_s hok 4 rfl) (xk_r2 hx) ?_
  refine ax_aload_n dX7_sightByLaw_7 rfl ?_
  refine ax_getK (f := 4) 22 dX7_sightByLaw_8 acl_7 wd_372 (by decide) rfl (lo_s hok 4 rfl) (lo_r hok 10 rfl) ?_
  refine ax_callVN (As := _) (d2 := _) (c1 := 0) (n1 := 0) (c_valueBy (M := M) hok (xk_b2 hx) hl) dX7_sightByLaw_11 mX2_valueBy wd_688 acl_2 (xs_F_0 (xk_b2 hx) hok) rfl (by omega) (by omega) (by omega) rfl rfl (fun _ _ h => by cases h.1) ?_
  rintro o9 M1 ⟨h1, h2, h3⟩; cases h1
  refine ax_mmin dX7_sightByLaw_14 wd_719 wd_mins wd_182 wd_minc (by decide) rfl ?_
  refine ax_mmax dX7_sightByLaw_17 wd_720 wd_maxs wd_182 wd_maxc (by decide) rfl ?_
  refine ax_iret dX7_sightByLaw_20 rfl ?_
  refine ⟨?_, h2, fun n i hn => h3 n i (fun c => hn (by rw [c]; exact fs_F (xk_b2 hx)))⟩
  rw [ev_clamp_x, ev_sight_x _ _ hk]
theorem c_beamsByRule (hx : xk M.2 p) (hl : xlw M p lw) {c : Nat} (hc2 : c < 2) {x : Int32} (hxx : x = nI c) : ax_Met l G kX7_beamsByRule 2 0 0 M [av_r 4, av_i x] (fun o M2 => o = .inl (some (av_i (if 0 < ev_rule (lw (1 + c)) (M.1 22) then 1 else 0))) ∧ M2.2 = M.2 ∧ ∀ n i, ¬ fs n → M2.1 n i = M.1 n i) := by
  subst hxx
  have hok := hx.1
  have tail : ∀ (F : Nat), xh_F F → xfm M F ((lw (1 + c)).getD cs_rule) → ax_W l G kX7_beamsByRule (ax_FQ G (fun o M2 => o = .inl (some (av_i (if 0 < ev_rule (lw (1 + c)) (M.1 22) then 1 else 0))) ∧ M2.2 = M.2 ∧ ∀ n i, ¬ fs n → M2.1 n i = M.1 n i)) 2 0 0 M 15 [some (av_r 4), some (av_i (nI c))] [av_r F] := by
    intro F hF hf
    refine ax_aload_n dX7_beamsByRule_15 rfl ?_
    refine ax_getK (f := 4) 22 dX7_beamsByRule_16 acl_7 wd_372 (by decide) rfl (lo_s hok 4 rfl) (lo_r hok 10 rfl) ?_
    refine ax_callVN (As := [av_r 22]) (d2 := _) (c1 := 0) (n1 := 0) (c_valueBy (M := M) hok hF hf) dX7_beamsByRule_19 mX2_valueBy wd_688 acl_2 (xs_F_0 hF hok) rfl (by omega) (by omega) (by omega) rfl rfl (fun _ _ h => by cases h.1) ?_
    rintro o9 M1 ⟨h1, h2, h3⟩; cases h1
    rw [ev_rule_x]
    refine ax_if_le (tgt := 29) dX7_beamsByRule_22 (by decide) (fun hc => ?_) (fun hc => ?_)
    · refine ax_iconst (v := 0) dX7_beamsByRule_29 (by decide) ?_
      refine ax_iret dX7_beamsByRule_30 rfl ?_
      rw [if_neg (Int32.not_lt.mpr hc)]
      exact ⟨rfl, h2, fun n i hn => h3 n i (fun c => hn (by rw [c]; exact fs_F hF))⟩
    · refine ax_iconst (v := 1) dX7_beamsByRule_25 (by decide) ?_
      refine ax_goto (tgt := 30) dX7_beamsByRule_26 (by decide) ?_
      refine ax_iret dX7_beamsByRule_30 rfl ?_
      rw [if_pos (Int32.not_le.mp hc)]
      exact ⟨rfl, h2, fun n i hn => h3 n i (fun c => hn (by rw [c]; exact fs_F hF))⟩
  refine ax_body (by decide) (Nat.le_of_ble_eq_true rfl) ?_
  refine ax_iload_n dX7_beamsByRule_0 rfl ?_
  rcases (show c = 0 ∨ c = 1 by omega) with rfl | rfl
  · refine ax_if_ne (tgt := 11) dX7_beamsByRule_1 (by decide) (fun hc => ?_) (fun hc => ?_)
    · exact absurd rfl hc
    · refine ax_aload_n dX7_beamsByRule_4 rfl ?_
      refine ax_getK (f := 2) (p 3) dX7_beamsByRule_5 acl_7 wd_370 (by decide) rfl (lo_s hok 4 rfl) (xk_r3 hx) ?_
      refine ax_goto (tgt := 15) dX7_beamsByRule_8 (by decide) ?_
      exact tail _ (xk_b3 hx) hl.2.1
  · refine ax_if_ne (tgt := 11) dX7_beamsByRule_1 (by decide) (fun hc => ?_) (fun hc => ?_)
    · refine ax_aload_n dX7_beamsByRule_11 rfl ?_
      refine ax_getK (f := 3) (p 4) dX7_beamsByRule_12 acl_7 wd_371 (by decide) rfl (lo_s hok 4 rfl) (xk_r4 hx) ?_
      exact tail _ (xk_b4 hx) hl.2.2
    · exact absurd hc (by decide)
theorem c_valuesOfNobody {r : Nat → Int} (hx : xk M.2 p) (hr : xr M (p 0) r) : ax_Met l G kX7_valuesOfNobody 0 0 0 M [av_r 4] (fun o M2 => o = .inl (some (av_r 22)) ∧ M2.2 = M.2 ∧ (∀ n i, n ≠ 22 → M2.1 n i = M.1 n i) ∧ ∀ k, k < 12 → M2.1 22 k = if k = 1 then iI (r 34) else if k = 8 then 99 else 0) := by
  have hok := hx.1
  have hR : p 0 ≠ 22 := by have := xk_b0 hx; unfold xh_R at this; omega
  refine ax_body (by decide) (Nat.le_of_ble_eq_true rfl) ?_
  refine ax_iconst (v := 0) dX7_valuesOfNobody_0 (by decide) ?_
  refine ax_istore_n dX7_valuesOfNobody_1 (by decide) rfl ?_
  refine ax_for 12 (fun i N L => L = [some (av_r 4), some (av_i (nI i))] ∧ N.2 = M.2 ∧ (∀ n j, n ≠ 22 → N.1 n j = M.1 n j) ∧ ∀ k, k < i → N.1 22 k = 0) 2 ?_ ?_ (i := 0) (by omega) ⟨rfl, rfl, fun _ _ _ => rfl, fun k hk => by omega⟩
  · rintro i N L hi ⟨rfl, e1, e2, e3⟩ next
    have hx : xk N.2 p := by rw [e1]; exact hx
    have hok := hx.1
    refine ax_iload_n dX7_valuesOfNobody_2 rfl ?_
    refine ax_bipush (v := 12) dX7_valuesOfNobody_3 (by decide) ?_
    refine ax_icmp_ge (tgt := 21) dX7_valuesOfNobody_5 (by decide) (fun hc => absurd ((nI_leI (a := 12) (by omega) (by omega)).mp hc) (by omega)) (fun hc => ?_)
    refine ax_aload_n dX7_valuesOfNobody_8 rfl ?_
    refine ax_getK (f := 4) 22 dX7_valuesOfNobody_9 acl_7 wd_372 (by decide) rfl (lo_s hok 4 rfl) (lo_r hok 10 rfl) ?_
    refine ax_iload_n dX7_valuesOfNobody_12 rfl ?_
    refine ax_iconst (v := 0) dX7_valuesOfNobody_13 (by decide) ?_
    refine ax_iastN (i) dX7_valuesOfNobody_14 (lo_s hok 22 rfl) (by decide) (by first | with_reducible rfl | assumption | exact ax_nix (by simp only [nx_0, nx_1, nx_2, nx_3, nx_4, nx_10, nx_20, nx_21, nx_100, nI_add, pk_mul] <;> rfl) (by omega) | decide) (by omega) ?_
    refine ax_gen (fun N2 hN2 => ?_)
    have hok : lo_ok N2.2 := by rw [hN2]; exact hok
    have hx : xk N2.2 p := by rw [hN2]; exact hx
    refine ax_iinc (v := 1) dX7_valuesOfNobody_15 rfl (by decide) (by decide) rfl ?_
    refine ax_goto (tgt := 2) dX7_valuesOfNobody_18 (by decide) ?_
    rw [nI_1]
    refine next _ _ ⟨rfl, by rw [hN2]; exact e1, fun n j hn => by rw [hN2, ax_pn (by omega)]; exact e2 n j hn, fun k hk => ?_⟩
    rw [hN2]
    by_cases c : k = i
    · subst c; rw [ax_pa]
    · rw [ax_pn (by omega)]; exact e3 k (by omega)
  · rintro N L ⟨rfl, e1, e2, e3⟩
    have hx : xk N.2 p := by rw [e1]; exact hx
    have hok := hx.1
    refine ax_iload_n dX7_valuesOfNobody_2 rfl ?_
    refine ax_bipush (v := 12) dX7_valuesOfNobody_3 (by decide) ?_
    refine ax_icmp_ge (tgt := 21) dX7_valuesOfNobody_5 (by decide) (fun hc => ?_) (fun hc => absurd ((nI_leI (a := 12) (by omega) (by omega)).mpr (by omega)) hc)
    refine ax_aload_n dX7_valuesOfNobody_21 rfl ?_
    refine ax_getK (f := 4) 22 dX7_valuesOfNobody_22 acl_7 wd_372 (by decide) rfl (lo_s hok 4 rfl) (lo_r hok 10 rfl) ?_
    refine ax_iconst (v := 1) dX7_valuesOfNobody_25 (by decide) ?_
    refine ax_aload_n dX7_valuesOfNobody_26 rfl ?_
    refine ax_getK (f := 0) (p 0) dX7_valuesOfNobody_27 acl_7 wd_365 (by decide) rfl (lo_s hok 4 rfl) (xk_r0 hx) ?_
    refine ax_getIN (f := 9) dX7_valuesOfNobody_30 acl_5 wd_272 (by decide) rfl (xs_R_0 (xk_b0 hx) hok) ?_
    rw [e2 _ _ hR, hr.1.2.2.2.2.2.2.2.1]
    refine ax_iastN (1) dX7_valuesOfNobody_33 (lo_s hok 22 rfl) (by decide) (by decide) (by decide) ?_
    refine ax_gen (fun N2 hN2 => ?_)
    have hok : lo_ok N2.2 := by rw [hN2]; exact hok
    have hx : xk N2.2 p := by rw [hN2]; exact hx
    refine ax_aload_n dX7_valuesOfNobody_34 rfl ?_
    refine ax_getK (f := 4) 22 dX7_valuesOfNobody_35 acl_7 wd_372 (by decide) rfl (lo_s hok 4 rfl) (lo_r hok 10 rfl) ?_
    refine ax_bipush (v := 8) dX7_valuesOfNobody_38 (by decide) ?_
    refine ax_bipush (v := 99) dX7_valuesOfNobody_40 (by decide) ?_
    refine ax_iastN (8) dX7_valuesOfNobody_42 (lo_s hok 22 rfl) (by decide) (by decide) (by decide) ?_
    refine ax_gen (fun N3 hN3 => ?_)
    have hok : lo_ok N3.2 := by rw [hN3]; exact hok
    have hx : xk N3.2 p := by rw [hN3]; exact hx
    refine ax_aload_n dX7_valuesOfNobody_43 rfl ?_
    refine ax_getK (f := 4) 22 dX7_valuesOfNobody_44 acl_7 wd_372 (by decide) rfl (lo_s hok 4 rfl) (lo_r hok 10 rfl) ?_
    refine ax_aret dX7_valuesOfNobody_47 rfl (Or.inr ⟨_, rfl⟩) ?_
    refine ⟨rfl, by rw [hN3, hN2]; exact e1, fun n i hn => by rw [hN3, ax_pn (by omega), hN2, ax_pn (by omega)]; exact e2 n i hn, fun k hk => ?_⟩
    rw [hN3]
    by_cases c8 : k = 8
    · subst c8; rw [ax_pa, if_neg (by decide), if_pos rfl]
    · rw [ax_pn (by omega), hN2]
      by_cases c1 : k = 1
      · subst c1; rw [ax_pa, if_pos rfl]
      · rw [ax_pn (by omega), if_neg c1, if_neg c8]; exact e3 k hk
end XL

