/-! ===== the road taken: the class ===== -/
/-- codes added one by one -/
def us (M N : ax_M) (F : Nat) (cs : List Int32) : Prop := N.2 = M.2 ∧ (∀ n i, n ≠ F → n ≠ F + 1 → N.1 n i = M.1 n i) ∧ N.1 F 1 = nI cs.length ∧ ∀ j v, cs[j]? = some v → N.1 (F + 1) j = v
theorem us_0 {M N : ax_M} {F : Nat} (e : N = ax_pI M F 1 0) : us M N F [] := by
  subst e
  exact ⟨rfl, fun n i z _ => ax_pn (by omega), by rw [ax_pa]; rfl, fun j v h => by simp at h⟩
theorem us_add {M N N2 : ax_M} {F : Nat} {cs : List Int32} {v : Int32} {k : Nat} (h : us M N F cs) (hk : k = cs.length) (e : N2 = ax_pI (ax_pI N (F + 1) k v) F 1 (nI (k + 1))) : us M N2 F (cs ++ [v]) := by
  subst e hk
  obtain ⟨h1, h2, h3, h4⟩ := h
  refine ⟨h1, fun n i z1 z2 => by rw [ax_pn (by omega), ax_pn (by omega)]; exact h2 n i z1 z2, by rw [ax_pa, List.length_append]; rfl, fun j v2 hj => ?_⟩
  rw [ax_pn (by omega)]
  by_cases e : j = cs.length
  · subst e
    rw [ax_pa]
    rw [List.getElem?_append_right (Nat.le_refl _), Nat.sub_self] at hj
    exact Option.some.inj hj
  · rw [ax_pn (by omega)]
    have hl : j < (cs ++ [v]).length := by
      rcases Nat.lt_or_ge j (cs ++ [v]).length with h | h
      · exact h
      · rw [List.getElem?_eq_none h] at hj; cases hj
    rw [List.length_append] at hl
    have hl2 : j < cs.length := by have : [v].length = 1 := rfl; omega
    rw [List.getElem?_append_left hl2] at hj
    exact h4 j v2 hj
theorem us_xfm {M N : ax_M} {F : Nat} {cs : List (Int32 × Int32)} {es : List Int32} (h : us M N F es) (e : cs.map enc = es) (h1 : ev_good cs) (h2 : ∀ w ∈ cs, nu w) : xfm N F cs := by
  subst e
  refine ⟨h1, h2, by rw [h.2.2.1, List.length_map], fun j w hw => h.2.2.2 j (enc w) (by rw [List.getElem?_map, hw]; rfl)⟩
section X99b
variable {l : Launch} {G : ax_G} {M : ax_M} {B : Nat → Int32} {p : Nat → Nat} {r : Nat → Int} {lw : mt_L} {es : List (Nat × Nat)} {F : Nat}
theorem c_becomeUsualLaw (hok : lo_ok M.2) (hF : xh_F F) : ax_Met l G kX2_becomeUsualLaw 1 0 0 M [av_r F] (fun o M2 => o = .inl none ∧ M2.2 = M.2 ∧ (∀ n i, n ≠ F → n ≠ F + 1 → M2.1 n i = M.1 n i) ∧ xfm M2 F cs_law) := by
  refine ax_body (by decide) (Nat.le_of_ble_eq_true rfl) ?_
  refine ax_aload_n dX2_becomeUsualLaw_0 rfl ?_
  refine ax_iconst (v := 0) dX2_becomeUsualLaw_1 (by decide) ?_
  refine ax_putI (f := 1) dX2_becomeUsualLaw_2 acl_2 wd_340 (by decide) rfl rfl (ax_nfI rfl) (xs_F_0 hF hok) ?_
  refine ax_gen (fun M0 hM0 => ?_)
  have hok : lo_ok M0.2 := by rw [hM0]; exact hok
  have u0 := us_0 hM0
  refine ax_aload_n dX2_becomeUsualLaw_5 rfl ?_
  refine ax_bipush (v := 100) dX2_becomeUsualLaw_6 (by decide) ?_
  refine ax_callV (As := _) (d2 := _) (c1 := 0) (n1 := 0) (c_xadd (d := 0) (M := M0) (k := 0) hok hF u0.2.2.1 (by omega) 100) dX2_becomeUsualLaw_8 mX2_add wd_357 acl_2 (xs_F_0 hF hok) rfl (by omega) (by omega) (by omega) rfl rfl (fun _ _ h => by cases h.1) ?_
  rintro v M1 ⟨q, h⟩; cases q
  have u1 := us_add u0 rfl h
  have hok : lo_ok M1.2 := by rw [h]; exact hok
  clear h u0 hM0
  refine ax_aload_n dX2_becomeUsualLaw_11 rfl ?_
  refine ax_bipush (v := 101) dX2_becomeUsualLaw_12 (by decide) ?_
  refine ax_callV (As := _) (d2 := _) (c1 := 0) (n1 := 0) (c_xadd (d := 0) (M := M1) (k := 1) hok hF u1.2.2.1 (by omega) 101) dX2_becomeUsualLaw_14 mX2_add wd_357 acl_2 (xs_F_0 hF hok) rfl (by omega) (by omega) (by omega) rfl rfl (fun _ _ h => by cases h.1) ?_
  rintro v M2 ⟨q, h⟩; cases q
  have u2 := us_add u1 rfl h
  have hok : lo_ok M2.2 := by rw [h]; exact hok
  clear h u1
  refine ax_aload_n dX2_becomeUsualLaw_17 rfl ?_
  refine ax_iconst (v := 1) dX2_becomeUsualLaw_18 (by decide) ?_
  refine ax_callV (As := _) (d2 := _) (c1 := 0) (n1 := 0) (c_xadd (d := 0) (M := M2) (k := 2) hok hF u2.2.2.1 (by omega) 1) dX2_becomeUsualLaw_19 mX2_add wd_357 acl_2 (xs_F_0 hF hok) rfl (by omega) (by omega) (by omega) rfl rfl (fun _ _ h => by cases h.1) ?_
  rintro v M3 ⟨q, h⟩; cases q
  have u3 := us_add u2 rfl h
  have hok : lo_ok M3.2 := by rw [h]; exact hok
  clear h u2
  refine ax_aload_n dX2_becomeUsualLaw_22 rfl ?_
  refine ax_bipush (v := 102) dX2_becomeUsualLaw_23 (by decide) ?_
  refine ax_callV (As := _) (d2 := _) (c1 := 0) (n1 := 0) (c_xadd (d := 0) (M := M3) (k := 3) hok hF u3.2.2.1 (by omega) 102) dX2_becomeUsualLaw_25 mX2_add wd_357 acl_2 (xs_F_0 hF hok) rfl (by omega) (by omega) (by omega) rfl rfl (fun _ _ h => by cases h.1) ?_
  rintro v M4 ⟨q, h⟩; cases q
  have u4 := us_add u3 rfl h
  have hok : lo_ok M4.2 := by rw [h]; exact hok
  clear h u3
  refine ax_aload_n dX2_becomeUsualLaw_28 rfl ?_
  refine ax_sipush (v := 1001) dX2_becomeUsualLaw_29 (by decide) ?_
  refine ax_callV (As := _) (d2 := _) (c1 := 0) (n1 := 0) (c_xadd (d := 0) (M := M4) (k := 4) hok hF u4.2.2.1 (by omega) 1001) dX2_becomeUsualLaw_32 mX2_add wd_357 acl_2 (xs_F_0 hF hok) rfl (by omega) (by omega) (by omega) rfl rfl (fun _ _ h => by cases h.1) ?_
  rintro v M5 ⟨q, h⟩; cases q
  have u5 := us_add u4 rfl h
  have hok : lo_ok M5.2 := by rw [h]; exact hok
  clear h u4
  refine ax_aload_n dX2_becomeUsualLaw_35 rfl ?_
  refine ax_iconst (v := 0) dX2_becomeUsualLaw_36 (by decide) ?_
  refine ax_callV (As := _) (d2 := _) (c1 := 0) (n1 := 0) (c_xadd (d := 0) (M := M5) (k := 5) hok hF u5.2.2.1 (by omega) 0) dX2_becomeUsualLaw_37 mX2_add wd_357 acl_2 (xs_F_0 hF hok) rfl (by omega) (by omega) (by omega) rfl rfl (fun _ _ h => by cases h.1) ?_
  rintro v M6 ⟨q, h⟩; cases q
  have u6 := us_add u5 rfl h
  have hok : lo_ok M6.2 := by rw [h]; exact hok
  clear h u5
  refine ax_aload_n dX2_becomeUsualLaw_40 rfl ?_
  refine ax_iconst (v := 3) dX2_becomeUsualLaw_41 (by decide) ?_
  refine ax_callV (As := _) (d2 := _) (c1 := 0) (n1 := 0) (c_xadd (d := 0) (M := M6) (k := 6) hok hF u6.2.2.1 (by omega) 3) dX2_becomeUsualLaw_42 mX2_add wd_357 acl_2 (xs_F_0 hF hok) rfl (by omega) (by omega) (by omega) rfl rfl (fun _ _ h => by cases h.1) ?_
  rintro v M7 ⟨q, h⟩; cases q
  have u7 := us_add u6 rfl h
  clear h u6
  refine ax_vret dX2_becomeUsualLaw_45 rfl ?_
  exact ⟨rfl, u7.1, u7.2.1, us_xfm u7 (by decide) ev_good_law nu_law⟩
theorem c_becomeUsualRule (hok : lo_ok M.2) (hF : xh_F F) : ax_Met l G kX2_becomeUsualRule 1 0 0 M [av_r F] (fun o M2 => o = .inl none ∧ M2.2 = M.2 ∧ (∀ n i, n ≠ F → n ≠ F + 1 → M2.1 n i = M.1 n i) ∧ xfm M2 F cs_rule) := by
  refine ax_body (by decide) (Nat.le_of_ble_eq_true rfl) ?_
  refine ax_aload_n dX2_becomeUsualRule_0 rfl ?_
  refine ax_iconst (v := 0) dX2_becomeUsualRule_1 (by decide) ?_
  refine ax_putI (f := 1) dX2_becomeUsualRule_2 acl_2 wd_340 (by decide) rfl rfl (ax_nfI rfl) (xs_F_0 hF hok) ?_
  refine ax_gen (fun M0 hM0 => ?_)
  have hok : lo_ok M0.2 := by rw [hM0]; exact hok
  have u0 := us_0 hM0
  refine ax_aload_n dX2_becomeUsualRule_5 rfl ?_
  refine ax_bipush (v := 108) dX2_becomeUsualRule_6 (by decide) ?_
  refine ax_callV (As := _) (d2 := _) (c1 := 0) (n1 := 0) (c_xadd (d := 0) (M := M0) (k := 0) hok hF u0.2.2.1 (by omega) 108) dX2_becomeUsualRule_8 mX2_add wd_357 acl_2 (xs_F_0 hF hok) rfl (by omega) (by omega) (by omega) rfl rfl (fun _ _ h => by cases h.1) ?_
  rintro v M1 ⟨q, h⟩; cases q
  have u1 := us_add u0 rfl h
  have hok : lo_ok M1.2 := by rw [h]; exact hok
  clear h u0 hM0
  refine ax_aload_n dX2_becomeUsualRule_11 rfl ?_
  refine ax_sipush (v := 1012) dX2_becomeUsualRule_12 (by decide) ?_
  refine ax_callV (As := _) (d2 := _) (c1 := 0) (n1 := 0) (c_xadd (d := 0) (M := M1) (k := 1) hok hF u1.2.2.1 (by omega) 1012) dX2_becomeUsualRule_15 mX2_add wd_357 acl_2 (xs_F_0 hF hok) rfl (by omega) (by omega) (by omega) rfl rfl (fun _ _ h => by cases h.1) ?_
  rintro v M2 ⟨q, h⟩; cases q
  have u2 := us_add u1 rfl h
  have hok : lo_ok M2.2 := by rw [h]; exact hok
  clear h u1
  refine ax_aload_n dX2_becomeUsualRule_18 rfl ?_
  refine ax_iconst (v := 1) dX2_becomeUsualRule_19 (by decide) ?_
  refine ax_callV (As := _) (d2 := _) (c1 := 0) (n1 := 0) (c_xadd (d := 0) (M := M2) (k := 2) hok hF u2.2.2.1 (by omega) 1) dX2_becomeUsualRule_20 mX2_add wd_357 acl_2 (xs_F_0 hF hok) rfl (by omega) (by omega) (by omega) rfl rfl (fun _ _ h => by cases h.1) ?_
  rintro v M3 ⟨q, h⟩; cases q
  have u3 := us_add u2 rfl h
  clear h u2
  refine ax_vret dX2_becomeUsualRule_23 rfl ?_
  exact ⟨rfl, u3.1, u3.2.1, us_xfm u3 (by decide) ev_good_rule nu_rule⟩
theorem c_forgetFormulas (hx : xk M.2 p) : ax_Met l G kX7_forgetFormulas 2 0 0 M [av_r 4] (fun o M2 => o = .inl none ∧ M2.2 = M.2 ∧ (∀ n i, ¬ (13 ≤ n ∧ n ≤ 20) → n ≠ 31 → n ≠ 32 → M2.1 n i = M.1 n i) ∧ xlw M2 p (fun _ => none)) := by
  have hok := hx.1
  obtain ⟨f2, f3, f4, f5⟩ := hx.2.1.2.2.1
  obtain ⟨n23, n24, n25, n34, n35, n45⟩ := hx.2.1.2.2.2
  have q23 := xh_F3 f2 f3 n23
  have q24 := xh_F3 f2 f4 n24
  have q34 := xh_F3 f3 f4 n34
  have c2 : p 2 = 13 ∨ p 2 = 16 ∨ p 2 = 19 ∨ p 2 = 31 := f2
  have c3 : p 3 = 13 ∨ p 3 = 16 ∨ p 3 = 19 ∨ p 3 = 31 := f3
  have c4 : p 4 = 13 ∨ p 4 = 16 ∨ p 4 = 19 ∨ p 4 = 31 := f4
  refine ax_body (by decide) (Nat.le_of_ble_eq_true rfl) ?_
  refine ax_aload_n dX7_forgetFormulas_0 rfl ?_
  refine ax_getK (f := 1) (p 2) dX7_forgetFormulas_1 acl_7 wd_368 (by decide) rfl (lo_s hok 4 rfl) (xk_r2 hx) ?_
  refine ax_callVN (As := _) (d2 := _) (c1 := 0) (n1 := 0) (c_becomeUsualLaw (M := M) hok f2) dX7_forgetFormulas_4 mX2_becomeUsualLaw wd_353 acl_2 (xs_F_0 (xk_b2 hx) hok) rfl (by omega) (by omega) (by omega) rfl rfl (fun _ _ h => by cases h.1) ?_
  rintro v M1 ⟨q, e1, g1, x1⟩; cases q
  have hx : xk M1.2 p := by rw [e1]; exact hx
  have hok := hx.1
  refine ax_aload_n dX7_forgetFormulas_7 rfl ?_
  refine ax_getK (f := 2) (p 3) dX7_forgetFormulas_8 acl_7 wd_370 (by decide) rfl (lo_s hok 4 rfl) (xk_r3 hx) ?_
  refine ax_callVN (As := _) (d2 := _) (c1 := 0) (n1 := 0) (c_becomeUsualRule (M := M1) hok f3) dX7_forgetFormulas_11 mX2_becomeUsualRule wd_361 acl_2 (xs_F_0 (xk_b3 hx) hok) rfl (by omega) (by omega) (by omega) rfl rfl (fun _ _ h => by cases h.1) ?_
  rintro v M2 ⟨q, e2, g2, x2⟩; cases q
  have hx : xk M2.2 p := by rw [e2]; exact hx
  have hok := hx.1
  refine ax_aload_n dX7_forgetFormulas_14 rfl ?_
  refine ax_getK (f := 3) (p 4) dX7_forgetFormulas_15 acl_7 wd_371 (by decide) rfl (lo_s hok 4 rfl) (xk_r4 hx) ?_
  refine ax_callVN (As := _) (d2 := _) (c1 := 0) (n1 := 0) (c_becomeUsualRule (M := M2) hok f4) dX7_forgetFormulas_18 mX2_becomeUsualRule wd_361 acl_2 (xs_F_0 (xk_b4 hx) hok) rfl (by omega) (by omega) (by omega) rfl rfl (fun _ _ h => by cases h.1) ?_
  rintro v M3 ⟨q, e3, g3, x3⟩; cases q
  refine ax_vret dX7_forgetFormulas_21 rfl ?_
  refine ⟨rfl, by rw [e3, e2, e1], fun n i z1 z2 z3 => by rw [g3 n i (by omega) (by omega), g2 n i (by omega) (by omega), g1 n i (by omega) (by omega)], xfm_fr x1 (fun n i z => ?_), xfm_fr x2 (fun n i z => ?_), x3⟩
  · rw [g3 n i (by omega) (by omega), g2 n i (by omega) (by omega)]
  · rw [g3 n i (by omega) (by omega)]
theorem c_forgetAll {d : Nat} (hok : lo_ok M.2) : ax_Met l G kX1_forgetAll d 0 0 M [av_r 79] (fun o M2 => o = .inl none ∧ M2 = ax_pI (ax_pI M 79 4 0) 79 7 0) := by
  refine ax_body (by decide) (Nat.le_of_ble_eq_true rfl) ?_
  refine ax_aload_n dX1_forgetAll_0 rfl ?_
  refine ax_iconst (v := 0) dX1_forgetAll_1 (by decide) ?_
  refine ax_putI (f := 4) dX1_forgetAll_2 acl_1 wd_524 (by decide) rfl rfl (ax_nfI rfl) (lo_s hok 79 rfl) ?_
  refine ax_aload_n dX1_forgetAll_5 rfl ?_
  refine ax_iconst (v := 0) dX1_forgetAll_6 (by decide) ?_
  refine ax_putI (f := 7) dX1_forgetAll_7 acl_1 wd_528 (by decide) rfl rfl (ax_nfI rfl) (lo_s hok 79 rfl) ?_
  refine ax_vret dX1_forgetAll_10 rfl ?_
  exact ⟨rfl, rfl⟩
/-- what a taken ROAD leaves of the class -/
def xro (M M2 : ax_M) (B : Nat → Int32) (p : Nat → Nat) (r : Nat → Int) (lw : mt_L) (es : List (Nat × Nat)) (z : Nat) (q : Nat → Int) (o : ax_O) : Prop := M2.1 2 1 = 0 ∧ M2.2.2 = M.2.2 ∧ match (rd_text B z (qt q)).1.2 with
  | some e => o = .inl (some (av_i (nI e.1 - 10))) ∧ M2.1 2 8 = nI e.2 ∧ xI M2 p r lw es ∧ ∀ n i, n ≠ 2 → ¬ (5 ≤ n ∧ n ≤ 33) → M2.1 n i = M.1 n i
  | none => o = .inl (some (av_i (iI ((rd_text B z (qt q)).2 1)))) ∧ M2.1 2 8 = -1 ∧ xI M2 (swp 0 1 p) (rd_text B z (qt q)).2 (fun _ => none) [] ∧ M2.1 79 4 = 0 ∧ M2.1 79 7 = 0 ∧ ∀ n i, ¬ qs n i → n ≠ 2 → ¬ (5 ≤ n ∧ n ≤ 39) → n ≠ 79 → M2.1 n i = M.1 n i
theorem xI_spR {C : ax_M} (h : xI M p r lw es) (e2 : C.2 = M.2) (hf : ∀ n i, n ≠ 2 → ¬ (p 1 ≤ n ∧ n ≤ p 1 + 7) → C.1 n i = M.1 n i) : xI C p r lw es := by
  obtain ⟨⟨t1, t2, t3, t4, t5⟩, h2, h3, h4⟩ := h
  have hp := t1.2.1
  have p0 := hp.1
  have p6 := hp.2.1
  obtain ⟨f2, f3, f4, f5⟩ := hp.2.2.1
  have c2 : p 2 = 13 ∨ p 2 = 16 ∨ p 2 = 19 ∨ p 2 = 31 := f2
  have c3 : p 3 = 13 ∨ p 3 = 16 ∨ p 3 = 19 ∨ p 3 = 31 := f3
  have c4 : p 4 = 13 ∨ p 4 = 16 ∨ p 4 = 19 ∨ p 4 = 31 := f4
  have g : ∀ n i, n ≠ 2 → n < 5 ∨ 30 < n → C.1 n i = M.1 n i := fun n i z1 z2 => hf n i z1 (by omega)
  refine ⟨⟨by rw [e2]; exact t1, xr_fr t2 (fun n i a b => hf n i (by omega) (by omega)), t3, ⟨xfm_fr t4.1 (fun n i z => hf n i (by omega) (by omega)), xfm_fr t4.2.1 (fun n i z => hf n i (by omega) (by omega)), xfm_fr t4.2.2 (fun n i z => hf n i (by omega) (by omega))⟩, xbk_fr t5 (fun n i a => g n i (by omega) (by omega))⟩, ⟨xw_fr h2.1 (fun n i z => g n i (by omega) (by omega)), xw_fr h2.2 (fun n i z => g n i (by omega) (by omega))⟩, ?_, xD_fr h4 (g _ _ (by omega) (by omega)) (fun n i z => g n i (by omega) (by omega))⟩
  rcases h3 with h3 | ⟨h3, h5⟩
  · exact Or.inl ((g 1 7 (by omega) (by omega)).trans h3)
  · exact Or.inr ⟨(g 1 7 (by omega) (by omega)).trans h3, xmt_fr h5 (fun n i z => g n i (by omega) (by omega))⟩
theorem xk_swR {C D : ax_M} (hx : xk C.2 p) (okD : lo_ok D.2) (d3 : ∀ n i, ¬ (n = 4 ∧ i = 0) → ¬ (n = 1 ∧ i = 2) → D.2.1 n i = C.2.1 n i) (d4 : D.2.1 4 0 = p 1) (d5 : D.2.1 1 2 = p 0) : xk D.2 (swp 0 1 p) := by
  obtain ⟨-, ⟨x1, x2, x3⟩, y0, y1, y2, y3, y4, y5, y6, y7⟩ := hx
  refine ⟨okD, ⟨?_, x2, x3⟩, d4, d5, (d3 4 1 (by omega) (by omega)).trans y2, (d3 4 2 (by omega) (by omega)).trans y3, (d3 4 3 (by omega) (by omega)).trans y4, (d3 1 3 (by omega) (by omega)).trans y5, (d3 1 4 (by omega) (by omega)).trans y6, (d3 1 5 (by omega) (by omega)).trans y7⟩
  show p 1 = 5 ∧ p 0 = 23 ∨ p 1 = 23 ∧ p 0 = 5
  omega
theorem x_road (hl9 : l.stackTraces = false) (hI : xI M p r lw es) {t : Nat} (ht : M.1 2 1 = nI t) (ht2 : t ≤ 600) {q : Nat → Int} (hq : rd_ok q) (x : Int32) (hB : txB M B t x) : ax_Met l G kX9_road 8 1 6 M [av_r 1, av_i x] (fun o M2 => ((0 ≤ x ∧ x ≤ nI t) ∧ ∃ z, z ≤ t ∧ x = nI z ∧ xro M M2 B p r lw es z q o) ∨ (¬ (0 ≤ x ∧ x ≤ nI t) ∧ o = .inr (cz_n 1) ∧ xre M M2 1)) := by
  have hx := hI.1.1
  have hok := hx.1
  have xle : x ≤ nI t → x ≤ nI 600 := fun h => by
    have h2 := (nI_leI (a := t) (b := 600) (by omega) (by omega)).mpr ht2
    rw [iv_le] at h h2 ⊢; omega
  refine ax_body (by decide) (Nat.le_of_ble_eq_true rfl) ?_
  refine ax_aload_n dX9_road_0 rfl ?_
  refine ax_iload_n dX9_road_1 rfl ?_
  refine ax_sipush (v := 600) dX9_road_2 (by decide) ?_
  refine ax_callVX (As := _) (d2 := _) (c1 := 0) (n1 := 0) (x_takeText (M := M) hl9 hok ht ht2 (m := 600) (by omega) x hB rfl) dX9_road_5 mX9_takeText wd_786 acl_9 (lo_s hok 1 rfl) rfl (by omega) (by omega) (by omega) rfl rfl (fun E M2 h => by rcases h with ⟨-, -, z, -, -, -, q, -⟩ | ⟨h1, h2⟩; cases q; exact Or.inr ⟨fun z => h1 ⟨z, xle z.2⟩, h2⟩) ?_
  rintro v A h
  rcases h with ⟨h1, -, z, hz1, hz2, rfl, q1, fA, a1, g⟩ | ⟨-, q1, -⟩
  rotate_left
  · cases q1
  cases q1
  have hx : xk A.2 p := by rw [fA.1]; exact hx
  have hok := hx.1
  refine ax_aload_n dX9_road_8 rfl ?_
  refine ax_getK (f := 2) (p 1) dX9_road_9 acl_9 wd_549 (by decide) rfl (lo_s hok 1 rfl) (xk_r1 hx) ?_
  refine ax_aload_n dX9_road_12 rfl ?_
  refine ax_getK (f := 0) 2 dX9_road_13 acl_9 wd_547 (by decide) rfl (lo_s hok 1 rfl) (lo_r hok 0 rfl) ?_
  refine ax_callVN (As := _) (d2 := _) (c1 := 0) (n1 := 0) (c_xroadFrom (M := A) (xk_b1 hx) g hq) dX9_road_16 mX5_readFrom wd_875 acl_5 (xs_R_0 (xk_b1 hx) hok) rfl (by omega) (by omega) (by omega) rfl rfl (fun _ _ h => by cases h.1) ?_
  rintro _ C ⟨q2, fC, gC, hC⟩
  cases q2
  have hx : xk C.2 p := by rw [fC.1]; exact hx
  have hok := hx.1
  have p01 := hx.2.1.1
  have p67 := hx.2.1.2.1
  have eC : ∀ n i, n ≠ 2 → ¬ (p 1 ≤ n ∧ n ≤ p 1 + 7) → C.1 n i = M.1 n i := fun n i z1 z2 => (fC.2 n i (by omega) z2).trans (fA.2 n i (by omega))
  have IC : xI C p r lw es := xI_spR hI (fC.1.trans fA.1) eC
  have c1 : C.1 2 1 = 0 := (fC.2 2 1 (by omega) (by omega)).trans a1
  refine ax_ifB_ne (tgt := 30) dX9_road_19 (by decide) (fun hc => ?_) (fun hc => ?_)
  · obtain ⟨hR, hRo⟩ := hC hc
    refine ax_aload_n dX9_road_30 rfl ?_
    refine ax_getK (f := 1) 4 dX9_road_31 acl_9 wd_548 (by decide) rfl (lo_s hok 1 rfl) (lo_r hok 1 rfl) ?_
    refine ax_getKN (f := 0) (p 0) dX9_road_34 acl_7 wd_367 (by decide) rfl (lo_s hok 4 rfl) (xk_r0 hx) ?_
    refine ax_astore_n dX9_road_37 (by decide) rfl ?_
    refine ax_aload_n dX9_road_38 rfl ?_
    refine ax_getK (f := 1) 4 dX9_road_39 acl_9 wd_548 (by decide) rfl (lo_s hok 1 rfl) (lo_r hok 1 rfl) ?_
    refine ax_aload_n dX9_road_42 rfl ?_
    refine ax_getK (f := 2) (p 1) dX9_road_43 acl_9 wd_549 (by decide) rfl (lo_s hok 1 rfl) (xk_r1 hx) ?_
    have okC := hok
    refine ax_putRN (f := 0) dX9_road_46 acl_7 wd_367 (by decide) rfl rfl (ax_nfR (Or.inl ⟨_, rfl⟩)) (lo_s hok 4 rfl) ?_
    have hok : lo_ok (ax_pR C 4 0 (p 1)).2 := lo_ok_pR okC lo_n40
    refine ax_aload_n dX9_road_49 rfl ?_
    refine ax_aload_n dX9_road_50 rfl ?_
    refine ax_putR (f := 2) dX9_road_51 acl_9 wd_549 (by decide) rfl rfl (ax_nfR (Or.inl ⟨_, rfl⟩)) (lo_s hok 1 rfl) ?_
    refine ax_gen (fun D hD => ?_)
    have okD : lo_ok D.2 := by rw [hD]; exact lo_ok_pR hok lo_n12
    have hok := okD
    have d1 : D.1 = C.1 := by rw [hD]; rfl
    have d2 : D.2.2 = C.2.2 := by rw [hD]; rfl
    have hxD : xk D.2 (swp 0 1 p) := xk_swR hx okD (fun n i q1 q2 => by rw [hD, ax_pRn q2, ax_pRn q1]) (by rw [hD, ax_pRn (by omega), ax_pRa]) (by rw [hD, ax_pRa])
    clear hD
    refine ax_aload_n dX9_road_54 rfl ?_
    refine ax_getK (f := 1) 4 dX9_road_55 acl_9 wd_548 (by decide) rfl (lo_s hok 1 rfl) (lo_r hok 1 rfl) ?_
    refine ax_callVN (As := _) (d2 := _) (c1 := 0) (n1 := 0) (c_forgetFormulas (M := D) hxD) dX9_road_58 mX7_forgetFormulas wd_1000 acl_7 (lo_s hok 4 rfl) rfl (by omega) (by omega) (by omega) rfl rfl (fun _ _ h => by cases h.1) ?_
    rintro v D1 ⟨q9, e2, g2, hl⟩
    cases q9
    have hx9 := hx
    have hx : xk D1.2 (swp 0 1 p) := by rw [e2]; exact hxD
    have hok := hx.1
    refine ax_aload_n dX9_road_61 rfl ?_
    refine ax_getK (f := 4) (p 6) dX9_road_62 acl_9 wd_551 (by decide) rfl (lo_s hok 1 rfl) (show D1.2.1 1 4 = p 6 from xk_r6 (p := swp 0 1 p) hx) ?_
    refine ax_iconst (v := 0) dX9_road_65 (by decide) ?_
    refine ax_putIN (f := 2) dX9_road_66 acl_0 wd_400 (by decide) rfl rfl (ax_nfI rfl) (xs_K_0 (show xh_K (p 6) from xk_b6 hx9) hok) ?_
    refine ax_gen (fun D2 hD2 => ?_)
    have hok : lo_ok D2.2 := by rw [hD2]; exact hok
    refine ax_aload_n dX9_road_69 rfl ?_
    refine ax_getK (f := 13) 79 dX9_road_70 acl_9 wd_560 (by decide) rfl (lo_s hok 1 rfl) (lo_r hok 7 rfl) ?_
    refine ax_callVN (As := _) (d2 := _) (c1 := 0) (n1 := 0) (c_forgetAll (d := 6) (M := D2) hok) dX9_road_73 mX1_forgetAll wd_1001 acl_1 (lo_s hok 79 rfl) rfl (by omega) (by omega) (by omega) rfl rfl (fun _ _ h => by cases h.1) ?_
    rintro v D3 ⟨q9, hD3⟩
    cases q9
    have hok : lo_ok D3.2 := by rw [hD3]; exact hok
    refine ax_aload_n dX9_road_76 rfl ?_
    refine ax_callV (As := _) (d2 := _) (c1 := 0) (n1 := 0) (x_meetingChanged (d := 6) (M := D3) hok) dX9_road_77 mX9_meetingChanged wd_741 acl_9 (lo_s hok 1 rfl) rfl (by omega) (by omega) (by omega) rfl rfl (fun _ _ h => by cases h.1) ?_
    rintro v D4 ⟨q9, hD4⟩
    cases q9
    have hok : lo_ok D4.2 := by rw [hD4]; exact hok
    have hx4 : xk D4.2 (swp 0 1 p) := by rw [hD4, hD3, hD2]; exact hx
    have e4 : ∀ n i, ¬ (n = 1 ∧ (i = 7 ∨ i = 10)) → ¬ (n = 79 ∧ (i = 4 ∨ i = 7)) → ¬ (n = p 6 ∧ i = 2) → D4.1 n i = D1.1 n i := fun n i z1 z2 z3 => by
      rw [hD4, ax_pn (by omega), ax_pn (by omega), hD3, ax_pn (by omega), ax_pn (by omega), hD2, ax_pn (by omega)]
    have e5 : ∀ n i, ¬ qs n i → n ≠ 2 → ¬ (5 ≤ n ∧ n ≤ 39) → n ≠ 79 → D4.1 n i = M.1 n i := fun n i z1 z2 z3 z4 => by
      rw [e4 n i (fun z => z1 (by unfold qs; omega)) (by omega) (by omega), g2 n i (by omega) (by omega) (by omega), d1]
      exact eC n i z2 (by omega)
    have hR4 : xr D4 (p 1) (rd_text B z (qt q)).2 := xr_fr hR (fun n i a b => by rw [e4 n i (by omega) (by omega) (by omega), g2 n i (by omega) (by omega) (by omega), d1])
    refine ax_aload_n dX9_road_80 rfl ?_
    refine ax_getK (f := 1) 4 dX9_road_81 acl_9 wd_548 (by decide) rfl (lo_s hok 1 rfl) (lo_r hok 1 rfl) ?_
    refine ax_getKN (f := 0) (p 1) dX9_road_84 acl_7 wd_367 (by decide) rfl (lo_s hok 4 rfl) (show D4.2.1 4 0 = p 1 from xk_r0 (p := swp 0 1 p) hx4) ?_
    refine ax_getIN (f := 16) dX9_road_87 acl_5 wd_296 (by decide) rfl (xs_R_0 (show xh_R (p 1) from xk_b1 hx9) hok) ?_
    rw [hR4.1.2.1]
    refine ax_iret dX9_road_90 rfl ?_
    refine Or.inl ⟨h1, z, hz2, rfl, ?_, ?_, ?_⟩
    · rw [e4 2 1 (by omega) (by omega) (by omega), g2 2 1 (by omega) (by omega) (by omega), d1]; exact c1
    · rw [hD4, hD3, hD2]; show D1.2.2 = _; rw [e2, d2, fC.1, fA.1]
    · rw [hc]
      have g8 : C.1 2 8 = -1 := by
        have := gC.2.2
        rw [hc] at this
        exact this.2.2
      refine ⟨rfl, ?_, xI_new ⟨hx4, hR4, hRo, ?_, ?_⟩ ?_ ?_ ?_ ?_, ?_, ?_, e5⟩
      · rw [e4 2 8 (by omega) (by omega) (by omega), g2 2 8 (by omega) (by omega) (by omega), d1]; exact g8
      · exact xlw_fr hx4.2.1 hl (fun n i a _ _ => e4 n i (by omega) (by omega) (by omega))
      · refine ⟨?_, Nat.zero_le _, fun j q hj => by simp at hj⟩
        show D4.1 (p 6) 2 = nI 0
        rw [hD4, ax_pn (by omega), ax_pn (by omega), hD3, ax_pn (by omega), ax_pn (by omega), hD2, ax_pa]
        rfl
      · exact xw_fr IC.2.1.1 (fun n i a => by rw [e4 n i (by omega) (by omega) (by omega), g2 n i (by omega) (by omega) (by omega), d1])
      · exact xw_fr IC.2.1.2 (fun n i a => by rw [e4 n i (by omega) (by omega) (by omega), g2 n i (by omega) (by omega) (by omega), d1])
      · rw [hD4, ax_pn (by omega), ax_pa]
      · rw [hD4, ax_pa]
      · rw [hD4, ax_pn (by omega), ax_pn (by omega), hD3, ax_pn (by omega), ax_pa]
      · rw [hD4, ax_pn (by omega), ax_pn (by omega), hD3, ax_pa]
  · refine ax_aload_n dX9_road_22 rfl ?_
    refine ax_getK (f := 0) 2 dX9_road_23 acl_9 wd_547 (by decide) rfl (lo_s hok 1 rfl) (lo_r hok 0 rfl) ?_
    refine ax_callVN (As := _) (d2 := _) (c1 := 0) (n1 := 0) (c_answerOfFault (d := 6) (M := C) hok) dX9_road_26 mX6_answerOfFault wd_996 acl_6 (lo_s hok 2 rfl) rfl (by omega) (by omega) (by omega) rfl rfl (fun _ _ h => by cases h.1) ?_
    rintro r M9 ⟨h1, h9⟩; cases h1; rw [h9]; clear h9 M9
    refine ax_iret dX9_road_29 rfl ?_
    refine Or.inl ⟨h1, z, hz2, rfl, c1, by rw [fC.1, fA.1], ?_⟩
    cases hy : (rd_text B z (qt q)).1.2 with
    | none => exact absurd hy hc
    | some e =>
      have g9 := gC.2.2
      rw [hy] at g9
      exact ⟨by rw [g9.1], g9.2, IC, fun n i z1 z2 => eC n i z1 (by omega)⟩
end X99b

