/-! ===== class and reference, both just made ===== -/
def r_new : Nat → Int := qt (fun _ => 0)
def p_new (k : Nat) : Nat := [5, 23, 13, 16, 19, 31, 34, 37].getD k 0
theorem itv_n {w : List (Nat × Nat × Int32)} {b : Nat} (h : w.all (fun q => !(q.1 == b)) = true) (k : Nat) : itv w b k = 0 := by
  unfold itv
  have : w.find? (fun q => q.1 == b && q.2.1 == k) = none := by
    rw [List.find?_eq_none]
    intro q hq
    have := List.all_eq_true.mp h q hq
    simp only [Bool.not_eq_true', beq_eq_false_iff_ne] at this
    simp only [Bool.and_eq_true, beq_iff_eq]
    exact fun z => this z.1
  rw [this]
theorem r_new_ok : rd_ok r_new := by
  refine ⟨by simp [r_new, qt], fun c hc => ?_, fun j hj => ?_, fun j hj => ?_, fun j hj => ?_⟩
  · unfold rd_oc r_new
    rw [show qt (fun _ => 0) (40 + c) = 0 by unfold qt; simp (disch := omega) only [if_neg], show qt (fun _ => 0) (10 + 2 * c) = 0 by unfold qt; simp (disch := omega) only [if_neg, if_pos], show qt (fun _ => 0) (11 + 2 * c) = 0 by unfold qt; simp (disch := omega) only [if_neg, if_pos], show qt (fun _ => 0) 1 = 0 from rfl]
    omega
  · unfold r_new
    rw [show qt (fun _ => 0) (14 + 2 * j) = 0 by unfold qt; simp (disch := omega) only [if_neg, if_pos], show qt (fun _ => 0) (15 + 2 * j) = 0 by unfold qt; simp (disch := omega) only [if_neg, if_pos], show qt (fun _ => 0) 2 = 0 from rfl, show qt (fun _ => 0) 0 = 40 from rfl]
    omega
  · unfold r_new
    rw [show qt (fun _ => 0) (50 + j) = 0 by unfold qt; simp (disch := omega) only [if_neg], show qt (fun _ => 0) 3 = 0 from rfl, show qt (fun _ => 0) 0 = 40 from rfl]
    omega
  · unfold r_new
    rw [show qt (fun _ => 0) (60 + 2 * j) = 0 by unfold qt; simp (disch := omega) only [if_neg], show qt (fun _ => 0) (61 + 2 * j) = 0 by unfold qt; simp (disch := omega) only [if_neg], show qt (fun _ => 0) 4 = 0 from rfl, show qt (fun _ => 0) 0 = 40 from rfl]
    omega
section NEW
variable {A M : ax_M}
theorem new_b (h : ic ax_Z A 0 all_s all_r all_w) (b k : Nat) : A.1 b k = itv all_w b k := by
  have := h.2.2.2.2.2 b k
  rw [Nat.zero_add] at this
  exact this
theorem stands_n {n i : Nat} (h : ¬ (n = 94 ∨ n = 96 ∨ n = 98 ∨ n = 100 ∨ (107 ≤ n ∧ n ≤ 110) ∨ n = 111 ∨ (n = 90 ∧ (i = 32 ∨ i = 33 ∨ i = 34)))) : (mk_stands A).1 n i = A.1 n i := by
  unfold mk_stands
  rw [ax_pn (by omega), ax_pn (by omega), ax_pn (by omega), ax_fill_n (by omega), wets_n (by omega), ax_cp_n (by omega), ax_cp_n (by omega), ax_cp_n (by omega), ax_cp_n (by omega)]
theorem stands_rr {q : Nat → Int} (h : rp A q) : rr (mk_stands A) q := by
  refine ⟨fun k hk => ?_, fun k hk => ?_, fun k hk => ?_, fun k hk => ?_, fun k hk => ?_⟩
  · unfold mk_stands
    rw [ax_pn (by omega), ax_pn (by omega), ax_pn (by omega), ax_fill_n (by omega), wets_n (by omega), ax_cp_n (by omega), ax_cp_n (by omega), ax_cp_n (by omega), ax_cp_y hk]
    exact h.1 k hk
  · unfold mk_stands
    rw [ax_pn (by omega), ax_pn (by omega), ax_pn (by omega), ax_fill_n (by omega), wets_n (by omega), ax_cp_y hk, ax_cp_n (by omega), ax_cp_n (by omega), ax_cp_n (by omega)]
    exact h.2.1 k hk
  · unfold mk_stands
    rw [ax_pn (by omega), ax_pn (by omega), ax_pn (by omega), ax_fill_n (by omega), wets_n (by omega), ax_cp_n (by omega), ax_cp_n (by omega), ax_cp_y hk, ax_cp_n (by omega)]
    exact h.2.2.1 k hk
  · unfold mk_stands
    rw [ax_pn (by omega), ax_pn (by omega), ax_pn (by omega), ax_fill_n (by omega), wets_n (by omega), ax_cp_n (by omega), ax_cp_y hk, ax_cp_n (by omega), ax_cp_n (by omega)]
    exact h.2.2.2.1 k hk
  · have e : ∀ j, j < 2 → (mk_stands A).1 (107 + k) j = A.1 (102 + k) j := fun j hj => by
      unfold mk_stands
      rw [ax_pn (by omega), ax_pn (by omega), ax_pn (by omega), ax_fill_n (by omega), wets_y (by omega) hk hj, ax_cp_n (by omega), ax_cp_n (by omega), ax_cp_n (by omega), ax_cp_n (by omega)]
    rw [e 0 (by omega), e 1 (by omega)]
    exact h.2.2.2.2 k hk
theorem new_w93 : all_w.all (fun q => !(q.1 == 93)) = true ∧ all_w.all (fun q => !(q.1 == 95)) = true ∧ all_w.all (fun q => !(q.1 == 97)) = true ∧ all_w.all (fun q => !(q.1 == 99)) = true ∧ all_w.all (fun q => !(q.1 == 7)) = true ∧ all_w.all (fun q => !(q.1 == 89)) = true ∧ all_w.all (fun q => !(q.1 == 92)) = true ∧ (List.range 4).all (fun k => all_w.all (fun q => !(q.1 == 102 + k))) = true := by decide +kernel
theorem new_rp (h : ic ax_Z A 0 all_s all_r all_w) : rp A (fun _ => 0) := by
  obtain ⟨w1, w2, w3, w4, -, -, -, w5⟩ := new_w93
  refine ⟨fun k hk => ?_, fun k hk => ?_, fun k hk => ?_, fun k hk => ?_, fun k hk => ⟨?_, ?_⟩⟩
  · rw [new_b h, itv_n w1]; rfl
  · rw [new_b h, itv_n w4]; rfl
  · rw [new_b h, itv_n w2]; rfl
  · rw [new_b h, itv_n w3]; rfl
  · rw [new_b h, itv_n (List.all_eq_true.mp w5 k (List.mem_range.mpr hk))]; rfl
  · rw [new_b h, itv_n (List.all_eq_true.mp w5 k (List.mem_range.mpr hk))]; rfl
theorem new_v : (itv all_w 5 0 = 40 ∧ itv all_w 5 16 = 0 ∧ itv all_w 5 8 = 0 ∧ itv all_w 5 3 = 0 ∧ itv all_w 5 5 = 0 ∧ itv all_w 5 11 = 20 ∧ itv all_w 5 12 = 6 ∧ itv all_w 5 9 = 0 ∧ itv all_w 5 10 = 4 ∧ itv all_w 5 2 = 0) ∧ (itv all_w 34 2 = 0 ∧ itv all_w 1 7 = 0 ∧ itv all_w 1 10 = -1 ∧ itv all_w 2 1 = 0 ∧ itv all_w 2 8 = -1 ∧ itv all_w 79 4 = 0 ∧ itv all_w 79 7 = 0 ∧ itv all_w 90 1 = 0 ∧ itv all_w 90 3 = -1) ∧ (itv all_w 41 0 = 0 ∧ itv all_w 41 1 = 1 ∧ itv all_w 48 0 = 1 ∧ itv all_w 48 1 = -1 ∧ itv all_w 57 0 = 0 ∧ itv all_w 57 1 = 1 ∧ itv all_w 64 0 = 1 ∧ itv all_w 64 1 = -1) := by decide +kernel
theorem new_f : (itv all_w 13 1 = 7 ∧ itv all_w 16 1 = 3 ∧ itv all_w 19 1 = 3) ∧ (List.range 7).all (fun j => decide (itv all_w 14 j = enc (cs_law.getD j (0, 0)))) = true ∧ (List.range 3).all (fun j => decide (itv all_w 17 j = enc (cs_rule.getD j (0, 0))) && decide (itv all_w 20 j = enc (cs_rule.getD j (0, 0)))) = true := by decide +kernel
theorem new_r : ((4, 0, 5) ∈ all_r ∧ (1, 2, 23) ∈ all_r ∧ (4, 1, 13) ∈ all_r ∧ (4, 2, 16) ∈ all_r ∧ (4, 3, 19) ∈ all_r ∧ (1, 3, 31) ∈ all_r ∧ (1, 4, 34) ∈ all_r ∧ (1, 5, 37) ∈ all_r) := by decide +kernel
theorem new_xfm {F : Nat} {cs : List (Int32 × Int32)} (hg : ev_good cs) (hn : ∀ w ∈ cs, nu w) (h1 : M.1 F 1 = nI cs.length) (h2 : ∀ j, j < cs.length → M.1 (F + 1) j = enc (cs.getD j (0, 0))) : xfm M F cs := by
  refine ⟨hg, hn, h1, fun j w hw => ?_⟩
  have hl : j < cs.length := by
    rcases Nat.lt_or_ge j cs.length with z | z
    · exact z
    · rw [List.getElem?_eq_none z] at hw; cases hw
  rw [h2 j hl, List.getD_eq_getElem?_getD, hw]; rfl
theorem new_jj (h : ic ax_Z A 0 all_s all_r all_w) (hM : M = ax_new (mk_stands (mk_tells A)) (.inl (1, 1))) : jj M := by
  have hp := lp_of h
  have h431 : A.2.2.2.2 = 431 := by rw [h.1, all_len]
  have e2 : (mk_stands (mk_tells A)).2 = A.2 := by unfold mk_stands; show (mk_wets _ 4).2 = _; rw [mk_wets_2]; rfl
  have e0 : ∀ n i, n < 432 → M.1 n i = (mk_stands (mk_tells A)).1 n i := fun n i hn => by
    rw [hM]
    show (if n = (mk_stands (mk_tells A)).2.2.2.2 + 1 then 0 else _) = _
    rw [e2, h431, if_neg (by omega)]
  have e1 : ∀ n i, n < 90 ∨ n = 91 ∨ n = 92 ∨ (n = 90 ∧ i < 21) → M.1 n i = itv all_w n i := fun n i hn => by
    rw [e0 n i (by omega), stands_n (by omega), tells_n (by omega), new_b h]
  have eR : ∀ n i, n < 432 → M.2.1 n i = A.2.1 n i := fun n i hn => by
    rw [hM]
    show (if n = (mk_stands (mk_tells A)).2.2.2.2 + 1 then 0 else (mk_stands (mk_tells A)).2.1 n i) = _
    rw [e2, h431, if_neg (by omega)]
  have eS : ∀ n, n ≠ 432 → M.2.2.2.1 n = A.2.2.2.1 n := fun n hn => by
    rw [hM]
    show (if n = (mk_stands (mk_tells A)).2.2.2.2 + 1 then some (.inl (1, 1)) else (mk_stands (mk_tells A)).2.2.2.1 n) = _
    rw [e2, h431, if_neg (by omega)]
  have eS2 : M.2.2.2.1 432 = some (.inl (1, 1)) := by
    rw [hM]
    show (if 432 = (mk_stands (mk_tells A)).2.2.2.2 + 1 then some (.inl (1, 1)) else (mk_stands (mk_tells A)).2.2.2.1 432) = _
    rw [e2, h431, if_pos rfl]
  have rfb : lo_rfl.all (fun q => decide (q.1 < 432)) = true := by decide +kernel
  have hok : lo_ok M.2 := by
    refine ⟨fun n x hx => ?_, fun q hq => ?_⟩
    · show M.2.2.2.1 n = some x
      by_cases hn : n = 432
      · subst hn
        rw [eS2]; exact hx
      · rw [eS n hn]; exact hp.1 n x hn hx
    · show M.2.1 q.1 q.2.1 = q.2.2
      rw [eR q.1 q.2.1 (of_decide_eq_true (List.all_eq_true.mp rfb q hq))]; exact hp.2 q hq
  have rf : ∀ a k v, (a, k, v) ∈ all_r → a < 432 → M.2.1 a k = v := fun a k v hm ha => by
    rw [eR a k ha]
    have := h.2.2.2.2.1 (a, k, v) hm
    rw [Nat.zero_add, Nat.zero_add] at this
    exact this
  obtain ⟨q1, q2, q3, q4, q5, q6, q7, q8⟩ := new_r
  obtain ⟨⟨v1, v2, v3, v4, v5, v6, v7, v8, v9, v10⟩, ⟨u1, u2, u3, u4, u5, u6, u7, u8, u9⟩, t1, t2, t3, t4, t5, t6, t7, t8⟩ := new_v
  obtain ⟨⟨f1, f2, f3⟩, f4, f5⟩ := new_f
  obtain ⟨-, -, -, -, w7, w89, w92, -⟩ := new_w93
  have hk : xk M.2 p_new := ⟨hok, ⟨Or.inl ⟨rfl, rfl⟩, Or.inl ⟨rfl, rfl⟩, ⟨Or.inl rfl, Or.inr (Or.inl rfl), Or.inr (Or.inr (Or.inl rfl)), Or.inr (Or.inr (Or.inr rfl))⟩, by decide, by decide, by decide, by decide, by decide, by decide⟩, rf 4 0 5 q1 (by omega), rf 1 2 23 q2 (by omega), rf 4 1 13 q3 (by omega), rf 4 2 16 q4 (by omega), rf 4 3 19 q5 (by omega), rf 1 3 31 q6 (by omega), rf 1 4 34 q7 (by omega), rf 1 5 37 q8 (by omega)⟩
  have hw : ∀ x : Int, rd_wet r_new x = false := fun x => by
    apply Bool.eq_false_iff.mpr
    intro c
    obtain ⟨k, hk, -⟩ := (rd_wet_iff r_new_ok).mp c
    rw [show r_new 4 = 0 from rfl] at hk
    omega
  have hx : xr M 5 r_new := by
    refine ⟨⟨?_, ?_, ?_, ?_, ?_, ?_, ?_, ?_, ?_⟩, fun c hc => ?_, fun k hk => ?_, fun x hx => ?_, 0, fun _ => 0, ⟨by omega, by rw [show r_new 3 = 0 from rfl]; exact Int.le_refl _⟩, ?_, fun i hi => by omega, fun i j _ hj => by omega, fun i hi => by omega, fun k hk => ?_⟩
    · rw [e1 5 0 (by omega), v1]; rfl
    · rw [e1 5 16 (by omega), v2]; rfl
    · rw [e1 5 8 (by omega), v3]; rfl
    · rw [e1 5 3 (by omega), v4]; rfl
    · rw [e1 5 5 (by omega), v5]; rfl
    · rw [e1 5 11 (by omega), v6]; rfl
    · rw [e1 5 12 (by omega), v7]; rfl
    · rw [e1 5 9 (by omega), v8]; rfl
    · rw [e1 5 10 (by omega), v9]; rfl
    · rw [show r_new 1 = 0 from rfl] at hc; omega
    · rw [show r_new 2 = 0 from rfl] at hk; omega
    · rw [e1 7 x (by omega), itv_n w7, hw, if_neg (by decide)]
    · rw [e1 5 2 (by omega), v10]; rfl
    · rw [show r_new 3 = 0 from rfl] at hk; omega
  have hI : xI M p_new r_new (fun _ => none) [] := by
    refine xI_new ⟨hk, hx, r_new_ok, ⟨new_xfm ev_good_law nu_law ?_ (fun j hj => ?_), new_xfm ev_good_rule nu_rule ?_ (fun j hj => ?_), new_xfm ev_good_rule nu_rule ?_ (fun j hj => ?_)⟩, ?_, Nat.zero_le _, fun j q hj => by simp at hj⟩ ⟨?_, ?_, ?_, ?_⟩ ⟨?_, ?_, ?_, ?_⟩ ?_ ?_
    · show M.1 13 1 = _; rw [e1 13 1 (by omega), f1]; rfl
    · show M.1 14 j = _; rw [e1 14 j (by omega)]; exact of_decide_eq_true (List.all_eq_true.mp f4 j (List.mem_range.mpr hj))
    · show M.1 16 1 = _; rw [e1 16 1 (by omega), f2]; rfl
    · show M.1 17 j = _
      rw [e1 17 j (by omega)]
      have := List.all_eq_true.mp f5 j (List.mem_range.mpr hj)
      rw [Bool.and_eq_true] at this
      exact of_decide_eq_true this.1
    · show M.1 19 1 = _; rw [e1 19 1 (by omega), f3]; rfl
    · show M.1 20 j = _
      rw [e1 20 j (by omega)]
      have := List.all_eq_true.mp f5 j (List.mem_range.mpr hj)
      rw [Bool.and_eq_true] at this
      exact of_decide_eq_true this.2
    · show M.1 34 2 = _; rw [e1 34 2 (by omega), u1]; rfl
    · rw [e1 41 0 (by omega), t1]
    · rw [e1 41 1 (by omega), t2]
    · rw [e1 48 0 (by omega), t3]
    · rw [e1 48 1 (by omega), t4]
    · rw [e1 57 0 (by omega), t5]
    · rw [e1 57 1 (by omega), t6]
    · rw [e1 64 0 (by omega), t7]
    · rw [e1 64 1 (by omega), t8]
    · rw [e1 1 7 (by omega), u2]
    · rw [e1 1 10 (by omega), u3]
  have hrp : rp (mk_tells A) r_new := tells_rp (new_rp h)
  refine jj_in (p := p_new) (r := r_new) (lw := fun _ => none) (es := []) (t := 0) (n := 0) (v := 0) (q := r_new) ⟨hI, rr_fr (stands_rr hrp) (fun m i z => e0 m i (by omega)), fun w hw9 => ?_, ⟨?_, Nat.zero_le _, fun k hk => by cases hk⟩, ⟨?_, ?_, by omega, fun i hi => by omega⟩, ?_, ⟨rp_fr hrp (fun m i z => by rw [e0 m i (by omega), stands_n (by omega)]), r_new_ok⟩, ⟨⟨?_, ?_, Nat.zero_le _, fun _ => r_new, rfl, fun _ _ => r_new_ok, fun w hw => by omega⟩, ?_, ?_, by omega, fun u hu => by omega⟩⟩ (fun i hi => ?_)
  · show M.1 111 w = 0
    rw [e0 111 w (by omega)]
    unfold mk_stands
    rw [ax_pn (by omega), ax_pn (by omega), ax_pn (by omega), ax_fill_y (by omega)]
  · rw [e0 90 32 (by omega)]; unfold mk_stands; rw [ax_pn (by omega), ax_pn (by omega), ax_pa]; rfl
  · rw [e1 2 1 (by omega), u4]; rfl
  · rw [e1 90 1 (by omega), u8]; rfl
  · rw [e1 2 8 (by omega), e1 90 3 (by omega), u5, u9]
  · rw [e1 79 4 (by omega), u6]; rfl
  · rw [e0 90 33 (by omega)]; unfold mk_stands; rw [ax_pn (by omega), ax_pa]; rfl
  · rw [e1 79 7 (by omega), u7]; rfl
  · rw [e0 90 34 (by omega)]; unfold mk_stands; rw [ax_pa]; rfl
  · rw [e1 89 i (by omega), e1 92 i (by omega), itv_n w89, itv_n w92]
end NEW

