/-! ===== asks of the class: habits ===== -/
theorem hlo_u {v : Nat → Int32} {till : Int32} {now u : Nat} (hu : u ≤ now) (h1 : ¬ v u < till) (h2 : ∀ k, k < u → v k < till) : ∀ n, hlo v till now n = if u < n then u else now
  | 0 => by rw [if_neg (by omega)]; rfl
  | n + 1 => by
    have ih := hlo_u hu h1 h2 n
    show (if v n < till then hlo v till now n else min (hlo v till now n) n) = _
    rcases Nat.lt_trichotomy n u with q | q | q
    · rw [if_pos (h2 n q), ih, if_neg (by omega), if_neg (by omega)]
    · subst q
      rw [if_neg h1, ih, if_neg (by omega), if_pos (by omega)]; omega
    · have h9 : (if u < n + 1 then u else now) = u := if_pos (by omega)
      rw [ih, if_pos q, h9]
      split
      · rfl
      · omega
theorem hhi_u {v : Nat → Int32} {till : Int32} {now u : Nat} (hu : now ≤ u) (h1 : ¬ v u < till) (h2 : ∀ k, u < k → k < 21 → v k < till) : ∀ n, n ≤ 21 → (n ≤ u → hhi v till now n ≤ u) ∧ (u < n → hhi v till now n = u)
  | 0, _ => ⟨fun _ => hu, fun z => by omega⟩
  | n + 1, hn => by
    obtain ⟨i1, i2⟩ := hhi_u hu h1 h2 n (by omega)
    have st : hhi v till now (n + 1) = if v n < till then hhi v till now n else max (hhi v till now n) n := rfl
    refine ⟨fun z => ?_, fun z => ?_⟩
    · rw [st]
      have := i1 (by omega)
      split <;> omega
    · rw [st]
      by_cases q : n = u
      · subst q
        have := i1 (Nat.le_refl _)
        rw [if_neg h1]; omega
      · rw [if_pos (h2 n (by omega) (by omega))]
        exact i2 (by omega)
theorem xI_78 {M M2 : ax_M} {p : Nat → Nat} {r : Nat → Int} {lw : mt_L} {es : List (Nat × Nat)} (h : xI M p r lw es) (e2 : M2.2 = M.2) (hf : ∀ n i, n ≠ 78 → M2.1 n i = M.1 n i) : qf M M2 ∧ xI M2 p r lw es := by
  obtain ⟨h1, h2, h3, h4⟩ := h
  have f : qf M M2 := ⟨e2, fun n i z => hf n i (fun y => z (Or.inr (Or.inr (Or.inl (by omega)))))⟩
  refine ⟨f, xT_qf h1 f, ⟨xw_fr h2.1 (fun n i z => hf n i (by omega)), xw_fr h2.2 (fun n i z => hf n i (by omega))⟩, ?_, xD_fr h4 (hf _ _ (by omega)) (fun n i z => hf n i (by omega))⟩
  rcases h3 with h3 | ⟨h3, h5⟩
  · exact Or.inl ((hf 1 7 (by omega)).trans h3)
  · exact Or.inr ⟨(hf 1 7 (by omega)).trans h3, xmt_fr h5 (fun n i z => hf n i (by omega))⟩
section X90
variable {l : Launch} {G : ax_G} {M : ax_M} {p : Nat → Nat} {r : Nat → Int} {lw : mt_L} {es : List (Nat × Nat)}
theorem x_least {d : Nat} (hok : lo_ok M.2) (v : Nat → Int32) (hv : ∀ k, k < 21 → M.1 78 k = v k) {now : Nat} (hn : now < 21) : ax_Met l G kX9_leastVisited d 0 0 M [av_r 1, av_i (v now)] (ax_p (av_i (nI (hlo v (v now) now 21))) M) := by
  refine ax_body (by decide) (Nat.le_of_ble_eq_true rfl) ?_
  refine ax_iconst (v := 0) dX9_leastVisited_0 (by decide) ?_
  refine ax_istore_n dX9_leastVisited_1 (by decide) rfl ?_
  refine ax_for 21 (fun k N L => N = M ∧ L = [some (av_r 1), some (av_i (v now)), some (av_i (nI k))] ∧ ∀ j, j < k → v j < v now) 2 ?_ ?_ (i := 0) (by omega) ⟨rfl, rfl, fun j hj => by omega⟩
  · rintro k N L hk ⟨rfl, rfl, hno⟩ next
    refine ax_iload_n dX9_leastVisited_2 rfl ?_
    refine ax_bipush (v := 20) dX9_leastVisited_3 (by decide) ?_
    refine ax_icmp_gt (tgt := 26) dX9_leastVisited_5 (by decide) (fun hc => absurd ((nI_ltI (a := 20) (by omega) (by omega)).mp hc) (by omega)) (fun hc => ?_)
    refine ax_aload_n dX9_leastVisited_8 rfl ?_
    refine ax_getK (f := 12) 78 dX9_leastVisited_9 acl_9 wd_559 (by decide) rfl (lo_s hok 1 rfl) (lo_r hok 6 rfl) ?_
    refine ax_iload_n dX9_leastVisited_12 rfl ?_
    refine ax_ialdN (k) dX9_leastVisited_13 (lo_s hok 78 rfl) (by decide) (by first | with_reducible rfl | assumption | exact ax_nix (by simp only [nx_0, nx_1, nx_2, nx_3, nx_4, nx_10, nx_20, nx_21, nx_100, nI_add, pk_mul] <;> rfl) (by omega) | decide) (by omega) ?_
    rw [hv k hk]
    refine ax_iload_n dX9_leastVisited_14 rfl ?_
    refine ax_icmp_lt (tgt := 20) dX9_leastVisited_15 (by decide) (fun hc => ?_) (fun hc => ?_)
    · refine ax_iinc (v := 1) dX9_leastVisited_20 rfl (by decide) (by decide) rfl ?_
      refine ax_goto (tgt := 2) dX9_leastVisited_23 (by decide) ?_
      refine next _ _ ⟨rfl, by rw [nI_1]; rfl, fun j hj => ?_⟩
      by_cases z : j = k
      · subst z; exact hc
      · exact hno j (by omega)
    · refine ax_iload_n dX9_leastVisited_18 rfl ?_
      refine ax_iret dX9_leastVisited_19 rfl ?_
      have hle : k ≤ now := by
        by_cases z : k ≤ now
        · exact z
        · exact absurd (hno now (by omega)) (by rw [iv_lt]; omega)
      rw [hlo_u hle hc hno 21, if_pos hk]
      exact ⟨rfl, rfl⟩
  · rintro N L ⟨rfl, rfl, hno⟩
    exact absurd (hno now hn) (by rw [iv_lt]; omega)
theorem x_greatest {d : Nat} (hok : lo_ok M.2) (v : Nat → Int32) (hv : ∀ k, k < 21 → M.1 78 k = v k) {now : Nat} (hn : now < 21) : ax_Met l G kX9_greatestVisited d 0 0 M [av_r 1, av_i (v now)] (ax_p (av_i (nI (hhi v (v now) now 21))) M) := by
  refine ax_body (by decide) (Nat.le_of_ble_eq_true rfl) ?_
  refine ax_bipush (v := 20) dX9_greatestVisited_0 (by decide) ?_
  refine ax_istore_n dX9_greatestVisited_2 (by decide) rfl ?_
  refine ax_for 21 (fun i N L => N = M ∧ L = [some (av_r 1), some (av_i (v now)), some (av_i (iI (20 - (i : Int))))] ∧ ∀ j, 20 < j + i → j < 21 → v j < v now) 3 ?_ ?_ (i := 0) (by omega) ⟨rfl, rfl, fun j h1 h2 => by omega⟩
  · rintro i N L hi ⟨rfl, rfl, hno⟩ next
    obtain ⟨k, hk⟩ : ∃ k : Nat, k = 20 - i := ⟨_, rfl⟩
    have ek : iI (20 - (i : Int)) = nI k := by rw [iI_nI, hk]; congr 1; omega
    rw [ek]
    refine ax_iload_n dX9_greatestVisited_3 rfl ?_
    refine ax_if_lt (tgt := 25) dX9_greatestVisited_4 (by decide) (fun hc => ?_) (fun hc => ?_)
    · have := (nI_ltI (b := 0) (by omega) (by omega)).mp hc; omega
    clear hc
    refine ax_aload_n dX9_greatestVisited_7 rfl ?_
    refine ax_getK (f := 12) 78 dX9_greatestVisited_8 acl_9 wd_559 (by decide) rfl (lo_s hok 1 rfl) (lo_r hok 6 rfl) ?_
    refine ax_iload_n dX9_greatestVisited_11 rfl ?_
    refine ax_ialdN (k) dX9_greatestVisited_12 (lo_s hok 78 rfl) (by decide) (by first | with_reducible rfl | assumption | exact ax_nix (by simp only [nx_0, nx_1, nx_2, nx_3, nx_4, nx_10, nx_20, nx_21, nx_100, nI_add, pk_mul] <;> rfl) (by omega) | decide) (by omega) ?_
    rw [hv k (by omega)]
    refine ax_iload_n dX9_greatestVisited_13 rfl ?_
    refine ax_icmp_lt (tgt := 19) dX9_greatestVisited_14 (by decide) (fun hc => ?_) (fun hc => ?_)
    · refine ax_iinc (v := (-1)) dX9_greatestVisited_19 rfl (by decide) (by decide) rfl ?_
      refine ax_goto (tgt := 3) dX9_greatestVisited_22 (by decide) ?_
      refine next _ _ ⟨rfl, ?_, fun j h1 h2 => ?_⟩
      · rw [show nI k + (-1) = iI (20 - ((i + 1 : Nat) : Int)) by rw [iI_nI, show (-1 : Int32) = iI (-1) from rfl, iI_add]; congr 1; omega]; rfl
      · by_cases z : j = k
        · subst z; exact hc
        · exact hno j (by omega) h2
    · refine ax_iload_n dX9_greatestVisited_17 rfl ?_
      refine ax_iret dX9_greatestVisited_18 rfl ?_
      have hle : now ≤ k := by
        by_cases z : now ≤ k
        · exact z
        · exact absurd (hno now (by omega) hn) (by rw [iv_lt]; omega)
      rw [(hhi_u hle hc (fun j h1 h2 => hno j (by omega) h2) 21 (by omega)).2 (by omega)]
      exact ⟨rfl, rfl⟩
  · rintro N L ⟨rfl, rfl, hno⟩
    exact absurd (hno now (by omega) hn) (by rw [iv_lt]; omega)
theorem x_nextHabit (hI : xI M p r lw es) {d : Nat} (hd : d < 21) {x : Int32} (hxd : x = nI d) : ax_Met l G kX9_nextHabit 5 0 0 M [av_r 1, av_i x] (fun o M2 => o = .inl (some (av_i (nI (hb_g r lw d)))) ∧ qf M M2 ∧ xI M2 p r lw es ∧ uf 56 M M2) := by
  subst hxd
  have hx := hI.1.1
  have hok := hx.1
  have ho := hI.1.2.2.1
  refine ax_body (by decide) (Nat.le_of_ble_eq_true rfl) ?_
  refine ax_aload_n dX9_nextHabit_0 rfl ?_
  refine ax_getK (f := 8) 56 dX9_nextHabit_1 acl_9 wd_555 (by decide) rfl (lo_s hok 1 rfl) (lo_r hok 3 rfl) ?_
  refine ax_aload_n dX9_nextHabit_4 rfl ?_
  refine ax_getK (f := 1) 4 dX9_nextHabit_5 acl_9 wd_548 (by decide) rfl (lo_s hok 1 rfl) (lo_r hok 1 rfl) ?_
  refine ax_iload_n dX9_nextHabit_8 rfl ?_
  refine ax_iconst (v := (-1)) dX9_nextHabit_9 (by decide) ?_
  refine ax_callVN (As := _) (d2 := _) (c1 := 0) (n1 := 0) (x_run (M := M) hI (nI d) (-1)) dX9_nextHabit_10 mX4_run wd_613 acl_4 (lo_s hok 56 rfl) rfl (by omega) (by omega) (by omega) rfl rfl (fun _ _ h => by cases h.1) ?_
  rintro _ M1 ⟨h1, f1, I1, m1, u1⟩
  cases h1
  have hx := I1.1.1
  have hok := hx.1
  refine ax_aload_n dX9_nextHabit_13 rfl ?_
  refine ax_getK (f := 8) 56 dX9_nextHabit_14 acl_9 wd_555 (by decide) rfl (lo_s hok 1 rfl) (lo_r hok 3 rfl) ?_
  refine ax_iconst (v := 0) dX9_nextHabit_17 (by decide) ?_
  refine ax_callVN (As := _) (d2 := _) (c1 := 0) (n1 := 0) (c_tripOf (d := 3) (M := M1) hok (Or.inr rfl) (c := 0) (by omega) rfl) dX9_nextHabit_18 mX4_tripOf wd_1159 acl_4 (lo_s hok 56 rfl) rfl (by omega) (by omega) (by omega) rfl rfl (fun _ _ h => by cases h.1) ?_
  rintro r M9 ⟨h1, h9⟩; cases h1; rw [h9]; clear h9 M9
  refine ax_callVN (As := _) (d2 := _) (c1 := 0) (n1 := 0) (c_blindTenths (d := 3) (M := M1) hok (xh_UT (Or.inr rfl) (by omega)) ho (c := 0) (by omega) (xmt_tp m1 (by omega))) dX9_nextHabit_21 mX8_blindTenths wd_1218 acl_8 (xs_T_0 (xh_UT (Or.inr rfl) (by omega)) hok) rfl (by omega) (by omega) (by omega) rfl rfl (fun _ _ h => by cases h.1) ?_
  rintro r M9 ⟨h1, h9⟩; cases h1; rw [h9]; clear h9 M9
  obtain ⟨w, hw⟩ : ∃ w, w = mt_bc r lw (mt_d (nI d) (-1)) 0 (mt_T r) := ⟨_, rfl⟩
  have hwl : w ≤ 1000 := by rw [hw]; have h1 := mt_cnt_le (fun t => mt_on r 0 t && decide (0 < mt_b r lw (mt_d (nI d) (-1)) 0 t)) (mt_T r); have h2 := mt_T_le r; unfold mt_bc; omega
  have eg : hb_g r lw d = if 0 < w then min 20 (d + 1) else d - 1 := by rw [hw]; rfl
  rw [← hw]
  refine ax_if_le (tgt := 36) dX9_nextHabit_24 (by decide) (fun hc => ?_) (fun hc => ?_)
  · have h1 := (nI_leI (b := 0) (by omega) (by omega)).mp hc
    refine ax_iload_n dX9_nextHabit_36 rfl ?_
    refine ax_iconst (v := 1) dX9_nextHabit_37 (by decide) ?_
    refine ax_isub dX9_nextHabit_38 ?_
    refine ax_iconst (v := 0) dX9_nextHabit_39 (by decide) ?_
    refine ax_mmax dX9_nextHabit_40 wd_1357 wd_maxs wd_182 wd_maxc (by decide) rfl ?_
    refine ax_iret dX9_nextHabit_43 rfl ?_
    refine ⟨?_, f1, I1, u1⟩
    rw [eg, if_neg (show ¬ 0 < w by omega)]
    exact congrArg (fun z => (Sum.inl (some (av_i z)) : ax_O)) ((show ∀ d, d < 21 → (if nI d - 1 < 0 then 0 else nI d - 1) = nI (d - 1) by decide) d hd)
  · have h1 : ¬ w ≤ 0 := fun z => hc ((nI_leI (b := 0) (by omega) (by omega)).mpr z)
    refine ax_iload_n dX9_nextHabit_27 rfl ?_
    refine ax_iconst (v := 1) dX9_nextHabit_28 (by decide) ?_
    refine ax_iadd dX9_nextHabit_29 ?_
    refine ax_bipush (v := 20) dX9_nextHabit_30 (by decide) ?_
    refine ax_mmin dX9_nextHabit_32 wd_1356 wd_mins wd_182 wd_minc (by decide) rfl ?_
    refine ax_iret dX9_nextHabit_35 rfl ?_
    refine ⟨?_, f1, I1, u1⟩
    rw [eg, if_pos (show 0 < w by omega)]
    exact congrArg (fun z => (Sum.inl (some (av_i z)) : ax_O)) ((show ∀ d, d < 21 → (if (20 : Int32) < nI d + 1 then 20 else nI d + 1) = nI (min 20 (d + 1)) by decide) d hd)
theorem x_habit (hl9 : l.stackTraces = false) (hI : xI M p r lw es) (x y : Int32) : ax_Met l G kX9_habit 8 3 18 M [av_r 1, av_i x, av_i y] (xA p r lw es M (qa_habit r lw x y)) := by
  have hx := hI.1.1
  have hok := hx.1
  have hr := hI.1.2.1
  have ho := hI.1.2.2.1
  have h0 := ho.1
  refine ax_body (by decide) (Nat.le_of_ble_eq_true rfl) ?_
  refine ax_aload_n dX9_habit_0 rfl ?_
  refine ax_iload_n dX9_habit_1 rfl ?_
  refine ax_iconst (v := 0) dX9_habit_2 (by decide) ?_
  refine ax_bipush (v := 20) dX9_habit_3 (by decide) ?_
  refine ax_callVX (As := _) (d2 := _) (c1 := 2) (n1 := 12) (c_needRange (M := M) hl9 hok) dX9_habit_5 mX9_needRange wd_1121 acl_9 (lo_s hok 1 rfl) rfl (by omega) (by omega) (by omega) rfl rfl (fun E M2 h => xA_ex h (fun z => by unfold qa_habit; rw [if_pos (Or.inl z)])) ?_
  refine xN_k (fun g1 => ?_)
  refine ax_aload_n dX9_habit_8 rfl ?_
  refine ax_iload_n dX9_habit_9 rfl ?_
  refine ax_iconst (v := 0) dX9_habit_10 (by decide) ?_
  refine ax_iconst (v := 3) dX9_habit_11 (by decide) ?_
  refine ax_callVX (As := _) (d2 := _) (c1 := 1) (n1 := 6) (c_needRange (M := M) hl9 hok) dX9_habit_12 mX9_needRange wd_1121 acl_9 (lo_s hok 1 rfl) rfl (by omega) (by omega) (by omega) rfl rfl (fun E M2 h => xA_ex h (fun z => by unfold qa_habit; rw [if_pos (Or.inr z)])) ?_
  refine xN_k (fun g2 => ?_)
  refine ax_aload_n dX9_habit_15 rfl ?_
  refine ax_callVX (As := _) (d2 := _) (c1 := 0) (n1 := 0) (c_needTwoCars (M := M) hl9 hx hr ho) dX9_habit_16 mX9_needTwoCars wd_1254 acl_9 (lo_s hok 1 rfl) rfl (by omega) (by omega) (by omega) rfl rfl (fun E M2 h => xA_ex h (fun z => by unfold qa_habit; rw [if_neg (fun q => q.elim (fun t => t g1) (fun t => t g2)), if_pos (dn z)])) ?_
  refine xN_k (fun g3 => ?_)
  obtain ⟨x, hx1, rfl⟩ := in_nat g1 (n := 20) rfl (by decide)
  obtain ⟨k, hk, rfl⟩ := in_nat g2 (n := 3) rfl (by decide)
  obtain ⟨R, hR⟩ : ∃ R, R = hb_R r lw x := ⟨_, rfl⟩
  have e : ∀ w N, w = qv_hb R k → qf M N → xI N p r lw es → xA p r lw es M (qa_habit r lw (nI x) (nI k)) (.inl (some (av_i w))) N := fun w N hw f I => by
    unfold qa_habit
    rw [if_neg (fun q => q.elim (fun t => t g1) (fun t => t g2)), if_neg g3, nI_clamp (by omega), nI_clamp (by omega), ← hR, hw]
    exact xA_in f I
  have tail : ∀ (N : ax_M) (v : Nat → Int32) (now n : Nat) (y5 : Option ax_V), (v, now, n) = R → now < 21 → qf M N → xI N p r lw es → (∀ k, k < 21 → N.1 78 k = v k) → ax_W l G kX9_habit (ax_FQ G (xA p r lw es M (qa_habit r lw (nI x) (nI k)))) 8 0 0 N 82 [some (av_r 1), some (av_i (nI x)), some (av_i (nI k)), some (av_i (nI now)), some (av_i (nI n)), y5] [] := by
    intro N v now n y5 hvR hnow f I hv
    have hx := I.1.1
    have hok := hx.1
    refine ax_aload_n dX9_habit_82 rfl ?_
    refine ax_getK (f := 12) 78 dX9_habit_83 acl_9 wd_559 (by decide) rfl (lo_s hok 1 rfl) (lo_r hok 6 rfl) ?_
    refine ax_iload_n dX9_habit_86 rfl ?_
    refine ax_ialdN (now) dX9_habit_87 (lo_s hok 78 rfl) (by decide) (by first | with_reducible rfl | assumption | exact ax_nix (by simp only [nx_0, nx_1, nx_2, nx_3, nx_4, nx_10, nx_20, nx_21, nx_100, nI_add, pk_mul] <;> rfl) (by omega) | decide) (by omega) ?_
    rw [hv now hnow]
    refine ax_istore dX9_habit_88 (by decide) rfl ?_
    refine ax_iload_n dX9_habit_90 rfl ?_
    rcases (show k = 0 ∨ k = 1 ∨ k = 2 ∨ k = 3 by omega) with rfl | rfl | rfl | rfl
    · refine ax_tableIn (off := 25) (tgt := 116) dX9_habit_91 (by decide) (by decide) rfl (by decide) ?_
      refine ax_iload dX9_habit_116 rfl ?_
      refine ax_iret dX9_habit_118 rfl ?_
      exact e _ _ (by rw [← hvR]; rfl) f I
    · refine ax_tableIn (off := 28) (tgt := 119) dX9_habit_91 (by decide) (by decide) rfl (by decide) ?_
      refine ax_iload dX9_habit_119 rfl ?_
      refine ax_iload dX9_habit_121 rfl ?_
      refine ax_isub dX9_habit_123 ?_
      refine ax_iret dX9_habit_124 rfl ?_
      exact e _ _ (by rw [← hvR]; rfl) f I
    · refine ax_tableIn (off := 34) (tgt := 125) dX9_habit_91 (by decide) (by decide) rfl (by decide) ?_
      refine ax_aload_n dX9_habit_125 rfl ?_
      refine ax_iload dX9_habit_126 rfl ?_
      refine ax_callV (As := _) (d2 := _) (c1 := 0) (n1 := 0) (x_least (d := 6) (M := N) hok v hv hnow) dX9_habit_128 mX9_leastVisited wd_1358 acl_9 (lo_s hok 1 rfl) rfl (by omega) (by omega) (by omega) rfl rfl (fun _ _ h => by cases h.1) ?_
      rintro r M9 ⟨h1, h9⟩; cases h1; rw [h9]; clear h9 M9
      refine ax_iret dX9_habit_131 rfl ?_
      exact e _ _ (by rw [← hvR]; rfl) f I
    · refine ax_tableOut (tgt := 132) dX9_habit_91 (by decide) (by decide) ?_
      refine ax_aload_n dX9_habit_132 rfl ?_
      refine ax_iload dX9_habit_133 rfl ?_
      refine ax_callV (As := _) (d2 := _) (c1 := 0) (n1 := 0) (x_greatest (d := 6) (M := N) hok v hv hnow) dX9_habit_135 mX9_greatestVisited wd_1362 acl_9 (lo_s hok 1 rfl) rfl (by omega) (by omega) (by omega) rfl rfl (fun _ _ h => by cases h.1) ?_
      rintro r M9 ⟨h1, h9⟩; cases h1; rw [h9]; clear h9 M9
      refine ax_iret dX9_habit_138 rfl ?_
      exact e _ _ (by rw [← hvR]; rfl) f I
  have loop : ∀ (m : Nat), m ≤ 21 → ∀ (N : ax_M) (v : Nat → Int32) (now : Nat) (y5 : Option ax_V), hb (hb_g r lw) m v now (21 - m) = R → now < 21 → qf M N → xI N p r lw es → (∀ k, k < 21 → N.1 78 k = v k) → ax_W l G kX9_habit (ax_FQ G (xA p r lw es M (qa_habit r lw (nI x) (nI k)))) 8 0 0 N 45 [some (av_r 1), some (av_i (nI x)), some (av_i (nI k)), some (av_i (nI now)), some (av_i (nI (21 - m))), y5] [] := by
    intro m
    induction m with
    | zero =>
      intro _ N v now y5 h hnow f I hv
      refine ax_iload dX9_habit_45 rfl ?_
      refine ax_bipush (v := 20) dX9_habit_47 (by decide) ?_
      refine ax_icmp_gt (tgt := 82) dX9_habit_49 (by decide) (fun hc => ?_) (fun hc => ?_)
      · exact tail N v now (21 - 0) y5 h hnow f I hv
      · exact absurd (show (20 : Int32) < nI (21 - 0) by decide) hc
    | succ m ih =>
      intro hm N v now y5 h hnow f I hv
      have hx := I.1.1
      have hok := hx.1
      have st : hb (hb_g r lw) (m + 1) v now (21 - (m + 1)) = if v now = -1 then hb (hb_g r lw) m (fun k => if k = now then nI (21 - (m + 1)) else v k) (hb_g r lw now) (21 - (m + 1) + 1) else (v, now, 21 - (m + 1)) := rfl
      rw [st] at h
      refine ax_iload dX9_habit_45 rfl ?_
      refine ax_bipush (v := 20) dX9_habit_47 (by decide) ?_
      refine ax_icmp_gt (tgt := 82) dX9_habit_49 (by decide) (fun hc => ?_) (fun hc => ?_)
      · rw [show (20 : Int32) = nI 20 from rfl] at hc
        have := (nI_ltI (by omega) (by omega)).mp hc
        omega
      clear hc
      refine ax_aload_n dX9_habit_52 rfl ?_
      refine ax_getK (f := 12) 78 dX9_habit_53 acl_9 wd_559 (by decide) rfl (lo_s hok 1 rfl) (lo_r hok 6 rfl) ?_
      refine ax_iload_n dX9_habit_56 rfl ?_
      refine ax_ialdN (now) dX9_habit_57 (lo_s hok 78 rfl) (by decide) (by first | with_reducible rfl | assumption | exact ax_nix (by simp only [nx_0, nx_1, nx_2, nx_3, nx_4, nx_10, nx_20, nx_21, nx_100, nI_add, pk_mul] <;> rfl) (by omega) | decide) (by omega) ?_
      rw [hv now hnow]
      refine ax_iconst (v := (-1)) dX9_habit_58 (by decide) ?_
      refine ax_icmp_ne (tgt := 82) dX9_habit_59 (by decide) (fun hc => ?_) (fun hc => ?_)
      · rw [if_neg hc] at h
        exact tail N v now (21 - (m + 1)) y5 h hnow f I hv
      rw [if_pos hc] at h
      clear hc
      refine ax_aload_n dX9_habit_62 rfl ?_
      refine ax_getK (f := 12) 78 dX9_habit_63 acl_9 wd_559 (by decide) rfl (lo_s hok 1 rfl) (lo_r hok 6 rfl) ?_
      refine ax_iload_n dX9_habit_66 rfl ?_
      refine ax_iload dX9_habit_67 rfl ?_
      refine ax_iastN (now) dX9_habit_69 (lo_s hok 78 rfl) (by decide) (by first | with_reducible rfl | assumption | exact ax_nix (by simp only [nx_0, nx_1, nx_2, nx_3, nx_4, nx_10, nx_20, nx_21, nx_100, nI_add, pk_mul] <;> rfl) (by omega) | decide) (by omega) ?_
      refine ax_iinc (v := 1) dX9_habit_70 rfl (by decide) (by decide) rfl ?_
      refine ax_aload_n dX9_habit_73 rfl ?_
      refine ax_iload_n dX9_habit_74 rfl ?_
      refine ax_gen (fun A hA => ?_)
      have a2 : ∀ n i, n ≠ 78 → A.1 n i = N.1 n i := fun n i z => by rw [hA, ax_pn (by omega)]
      obtain ⟨fA, IA⟩ := xI_78 I (M2 := A) (by rw [hA]; rfl) a2
      have a3 : ∀ k, k < 21 → A.1 78 k = if k = now then nI (21 - (m + 1)) else v k := fun k hk => by
        by_cases z : k = now
        · rw [if_pos z, hA, z, ax_pa]
        · rw [if_neg z, hA, ax_pn (by omega)]; exact hv k hk
      have hx := IA.1.1
      have hok := hx.1
      clear hA
      refine ax_callV (As := _) (d2 := _) (c1 := 0) (n1 := 0) (x_nextHabit (M := A) IA hnow rfl) dX9_habit_75 mX9_nextHabit wd_1352 acl_9 (lo_s hok 1 rfl) rfl (by omega) (by omega) (by omega) rfl rfl (fun _ _ h => by cases h.1) ?_
      rintro _ B ⟨h1, fB, IB, uB⟩
      cases h1
      refine ax_istore_n dX9_habit_78 (by decide) rfl ?_
      refine ax_goto (tgt := 45) dX9_habit_79 (by decide) ?_
      rw [nI_1, show 21 - (m + 1) + 1 = 21 - m by omega]
      rw [show 21 - (m + 1) + 1 = 21 - m by omega] at h
      exact ih (by omega) B _ _ _ h (hb_g_lt r lw hnow) (qf_trans (qf_trans f fA) fB) IB (fun k hk => (uB.2 78 k (by unfold fs; omega) (by omega) (by omega)).trans (a3 k hk))
  refine ax_iconst (v := 0) dX9_habit_19 (by decide) ?_
  refine ax_istore_n dX9_habit_20 (by decide) rfl ?_
  refine ax_for 21 (fun i N L => N.2 = M.2 ∧ (∀ n i, n ≠ 78 → N.1 n i = M.1 n i) ∧ (∀ k, k < i → N.1 78 k = -1) ∧ L = [some (av_r 1), some (av_i (nI x)), some (av_i (nI k)), some (av_i (nI i)), none, none]) 21 ?_ ?_ (i := 0) (by omega) ⟨rfl, fun _ _ _ => rfl, fun k hk => by omega, rfl⟩
  · rintro i N L hi ⟨n1, n2, n3, rfl⟩ next
    have hx : xk N.2 p := by rw [n1]; exact hx
    have hok := hx.1
    refine ax_iload_n dX9_habit_21 rfl ?_
    refine ax_bipush (v := 20) dX9_habit_22 (by decide) ?_
    refine ax_icmp_gt (tgt := 40) dX9_habit_24 (by decide) (fun hc => absurd ((nI_ltI (a := 20) (by omega) (by omega)).mp hc) (by omega)) (fun hc => ?_)
    refine ax_aload_n dX9_habit_27 rfl ?_
    refine ax_getK (f := 12) 78 dX9_habit_28 acl_9 wd_559 (by decide) rfl (lo_s hok 1 rfl) (lo_r hok 6 rfl) ?_
    refine ax_iload_n dX9_habit_31 rfl ?_
    refine ax_iconst (v := (-1)) dX9_habit_32 (by decide) ?_
    refine ax_iastN (i) dX9_habit_33 (lo_s hok 78 rfl) (by decide) (by first | with_reducible rfl | assumption | exact ax_nix (by simp only [nx_0, nx_1, nx_2, nx_3, nx_4, nx_10, nx_20, nx_21, nx_100, nI_add, pk_mul] <;> rfl) (by omega) | decide) (by omega) ?_
    refine ax_iinc (v := 1) dX9_habit_34 rfl (by decide) (by decide) rfl ?_
    refine ax_goto (tgt := 21) dX9_habit_37 (by decide) ?_
    refine next _ _ ⟨n1, fun n j z => by rw [ax_pn (by omega)]; exact n2 n j z, fun k hk => ?_, by rw [nI_1]; rfl⟩
    by_cases z : k = i
    · subst z; rw [ax_pa]
    · rw [ax_pn (by omega)]; exact n3 k (by omega)
  · rintro N L ⟨n1, n2, n3, rfl⟩
    have hx : xk N.2 p := by rw [n1]; exact hx
    have hok := hx.1
    obtain ⟨f, I⟩ := xI_78 hI n1 n2
    refine ax_iload_n dX9_habit_21 rfl ?_
    refine ax_bipush (v := 20) dX9_habit_22 (by decide) ?_
    refine ax_icmp_gt (tgt := 40) dX9_habit_24 (by decide) (fun hc => ?_) (fun hc => absurd ((nI_ltI (a := 20) (by omega) (by omega)).mpr (by omega)) hc)
    refine ax_iload_n dX9_habit_40 rfl ?_
    refine ax_istore_n dX9_habit_41 (by decide) rfl ?_
    refine ax_iconst (v := 0) dX9_habit_42 (by decide) ?_
    refine ax_istore dX9_habit_43 (by decide) rfl ?_
    exact loop 21 (Nat.le_refl _) N (fun _ => -1) x _ hR.symm (by omega) f I n3
end X90

