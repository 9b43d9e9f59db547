/-! ===== games: the first rest, the kindest; bulbs ===== -/
theorem rf_hit {R : Nat → Nat → Bool} {n a b : Nat} (h0 : rf R n a = none) (h1 : ∀ j, j < b → R a j = false) (h2 : R a b = true) (hb : b < n) : ∀ m, a < m → rf R n m = some (a, b)
  | 0, h => by omega
  | m + 1, h => by
    by_cases e : a = m
    · subst e
      show rfx R (rf R n a) a n = _
      rw [h0]
      show (mt_first (R a) n).map _ = _
      rw [mt_first_of h2 h1 hb]
      rfl
    · show rfx R (rf R n m) m n = _
      rw [rf_hit h0 h1 h2 hb m (by omega)]
      rfl
theorem rf_none {R : Nat → Nat → Bool} {n a : Nat} (h0 : rf R n a = none) (h1 : ∀ j, j < n → R a j = false) : rf R n (a + 1) = none := by
  show rfx R (rf R n a) a n = _
  rw [h0]
  show (mt_first (R a) n).map _ = _
  rw [mt_first_no h1]
  rfl
section X92
variable {l : Launch} {G : ax_G} {M : ax_M} {V n : Nat} {C0 C1 : Nat → Nat → Int32}
theorem x_firstRest (hok : lo_ok M.2) (hV : xh_V V) (hn : n ≤ 21) (hg : xgm M V n C0 C1) {z : Int32} (hz : z = nI n) : ax_Met l G kX3_firstRest 1 0 0 M [av_r V, av_i z] (ax_p (av_i (gpl (rf (fun a b => grt C0 C1 a b n) n n))) M) := by
  subst hz
  obtain ⟨R, hR⟩ : ∃ R, R = fun a b => grt C0 C1 a b n := ⟨_, rfl⟩
  rw [← hR]
  refine ax_body (by decide) (Nat.le_of_ble_eq_true rfl) ?_
  refine ax_iconst (v := 0) dX3_firstRest_0 (by decide) ?_
  refine ax_istore_n dX3_firstRest_1 (by decide) rfl ?_
  refine ax_for n (fun a N L => N = M ∧ (∃ y4, L = [some (av_r V), some (av_i (nI n)), some (av_i (nI a)), y4]) ∧ rf R n a = none) 2 ?_ ?_ (i := 0) (by omega) ⟨rfl, ⟨_, rfl⟩, rfl⟩
  · rintro a N L ha ⟨rfl, ⟨y4, rfl⟩, hno⟩ next
    refine ax_iload_n dX3_firstRest_2 rfl ?_
    refine ax_iload_n dX3_firstRest_3 rfl ?_
    refine ax_icmp_ge (tgt := 55) dX3_firstRest_4 (by decide) (fun hc => absurd ((nI_leI (by omega) (by omega)).mp hc) (by omega)) (fun hc => ?_)
    refine ax_iload_n dX3_firstRest_7 rfl ?_
    refine ax_bipush (v := 21) dX3_firstRest_8 (by decide) ?_
    refine ax_icmp_ge (tgt := 55) dX3_firstRest_10 (by decide) (fun hc => ?_) (fun hc => ?_)
    · exact absurd ((nI_leI (a := 21) (by omega) (by omega)).mp hc) (by omega)
    clear hc
    refine ax_iconst (v := 0) dX3_firstRest_13 (by decide) ?_
    refine ax_istore_n dX3_firstRest_14 (by decide) rfl ?_
    refine ax_for n (fun b N9 L => N9 = N ∧ L = [some (av_r V), some (av_i (nI n)), some (av_i (nI a)), some (av_i (nI b))] ∧ ∀ j, j < b → R a j = false) 15 ?_ ?_ (i := 0) (by omega) ⟨rfl, rfl, fun j hj => by omega⟩
    · rintro b N9 L hb ⟨rfl, rfl, hno2⟩ next2
      refine ax_iload_n dX3_firstRest_15 rfl ?_
      refine ax_iload_n dX3_firstRest_16 rfl ?_
      refine ax_icmp_ge (tgt := 49) dX3_firstRest_17 (by decide) (fun hc => absurd ((nI_leI (by omega) (by omega)).mp hc) (by omega)) (fun hc => ?_)
      refine ax_iload_n dX3_firstRest_20 rfl ?_
      refine ax_bipush (v := 21) dX3_firstRest_21 (by decide) ?_
      refine ax_icmp_ge (tgt := 49) dX3_firstRest_23 (by decide) (fun hc => ?_) (fun hc => ?_)
      · exact absurd ((nI_leI (a := 21) (by omega) (by omega)).mp hc) (by omega)
      clear hc
      refine ax_aload_n dX3_firstRest_26 rfl ?_
      refine ax_iload_n dX3_firstRest_27 rfl ?_
      refine ax_iload_n dX3_firstRest_28 rfl ?_
      refine ax_iload_n dX3_firstRest_29 rfl ?_
      refine ax_callV (As := _) (d2 := _) (c1 := 0) (n1 := 0) (x_isRest (d := 0) (M := N9) hok hV hn hg ha hb rfl rfl rfl) dX3_firstRest_30 mX3_isRest wd_1317 acl_3 (xs_V_0 hV hok) rfl (by omega) (by omega) (by omega) rfl rfl (fun _ _ h => by cases h.1) ?_
      rintro r M9 ⟨h1, h9⟩; cases h1; rw [h9]; clear h9 M9
      refine ax_ifB_eq (tgt := 43) dX3_firstRest_33 (by decide) (fun hc => ?_) (fun hc => ?_)
      · refine ax_iinc (v := 1) dX3_firstRest_43 rfl (by decide) (by decide) rfl ?_
        refine ax_goto (tgt := 15) dX3_firstRest_46 (by decide) ?_
        refine next2 _ _ ⟨rfl, by rw [nI_1]; rfl, fun j hj => ?_⟩
        by_cases e : j = b
        · subst e; rw [hR]; exact Bool.eq_false_iff.mpr hc
        · exact hno2 j (by omega)
      · refine ax_iload_n dX3_firstRest_36 rfl ?_
        refine ax_bipush (v := 21) dX3_firstRest_37 (by decide) ?_
        refine ax_imul dX3_firstRest_39 ?_
        refine ax_iload_n dX3_firstRest_40 rfl ?_
        refine ax_iadd dX3_firstRest_41 ?_
        rw [g_ix]
        refine ax_iret dX3_firstRest_42 rfl ?_
        rw [rf_hit hno hno2 (by rw [hR]; exact hc) hb n ha]
        exact ⟨rfl, rfl⟩
    · rintro N9 L ⟨rfl, rfl, hno2⟩
      refine ax_iload_n dX3_firstRest_15 rfl ?_
      refine ax_iload_n dX3_firstRest_16 rfl ?_
      refine ax_icmp_ge (tgt := 49) dX3_firstRest_17 (by decide) (fun hc => ?_) (fun hc => absurd ((nI_leI (by omega) (by omega)).mpr (by omega)) hc)
      refine ax_iinc (v := 1) dX3_firstRest_49 rfl (by decide) (by decide) rfl ?_
      refine ax_goto (tgt := 2) dX3_firstRest_52 (by decide) ?_
      exact next _ _ ⟨rfl, ⟨_, by rw [nI_1]; rfl⟩, rf_none hno hno2⟩
  · rintro N L ⟨rfl, ⟨y4, rfl⟩, hno⟩
    refine ax_iload_n dX3_firstRest_2 rfl ?_
    refine ax_iload_n dX3_firstRest_3 rfl ?_
    refine ax_icmp_ge (tgt := 55) dX3_firstRest_4 (by decide) (fun hc => ?_) (fun hc => absurd ((nI_leI (by omega) (by omega)).mpr (by omega)) hc)
    refine ax_iconst (v := (-1)) dX3_firstRest_55 (by decide) ?_
    refine ax_iret dX3_firstRest_56 rfl ?_
    rw [hno]; exact ⟨rfl, rfl⟩
theorem x_together {d : Nat} (hok : lo_ok M.2) (hV : xh_V V) {q : Nat} (hq : q < 441) {x : Int32} (hx : x = nI q) : ax_Met l G kX3_together d 0 0 M [av_r V, av_i x] (ax_p (av_i (M.1 (V + 1) q + M.1 (V + 2) q)) M) := by
  subst hx
  refine ax_body (by decide) (Nat.le_of_ble_eq_true rfl) ?_
  refine ax_iload_n dX3_together_0 rfl ?_
  refine ax_if_lt (tgt := 29) dX3_together_1 (by decide) (fun hc => ?_) (fun hc => ?_)
  · exact absurd ((nI_ltI (b := 0) (by omega) (by omega)).mp hc) (by omega)
  clear hc
  refine ax_iload_n dX3_together_4 rfl ?_
  refine ax_aload_n dX3_together_5 rfl ?_
  refine ax_getK (f := 0) (V + 1) dX3_together_6 acl_3 wd_505 (by decide) rfl (xs_V_0 hV hok) (xr_V_0 hV hok) ?_
  refine ax_alen dX3_together_9 (xs_V_1 hV hok) (by decide) ?_
  refine ax_icmp_ge (tgt := 29) dX3_together_10 (by decide) (fun hc => ?_) (fun hc => ?_)
  · exact absurd ((nI_leI (a := 441) (by omega) (by omega)).mp hc) (by omega)
  clear hc
  refine ax_aload_n dX3_together_13 rfl ?_
  refine ax_getK (f := 0) (V + 1) dX3_together_14 acl_3 wd_505 (by decide) rfl (xs_V_0 hV hok) (xr_V_0 hV hok) ?_
  refine ax_iload_n dX3_together_17 rfl ?_
  refine ax_ialdN (q) dX3_together_18 (xs_V_1 hV hok) (by decide) (by first | with_reducible rfl | assumption | exact ax_nix (by simp only [nx_0, nx_1, nx_2, nx_3, nx_4, nx_10, nx_20, nx_21, nx_100, nI_add, pk_mul] <;> rfl) (by omega) | decide) (by omega) ?_
  refine ax_aload_n dX3_together_19 rfl ?_
  refine ax_getK (f := 1) (V + 2) dX3_together_20 acl_3 wd_506 (by decide) rfl (xs_V_0 hV hok) (xr_V_1 hV hok) ?_
  refine ax_iload_n dX3_together_23 rfl ?_
  refine ax_ialdN (q) dX3_together_24 (xs_V_2 hV hok) (by decide) (by first | with_reducible rfl | assumption | exact ax_nix (by simp only [nx_0, nx_1, nx_2, nx_3, nx_4, nx_10, nx_20, nx_21, nx_100, nI_add, pk_mul] <;> rfl) (by omega) | decide) (by omega) ?_
  refine ax_iadd dX3_together_25 ?_
  refine ax_goto (tgt := 30) dX3_together_26 (by decide) ?_
  refine ax_iret dX3_together_30 rfl ?_
  exact ⟨rfl, rfl⟩
theorem x_together0 {d : Nat} {x : Int32} (hx : x < 0) : ax_Met l G kX3_together d 0 0 M [av_r V, av_i x] (ax_p (av_i 0) M) := by
  refine ax_body (by decide) (Nat.le_of_ble_eq_true rfl) ?_
  refine ax_iload_n dX3_together_0 rfl ?_
  refine ax_if_lt (tgt := 29) dX3_together_1 (by decide) (fun hc => ?_) (fun hc => ?_)
  · refine ax_iconst (v := 0) dX3_together_29 (by decide) ?_
    refine ax_iret dX3_together_30 rfl ?_
    exact ⟨rfl, rfl⟩
  · exact absurd hx hc
theorem x_pairNumber {d : Nat} (z : Nat) (hz : z ≤ 1) (f : Option (Nat × Nat)) (hf : ∀ q, f = some q → q.1 < 21 ∧ q.2 < 21) {y : Int32} (hy : y = nI z) : ax_Met l G kX9_pairNumber d 0 0 M [av_i (gpl f), av_i y] (ax_p (av_i (fv z f)) M) := by
  subst hy
  refine ax_body (by decide) (Nat.le_of_ble_eq_true rfl) ?_
  refine ax_iload_n dX9_pairNumber_0 rfl ?_
  cases f with
  | none =>
    refine ax_if_ge (tgt := 6) dX9_pairNumber_1 (by decide) (fun hc => ?_) (fun hc => ?_)
    · exact absurd hc (by decide)
    · refine ax_iconst (v := (-1)) dX9_pairNumber_4 (by decide) ?_
      refine ax_iret dX9_pairNumber_5 rfl ?_
      exact ⟨rfl, rfl⟩
  | some q =>
    have hq := hf q rfl
    show ax_W l G kX9_pairNumber _ _ _ _ _ _ [some (av_i (nI (q.1 * 21 + q.2))), _] [av_i (nI (q.1 * 21 + q.2))]
    refine ax_if_ge (tgt := 6) dX9_pairNumber_1 (by decide) (fun hc => ?_) (fun hc => ?_)
    · clear hc
      have e1 : nI (q.1 * 21 + q.2) / 21 = nI q.1 := by
        rw [iI_nI, iI_nI, show (21 : Int32) = iI 21 from rfl, iI_div (by omega) (by omega) (by decide) (by decide)]
        congr 1; omega
      have e2 : nI (q.1 * 21 + q.2) - nI q.1 * 21 = nI q.2 := by
        rw [show (21 : Int32) = nI 21 from rfl, pk_mul, pk_sub (by omega)]; congr 1; omega
      refine ax_bipush (v := 100) dX9_pairNumber_6 (by decide) ?_
      refine ax_iload_n dX9_pairNumber_8 rfl ?_
      refine ax_bipush (v := 21) dX9_pairNumber_9 (by decide) ?_
      refine ax_idiv dX9_pairNumber_11 (by decide) ?_
      refine ax_iload_n dX9_pairNumber_12 rfl ?_
      refine ax_iadd dX9_pairNumber_13 ?_
      refine ax_imul dX9_pairNumber_14 ?_
      refine ax_iload_n dX9_pairNumber_15 rfl ?_
      refine ax_bipush (v := 21) dX9_pairNumber_16 (by decide) ?_
      refine ax_irem dX9_pairNumber_18 (by decide) ?_
      refine ax_iadd dX9_pairNumber_19 ?_
      refine ax_iload_n dX9_pairNumber_20 rfl ?_
      refine ax_iadd dX9_pairNumber_21 ?_
      rw [e1, e2]
      refine ax_iret dX9_pairNumber_22 rfl ?_
      refine ⟨?_, rfl⟩
      rw [nI_add, show (100 : Int32) = nI 100 from rfl, pk_mul, nI_add, nI_add, Nat.add_assoc]
      rfl
    · exact absurd ((nI_leI (a := 0) (by omega) (by omega)).mpr (by omega)) hc
end X92
/-- only the bulbs' table, or the visits, moved -/
theorem xI_sc {M M2 : ax_M} {p : Nat → Nat} {r : Nat → Int} {lw : mt_L} {es : List (Nat × Nat)} (h : xI M p r lw es) (e2 : M2.2 = M.2) (hf : ∀ n i, ¬ (75 ≤ n ∧ n ≤ 78) → M2.1 n i = M.1 n i) : qf M M2 ∧ xI M2 p r lw es := by
  obtain ⟨h1, h2, h3, h4⟩ := h
  have f : qf M M2 := ⟨e2, fun n i z => hf n i (fun y => z (Or.inr (Or.inr (Or.inl (by omega)))))⟩
  refine ⟨f, xT_qf h1 f, ⟨xw_fr h2.1 (fun n i z => hf n i (by omega)), xw_fr h2.2 (fun n i z => hf n i (by omega))⟩, ?_, xD_fr h4 (hf _ _ (by omega)) (fun n i z => hf n i (by omega))⟩
  rcases h3 with h3 | ⟨h3, h5⟩
  · exact Or.inl ((hf 1 7 (by omega)).trans h3)
  · exact Or.inr ⟨(hf 1 7 (by omega)).trans h3, xmt_fr h5 (fun n i z => hf n i (by omega))⟩
theorem bu_neg : ∀ b, b < 20 → ∀ a, a < 20 → ∀ d, d < 20 → decide (-(gby (nI (d + 1)) (nI (b + 1))) < -(gby (nI (a + 1)) (nI (b + 1)))) = decide (gby (nI (a + 1)) (nI (b + 1)) < gby (nI (d + 1)) (nI (b + 1))) := by decide +kernel
def bC0 (i j : Nat) : Int32 := -(gby (nI (i + 1)) (nI (j + 1)))
def bC1 (i j : Nat) : Int32 := -(gby (nI (j + 1)) (nI (i + 1)))
theorem bu_grt {a b : Nat} (ha : a < 20) (hb : b < 20) : ∀ n, n ≤ 20 → grt bC0 bC1 a b n = bu_R n a b
  | 0, _ => rfl
  | n + 1, hn => by
    have ih := bu_grt ha hb n (by omega)
    show (grt bC0 bC1 a b n && !(decide (-(gby (nI (n + 1)) (nI (b + 1))) < -(gby (nI (a + 1)) (nI (b + 1)))) || decide (-(gby (nI (n + 1)) (nI (a + 1))) < -(gby (nI (b + 1)) (nI (a + 1)))))) = _
    rw [ih, bu_neg b hb a ha n (by omega), bu_neg a ha b hb n (by omega)]
    show (br (a + 1) (b + 1) n && br (b + 1) (a + 1) n && _) = (br (a + 1) (b + 1) n && !decide (gby (nI (a + 1)) (nI (b + 1)) < gby (nI (n + 1)) (nI (b + 1))) && (br (b + 1) (a + 1) n && !decide (gby (nI (b + 1)) (nI (a + 1)) < gby (nI (n + 1)) (nI (a + 1)))))
    cases br (a + 1) (b + 1) n <;> cases br (b + 1) (a + 1) n <;> cases decide (gby (nI (a + 1)) (nI (b + 1)) < gby (nI (n + 1)) (nI (b + 1))) <;> cases decide (gby (nI (b + 1)) (nI (a + 1)) < gby (nI (n + 1)) (nI (a + 1))) <;> rfl
theorem rn_cong {R Q : Nat → Nat → Bool} {n : Nat} : ∀ m, (∀ a b, a < m → b < n → R a b = Q a b) → rn R n m = rn Q n m
  | 0, _ => rfl
  | m + 1, h => by
    show rn R n m + mt_cnt (R m) n = rn Q n m + mt_cnt (Q m) n
    rw [rn_cong m (fun a b ha hb => h a b (by omega) hb), mt_cnt_cong (fun k hk => h m k (by omega) hk)]
theorem rf_cong {R Q : Nat → Nat → Bool} {n : Nat} : ∀ m, (∀ a b, a < m → b < n → R a b = Q a b) → rf R n m = rf Q n m
  | 0, _ => rfl
  | m + 1, h => by
    show rfx R (rf R n m) m n = rfx Q (rf Q n m) m n
    rw [rf_cong m (fun a b ha hb => h a b (by omega) hb)]
    cases rf Q n m with
    | some q => rfl
    | none =>
      show (mt_first (R m) n).map _ = (mt_first (Q m) n).map _
      rw [mt_first_cong (fun k hk => h m k (by omega) hk)]
section X92B
variable {l : Launch} {G : ax_G} {M : ax_M} {p : Nat → Nat} {r : Nat → Int} {lw : mt_L} {es : List (Nat × Nat)}
theorem x_bulbs (hl9 : l.stackTraces = false) (hI : xI M p r lw es) (x y : Int32) : ax_Met l G kX9_bulbs 8 2 12 M [av_r 1, av_i x, av_i y] (xA p r lw es M (qa_bulbs x y)) := by
  have hx := hI.1.1
  have hok := hx.1
  have hr := hI.1.2.1
  have ho := hI.1.2.2.1
  have h0 := ho.1
  refine ax_body (by decide) (Nat.le_of_ble_eq_true rfl) ?_
  refine ax_aload_n dX9_bulbs_0 rfl ?_
  refine ax_iload_n dX9_bulbs_1 rfl ?_
  refine ax_iconst (v := 1) dX9_bulbs_2 (by decide) ?_
  refine ax_bipush (v := 20) dX9_bulbs_3 (by decide) ?_
  refine ax_callVX (As := _) (d2 := _) (c1 := 1) (n1 := 6) (c_needRange (M := M) hl9 hok) dX9_bulbs_5 mX9_needRange wd_1121 acl_9 (lo_s hok 1 rfl) rfl (by omega) (by omega) (by omega) rfl rfl (fun E M2 h => xA_ex h (fun z => by unfold qa_bulbs; rw [if_pos (Or.inl z)])) ?_
  refine xN_k (fun g1 => ?_)
  refine ax_aload_n dX9_bulbs_8 rfl ?_
  refine ax_iload_n dX9_bulbs_9 rfl ?_
  refine ax_iconst (v := 0) dX9_bulbs_10 (by decide) ?_
  refine ax_iconst (v := 2) dX9_bulbs_11 (by decide) ?_
  refine ax_callVX (As := _) (d2 := _) (c1 := 0) (n1 := 0) (c_needRange (M := M) hl9 hok) dX9_bulbs_12 mX9_needRange wd_1121 acl_9 (lo_s hok 1 rfl) rfl (by omega) (by omega) (by omega) rfl rfl (fun E M2 h => xA_ex h (fun z => by unfold qa_bulbs; rw [if_pos (Or.inr z)])) ?_
  refine xN_k (fun g2 => ?_)
  obtain ⟨n, hn1, hn, rfl⟩ := in_nat1 g1 (n := 20) rfl (by decide)
  obtain ⟨k, hk, rfl⟩ := in_nat g2 (n := 2) rfl (by decide)
  have hV : xh_V 75 := Or.inr rfl
  refine ax_iconst (v := 0) dX9_bulbs_15 (by decide) ?_
  refine ax_istore_n dX9_bulbs_16 (by decide) rfl ?_
  refine ax_for n (fun i N L => (∃ y4, L = [some (av_r 1), some (av_i (nI n)), some (av_i (nI k)), some (av_i (nI i)), y4]) ∧ N.2 = M.2 ∧ (∀ n i, ¬ (75 ≤ n ∧ n ≤ 78) → N.1 n i = M.1 n i) ∧ ∀ a b, a < i → b < n → N.1 (75 + 1) (a * 21 + b) = bC0 a b ∧ N.1 (75 + 2) (a * 21 + b) = bC1 a b) 17 ?_ ?_ (i := 0) (by omega) ⟨⟨_, rfl⟩, rfl, fun _ _ _ => rfl, fun a b ha => by omega⟩
  · rintro i N0 L hi ⟨⟨y4, rfl⟩, n1, n2, n3⟩ next
    refine ax_iload_n dX9_bulbs_17 rfl ?_
    refine ax_iload_n dX9_bulbs_18 rfl ?_
    refine ax_icmp_ge (tgt := 75) dX9_bulbs_19 (by decide) (fun hc => absurd ((nI_leI (by omega) (by omega)).mp hc) (by omega)) (fun hc => ?_)
    refine ax_iconst (v := 0) dX9_bulbs_22 (by decide) ?_
    refine ax_istore dX9_bulbs_23 (by decide) rfl ?_
    refine ax_for n (fun j N L => L = [some (av_r 1), some (av_i (nI n)), some (av_i (nI k)), some (av_i (nI i)), some (av_i (nI j))] ∧ N.2 = M.2 ∧ (∀ n i, ¬ (75 ≤ n ∧ n ≤ 78) → N.1 n i = M.1 n i) ∧ ∀ a b, (a < i ∧ b < n ∨ a = i ∧ b < j) → N.1 (75 + 1) (a * 21 + b) = bC0 a b ∧ N.1 (75 + 2) (a * 21 + b) = bC1 a b) 25 ?_ ?_ (i := 0) (by omega) ⟨rfl, n1, n2, fun a b z => n3 a b (by omega) (by omega)⟩
    · clear n1 n2 n3
      rintro j N L hj ⟨rfl, n1, n2, n3⟩ next2
      have hx : xk N.2 p := by rw [n1]; exact hx
      have hok := hx.1
      refine ax_iload dX9_bulbs_25 rfl ?_
      refine ax_iload_n dX9_bulbs_27 rfl ?_
      refine ax_icmp_ge (tgt := 69) dX9_bulbs_28 (by decide) (fun hc => absurd ((nI_leI (by omega) (by omega)).mp hc) (by omega)) (fun hc => ?_)
      refine ax_aload_n dX9_bulbs_31 rfl ?_
      refine ax_getK (f := 11) 75 dX9_bulbs_32 acl_9 wd_558 (by decide) rfl (lo_s hok 1 rfl) (lo_r hok 5 rfl) ?_
      refine ax_iload_n dX9_bulbs_35 rfl ?_
      refine ax_iload dX9_bulbs_36 rfl ?_
      refine ax_iload_n dX9_bulbs_38 rfl ?_
      refine ax_iconst (v := 1) dX9_bulbs_39 (by decide) ?_
      refine ax_iadd dX9_bulbs_40 ?_
      refine ax_iload dX9_bulbs_41 rfl ?_
      refine ax_iconst (v := 1) dX9_bulbs_43 (by decide) ?_
      refine ax_iadd dX9_bulbs_44 ?_
      rw [nI_1, nI_1]
      refine ax_callS (As := _) (c1 := 0) (n1 := 0) (c_gain (M := N) _ _) dX9_bulbs_45 mX9_gain wd_1416 rfl (by omega) (by omega) (by omega) rfl rfl (fun _ _ h => by cases h.1) ?_
      rintro r M9 ⟨h1, h9⟩; cases h1; rw [h9]; clear h9 M9
      refine ax_ineg dX9_bulbs_48 ?_
      refine ax_iload dX9_bulbs_49 rfl ?_
      refine ax_iconst (v := 1) dX9_bulbs_51 (by decide) ?_
      refine ax_iadd dX9_bulbs_52 ?_
      refine ax_iload_n dX9_bulbs_53 rfl ?_
      refine ax_iconst (v := 1) dX9_bulbs_54 (by decide) ?_
      refine ax_iadd dX9_bulbs_55 ?_
      rw [nI_1, nI_1]
      refine ax_callS (As := _) (c1 := 0) (n1 := 0) (c_gain (M := N) _ _) dX9_bulbs_56 mX9_gain wd_1416 rfl (by omega) (by omega) (by omega) rfl rfl (fun _ _ h => by cases h.1) ?_
      rintro r M9 ⟨h1, h9⟩; cases h1; rw [h9]; clear h9 M9
      refine ax_ineg dX9_bulbs_59 ?_
      refine ax_callVN (As := _) (d2 := _) (c1 := 0) (n1 := 0) (x_gput (M := N) hok hV (a := i) (b := j) (by omega) (by omega) _ _ rfl rfl) dX9_bulbs_60 mX3_put wd_1312 acl_3 (lo_s hok 75 rfl) rfl (by omega) (by omega) (by omega) rfl rfl (fun _ _ h => by cases h.1) ?_
      rintro _ A ⟨h1, hA⟩
      cases h1
      refine ax_iinc (v := 1) dX9_bulbs_63 rfl (by decide) (by decide) rfl ?_
      refine ax_goto (tgt := 25) dX9_bulbs_66 (by decide) ?_
      refine next2 _ _ ⟨by rw [nI_1]; rfl, by rw [hA]; exact n1, fun n i z => by rw [hA, ax_pn (by omega), ax_pn (by omega)]; exact n2 n i z, fun a b z => ?_⟩
      by_cases e : a = i ∧ b = j
      · rw [hA, e.1, e.2, ax_pn (by omega), ax_pa, ax_pa]; exact ⟨rfl, rfl⟩
      · have hne : a * 21 + b ≠ i * 21 + j := by
          intro z2; omega
        rw [hA, ax_pn (by omega), ax_pn (by omega), ax_pn (by omega), ax_pn (by omega)]; exact n3 a b (by omega)
    · clear n1 n2 n3
      rintro N L ⟨rfl, n1, n2, n3⟩
      refine ax_iload dX9_bulbs_25 rfl ?_
      refine ax_iload_n dX9_bulbs_27 rfl ?_
      refine ax_icmp_ge (tgt := 69) dX9_bulbs_28 (by decide) (fun hc => ?_) (fun hc => absurd ((nI_leI (by omega) (by omega)).mpr (by omega)) hc)
      refine ax_iinc (v := 1) dX9_bulbs_69 rfl (by decide) (by decide) rfl ?_
      refine ax_goto (tgt := 17) dX9_bulbs_72 (by decide) ?_
      exact next _ _ ⟨⟨_, by rw [nI_1]; rfl⟩, n1, n2, fun a b ha hb => n3 a b (by omega)⟩
  · rintro N L ⟨⟨y4, rfl⟩, n1, n2, n3⟩
    obtain ⟨f, I⟩ := xI_sc hI n1 n2
    have hx := I.1.1
    have hok := hx.1
    have hg : xgm N 75 n bC0 bC1 := n3
    have e : ∀ v, v = qv_bulbs n k → xA p r lw es M (qa_bulbs (nI n) (nI k)) (.inl (some (av_i v))) N := fun v hv => by
      unfold qa_bulbs
      rw [if_neg (fun z => z.elim (fun q => q g1) (fun q => q g2)), nI_clamp (by omega), nI_clamp (by omega), hv]
      exact xA_in f I
    have cg : ∀ a b, a < n → b < n → (fun a b => grt bC0 bC1 a b n) a b = bu_R n a b := fun a b ha hb => bu_grt (by omega) (by omega) n (by omega)
    have er := rn_cong (n := n) n cg
    have ef := rf_cong (n := n) n cg
    obtain ⟨F, hF⟩ : ∃ F, F = rf (bu_R n) n n := ⟨_, rfl⟩
    have hFl : ∀ q, F = some q → q.1 < n ∧ q.2 < n := fun q z => rf_le (bu_R n) n n (Nat.le_refl _) q (by rw [← hF]; exact z)
    refine ax_iload_n dX9_bulbs_17 rfl ?_
    refine ax_iload_n dX9_bulbs_18 rfl ?_
    refine ax_icmp_ge (tgt := 75) dX9_bulbs_19 (by decide) (fun hc => ?_) (fun hc => absurd ((nI_leI (by omega) (by omega)).mpr (by omega)) hc)
    refine ax_iload_n dX9_bulbs_75 rfl ?_
    rcases (show k = 0 ∨ k = 1 ∨ k = 2 by omega) with rfl | rfl | rfl
    · refine ax_lookup (off := 28) (tgt := 104) dX9_bulbs_76 (by decide) (by decide) (by decide) ?_
      refine ax_aload_n dX9_bulbs_104 rfl ?_
      refine ax_getK (f := 11) 75 dX9_bulbs_105 acl_9 wd_558 (by decide) rfl (lo_s hok 1 rfl) (lo_r hok 5 rfl) ?_
      refine ax_iload_n dX9_bulbs_108 rfl ?_
      refine ax_callVN (As := _) (d2 := _) (c1 := 0) (n1 := 0) (x_restsOf (M := N) hok hV (n := n) (by omega) hg rfl) dX9_bulbs_109 mX3_restsOf wd_1313 acl_3 (lo_s hok 75 rfl) rfl (by omega) (by omega) (by omega) rfl rfl (fun _ _ h => by cases h.1) ?_
      rintro r M9 ⟨h1, h9⟩; cases h1; rw [h9]; clear h9 M9
      refine ax_iret dX9_bulbs_112 rfl ?_
      exact e _ (by rw [er]; rfl)
    · refine ax_lookup (off := 37) (tgt := 113) dX9_bulbs_76 (by decide) (by decide) (by decide) ?_
      refine ax_aload_n dX9_bulbs_113 rfl ?_
      refine ax_getK (f := 11) 75 dX9_bulbs_114 acl_9 wd_558 (by decide) rfl (lo_s hok 1 rfl) (lo_r hok 5 rfl) ?_
      refine ax_iload_n dX9_bulbs_117 rfl ?_
      refine ax_callVN (As := _) (d2 := _) (c1 := 0) (n1 := 0) (x_firstRest (M := N) hok hV (n := n) (by omega) hg rfl) dX9_bulbs_118 mX3_firstRest wd_1321 acl_3 (lo_s hok 75 rfl) rfl (by omega) (by omega) (by omega) rfl rfl (fun _ _ h => by cases h.1) ?_
      rintro r M9 ⟨h1, h9⟩; cases h1; rw [h9]; clear h9 M9
      rw [ef, ← hF]
      refine ax_iconst (v := 1) dX9_bulbs_121 (by decide) ?_
      refine ax_callS (As := _) (c1 := 0) (n1 := 0) (x_pairNumber (d := 6) (M := N) 1 (by omega) F (fun q z => by have := hFl q z; omega) rfl) dX9_bulbs_122 mX9_pairNumber wd_1325 rfl (by omega) (by omega) (by omega) rfl rfl (fun _ _ h => by cases h.1) ?_
      rintro r M9 ⟨h1, h9⟩; cases h1; rw [h9]; clear h9 M9
      refine ax_iret dX9_bulbs_125 rfl ?_
      exact e _ (by rw [hF]; rfl)
    · refine ax_lookup (off := 50) (tgt := 126) dX9_bulbs_76 (by decide) (by decide) (by decide) ?_
      refine ax_aload_n dX9_bulbs_126 rfl ?_
      refine ax_getK (f := 11) 75 dX9_bulbs_127 acl_9 wd_558 (by decide) rfl (lo_s hok 1 rfl) (lo_r hok 5 rfl) ?_
      refine ax_aload_n dX9_bulbs_130 rfl ?_
      refine ax_getK (f := 11) 75 dX9_bulbs_131 acl_9 wd_558 (by decide) rfl (lo_s hok 1 rfl) (lo_r hok 5 rfl) ?_
      refine ax_iload_n dX9_bulbs_134 rfl ?_
      refine ax_callVN (As := _) (d2 := _) (c1 := 0) (n1 := 0) (x_firstRest (M := N) hok hV (n := n) (by omega) hg rfl) dX9_bulbs_135 mX3_firstRest wd_1321 acl_3 (lo_s hok 75 rfl) rfl (by omega) (by omega) (by omega) rfl rfl (fun _ _ h => by cases h.1) ?_
      rintro r M9 ⟨h1, h9⟩; cases h1; rw [h9]; clear h9 M9
      rw [ef, ← hF]
      have e2 : ∀ v, v = bu_t F → xA p r lw es M (qa_bulbs (nI n) (nI 2)) (.inl (some (av_i v))) N := fun v hv => e v (by rw [hv, hF]; rfl)
      cases hFF : F with
      | none =>
        rw [hFF] at e2
        refine ax_callVN (As := _) (d2 := _) (c1 := 0) (n1 := 0) (x_together0 (d := 6) (M := N) (V := 75) (x := gpl none) (by decide)) dX9_bulbs_138 mX3_together wd_1336 acl_3 (lo_s hok 75 rfl) rfl (by omega) (by omega) (by omega) rfl rfl (fun _ _ h => by cases h.1) ?_
        rintro r M9 ⟨h1, h9⟩; cases h1; rw [h9]; clear h9 M9
        refine ax_ineg dX9_bulbs_141 ?_
        refine ax_iret dX9_bulbs_142 rfl ?_
        exact e2 _ rfl
      | some q =>
        rw [hFF] at e2
        have hq := hFl q hFF
        refine ax_callVN (As := _) (d2 := _) (c1 := 0) (n1 := 0) (x_together (d := 6) (M := N) hok hV (q := q.1 * 21 + q.2) (by omega) rfl) dX9_bulbs_138 mX3_together wd_1336 acl_3 (lo_s hok 75 rfl) rfl (by omega) (by omega) (by omega) rfl rfl (fun _ _ h => by cases h.1) ?_
        rintro r M9 ⟨h1, h9⟩; cases h1; rw [h9]; clear h9 M9
        rw [(hg q.1 q.2 hq.1 hq.2).1, (hg q.1 q.2 hq.1 hq.2).2]
        refine ax_ineg dX9_bulbs_141 ?_
        refine ax_iret dX9_bulbs_142 rfl ?_
        refine e2 _ ?_
        show -(-(gby (nI (q.1 + 1)) (nI (q.2 + 1))) + -(gby (nI (q.2 + 1)) (nI (q.1 + 1)))) = gby (nI (q.1 + 1)) (nI (q.2 + 1)) + gby (nI (q.2 + 1)) (nI (q.1 + 1))
        rw [Int32.neg_add, Int32.neg_neg, Int32.sub_eq_add_neg, Int32.neg_neg]
end X92B

