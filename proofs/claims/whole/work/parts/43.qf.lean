/-! ===== bulbs, odds: the reference ===== -/
def br (a b : Nat) : Nat → Bool
  | 0 => true
  | k + 1 => br a b k && !decide (gby (nI a) (nI b) < gby (nI (k + 1)) (nI b))
theorem br_false {a b d : Nat} (h : gby (nI a) (nI b) < gby (nI (d + 1)) (nI b)) : ∀ {m : Nat}, d < m → br a b m = false
  | 0, q => by omega
  | m + 1, q => by
    show (br a b m && _) = false
    by_cases e : d = m
    · subst e; simp [h]
    · rw [br_false h (by omega)]; rfl
def bu_R (n i j : Nat) : Bool := br (i + 1) (j + 1) n && br (j + 1) (i + 1) n
def bu_t (f : Option (Nat × Nat)) : Int32 := match f with
  | some p => gby (nI (p.1 + 1)) (nI (p.2 + 1)) + gby (nI (p.2 + 1)) (nI (p.1 + 1))
  | none => 0
def qv_bulbs (n k : Nat) : Int32 := if k = 0 then nI (rn (bu_R n) n n) else if k = 1 then fv 1 (rf (bu_R n) n n) else bu_t (rf (bu_R n) n n)
def qa_bulbs (x y : Int32) : ax_V ⊕ (Nat × Nat) := if ¬ (1 ≤ x ∧ x ≤ 20) ∨ ¬ (0 ≤ y ∧ y ≤ 2) then .inr (1, 1) else .inl (av_i (qv_bulbs x.toNatClampNeg y.toNatClampNeg))
theorem rfx_le {R : Nat → Nat → Bool} {f : Option (Nat × Nat)} {a b m : Nat} {p : Nat × Nat} (hf : ∀ q, f = some q → q.1 < m ∧ q.2 < m) (ha : a < m) (hb : b ≤ m) (h : rfx R f a b = some p) : p.1 < m ∧ p.2 < m := by
  cases f with
  | some q => cases h; exact hf _ rfl
  | none =>
    have h2 : (mt_first (R a) b).map (fun j => (a, j)) = some p := h
    cases e : mt_first (R a) b with
    | none => rw [e] at h2; cases h2
    | some u => rw [e] at h2; cases h2; have := (mt_first_some e).1; exact ⟨ha, by show u < m; omega⟩
theorem rf_le (R : Nat → Nat → Bool) (n : Nat) : ∀ a, a ≤ n → ∀ p, rf R n a = some p → p.1 < n ∧ p.2 < n
  | 0, _, p, h => by cases h
  | a + 1, ha, p, h => rfx_le (rf_le R n a (by omega)) (by omega) (Nat.le_refl _) h
theorem in_nat1 {x K : Int32} {n : Nat} (h : 1 ≤ x ∧ x ≤ K) (hK : K = nI n) (hn : n < 2 ^ 31) : ∃ j, 1 ≤ j ∧ j ≤ n ∧ x = nI j := by
  obtain ⟨j, h1, h2⟩ := in_nat (x := x) (K := K) ⟨Int32.le_trans (by decide) h.1, h.2⟩ hK hn
  refine ⟨j, ?_, h1, h2⟩
  have := h.1
  rw [h2] at this
  exact (nI_leI (a := 1) (by omega) (by omega)).mp this
def pw (a : Int64) : Nat → Int64
  | 0 => 1
  | n + 1 => pw a n * a
def ld_u (f n k : Nat) : Int64 := (nI f).toInt64 * pw 12 k * pw 4 (n - k)
def ld_l (f n k : Nat) : Int64 := ld_u f n k + (16 - nI f).toInt64 * pw 5 k * pw 11 (n - k)
def gd : Nat → Int64 → Int64 → Int64 × Int64
  | 0, a, b => (a, b)
  | m + 1, a, b => if b = 0 then (a, b) else gd m b (a - a / b * b)
theorem ld_fin : ∀ f, f < 17 → ∀ n, n < 7 → ∀ k, k < 7 → (gd 30 (ld_l f n k) (ld_u f n k)).2 = 0 ∧ ¬ (gd 30 (ld_l f n k) (ld_u f n k)).1 = 0 := by decide +kernel
def qv_loaded (f n k p : Nat) : Int64 := if p = 0 then ld_u f n k / (gd 30 (ld_l f n k) (ld_u f n k)).1 else ld_l f n k / (gd 30 (ld_l f n k) (ld_u f n k)).1
def qa_loaded (f n k p : Int32) : ax_V ⊕ (Nat × Nat) := if ¬ (0 ≤ f ∧ f ≤ 16) ∨ ¬ (0 ≤ n ∧ n ≤ 6) ∨ ¬ (0 ≤ k ∧ k ≤ n) ∨ ¬ (0 ≤ p ∧ p ≤ 1) then .inr (1, 1) else .inl (av_l (qv_loaded f.toNatClampNeg n.toNatClampNeg k.toNatClampNeg p.toNatClampNeg))
section QF
variable {l : Launch} {G : ax_G} {M : ax_M} {r : Nat → Int} {lw : mt_L}
theorem c_isBright {n a b : Nat} (hn : n ≤ 20) {x y z : Int32} (hx : x = nI a) (hy : y = nI b) (hz : z = nI n) : ax_Met l G kX10_isBright 2 0 0 M [av_i x, av_i y, av_i z] (ax_p (av_i (if br a b n = true then 1 else 0)) M) := by
  subst hx hy hz
  refine ax_body (by decide) (Nat.le_of_ble_eq_true rfl) ?_
  refine ax_iconst (v := 1) dX10_isBright_0 (by decide) ?_
  refine ax_istore_n dX10_isBright_1 (by decide) rfl ?_
  refine ax_for n (fun d N L => N = M ∧ L = [some (av_i (nI a)), some (av_i (nI b)), some (av_i (nI n)), some (av_i (nI (d + 1)))] ∧ br a b d = true) 2 ?_ ?_ (i := 0) (by omega) ⟨rfl, rfl, rfl⟩
  · rintro q N L hq ⟨rfl, rfl, hrt⟩ next
    refine ax_iload_n dX10_isBright_2 rfl ?_
    refine ax_iload_n dX10_isBright_3 rfl ?_
    refine ax_icmp_gt (tgt := 28) dX10_isBright_4 (by decide) (fun hc => absurd ((nI_ltI (by omega) (by omega)).mp hc) (by omega)) (fun hc => ?_)
    refine ax_iload_n dX10_isBright_7 rfl ?_
    refine ax_iload_n dX10_isBright_8 rfl ?_
    refine ax_callS (As := _) (c1 := 0) (n1 := 0) (c_X10_getsBy (M := N) _ _) dX10_isBright_9 mX10_getsBy wd_2095 rfl (by omega) (by omega) (by omega) rfl rfl (fun _ _ h => by cases h.1) ?_
    rintro r M9 ⟨h1, h9⟩; cases h1; rw [h9]; clear h9 M9
    refine ax_iload_n dX10_isBright_12 rfl ?_
    refine ax_iload_n dX10_isBright_13 rfl ?_
    refine ax_callS (As := _) (c1 := 0) (n1 := 0) (c_X10_getsBy (M := N) _ _) dX10_isBright_14 mX10_getsBy wd_2095 rfl (by omega) (by omega) (by omega) rfl rfl (fun _ _ h => by cases h.1) ?_
    rintro r M9 ⟨h1, h9⟩; cases h1; rw [h9]; clear h9 M9
    refine ax_icmp_le (tgt := 22) dX10_isBright_17 (by decide) (fun hc => ?_) (fun hc => ?_)
    · refine ax_iinc (v := 1) dX10_isBright_22 rfl (by decide) (by decide) rfl ?_
      refine ax_goto (tgt := 2) dX10_isBright_25 (by decide) ?_
      refine next _ _ ⟨rfl, by rw [nI_1]; rfl, ?_⟩
      show (br a b q && _) = true
      rw [hrt, Bool.true_and, Bool.not_eq_true', decide_eq_false_iff_not]
      exact Int32.not_lt.mpr hc
    · refine ax_iconst (v := 0) dX10_isBright_20 (by decide) ?_
      refine ax_zret dX10_isBright_21 rfl ?_ ?_
      · exact Or.inl rfl
      · rw [br_false (Int32.not_le.mp hc) hq]; exact ⟨rfl, rfl⟩
  · rintro N L ⟨rfl, rfl, hrt⟩
    refine ax_iload_n dX10_isBright_2 rfl ?_
    refine ax_iload_n dX10_isBright_3 rfl ?_
    refine ax_icmp_gt (tgt := 28) dX10_isBright_4 (by decide) (fun hc => ?_) (fun hc => absurd ((nI_ltI (by omega) (by omega)).mpr (by omega)) hc)
    refine ax_iconst (v := 1) dX10_isBright_28 (by decide) ?_
    refine ax_zret dX10_isBright_29 rfl ?_ ?_
    · exact Or.inr rfl
    · rw [hrt]; exact ⟨rfl, rfl⟩
theorem c_bulbs (hok : lo_ok M.2) (hr : rr M r) (x y : Int32) : ax_Met l G kX10_bulbs 3 0 0 M [av_r 90, av_i x, av_i y] (fun o M2 => rq M M2 o (qa_bulbs x y)) := by
  refine ax_body (by decide) (Nat.le_of_ble_eq_true rfl) ?_
  refine ax_aload_n dX10_bulbs_0 rfl ?_
  refine ax_iconst (v := 0) dX10_bulbs_1 (by decide) ?_
  refine ax_putI (f := 0) dX10_bulbs_2 acl_10 wd_1600 (by decide) rfl rfl (ax_nfI rfl) (lo_s hok 90 rfl) ?_
  refine ax_gen (fun M0 hM0 => ?_)
  have hok : lo_ok M0.2 := by rw [hM0]; exact hok
  have hr0 : rr M0 r := by rw [hM0]; exact rr_fr hr (fun n i q => ax_pn (by omega))
  have h00 : M0.1 90 0 = 0 := by rw [hM0, ax_pa]
  refine ax_aload_n dX10_bulbs_5 rfl ?_
  refine ax_join0 (¬ (1 ≤ x ∧ x ≤ 20) ∨ ¬ (0 ≤ y ∧ y ≤ 2)) 30 (1) (0) ?_ (fun ja jb => ?_)
  rotate_left
  · refine ax_iload_n dX10_bulbs_6 rfl ?_
    refine ax_iconst (v := 1) dX10_bulbs_7 (by decide) ?_
    refine ax_bipush (v := 20) dX10_bulbs_8 (by decide) ?_
    refine ax_callS (As := _) (c1 := 0) (n1 := 0) (c_X10_in (d := 0) (M := M0) _ _ _) dX10_bulbs_10 mX10_in wd_1772 rfl (by omega) (by omega) (by omega) rfl rfl (fun _ _ h => by cases h.1) ?_
    rintro r M9 ⟨h1, h9⟩; cases h1; rw [h9]; clear h9 M9
    refine ax_ifB_eq (tgt := 25) dX10_bulbs_13 (by decide) (fun h13 => ?_) (fun h13 => ?_)
    · refine ax_iconst (v := 1) dX10_bulbs_25 (by decide) ?_
      refine ax_goto (tgt := 30) dX10_bulbs_26 (by decide) ?_
      first | (refine ja ?_; simp only [h13, and_self, and_true, true_and, not_true_eq_false, not_false_eq_true, or_true, true_or, or_false, false_or, or_self]; done) | (refine jb ?_; simp only [h13, and_self, and_true, true_and, not_true_eq_false, not_false_eq_true, or_true, true_or, or_false, false_or, or_self]; done) | exact ja h13 | exact jb (fun z => z h13) | exact ja (Or.inr h13) | exact ja (Or.inl h13)
    · refine ax_iload_n dX10_bulbs_16 rfl ?_
      refine ax_iconst (v := 0) dX10_bulbs_17 (by decide) ?_
      refine ax_iconst (v := 2) dX10_bulbs_18 (by decide) ?_
      refine ax_callS (As := _) (c1 := 0) (n1 := 0) (c_X10_in (d := 0) (M := M0) _ _ _) dX10_bulbs_19 mX10_in wd_1772 rfl (by omega) (by omega) (by omega) rfl rfl (fun _ _ h => by cases h.1) ?_
      rintro r M9 ⟨h1, h9⟩; cases h1; rw [h9]; clear h9 M9
      refine ax_ifB_ne (tgt := 29) dX10_bulbs_22 (by decide) (fun h22 => ?_) (fun h22 => ?_)
      · refine ax_iconst (v := 0) dX10_bulbs_29 (by decide) ?_
        first | (refine ja ?_; simp only [h13, h22, and_self, and_true, true_and, not_true_eq_false, not_false_eq_true, or_true, true_or, or_false, false_or, or_self]; done) | (refine jb ?_; simp only [h13, h22, and_self, and_true, true_and, not_true_eq_false, not_false_eq_true, or_true, true_or, or_false, false_or, or_self]; done) | exact ja h22 | exact jb (fun z => z h22) | exact ja (Or.inr h22) | exact ja (Or.inl h22)
      · refine ax_iconst (v := 1) dX10_bulbs_25 (by decide) ?_
        refine ax_goto (tgt := 30) dX10_bulbs_26 (by decide) ?_
        first | (refine ja ?_; simp only [h13, h22, and_self, and_true, true_and, not_true_eq_false, not_false_eq_true, or_true, true_or, or_false, false_or, or_self]; done) | (refine jb ?_; simp only [h13, h22, and_self, and_true, true_and, not_true_eq_false, not_false_eq_true, or_true, true_or, or_false, false_or, or_self]; done) | exact ja h22 | exact jb (fun z => z h22) | exact ja (Or.inr h22) | exact ja (Or.inl h22)
  refine ax_iconst (v := 1) dX10_bulbs_30 (by decide) ?_
  refine ax_iconst (v := 1) dX10_bulbs_31 (by decide) ?_
  refine ax_callV (As := _) (d2 := _) (c1 := 0) (n1 := 0) (c_badP (d := 0) (M := M0) (p := ¬ (1 ≤ x ∧ x ≤ 20) ∨ ¬ (0 ≤ y ∧ y ≤ 2)) hok h00 (w := 1) (k := 1) (by decide) (by decide) (by decide) rfl rfl) dX10_bulbs_32 mX10_bad wd_1775 acl_10 (lo_s hok 90 rfl) rfl (by omega) (by omega) (by omega) rfl rfl (fun _ _ h => by rcases h with ⟨_, h, _⟩ | ⟨_, h, _⟩ <;> cases h) ?_
  rintro o9 M9 (⟨g1, h1, h2⟩ | ⟨g1, h1, h2⟩) <;> cases h1 <;> rw [h2] <;> clear h2 M9
  · refine ax_if_eq (tgt := 40) dX10_bulbs_35 (by decide) (fun hc => ?_) (fun hc => ?_)
    · exact absurd hc (by decide)
    · refine ax_iconst (v := 0) dX10_bulbs_38 (by decide) ?_
      refine ax_iret dX10_bulbs_39 rfl ?_
      exact rq_bad hM0 (w := 1) (k := 1) rfl (by unfold qa_bulbs; rw [if_pos g1])
  refine ax_if_eq (tgt := 40) dX10_bulbs_35 (by decide) (fun hc => ?_) (fun hc => ?_)
  rotate_left
  · exact absurd rfl hc
  obtain ⟨n, hn1, hn, rfl⟩ := in_nat1 (dn (fun z => g1 (Or.inl z))) (n := 20) rfl (by decide)
  obtain ⟨k, hk, rfl⟩ := in_nat (dn (fun z => g1 (Or.inr z))) (n := 2) rfl (by decide)
  have e : ∀ v, v = qv_bulbs n k → rq M M0 (.inl (some (av_i v))) (qa_bulbs (nI n) (nI k)) := fun v hv => rq_sf hM0 (sf_0 _) (by unfold qa_bulbs; rw [if_neg g1, nI_clamp (by omega), nI_clamp (by omega), hv])
  refine ax_iconst (v := 0) dX10_bulbs_40 (by decide) ?_
  refine ax_istore_n dX10_bulbs_41 (by decide) rfl ?_
  refine ax_iconst (v := (-1)) dX10_bulbs_42 (by decide) ?_
  refine ax_istore dX10_bulbs_43 (by decide) rfl ?_
  refine ax_iconst (v := 1) dX10_bulbs_45 (by decide) ?_
  refine ax_istore dX10_bulbs_46 (by decide) rfl ?_
  refine ax_for n (fun a N2 L => ∃ y6, N2 = M0 ∧ L = [some (av_r 90), some (av_i (nI n)), some (av_i (nI k)), some (av_i (nI (rn (bu_R n) n a))), some (av_i (fv 1 (rf (bu_R n) n a))), some (av_i (nI (a + 1))), y6]) 48 ?_ ?_ (i := 0) (by omega) ⟨_, rfl, rfl⟩
  · rintro a N2 L ha ⟨y6, rfl, rfl⟩ next
    refine ax_iload dX10_bulbs_48 rfl ?_
    refine ax_iload_n dX10_bulbs_50 rfl ?_
    refine ax_icmp_gt (tgt := 122) dX10_bulbs_51 (by decide) (fun hc => absurd ((nI_ltI (by omega) (by omega)).mp hc) (by omega)) (fun hc => ?_)
    refine ax_iconst (v := 1) dX10_bulbs_54 (by decide) ?_
    refine ax_istore dX10_bulbs_55 (by decide) rfl ?_
    refine ax_for n (fun b N3 L => N3 = N2 ∧ L = [some (av_r 90), some (av_i (nI n)), some (av_i (nI k)), some (av_i (nI (rn (bu_R n) n a + mt_cnt (bu_R n a) b))), some (av_i (fv 1 (rfx (bu_R n) (rf (bu_R n) n a) a b))), some (av_i (nI (a + 1))), some (av_i (nI (b + 1)))]) 57 ?_ ?_ (i := 0) (by omega) ⟨rfl, by rw [rfx_z]; rfl⟩
    · rintro b N3 L hb ⟨rfl, rfl⟩ next2
      have hcl : rn (bu_R n) n a + mt_cnt (bu_R n a) b < 2 ^ 31 := by
        have h1 := rn_le (bu_R n) n a
        have h2 := mt_cnt_le (bu_R n a) b
        have h3 : a * n ≤ 21 * 21 := Nat.mul_le_mul (by omega) (by omega)
        omega
      have off : bu_R n a b = false → ax_W l G kX10_bulbs (ax_FQ G (fun o M2 => rq M M2 o (qa_bulbs (nI n) (nI k)))) 3 0 0 N3 110 [some (av_r 90), some (av_i (nI n)), some (av_i (nI k)), some (av_i (nI (rn (bu_R n) n a + mt_cnt (bu_R n a) b))), some (av_i (fv 1 (rfx (bu_R n) (rf (bu_R n) n a) a b))), some (av_i (nI (a + 1))), some (av_i (nI (b + 1)))] [] := by
        intro hoff
        refine ax_iinc (v := 1) dX10_bulbs_110 rfl (by decide) (by decide) rfl ?_
        refine ax_goto (tgt := 57) dX10_bulbs_113 (by decide) ?_
        refine next2 _ _ ⟨rfl, ?_⟩
        rw [rf_stay hoff, mt_cnt_off hoff, nI_1]
        rfl
      refine ax_iload dX10_bulbs_57 rfl ?_
      refine ax_iload_n dX10_bulbs_59 rfl ?_
      refine ax_icmp_gt (tgt := 116) dX10_bulbs_60 (by decide) (fun hc => absurd ((nI_ltI (by omega) (by omega)).mp hc) (by omega)) (fun hc => ?_)
      refine ax_iload dX10_bulbs_63 rfl ?_
      refine ax_iload dX10_bulbs_65 rfl ?_
      refine ax_iload_n dX10_bulbs_67 rfl ?_
      refine ax_callS (As := _) (c1 := 0) (n1 := 0) (c_isBright (M := N3) hn (a := a + 1) (b := b + 1) rfl rfl rfl) dX10_bulbs_68 mX10_isBright wd_2102 rfl (by omega) (by omega) (by omega) rfl rfl (fun _ _ h => by cases h.1) ?_
      rintro r M9 ⟨h1, h9⟩; cases h1; rw [h9]; clear h9 M9
      refine ax_ifB_eq (tgt := 110) dX10_bulbs_71 (by decide) (fun hc => ?_) (fun hc => ?_)
      · exact off (by unfold bu_R; rw [mt_nf hc]; rfl)
      · have hc1 := hc
        refine ax_iload dX10_bulbs_74 rfl ?_
        refine ax_iload dX10_bulbs_76 rfl ?_
        refine ax_iload_n dX10_bulbs_78 rfl ?_
        refine ax_callS (As := _) (c1 := 0) (n1 := 0) (c_isBright (M := N3) hn (a := b + 1) (b := a + 1) rfl rfl rfl) dX10_bulbs_79 mX10_isBright wd_2102 rfl (by omega) (by omega) (by omega) rfl rfl (fun _ _ h => by cases h.1) ?_
        rintro r M9 ⟨h1, h9⟩; cases h1; rw [h9]; clear h9 M9
        refine ax_ifB_ne (tgt := 88) dX10_bulbs_82 (by decide) (fun hc => ?_) (fun hc => ?_)
        · have hR : bu_R n a b = true := by unfold bu_R; rw [hc1, hc]; rfl
          refine ax_iload_n dX10_bulbs_88 rfl ?_
          refine ax_join1 (rn (bu_R n) n a + mt_cnt (bu_R n a) b = 0) 105 (nI (100 * (a + 1) + (b + 1))) (fv 1 (rfx (bu_R n) (rf (bu_R n) n a) a b)) ?_ (fun ja jb => ?_)
          rotate_left
          · refine ax_if_ne (tgt := 103) dX10_bulbs_89 (by decide) (fun h89 => ?_) (fun h89 => ?_)
            · refine ax_iload dX10_bulbs_103 rfl ?_
              first | (rw [nx_100, pk_mul, nI_add]; exact ja ((nI_eq (b := 0) hcl (by omega)).mp h89)) | exact jb (fun z => h89 (by rw [z]; rfl))
            · refine ax_bipush (v := 100) dX10_bulbs_92 (by decide) ?_
              refine ax_iload dX10_bulbs_94 rfl ?_
              refine ax_imul dX10_bulbs_96 ?_
              refine ax_iload dX10_bulbs_97 rfl ?_
              refine ax_iadd dX10_bulbs_99 ?_
              refine ax_goto (tgt := 105) dX10_bulbs_100 (by decide) ?_
              first | (rw [nx_100, pk_mul, nI_add]; exact ja ((nI_eq (b := 0) hcl (by omega)).mp h89)) | exact jb (fun z => h89 (by rw [z]; rfl))
          refine ax_istore dX10_bulbs_105 (by decide) rfl ?_
          refine ax_iinc (v := 1) dX10_bulbs_107 rfl (by decide) (by decide) rfl ?_
          refine ax_iinc (v := 1) dX10_bulbs_110 rfl (by decide) (by decide) rfl ?_
          refine ax_goto (tgt := 57) dX10_bulbs_113 (by decide) ?_
          refine next2 _ _ ⟨rfl, ?_⟩
          rw [rf_step (rf_0 _ _ a) hR, nI_1, nI_1, mt_cnt_on hR]
          rfl
        · refine ax_goto (tgt := 110) dX10_bulbs_85 (by decide) ?_
          exact off (by unfold bu_R; rw [mt_nf hc, Bool.and_false])
    · rintro N3 L ⟨rfl, rfl⟩
      refine ax_iload dX10_bulbs_57 rfl ?_
      refine ax_iload_n dX10_bulbs_59 rfl ?_
      refine ax_icmp_gt (tgt := 116) dX10_bulbs_60 (by decide) (fun hc => ?_) (fun hc => absurd ((nI_ltI (by omega) (by omega)).mpr (by omega)) hc)
      refine ax_iinc (v := 1) dX10_bulbs_116 rfl (by decide) (by decide) rfl ?_
      refine ax_goto (tgt := 48) dX10_bulbs_119 (by decide) ?_
      exact next _ _ ⟨_, rfl, by rw [nI_1]; rfl⟩
  · rintro N2 L ⟨y6, rfl, rfl⟩
    refine ax_iload dX10_bulbs_48 rfl ?_
    refine ax_iload_n dX10_bulbs_50 rfl ?_
    refine ax_icmp_gt (tgt := 122) dX10_bulbs_51 (by decide) (fun hc => ?_) (fun hc => absurd ((nI_ltI (by omega) (by omega)).mpr (by omega)) hc)
    rcases (show k = 0 ∨ k = 1 ∨ k = 2 by omega) with rfl | rfl | rfl
    · refine ax_iload_n dX10_bulbs_122 rfl ?_
      refine ax_if_ne (tgt := 130) dX10_bulbs_123 (by decide) (fun h123 => ?_) (fun h123 => ?_)
      · exact absurd rfl h123
      · refine ax_iload_n dX10_bulbs_126 rfl ?_
        refine ax_goto (tgt := 177) dX10_bulbs_127 (by decide) ?_
        refine ax_iret dX10_bulbs_177 rfl ?_
        exact e _ rfl
    · refine ax_iload_n dX10_bulbs_122 rfl ?_
      refine ax_if_ne (tgt := 130) dX10_bulbs_123 (by decide) (fun h123 => ?_) (fun h123 => ?_)
      · refine ax_iload_n dX10_bulbs_130 rfl ?_
        refine ax_iconst (v := 1) dX10_bulbs_131 (by decide) ?_
        refine ax_icmp_ne (tgt := 140) dX10_bulbs_132 (by decide) (fun h132 => ?_) (fun h132 => ?_)
        · exact absurd rfl h132
        · refine ax_iload dX10_bulbs_135 rfl ?_
          refine ax_goto (tgt := 177) dX10_bulbs_137 (by decide) ?_
          refine ax_iret dX10_bulbs_177 rfl ?_
          exact e _ rfl
      · exact absurd h123 (by decide)
    · refine ax_iload_n dX10_bulbs_122 rfl ?_
      refine ax_if_ne (tgt := 130) dX10_bulbs_123 (by decide) (fun hc => ?_) (fun hc => ?_)
      · refine ax_iload_n dX10_bulbs_130 rfl ?_
        refine ax_iconst (v := 1) dX10_bulbs_131 (by decide) ?_
        refine ax_icmp_ne (tgt := 140) dX10_bulbs_132 (by decide) (fun hc => ?_) (fun hc => ?_)
        · refine ax_iload dX10_bulbs_140 rfl ?_
          refine ax_iconst (v := (-1)) dX10_bulbs_142 (by decide) ?_
          cases hf : rf (bu_R n) n n with
          | none =>
            refine ax_icmp_ne (tgt := 150) dX10_bulbs_143 (by decide) (fun hc => ?_) (fun hc => ?_)
            · exact absurd rfl hc
            · refine ax_iconst (v := 0) dX10_bulbs_146 (by decide) ?_
              refine ax_goto (tgt := 177) dX10_bulbs_147 (by decide) ?_
              refine ax_iret dX10_bulbs_177 rfl ?_
              exact e _ (by unfold qv_bulbs; rw [hf]; rfl)
          | some p =>
            obtain ⟨p1, p2⟩ := rf_le (bu_R n) n n (Nat.le_refl _) p hf
            have ev : fv 1 (some p) = nI (100 * (p.1 + 1) + (p.2 + 1)) := rfl
            rw [ev]
            have e1 : nI (100 * (p.1 + 1) + (p.2 + 1)) / 100 = nI (p.1 + 1) := by rw [nx_100, pk_div (by omega) (by omega) (by omega)]; congr 1; omega
            have e2 : nI (100 * (p.1 + 1) + (p.2 + 1)) - nI (100 * (p.1 + 1) + (p.2 + 1)) / 100 * 100 = nI (p.2 + 1) := by rw [nx_100, pk_rem (by omega) (by omega) (by omega)]; congr 1; omega
            refine ax_icmp_ne (tgt := 150) dX10_bulbs_143 (by decide) (fun hc => ?_) (fun hc => ?_)
            · refine ax_iload dX10_bulbs_150 rfl ?_
              refine ax_bipush (v := 100) dX10_bulbs_152 (by decide) ?_
              refine ax_idiv dX10_bulbs_154 (by decide) ?_
              refine ax_iload dX10_bulbs_155 rfl ?_
              refine ax_bipush (v := 100) dX10_bulbs_157 (by decide) ?_
              refine ax_irem dX10_bulbs_159 (by decide) ?_
              rw [e2, e1]
              refine ax_callS (As := _) (c1 := 0) (n1 := 0) (c_X10_getsBy (M := N2) _ _) dX10_bulbs_160 mX10_getsBy wd_2095 rfl (by omega) (by omega) (by omega) rfl rfl (fun _ _ h => by cases h.1) ?_
              rintro r M9 ⟨h1, h9⟩; cases h1; rw [h9]; clear h9 M9
              refine ax_iload dX10_bulbs_163 rfl ?_
              refine ax_bipush (v := 100) dX10_bulbs_165 (by decide) ?_
              refine ax_irem dX10_bulbs_167 (by decide) ?_
              refine ax_iload dX10_bulbs_168 rfl ?_
              refine ax_bipush (v := 100) dX10_bulbs_170 (by decide) ?_
              refine ax_idiv dX10_bulbs_172 (by decide) ?_
              rw [e2, e1]
              refine ax_callS (As := _) (c1 := 0) (n1 := 0) (c_X10_getsBy (M := N2) _ _) dX10_bulbs_173 mX10_getsBy wd_2095 rfl (by omega) (by omega) (by omega) rfl rfl (fun _ _ h => by cases h.1) ?_
              rintro r M9 ⟨h1, h9⟩; cases h1; rw [h9]; clear h9 M9
              refine ax_iadd dX10_bulbs_176 ?_
              refine ax_iret dX10_bulbs_177 rfl ?_
              exact e _ (by unfold qv_bulbs; rw [hf]; rfl)
            · exact absurd hc (nI_m1 (by omega))
        · exact absurd hc (by decide)
      · exact absurd hc (by decide)
theorem c_power {d : Nat} (a : Int64) {n : Nat} (hn : n ≤ 100) {x : Int32} (hx : x = nI n) : ax_Met l G kX10_power d 0 0 M [av_l a, av_i x] (ax_p (av_l (pw a n)) M) := by
  subst hx
  refine ax_body (by decide) (Nat.le_of_ble_eq_true rfl) ?_
  refine ax_lconst (v := 1) dX10_power_0 (by decide) ?_
  refine ax_lstore_n dX10_power_1 (by decide) rfl ?_
  refine ax_iconst (v := 0) dX10_power_2 (by decide) ?_
  refine ax_istore dX10_power_3 (by decide) rfl ?_
  refine ax_for n (fun q N L => N = M ∧ L = [some (av_l a), none, some (av_i (nI n)), some (av_l (pw a q)), none, some (av_i (nI q))]) 5 ?_ ?_ (i := 0) (by omega) ⟨rfl, rfl⟩
  · rintro q N L hq ⟨rfl, rfl⟩ next
    refine ax_iload dX10_power_5 rfl ?_
    refine ax_iload_n dX10_power_7 rfl ?_
    refine ax_icmp_ge (tgt := 21) dX10_power_8 (by decide) (fun hc => absurd ((nI_leI (by omega) (by omega)).mp hc) (by omega)) (fun hc => ?_)
    refine ax_lload_n dX10_power_11 rfl ?_
    refine ax_lload_n dX10_power_12 rfl ?_
    refine ax_lmul dX10_power_13 ?_
    refine ax_lstore_n dX10_power_14 (by decide) rfl ?_
    refine ax_iinc (v := 1) dX10_power_15 rfl (by decide) (by decide) rfl ?_
    refine ax_goto (tgt := 5) dX10_power_18 (by decide) ?_
    exact next _ _ ⟨rfl, by rw [nI_1]; rfl⟩
  · rintro N L ⟨rfl, rfl⟩
    refine ax_iload dX10_power_5 rfl ?_
    refine ax_iload_n dX10_power_7 rfl ?_
    refine ax_icmp_ge (tgt := 21) dX10_power_8 (by decide) (fun hc => ?_) (fun hc => absurd ((nI_leI (by omega) (by omega)).mpr (by omega)) hc)
    refine ax_lload_n dX10_power_21 rfl ?_
    refine ax_lret dX10_power_22 rfl ?_
    exact ⟨rfl, rfl⟩
theorem c_loaded (hok : lo_ok M.2) (hr : rr M r) (f n k p : Int32) : ax_Met l G kX10_loaded 2 0 0 M [av_r 90, av_i f, av_i n, av_i k, av_i p] (fun o M2 => rql M M2 o (qa_loaded f n k p)) := by
  refine ax_body (by decide) (Nat.le_of_ble_eq_true rfl) ?_
  refine ax_aload_n dX10_loaded_0 rfl ?_
  refine ax_iconst (v := 0) dX10_loaded_1 (by decide) ?_
  refine ax_putI (f := 0) dX10_loaded_2 acl_10 wd_1600 (by decide) rfl rfl (ax_nfI rfl) (lo_s hok 90 rfl) ?_
  refine ax_gen (fun M0 hM0 => ?_)
  have hok : lo_ok M0.2 := by rw [hM0]; exact hok
  have hr0 : rr M0 r := by rw [hM0]; exact rr_fr hr (fun n i q => ax_pn (by omega))
  have h00 : M0.1 90 0 = 0 := by rw [hM0, ax_pa]
  refine ax_aload_n dX10_loaded_5 rfl ?_
  refine ax_join0 (¬ (0 ≤ f ∧ f ≤ 16) ∨ ¬ (0 ≤ n ∧ n ≤ 6) ∨ ¬ (0 ≤ k ∧ k ≤ n) ∨ ¬ (0 ≤ p ∧ p ≤ 1)) 50 (1) (0) ?_ (fun ja jb => ?_)
  rotate_left
  · refine ax_iload_n dX10_loaded_6 rfl ?_
    refine ax_iconst (v := 0) dX10_loaded_7 (by decide) ?_
    refine ax_bipush (v := 16) dX10_loaded_8 (by decide) ?_
    refine ax_callS (As := _) (c1 := 0) (n1 := 0) (c_X10_in (d := 0) (M := M0) _ _ _) dX10_loaded_10 mX10_in wd_1772 rfl (by omega) (by omega) (by omega) rfl rfl (fun _ _ h => by cases h.1) ?_
    rintro r M9 ⟨h1, h9⟩; cases h1; rw [h9]; clear h9 M9
    refine ax_ifB_eq (tgt := 45) dX10_loaded_13 (by decide) (fun h13 => ?_) (fun h13 => ?_)
    · refine ax_iconst (v := 1) dX10_loaded_45 (by decide) ?_
      refine ax_goto (tgt := 50) dX10_loaded_46 (by decide) ?_
      first | (refine ja ?_; simp only [h13, and_self, and_true, true_and, not_true_eq_false, not_false_eq_true, or_true, true_or, or_false, false_or, or_self]; done) | (refine jb ?_; simp only [h13, and_self, and_true, true_and, not_true_eq_false, not_false_eq_true, or_true, true_or, or_false, false_or, or_self]; done) | exact ja h13 | exact jb (fun z => z h13) | exact ja (Or.inr h13) | exact ja (Or.inl h13)
    · refine ax_iload_n dX10_loaded_16 rfl ?_
      refine ax_iconst (v := 0) dX10_loaded_17 (by decide) ?_
      refine ax_bipush (v := 6) dX10_loaded_18 (by decide) ?_
      refine ax_callS (As := _) (c1 := 0) (n1 := 0) (c_X10_in (d := 0) (M := M0) _ _ _) dX10_loaded_20 mX10_in wd_1772 rfl (by omega) (by omega) (by omega) rfl rfl (fun _ _ h => by cases h.1) ?_
      rintro r M9 ⟨h1, h9⟩; cases h1; rw [h9]; clear h9 M9
      refine ax_ifB_eq (tgt := 45) dX10_loaded_23 (by decide) (fun h23 => ?_) (fun h23 => ?_)
      · refine ax_iconst (v := 1) dX10_loaded_45 (by decide) ?_
        refine ax_goto (tgt := 50) dX10_loaded_46 (by decide) ?_
        first | (refine ja ?_; simp only [h13, h23, and_self, and_true, true_and, not_true_eq_false, not_false_eq_true, or_true, true_or, or_false, false_or, or_self]; done) | (refine jb ?_; simp only [h13, h23, and_self, and_true, true_and, not_true_eq_false, not_false_eq_true, or_true, true_or, or_false, false_or, or_self]; done) | exact ja h23 | exact jb (fun z => z h23) | exact ja (Or.inr h23) | exact ja (Or.inl h23)
      · refine ax_iload_n dX10_loaded_26 rfl ?_
        refine ax_iconst (v := 0) dX10_loaded_27 (by decide) ?_
        refine ax_iload_n dX10_loaded_28 rfl ?_
        refine ax_callS (As := _) (c1 := 0) (n1 := 0) (c_X10_in (d := 0) (M := M0) _ _ _) dX10_loaded_29 mX10_in wd_1772 rfl (by omega) (by omega) (by omega) rfl rfl (fun _ _ h => by cases h.1) ?_
        rintro r M9 ⟨h1, h9⟩; cases h1; rw [h9]; clear h9 M9
        refine ax_ifB_eq (tgt := 45) dX10_loaded_32 (by decide) (fun h32 => ?_) (fun h32 => ?_)
        · refine ax_iconst (v := 1) dX10_loaded_45 (by decide) ?_
          refine ax_goto (tgt := 50) dX10_loaded_46 (by decide) ?_
          first | (refine ja ?_; simp only [h13, h23, h32, and_self, and_true, true_and, not_true_eq_false, not_false_eq_true, or_true, true_or, or_false, false_or, or_self]; done) | (refine jb ?_; simp only [h13, h23, h32, and_self, and_true, true_and, not_true_eq_false, not_false_eq_true, or_true, true_or, or_false, false_or, or_self]; done) | exact ja h32 | exact jb (fun z => z h32) | exact ja (Or.inr h32) | exact ja (Or.inl h32)
        · refine ax_iload dX10_loaded_35 rfl ?_
          refine ax_iconst (v := 0) dX10_loaded_37 (by decide) ?_
          refine ax_iconst (v := 1) dX10_loaded_38 (by decide) ?_
          refine ax_callS (As := _) (c1 := 0) (n1 := 0) (c_X10_in (d := 0) (M := M0) _ _ _) dX10_loaded_39 mX10_in wd_1772 rfl (by omega) (by omega) (by omega) rfl rfl (fun _ _ h => by cases h.1) ?_
          rintro r M9 ⟨h1, h9⟩; cases h1; rw [h9]; clear h9 M9
          refine ax_ifB_ne (tgt := 49) dX10_loaded_42 (by decide) (fun h42 => ?_) (fun h42 => ?_)
          · refine ax_iconst (v := 0) dX10_loaded_49 (by decide) ?_
            first | (refine ja ?_; simp only [h13, h23, h32, h42, and_self, and_true, true_and, not_true_eq_false, not_false_eq_true, or_true, true_or, or_false, false_or, or_self]; done) | (refine jb ?_; simp only [h13, h23, h32, h42, and_self, and_true, true_and, not_true_eq_false, not_false_eq_true, or_true, true_or, or_false, false_or, or_self]; done) | exact ja h42 | exact jb (fun z => z h42) | exact ja (Or.inr h42) | exact ja (Or.inl h42)
          · refine ax_iconst (v := 1) dX10_loaded_45 (by decide) ?_
            refine ax_goto (tgt := 50) dX10_loaded_46 (by decide) ?_
            first | (refine ja ?_; simp only [h13, h23, h32, h42, and_self, and_true, true_and, not_true_eq_false, not_false_eq_true, or_true, true_or, or_false, false_or, or_self]; done) | (refine jb ?_; simp only [h13, h23, h32, h42, and_self, and_true, true_and, not_true_eq_false, not_false_eq_true, or_true, true_or, or_false, false_or, or_self]; done) | exact ja h42 | exact jb (fun z => z h42) | exact ja (Or.inr h42) | exact ja (Or.inl h42)
  refine ax_iconst (v := 1) dX10_loaded_50 (by decide) ?_
  refine ax_iconst (v := 1) dX10_loaded_51 (by decide) ?_
  refine ax_callV (As := _) (d2 := _) (c1 := 0) (n1 := 0) (c_badP (d := 0) (M := M0) (p := ¬ (0 ≤ f ∧ f ≤ 16) ∨ ¬ (0 ≤ n ∧ n ≤ 6) ∨ ¬ (0 ≤ k ∧ k ≤ n) ∨ ¬ (0 ≤ p ∧ p ≤ 1)) hok h00 (w := 1) (k := 1) (by decide) (by decide) (by decide) rfl rfl) dX10_loaded_52 mX10_bad wd_1775 acl_10 (lo_s hok 90 rfl) rfl (by omega) (by omega) (by omega) rfl rfl (fun _ _ h => by rcases h with ⟨_, h, _⟩ | ⟨_, h, _⟩ <;> cases h) ?_
  rintro o9 M9 (⟨g1, h1, h2⟩ | ⟨g1, h1, h2⟩) <;> cases h1 <;> rw [h2] <;> clear h2 M9
  · refine ax_if_eq (tgt := 60) dX10_loaded_55 (by decide) (fun hc => ?_) (fun hc => ?_)
    · exact absurd hc (by decide)
    · refine ax_lconst (v := 0) dX10_loaded_58 (by decide) ?_
      refine ax_lret dX10_loaded_59 rfl ?_
      exact rql_bad hM0 (w := 1) (k := 1) rfl (by unfold qa_loaded; rw [if_pos g1])
  refine ax_if_eq (tgt := 60) dX10_loaded_55 (by decide) (fun hc => ?_) (fun hc => ?_)
  rotate_left
  · exact absurd rfl hc
  obtain ⟨f, hf, rfl⟩ := in_nat (dn (fun z => g1 (Or.inl z))) (n := 16) rfl (by decide)
  obtain ⟨n, hn, rfl⟩ := in_nat (dn (fun z => g1 (Or.inr (Or.inl z)))) (n := 6) rfl (by decide)
  obtain ⟨k, hk, rfl⟩ := in_nat (dn (fun z => g1 (Or.inr (Or.inr (Or.inl z))))) (n := n) rfl (by omega)
  obtain ⟨p, hp, rfl⟩ := in_nat (dn (fun z => g1 (Or.inr (Or.inr (Or.inr z))))) (n := 1) rfl (by decide)
  have hfin := ld_fin f (by omega) n (by omega) k (by omega)
  have e : ∀ v, v = qv_loaded f n k p → rql M M0 (.inl (some (av_l v))) (qa_loaded (nI f) (nI n) (nI k) (nI p)) := fun v hv => rql_sf hM0 (sf_0 _) (by unfold qa_loaded; rw [if_neg g1, nI_clamp (by omega), nI_clamp (by omega), nI_clamp (by omega), nI_clamp (by omega), hv])
  have loop : ∀ (m : Nat) (a b : Int64) (y13 y14 : Option ax_V), gd m a b = gd 30 (ld_l f n k) (ld_u f n k) → ax_W l G kX10_loaded (ax_FQ G (fun o M2 => rql M M2 o (qa_loaded (nI f) (nI n) (nI k) (nI p)))) 2 0 0 M0 118 [some (av_r 90), some (av_i (nI f)), some (av_i (nI n)), some (av_i (nI k)), some (av_i (nI p)), some (av_l (ld_u f n k)), none, some (av_l (ld_l f n k)), none, some (av_l a), none, some (av_l b), none, y13, y14] [] := by
    have tail : ∀ (a b : Int64) (y13 y14 : Option ax_V), a = (gd 30 (ld_l f n k) (ld_u f n k)).1 → ax_W l G kX10_loaded (ax_FQ G (fun o M2 => rql M M2 o (qa_loaded (nI f) (nI n) (nI k) (nI p)))) 2 0 0 M0 143 [some (av_r 90), some (av_i (nI f)), some (av_i (nI n)), some (av_i (nI k)), some (av_i (nI p)), some (av_l (ld_u f n k)), none, some (av_l (ld_l f n k)), none, some (av_l a), none, some (av_l b), none, y13, y14] [] := by
      intro a b y13 y14 ha
      have ha0 : ¬ a = 0 := by rw [ha]; exact hfin.2
      have hp0 : nI p = 0 ↔ p = 0 := nI_eq (b := 0) (by omega) (by omega)
      refine ax_iload dX10_loaded_143 rfl ?_
      refine ax_if_ne (tgt := 156) dX10_loaded_145 (by decide) (fun hc => ?_) (fun hc => ?_)
      · refine ax_lload dX10_loaded_156 rfl ?_
        refine ax_lload dX10_loaded_158 rfl ?_
        refine ax_ldiv dX10_loaded_160 ha0 ?_
        refine ax_lret dX10_loaded_161 rfl ?_
        refine e _ ?_
        unfold qv_loaded; rw [if_neg (fun z => hc (hp0.mpr z)), ha]
      · refine ax_lload dX10_loaded_148 rfl ?_
        refine ax_lload dX10_loaded_150 rfl ?_
        refine ax_ldiv dX10_loaded_152 ha0 ?_
        refine ax_goto (tgt := 161) dX10_loaded_153 (by decide) ?_
        refine ax_lret dX10_loaded_161 rfl ?_
        refine e _ ?_
        unfold qv_loaded; rw [if_pos (hp0.mp hc), ha]
    intro m
    induction m with
    | zero =>
      intro a b y13 y14 hg
      have hg1 : (a, b) = gd 30 (ld_l f n k) (ld_u f n k) := hg
      have hb : b = 0 := by have := hfin.1; rw [← hg1] at this; exact this
      refine ax_lload dX10_loaded_118 rfl ?_
      refine ax_lconst (v := 0) dX10_loaded_120 (by decide) ?_
      refine ax_lcmp dX10_loaded_121 ?_
      refine ax_if_eq (tgt := 143) dX10_loaded_122 (by decide) (fun hc => ?_) (fun hc => ?_)
      · exact tail a b y13 y14 (by rw [← hg1])
      · exact absurd ((lg_cmp_eq _ _).mpr hb) hc
    | succ m ih =>
      intro a b y13 y14 hg
      refine ax_lload dX10_loaded_118 rfl ?_
      refine ax_lconst (v := 0) dX10_loaded_120 (by decide) ?_
      refine ax_lcmp dX10_loaded_121 ?_
      refine ax_if_eq (tgt := 143) dX10_loaded_122 (by decide) (fun hc => ?_) (fun hc => ?_)
      · have hb : b = 0 := (lg_cmp_eq _ _).mp hc
        have hg1 : (a, b) = gd 30 (ld_l f n k) (ld_u f n k) := by rw [← hg]; exact (if_pos hb).symm
        exact tail a b y13 y14 (by rw [← hg1])
      · have hb : ¬ b = 0 := fun z => hc ((lg_cmp_eq _ _).mpr z)
        refine ax_lload dX10_loaded_125 rfl ?_
        refine ax_lload dX10_loaded_127 rfl ?_
        refine ax_lrem dX10_loaded_129 hb ?_
        refine ax_lstore dX10_loaded_130 (by decide) rfl ?_
        refine ax_lload dX10_loaded_132 rfl ?_
        refine ax_lstore dX10_loaded_134 (by decide) rfl ?_
        refine ax_lload dX10_loaded_136 rfl ?_
        refine ax_lstore dX10_loaded_138 (by decide) rfl ?_
        refine ax_goto (tgt := 118) dX10_loaded_140 (by decide) ?_
        refine ih _ _ _ _ ?_
        rw [← hg]
        exact (if_neg hb).symm
  have enk : nI n - nI k = nI (n - k) := pk_sub (by omega)
  refine ax_iload_n dX10_loaded_60 rfl ?_
  refine ax_i2l dX10_loaded_61 ?_
  refine ax_ldc2 dX10_loaded_62 wd_2072 ?_
  refine ax_iload_n dX10_loaded_65 rfl ?_
  refine ax_callS (As := _) (c1 := 0) (n1 := 0) (c_power (d := 0) (M := M0) _ (n := k) (by omega) rfl) dX10_loaded_66 mX10_power wd_2073 rfl (by omega) (by omega) (by omega) rfl rfl (fun _ _ h => by cases h.1) ?_
  rintro r M9 ⟨h1, h9⟩; cases h1; rw [h9]; clear h9 M9
  refine ax_lmul dX10_loaded_69 ?_
  refine ax_ldc2 dX10_loaded_70 wd_2076 ?_
  refine ax_iload_n dX10_loaded_73 rfl ?_
  refine ax_iload_n dX10_loaded_74 rfl ?_
  refine ax_isub dX10_loaded_75 ?_
  rw [enk]
  refine ax_callS (As := _) (c1 := 0) (n1 := 0) (c_power (d := 0) (M := M0) _ (n := n - k) (by omega) rfl) dX10_loaded_76 mX10_power wd_2073 rfl (by omega) (by omega) (by omega) rfl rfl (fun _ _ h => by cases h.1) ?_
  rintro r M9 ⟨h1, h9⟩; cases h1; rw [h9]; clear h9 M9
  refine ax_lmul dX10_loaded_79 ?_
  refine ax_lstore dX10_loaded_80 (by decide) rfl ?_
  refine ax_lload dX10_loaded_82 rfl ?_
  refine ax_bipush (v := 16) dX10_loaded_84 (by decide) ?_
  refine ax_iload_n dX10_loaded_86 rfl ?_
  refine ax_isub dX10_loaded_87 ?_
  refine ax_i2l dX10_loaded_88 ?_
  refine ax_ldc2 dX10_loaded_89 wd_2077 ?_
  refine ax_iload_n dX10_loaded_92 rfl ?_
  refine ax_callS (As := _) (c1 := 0) (n1 := 0) (c_power (d := 0) (M := M0) _ (n := k) (by omega) rfl) dX10_loaded_93 mX10_power wd_2073 rfl (by omega) (by omega) (by omega) rfl rfl (fun _ _ h => by cases h.1) ?_
  rintro r M9 ⟨h1, h9⟩; cases h1; rw [h9]; clear h9 M9
  refine ax_lmul dX10_loaded_96 ?_
  refine ax_ldc2 dX10_loaded_97 wd_2078 ?_
  refine ax_iload_n dX10_loaded_100 rfl ?_
  refine ax_iload_n dX10_loaded_101 rfl ?_
  refine ax_isub dX10_loaded_102 ?_
  rw [enk]
  refine ax_callS (As := _) (c1 := 0) (n1 := 0) (c_power (d := 0) (M := M0) _ (n := n - k) (by omega) rfl) dX10_loaded_103 mX10_power wd_2073 rfl (by omega) (by omega) (by omega) rfl rfl (fun _ _ h => by cases h.1) ?_
  rintro r M9 ⟨h1, h9⟩; cases h1; rw [h9]; clear h9 M9
  refine ax_lmul dX10_loaded_106 ?_
  refine ax_ladd dX10_loaded_107 ?_
  refine ax_lstore dX10_loaded_108 (by decide) rfl ?_
  refine ax_lload dX10_loaded_110 rfl ?_
  refine ax_lstore dX10_loaded_112 (by decide) rfl ?_
  refine ax_lload dX10_loaded_114 rfl ?_
  refine ax_lstore dX10_loaded_116 (by decide) rfl ?_
  exact loop 30 _ _ _ _ rfl
end QF

