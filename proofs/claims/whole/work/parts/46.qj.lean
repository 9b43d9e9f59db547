/-! ===== dips, gaps, clear, paces, finds: the reference ===== -/
def dp_0 (r : Nat → Int) (lw : mt_L) (c t : Nat) : Bool := mt_on r c t && decide (mt_f r lw mt_n c t = 0)
def dp_1 (r : Nat → Int) (lw : mt_L) (c t : Nat) : Bool := mt_on r c t && (decide (mt_f r lw mt_n c t = 1) && (mt_first (dp_0 r lw c) t).isSome)
def qv_dips (r : Nat → Int) (lw : mt_L) (c k : Nat) : Int32 := if k = 0 then mt_sb (mt_first (dp_0 r lw c) (mt_T r)) else mt_sb (mt_first (dp_1 r lw c) (mt_T r))
def qa_dips (r : Nat → Int) (lw : mt_L) (x y : Int32) : ax_V ⊕ (Nat × Nat) := if ¬ (0 ≤ x ∧ x ≤ iI (r 1) - 1) then .inr (1, 0) else if ¬ (0 ≤ y ∧ y ≤ 1) then .inr (2, 1) else .inl (av_i (qv_dips r lw x.toNatClampNeg y.toNatClampNeg))
/-- longest row, where it began, the row now -/
def gp (p : Nat → Bool) : Nat → Nat × Int32 × Nat
  | 0 => (0, -1, 0)
  | t + 1 => if (gp p t).1 < (if p t = true then (gp p t).2.2 + 1 else 0) then ((if p t = true then (gp p t).2.2 + 1 else 0), nI t - nI (if p t = true then (gp p t).2.2 + 1 else 0) + 1, (if p t = true then (gp p t).2.2 + 1 else 0)) else ((gp p t).1, (gp p t).2.1, (if p t = true then (gp p t).2.2 + 1 else 0))
theorem gp_le (p : Nat → Bool) : ∀ t, (gp p t).1 ≤ t ∧ (gp p t).2.2 ≤ t
  | 0 => ⟨Nat.le_refl _, Nat.le_refl _⟩
  | t + 1 => by
    have ih := gp_le p t
    unfold gp
    by_cases q : p t = true
    · rw [if_pos q]; split
      · exact ⟨by show (gp p t).2.2 + 1 ≤ t + 1; omega, by show (gp p t).2.2 + 1 ≤ t + 1; omega⟩
      · exact ⟨by show (gp p t).1 ≤ t + 1; omega, by show (gp p t).2.2 + 1 ≤ t + 1; omega⟩
    · rw [if_neg q]; split
      · exact ⟨by show 0 ≤ t + 1; omega, by show 0 ≤ t + 1; omega⟩
      · exact ⟨by show (gp p t).1 ≤ t + 1; omega, by show 0 ≤ t + 1; omega⟩
def qv_gap (r : Nat → Int) (lw : mt_L) (c k : Nat) : Int32 := if k = 0 then nI (gp (mt_un r lw mt_n c) (mt_T r)).1 else (gp (mt_un r lw mt_n c) (mt_T r)).2.1
def qa_gap (r : Nat → Int) (lw : mt_L) (x y : Int32) : ax_V ⊕ (Nat × Nat) := if ¬ (0 ≤ x ∧ x ≤ iI (r 1) - 1) then .inr (1, 0) else if ¬ (0 ≤ y ∧ y ≤ 1) then .inr (2, 1) else .inl (av_i (qv_gap r lw x.toNatClampNeg y.toNatClampNeg))
/-- other fog -/
def fg (r : Nat → Int) (f : Int) (i : Nat) : Int := if i = 34 then f else r i
def pl (p : Nat → Bool) : Nat → Int32
  | 0 => -1
  | n + 1 => if p n = true then nI n else pl p n
def cl_p (r : Nat → Int) (lw : mt_L) (c f : Nat) : Bool := decide (mt_hit (fg r (f : Int)) lw mt_n c (mt_T (fg r (f : Int))) = 0)
def qa_clear (r : Nat → Int) (lw : mt_L) (x : Int32) : ax_V ⊕ (Nat × Nat) := if ¬ (0 ≤ x ∧ x ≤ iI (r 1) - 1) then .inr (1, 0) else .inl (av_i (pl (cl_p r lw x.toNatClampNeg) 10))
theorem fg_ok {r : Nat → Int} (ho : rd_ok r) {f : Int} (hf : 0 ≤ f ∧ f ≤ 9) : rd_ok (fg r f) := by
  have e : ∀ i, i ≠ 34 → fg r f i = r i := fun i h => if_neg h
  have e34 : fg r f 34 = f := if_pos rfl
  obtain ⟨h1, h2, h3, h4, h5⟩ := ho
  refine ⟨?_, fun c hc2 => ?_, fun k hk => ?_, fun k hk => ?_, fun k hk => ?_⟩
  · rw [e 0 (by decide), e 1 (by decide), e 2 (by decide), e 3 (by decide), e 4 (by decide), e 5 (by decide), e 6 (by decide), e34, e 35 (by decide)]; omega
  · have := h2 c hc2
    unfold rd_oc at this ⊢
    rw [e (10 + 2 * c) (by omega), e (11 + 2 * c) (by omega), e (40 + c) (by omega), e 1 (by decide)]
    exact this
  · rw [e 0 (by decide), e 2 (by decide), e (14 + 2 * k) (by omega), e (15 + 2 * k) (by omega)]; exact h3 k hk
  · rw [e (50 + k) (by omega), e 3 (by decide), e 0 (by decide)]; exact h4 k hk
  · rw [e (60 + 2 * k) (by omega), e (61 + 2 * k) (by omega), e 4 (by decide), e 0 (by decide)]; exact h5 k hk
/-- other paces -/
def pc2 (r : Nat → Int) (a b : Int) (i : Nat) : Int := if i = 10 then a else if i = 12 then b else r i
theorem pc2_ok {r : Nat → Int} (ho : rd_ok r) {a b : Int} (ha : 1 ≤ a ∧ a ≤ 3) (hb : 1 ≤ b ∧ b ≤ 3) : rd_ok (pc2 r a b) := by
  have e : ∀ i, i ≠ 10 → i ≠ 12 → pc2 r a b i = r i := fun i h h' => by unfold pc2; rw [if_neg h, if_neg h']
  have e10 : pc2 r a b 10 = a := if_pos rfl
  have e12 : pc2 r a b 12 = b := rfl
  obtain ⟨h1, h2, h3, h4, h5⟩ := ho
  refine ⟨?_, fun c hc2 => ?_, fun k hk => ?_, fun k hk => ?_, fun k hk => ?_⟩
  · rw [e 0 (by decide) (by decide), e 1 (by decide) (by decide), e 2 (by decide) (by decide), e 3 (by decide) (by decide), e 4 (by decide) (by decide), e 5 (by decide) (by decide), e 6 (by decide) (by decide), e 34 (by decide) (by decide), e 35 (by decide) (by decide)]; exact h1
  · have := h2 c hc2
    unfold rd_oc at this ⊢
    rw [e (11 + 2 * c) (by omega) (by omega), e (40 + c) (by omega) (by omega), e 1 (by decide) (by decide)]
    rcases (show c = 0 ∨ c = 1 by omega) with rfl | rfl
    · rw [show 10 + 2 * 0 = 10 from rfl, e10]
      exact ⟨by omega, by omega, this.2.2.1, this.2.2.2.1, this.2.2.2.2.1, this.2.2.2.2.2.1, fun z => ⟨by omega, (this.2.2.2.2.2.2 z).2⟩⟩
    · rw [show 10 + 2 * 1 = 12 from rfl, e12]
      exact ⟨by omega, by omega, this.2.2.1, this.2.2.2.1, this.2.2.2.2.1, this.2.2.2.2.2.1, fun z => ⟨by omega, (this.2.2.2.2.2.2 z).2⟩⟩
  · rw [e 0 (by decide) (by decide), e 2 (by decide) (by decide), e (14 + 2 * k) (by omega) (by omega), e (15 + 2 * k) (by omega) (by omega)]; exact h3 k hk
  · rw [e (50 + k) (by omega) (by omega), e 3 (by decide) (by decide), e 0 (by decide) (by decide)]; exact h4 k hk
  · rw [e (60 + 2 * k) (by omega) (by omega), e (61 + 2 * k) (by omega) (by omega), e 4 (by decide) (by decide), e 0 (by decide) (by decide)]; exact h5 k hk
def ps_v (r : Nat → Int) (lw : mt_L) (a b : Nat) : Nat := mt_hn (pc2 r (a : Int) (b : Int)) lw mt_n 0 + mt_hn (pc2 r (a : Int) (b : Int)) lw mt_n 1
/-- is (a, b) better than p -/
def ps_lt (v : Nat → Nat → Nat) (a b : Nat) (p : Nat × Nat) : Bool := decide (v a b < v p.1 p.2) || (decide (v a b = v p.1 p.2) && decide (p.1 + p.2 < a + b))
def ps_r (v : Nat → Nat → Nat) (a : Nat) (st : Nat × Nat) : Nat → Nat × Nat
  | 0 => st
  | j + 1 => if ps_lt v a (j + 1) (ps_r v a st j) = true then (a, j + 1) else ps_r v a st j
def ps_a (v : Nat → Nat → Nat) : Nat → Nat × Nat
  | 0 => (1, 1)
  | i + 1 => ps_r v (i + 1) (ps_a v i) 3
theorem ps_r_le {v : Nat → Nat → Nat} {a : Nat} {st : Nat × Nat} (h : st.1 ≤ 3 ∧ st.2 ≤ 3) (ha : a ≤ 3) : ∀ j, j ≤ 3 → (ps_r v a st j).1 ≤ 3 ∧ (ps_r v a st j).2 ≤ 3
  | 0, _ => h
  | j + 1, hj => by
    have ih := ps_r_le (v := v) h ha j (by omega)
    unfold ps_r
    split
    · exact ⟨ha, by show j + 1 ≤ 3; omega⟩
    · exact ih
theorem ps_a_le (v : Nat → Nat → Nat) : ∀ i, i ≤ 3 → (ps_a v i).1 ≤ 3 ∧ (ps_a v i).2 ≤ 3
  | 0, _ => ⟨by show 1 ≤ 3; decide, by show 1 ≤ 3; decide⟩
  | i + 1, hi => ps_r_le (ps_a_le v i (by omega)) (by omega) 3 (by omega)
def qv_paces (r : Nat → Int) (lw : mt_L) (k : Nat) : Int32 := if k = 0 then nI (10 * (ps_a (ps_v r lw) 3).1 + (ps_a (ps_v r lw) 3).2) else nI (ps_v r lw (ps_a (ps_v r lw) 3).1 (ps_a (ps_v r lw) 3).2)
def qa_paces (r : Nat → Int) (lw : mt_L) (x : Int32) : ax_V ⊕ (Nat × Nat) := if ¬ (0 ≤ x ∧ x ≤ 1) then .inr (1, 1) else if r 1 < 2 then .inr (2, 2) else .inl (av_i (qv_paces r lw x.toNatClampNeg))
def fd (s : Nat → Option Nat) : Nat → Option (Nat × Nat)
  | 0 => none
  | c + 1 => match s c with
    | none => fd s c
    | some u => match fd s c with
      | none => some (c, u)
      | some p => if u < p.2 then some (c, u) else some p
def qv_finds (s : Nat → Option Nat) (n k : Nat) : Int32 := match fd s n with
  | none => -1
  | some p => if k = 0 then nI p.1 else nI p.2
def qa_finds (r : Nat → Int) (lw : mt_L) (x y : Int32) : ax_V ⊕ (Nat × Nat) := if ¬ (0 ≤ x ∧ x ≤ iI (r 2) - 1) then .inr (1, 0) else if ¬ (0 ≤ y ∧ y ≤ 1) then .inr (2, 1) else .inl (av_i (qv_finds (fun c => mt_sk r lw mt_n c x.toNatClampNeg (mt_T r)) (r 1).toNat y.toNatClampNeg))
theorem mt_hn_le (r : Nat → Int) (lw : mt_L) (d : Nat → Int32) (c : Nat) : mt_hn r lw d c ≤ 10 := mt_cnt_le _ 10
section QJ
variable {l : Launch} {G : ax_G} {M : ax_M} {r : Nat → Int} {lw : mt_L}
theorem c_dips (hok : lo_ok M.2) (hr : rr M r) (ho : rd_ok r) (hl : ∀ w, w < 3 → ml_law M w (lw w)) (x y : Int32) : ax_Met l G kX10_dips 8 0 0 M [av_r 90, av_i x, av_i y] (fun o M2 => rq M M2 o (qa_dips r lw x y)) := by
  have h9 := ho.1
  have hTT := mt_T_le r
  refine ax_body (by decide) (Nat.le_of_ble_eq_true rfl) ?_
  refine ax_aload_n dX10_dips_0 rfl ?_
  refine ax_iconst (v := 0) dX10_dips_1 (by decide) ?_
  refine ax_putI (f := 0) dX10_dips_2 acl_10 wd_1600 (by decide) rfl rfl (ax_nfI rfl) (lo_s hok 90 rfl) ?_
  refine ax_gen (fun M0 hM0 => ?_)
  have hok : lo_ok M0.2 := by rw [hM0]; exact hok
  have hr0 : rr M0 r := by rw [hM0]; exact rr_fr hr (fun n i q => ax_pn (by omega))
  have h00 : M0.1 90 0 = 0 := by rw [hM0, ax_pa]
  refine ax_aload_n dX10_dips_5 rfl ?_
  refine ax_join0 (¬ (0 ≤ x ∧ x ≤ iI (r 1) - 1)) 19 (1) (0) ?_ (fun ja jb => ?_)
  rotate_left
  · refine ax_aload_n dX10_dips_6 rfl ?_
    refine ax_iload_n dX10_dips_7 rfl ?_
    refine ax_callV (As := _) (d2 := _) (c1 := 0) (n1 := 0) (c_rIsCar (M := M0) hok hr0 _) dX10_dips_8 mX10_isCar wd_1919 acl_10 (lo_s hok 90 rfl) rfl (by omega) (by omega) (by omega) rfl rfl (fun _ _ h => by cases h.1) ?_
    rintro r M9 ⟨h1, h9⟩; cases h1; rw [h9]; clear h9 M9
    refine ax_ifB_ne (tgt := 18) dX10_dips_11 (by decide) (fun h11 => ?_) (fun h11 => ?_)
    · refine ax_iconst (v := 0) dX10_dips_18 (by decide) ?_
      first | (refine ja ?_; simp only [h11, and_self, and_true, true_and, not_true_eq_false, not_false_eq_true, or_true, true_or, or_false, false_or, or_self]; done) | (refine jb ?_; simp only [h11, and_self, and_true, true_and, not_true_eq_false, not_false_eq_true, or_true, true_or, or_false, false_or, or_self]; done) | exact ja h11 | exact jb (fun z => z h11) | exact ja (Or.inr h11) | exact ja (Or.inl h11)
    · refine ax_iconst (v := 1) dX10_dips_14 (by decide) ?_
      refine ax_goto (tgt := 19) dX10_dips_15 (by decide) ?_
      first | (refine ja ?_; simp only [h11, and_self, and_true, true_and, not_true_eq_false, not_false_eq_true, or_true, true_or, or_false, false_or, or_self]; done) | (refine jb ?_; simp only [h11, and_self, and_true, true_and, not_true_eq_false, not_false_eq_true, or_true, true_or, or_false, false_or, or_self]; done) | exact ja h11 | exact jb (fun z => z h11) | exact ja (Or.inr h11) | exact ja (Or.inl h11)
  refine ax_iconst (v := 1) dX10_dips_19 (by decide) ?_
  refine ax_iconst (v := 0) dX10_dips_20 (by decide) ?_
  refine ax_callV (As := _) (d2 := _) (c1 := 0) (n1 := 0) (c_badP (d := 0) (M := M0) (p := ¬ (0 ≤ x ∧ x ≤ iI (r 1) - 1)) hok h00 (w := 1) (k := 0) (by decide) (by decide) (by decide) rfl rfl) dX10_dips_21 mX10_bad wd_1775 acl_10 (lo_s hok 90 rfl) rfl (by omega) (by omega) (by omega) rfl rfl (fun _ _ h => by rcases h with ⟨_, h, _⟩ | ⟨_, h, _⟩ <;> cases h) ?_
  rintro o9 M9 (⟨g1, h1, h2⟩ | ⟨g1, h1, h2⟩) <;> cases h1 <;> rw [h2] <;> clear h2 M9
  · refine ax_if_ne (tgt := 50) dX10_dips_24 (by decide) (fun hc => ?_) (fun hc => ?_)
    · refine ax_iconst (v := 0) dX10_dips_50 (by decide) ?_
      refine ax_iret dX10_dips_51 rfl ?_
      exact rq_bad hM0 (w := 1) (k := 0) rfl (by unfold qa_dips; rw [if_pos g1])
    · exact absurd hc (by decide)
  refine ax_if_ne (tgt := 50) dX10_dips_24 (by decide) (fun hc => ?_) (fun hc => ?_)
  · exact absurd rfl hc
  refine ax_aload_n dX10_dips_27 rfl ?_
  refine ax_join0 (¬ (0 ≤ y ∧ y ≤ 1)) 42 (1) (0) ?_ (fun ja jb => ?_)
  rotate_left
  · refine ax_iload_n dX10_dips_28 rfl ?_
    refine ax_iconst (v := 0) dX10_dips_29 (by decide) ?_
    refine ax_iconst (v := 1) dX10_dips_30 (by decide) ?_
    refine ax_callS (As := _) (c1 := 0) (n1 := 0) (c_X10_in (d := 0) (M := M0) _ _ _) dX10_dips_31 mX10_in wd_1772 rfl (by omega) (by omega) (by omega) rfl rfl (fun _ _ h => by cases h.1) ?_
    rintro r M9 ⟨h1, h9⟩; cases h1; rw [h9]; clear h9 M9
    refine ax_ifB_ne (tgt := 41) dX10_dips_34 (by decide) (fun h34 => ?_) (fun h34 => ?_)
    · refine ax_iconst (v := 0) dX10_dips_41 (by decide) ?_
      first | (refine ja ?_; simp only [h34, and_self, and_true, true_and, not_true_eq_false, not_false_eq_true, or_true, true_or, or_false, false_or, or_self]; done) | (refine jb ?_; simp only [h34, and_self, and_true, true_and, not_true_eq_false, not_false_eq_true, or_true, true_or, or_false, false_or, or_self]; done) | exact ja h34 | exact jb (fun z => z h34) | exact ja (Or.inr h34) | exact ja (Or.inl h34)
    · refine ax_iconst (v := 1) dX10_dips_37 (by decide) ?_
      refine ax_goto (tgt := 42) dX10_dips_38 (by decide) ?_
      first | (refine ja ?_; simp only [h34, and_self, and_true, true_and, not_true_eq_false, not_false_eq_true, or_true, true_or, or_false, false_or, or_self]; done) | (refine jb ?_; simp only [h34, and_self, and_true, true_and, not_true_eq_false, not_false_eq_true, or_true, true_or, or_false, false_or, or_self]; done) | exact ja h34 | exact jb (fun z => z h34) | exact ja (Or.inr h34) | exact ja (Or.inl h34)
  refine ax_iconst (v := 2) dX10_dips_42 (by decide) ?_
  refine ax_iconst (v := 1) dX10_dips_43 (by decide) ?_
  refine ax_callV (As := _) (d2 := _) (c1 := 0) (n1 := 0) (c_badP (d := 0) (M := M0) (p := ¬ (0 ≤ y ∧ y ≤ 1)) hok h00 (w := 2) (k := 1) (by decide) (by decide) (by decide) rfl rfl) dX10_dips_44 mX10_bad wd_1775 acl_10 (lo_s hok 90 rfl) rfl (by omega) (by omega) (by omega) rfl rfl (fun _ _ h => by rcases h with ⟨_, h, _⟩ | ⟨_, h, _⟩ <;> cases h) ?_
  rintro o9 M9 (⟨g2, h1, h2⟩ | ⟨g2, h1, h2⟩) <;> cases h1 <;> rw [h2] <;> clear h2 M9
  · refine ax_if_eq (tgt := 52) dX10_dips_47 (by decide) (fun hc => ?_) (fun hc => ?_)
    · exact absurd hc (by decide)
    · refine ax_iconst (v := 0) dX10_dips_50 (by decide) ?_
      refine ax_iret dX10_dips_51 rfl ?_
      exact rq_bad hM0 (w := 2) (k := 1) rfl (by unfold qa_dips; rw [if_neg g1, if_pos g2])
  refine ax_if_eq (tgt := 52) dX10_dips_47 (by decide) (fun hc => ?_) (fun hc => ?_)
  rotate_left
  · exact absurd rfl hc
  obtain ⟨c, hc2, rfl⟩ := in_car (dn g1) (by omega) (by omega)
  obtain ⟨k, hk, rfl⟩ := in_nat (dn g2) (n := 1) rfl (by decide)
  refine ax_aload_n dX10_dips_52 rfl ?_
  refine ax_callV (As := _) (d2 := _) (c1 := 0) (n1 := 0) (c_X10_asTold (lw := lw) (M := M0) hok hr0 ho (fun w hw => by rw [hM0]; exact sf_law0 hw (hl w hw))) dX10_dips_53 mX10_asTold wd_1943 acl_10 (lo_s hok 90 rfl) rfl (by omega) (by omega) (by omega) rfl rfl (fun _ _ h => by cases h.1) ?_
  rintro o9 M1 ⟨h1, f1, f2⟩; cases h1
  have hok : lo_ok M1.2 := by rw [f1.1]; exact hok
  have e : ∀ v, v = qv_dips r lw c k → rq M M1 (.inl (some (av_i v))) (qa_dips r lw (nI c) (nI k)) := fun v hv => rq_sf hM0 (sf_mt f1) (by unfold qa_dips; rw [if_neg g1, if_neg g2, nI_clamp (by omega), nI_clamp (by omega), hv])
  refine ax_iconst (v := (-1)) dX10_dips_56 (by decide) ?_
  refine ax_istore_n dX10_dips_57 (by decide) rfl ?_
  refine ax_iconst (v := 0) dX10_dips_58 (by decide) ?_
  refine ax_istore dX10_dips_59 (by decide) rfl ?_
  refine ax_for (mt_T r) (fun t N L => ∃ y5, N = M1 ∧ L = [some (av_r 90), some (av_i (nI c)), some (av_i (nI k)), some (av_i (mt_sb (mt_first (dp_0 r lw c) t))), some (av_i (nI t)), y5] ∧ (k = 1 → ∀ q, q < t → dp_1 r lw c q = false)) 61 ?_ ?_ (i := 0) (by omega) ⟨_, rfl, rfl, fun _ q z => by omega⟩
  · rintro t N L ht ⟨y5, rfl, rfl, hq⟩ next
    have hrw := (f2.1 c (by omega)).2.2.2.2.2.2.2 t ht
    have hfb : ∀ s, (∀ u, mt_first (dp_0 r lw c) s = some u → u < 100) ∨ 100 < s := fun s => by
      rcases Nat.lt_or_ge 100 s with q | q
      · exact Or.inr q
      · exact Or.inl (fun u hu => by have := (mt_first_some hu).1; omega)
    have hsbn : mt_sb (mt_first (dp_0 r lw c) t) = -1 ↔ mt_first (dp_0 r lw c) t = none := mt_sb_no (fun u hu => by have := (mt_first_some hu).1; omega)
    have hsbn1 : mt_sb (mt_first (dp_0 r lw c) (t + 1)) = -1 ↔ mt_first (dp_0 r lw c) (t + 1) = none := mt_sb_no (fun u hu => by have := (mt_first_some hu).1; omega)
    have fs : mt_first (dp_0 r lw c) (t + 1) = match mt_first (dp_0 r lw c) t with
      | some u => some u
      | none => if dp_0 r lw c t = true then some t else none := rfl
    -- the second half
    have half : mt_on r c t = true → N.1 (172 + 100 * c + t) 1 = mt_f r lw mt_n c t → ax_W l G kX10_dips (ax_FQ G (fun o M2 => rq M M2 o (qa_dips r lw (nI c) (nI k)))) 8 0 0 N 107 [some (av_r 90), some (av_i (nI c)), some (av_i (nI k)), some (av_i (mt_sb (mt_first (dp_0 r lw c) (t + 1)))), some (av_i (nI t)), some (av_r (172 + 100 * c + t))] [] := by
      intro hon e1
      have go : (k = 1 → dp_1 r lw c t = false) → ax_W l G kX10_dips (ax_FQ G (fun o M2 => rq M M2 o (qa_dips r lw (nI c) (nI k)))) 8 0 0 N 128 [some (av_r 90), some (av_i (nI c)), some (av_i (nI k)), some (av_i (mt_sb (mt_first (dp_0 r lw c) (t + 1)))), some (av_i (nI t)), some (av_r (172 + 100 * c + t))] [] := by
        intro hd
        refine ax_iinc (v := 1) dX10_dips_128 rfl (by decide) (by decide) rfl ?_
        refine ax_goto (tgt := 61) dX10_dips_131 (by decide) ?_
        refine next _ _ ⟨_, rfl, by rw [nI_1]; rfl, fun k1 q z => ?_⟩
        by_cases e : q = t
        · subst e; exact hd k1
        · exact hq k1 q (by omega)
      refine ax_iload_n dX10_dips_107 rfl ?_
      refine ax_iconst (v := 1) dX10_dips_108 (by decide) ?_
      refine ax_icmp_ne (tgt := 128) dX10_dips_109 (by decide) (fun hc => ?_) (fun hc => ?_)
      · exact go (fun z => absurd (by rw [z]; rfl) hc)
      · have k1 : k = 1 := (nI_eq (b := 1) (by omega) (by omega)).mp hc
        refine ax_iload_n dX10_dips_112 rfl ?_
        refine ax_iconst (v := (-1)) dX10_dips_113 (by decide) ?_
        refine ax_icmp_eq (tgt := 128) dX10_dips_114 (by decide) (fun hc => ?_) (fun hc => ?_)
        · refine go (fun _ => ?_)
          have := hsbn1.mp hc
          rw [fs] at this
          cases e0 : mt_first (dp_0 r lw c) t with
          | none => unfold dp_1; rw [e0]; simp
          | some u => rw [e0] at this; cases this
        · refine ax_aload dX10_dips_117 rfl ?_
          refine ax_iconst (v := 1) dX10_dips_119 (by decide) ?_
          refine ax_ialdN (1) dX10_dips_120 (by first | assumption | exact lo_tz hok (by omega) (by omega) | exact lo_z_m_wet hok (by omega) | exact lo_z_m_readWet hok (by omega) | exact lo_z_m_law hok (by omega) | exact lo_z_m_book hok (by omega) | exact lo_z_m_readBook hok (by omega) | exact lo_z_m_before hok (by omega) | exact lo_z_m_kept hok (by omega) | exact lo_z_m_seenAt hok (by omega) | exact lo_z_m_seenIn hok (by omega) | exact lo_z_m_t0 hok (by omega) | exact lo_z_m_t1 hok (by omega) | exact lo_z_m_c0 hok (by omega) | exact lo_z_m_c1 hok (by omega) | exact lo_z_x_kept hok (by omega)) (by decide) (by decide) (by decide) ?_
          refine ax_iconst (v := 1) dX10_dips_121 (by decide) ?_
          rw [e1]
          refine ax_icmp_ne (tgt := 128) dX10_dips_122 (by decide) (fun hc => ?_) (fun hc => ?_)
          · refine go (fun _ => ?_)
            unfold dp_1; simp [hc]
          · rename_i hne
            refine ax_iload dX10_dips_125 rfl ?_
            refine ax_iret dX10_dips_127 rfl ?_
            refine e _ ?_
            unfold qv_dips
            rw [if_neg (by omega)]
            have hs : (mt_first (dp_0 r lw c) t).isSome = true := by
              cases e0 : mt_first (dp_0 r lw c) t with
              | some u => rfl
              | none =>
                rw [hsbn1, fs, e0] at hne
                have : ¬ dp_0 r lw c t = true := by unfold dp_0; rw [hc]; simp
                simp [this] at hne
            rw [mt_first_of (p := dp_1 r lw c) (u := t) (by unfold dp_1; rw [hon, hc, hs]; rfl) (hq k1) ht]
            rfl
    refine ax_iload dX10_dips_61 rfl ?_
    refine ax_aload_n dX10_dips_63 rfl ?_
    refine ax_getI (f := 46) dX10_dips_64 acl_10 wd_1646 (by decide) rfl (lo_s hok 90 rfl) ?_
    rw [f2.2.1]
    refine ax_icmp_ge (tgt := 134) dX10_dips_67 (by decide) (fun hc => absurd ((nI_leI (by omega) (by omega)).mp hc) (by omega)) (fun hc => ?_)
    refine ax_aload_n dX10_dips_70 rfl ?_
    refine ax_getK (f := 36) 170 dX10_dips_71 acl_10 wd_1636 (by decide) rfl (lo_s hok 90 rfl) (lo_r hok 101 rfl) ?_
    refine ax_iload_n dX10_dips_74 rfl ?_
    refine ax_aaldN3 (171 + 100 * (c)) (c) dX10_dips_75 (lo_s hok 170 rfl) (by decide) (by first | with_reducible rfl | assumption | exact ax_nix (by simp only [nx_0, nx_1, nx_2, nx_3, nx_4, nx_10, nx_20, nx_21, nx_100, nI_add, pk_mul] <;> rfl) (by omega) | decide) (by omega) (lo_tt hok (by omega)) ?_
    refine ax_iload dX10_dips_76 rfl ?_
    refine ax_aaldN2 (172 + 100 * (c) + (t)) (t) dX10_dips_78 (lo_ts hok (by omega)) (by decide) (by first | with_reducible rfl | assumption | exact ax_nix (by simp only [nx_0, nx_1, nx_2, nx_3, nx_4, nx_10, nx_20, nx_21, nx_100, nI_add, pk_mul] <;> rfl) (by omega) | decide) (by omega) (lo_tr hok (by omega) (by omega)) ?_
    refine ax_astore dX10_dips_79 (by decide) rfl ?_
    refine ax_aload dX10_dips_81 rfl ?_
    refine ax_iconst (v := 0) dX10_dips_83 (by decide) ?_
    refine ax_ialdN (0) dX10_dips_84 (by first | assumption | exact lo_tz hok (by omega) (by omega) | exact lo_z_m_wet hok (by omega) | exact lo_z_m_readWet hok (by omega) | exact lo_z_m_law hok (by omega) | exact lo_z_m_book hok (by omega) | exact lo_z_m_readBook hok (by omega) | exact lo_z_m_before hok (by omega) | exact lo_z_m_kept hok (by omega) | exact lo_z_m_seenAt hok (by omega) | exact lo_z_m_seenIn hok (by omega) | exact lo_z_m_t0 hok (by omega) | exact lo_z_m_t1 hok (by omega) | exact lo_z_m_c0 hok (by omega) | exact lo_z_m_c1 hok (by omega) | exact lo_z_x_kept hok (by omega)) (by decide) (by decide) (by decide) ?_
    refine ax_iconst (v := (-1)) dX10_dips_85 (by decide) ?_
    refine ax_icmp_ne (tgt := 92) dX10_dips_86 (by decide) (fun hc => ?_) (fun hc => ?_)
    · have hon : mt_on r c t = true := Decidable.byContradiction (fun q => hc ((mt_rw_on ho (by omega) (by omega) hrw).mpr (mt_nf q)))
      have e1 : N.1 (172 + 100 * c + t) 1 = mt_f r lw mt_n c t := lk_row_at (hrw.1 hon) (by decide)
      have hh := half hon e1
      refine ax_iload_n dX10_dips_92 rfl ?_
      refine ax_iconst (v := (-1)) dX10_dips_93 (by decide) ?_
      refine ax_icmp_ne (tgt := 107) dX10_dips_94 (by decide) (fun hc => ?_) (fun hc => ?_)
      · have hne := fun z => hc (hsbn.mpr z)
        obtain ⟨u, hu⟩ := Option.ne_none_iff_exists'.mp hne
        have ef : mt_first (dp_0 r lw c) (t + 1) = mt_first (dp_0 r lw c) t := by rw [fs, hu]
        rw [ef] at hh
        exact hh
      · have hn := hsbn.mp hc
        refine ax_aload dX10_dips_97 rfl ?_
        refine ax_iconst (v := 1) dX10_dips_99 (by decide) ?_
        refine ax_ialdN (1) dX10_dips_100 (by first | assumption | exact lo_tz hok (by omega) (by omega) | exact lo_z_m_wet hok (by omega) | exact lo_z_m_readWet hok (by omega) | exact lo_z_m_law hok (by omega) | exact lo_z_m_book hok (by omega) | exact lo_z_m_readBook hok (by omega) | exact lo_z_m_before hok (by omega) | exact lo_z_m_kept hok (by omega) | exact lo_z_m_seenAt hok (by omega) | exact lo_z_m_seenIn hok (by omega) | exact lo_z_m_t0 hok (by omega) | exact lo_z_m_t1 hok (by omega) | exact lo_z_m_c0 hok (by omega) | exact lo_z_m_c1 hok (by omega) | exact lo_z_x_kept hok (by omega)) (by decide) (by decide) (by decide) ?_
        rw [e1]
        refine ax_if_ne (tgt := 107) dX10_dips_101 (by decide) (fun hc => ?_) (fun hc => ?_)
        · have ef : mt_first (dp_0 r lw c) (t + 1) = mt_first (dp_0 r lw c) t := by
            rw [fs, hn, if_neg (by unfold dp_0; simp [hc])]
          rw [ef] at hh
          exact hh
        · have ef : mt_first (dp_0 r lw c) (t + 1) = some t := by
            rw [fs, hn, if_pos (by unfold dp_0; simp [hc, hon])]
          rw [ef] at hh
          refine ax_iload dX10_dips_104 rfl ?_
          refine ax_istore_n dX10_dips_106 (by decide) rfl ?_
          exact hh
    · have hoff := (mt_rw_on ho (by omega) (by omega) hrw).mp hc
      have ef : mt_first (dp_0 r lw c) (t + 1) = mt_first (dp_0 r lw c) t := by
        rw [fs]
        cases mt_first (dp_0 r lw c) t with
        | some u => rfl
        | none => exact if_neg (by unfold dp_0; simp [hoff])
      refine ax_goto (tgt := 128) dX10_dips_89 (by decide) ?_
      refine ax_iinc (v := 1) dX10_dips_128 rfl (by decide) (by decide) rfl ?_
      refine ax_goto (tgt := 61) dX10_dips_131 (by decide) ?_
      refine next _ _ ⟨_, rfl, by rw [nI_1, ef]; rfl, fun k1 q z => ?_⟩
      by_cases e : q = t
      · subst e; unfold dp_1; rw [hoff]; rfl
      · exact hq k1 q (by omega)
  · rintro N L ⟨y5, rfl, rfl, hq⟩
    refine ax_iload dX10_dips_61 rfl ?_
    refine ax_aload_n dX10_dips_63 rfl ?_
    refine ax_getI (f := 46) dX10_dips_64 acl_10 wd_1646 (by decide) rfl (lo_s hok 90 rfl) ?_
    rw [f2.2.1]
    refine ax_icmp_ge (tgt := 134) dX10_dips_67 (by decide) (fun hc => ?_) (fun hc => absurd ((nI_leI (by omega) (by omega)).mpr (by omega)) hc)
    rcases (show k = 0 ∨ k = 1 by omega) with rfl | rfl
    · refine ax_iload_n dX10_dips_134 rfl ?_
      refine ax_if_ne (tgt := 142) dX10_dips_135 (by decide) (fun h135 => ?_) (fun h135 => ?_)
      · exact absurd rfl h135
      · refine ax_iload_n dX10_dips_138 rfl ?_
        refine ax_goto (tgt := 143) dX10_dips_139 (by decide) ?_
        refine ax_iret dX10_dips_143 rfl ?_
        exact e _ rfl
    · refine ax_iload_n dX10_dips_134 rfl ?_
      refine ax_if_ne (tgt := 142) dX10_dips_135 (by decide) (fun h135 => ?_) (fun h135 => ?_)
      · refine ax_iconst (v := (-1)) dX10_dips_142 (by decide) ?_
        refine ax_iret dX10_dips_143 rfl ?_
        exact e _ (by unfold qv_dips; rw [if_neg (by decide), mt_first_no (hq rfl)]; rfl)
      · exact absurd h135 (by decide)
theorem c_gap (hok : lo_ok M.2) (hr : rr M r) (ho : rd_ok r) (hl : ∀ w, w < 3 → ml_law M w (lw w)) (x y : Int32) : ax_Met l G kX10_gap 8 0 0 M [av_r 90, av_i x, av_i y] (fun o M2 => rq M M2 o (qa_gap r lw x y)) := by
  have h9 := ho.1
  have hTT := mt_T_le r
  refine ax_body (by decide) (Nat.le_of_ble_eq_true rfl) ?_
  refine ax_aload_n dX10_gap_0 rfl ?_
  refine ax_iconst (v := 0) dX10_gap_1 (by decide) ?_
  refine ax_putI (f := 0) dX10_gap_2 acl_10 wd_1600 (by decide) rfl rfl (ax_nfI rfl) (lo_s hok 90 rfl) ?_
  refine ax_gen (fun M0 hM0 => ?_)
  have hok : lo_ok M0.2 := by rw [hM0]; exact hok
  have hr0 : rr M0 r := by rw [hM0]; exact rr_fr hr (fun n i q => ax_pn (by omega))
  have h00 : M0.1 90 0 = 0 := by rw [hM0, ax_pa]
  refine ax_aload_n dX10_gap_5 rfl ?_
  refine ax_join0 (¬ (0 ≤ x ∧ x ≤ iI (r 1) - 1)) 19 (1) (0) ?_ (fun ja jb => ?_)
  rotate_left
  · refine ax_aload_n dX10_gap_6 rfl ?_
    refine ax_iload_n dX10_gap_7 rfl ?_
    refine ax_callV (As := _) (d2 := _) (c1 := 0) (n1 := 0) (c_rIsCar (M := M0) hok hr0 _) dX10_gap_8 mX10_isCar wd_1919 acl_10 (lo_s hok 90 rfl) rfl (by omega) (by omega) (by omega) rfl rfl (fun _ _ h => by cases h.1) ?_
    rintro r M9 ⟨h1, h9⟩; cases h1; rw [h9]; clear h9 M9
    refine ax_ifB_ne (tgt := 18) dX10_gap_11 (by decide) (fun h11 => ?_) (fun h11 => ?_)
    · refine ax_iconst (v := 0) dX10_gap_18 (by decide) ?_
      first | (refine ja ?_; simp only [h11, and_self, and_true, true_and, not_true_eq_false, not_false_eq_true, or_true, true_or, or_false, false_or, or_self]; done) | (refine jb ?_; simp only [h11, and_self, and_true, true_and, not_true_eq_false, not_false_eq_true, or_true, true_or, or_false, false_or, or_self]; done) | exact ja h11 | exact jb (fun z => z h11) | exact ja (Or.inr h11) | exact ja (Or.inl h11)
    · refine ax_iconst (v := 1) dX10_gap_14 (by decide) ?_
      refine ax_goto (tgt := 19) dX10_gap_15 (by decide) ?_
      first | (refine ja ?_; simp only [h11, and_self, and_true, true_and, not_true_eq_false, not_false_eq_true, or_true, true_or, or_false, false_or, or_self]; done) | (refine jb ?_; simp only [h11, and_self, and_true, true_and, not_true_eq_false, not_false_eq_true, or_true, true_or, or_false, false_or, or_self]; done) | exact ja h11 | exact jb (fun z => z h11) | exact ja (Or.inr h11) | exact ja (Or.inl h11)
  refine ax_iconst (v := 1) dX10_gap_19 (by decide) ?_
  refine ax_iconst (v := 0) dX10_gap_20 (by decide) ?_
  refine ax_callV (As := _) (d2 := _) (c1 := 0) (n1 := 0) (c_badP (d := 0) (M := M0) (p := ¬ (0 ≤ x ∧ x ≤ iI (r 1) - 1)) hok h00 (w := 1) (k := 0) (by decide) (by decide) (by decide) rfl rfl) dX10_gap_21 mX10_bad wd_1775 acl_10 (lo_s hok 90 rfl) rfl (by omega) (by omega) (by omega) rfl rfl (fun _ _ h => by rcases h with ⟨_, h, _⟩ | ⟨_, h, _⟩ <;> cases h) ?_
  rintro o9 M9 (⟨g1, h1, h2⟩ | ⟨g1, h1, h2⟩) <;> cases h1 <;> rw [h2] <;> clear h2 M9
  · refine ax_if_ne (tgt := 50) dX10_gap_24 (by decide) (fun hc => ?_) (fun hc => ?_)
    · refine ax_iconst (v := 0) dX10_gap_50 (by decide) ?_
      refine ax_iret dX10_gap_51 rfl ?_
      exact rq_bad hM0 (w := 1) (k := 0) rfl (by unfold qa_gap; rw [if_pos g1])
    · exact absurd hc (by decide)
  refine ax_if_ne (tgt := 50) dX10_gap_24 (by decide) (fun hc => ?_) (fun hc => ?_)
  · exact absurd rfl hc
  refine ax_aload_n dX10_gap_27 rfl ?_
  refine ax_join0 (¬ (0 ≤ y ∧ y ≤ 1)) 42 (1) (0) ?_ (fun ja jb => ?_)
  rotate_left
  · refine ax_iload_n dX10_gap_28 rfl ?_
    refine ax_iconst (v := 0) dX10_gap_29 (by decide) ?_
    refine ax_iconst (v := 1) dX10_gap_30 (by decide) ?_
    refine ax_callS (As := _) (c1 := 0) (n1 := 0) (c_X10_in (d := 0) (M := M0) _ _ _) dX10_gap_31 mX10_in wd_1772 rfl (by omega) (by omega) (by omega) rfl rfl (fun _ _ h => by cases h.1) ?_
    rintro r M9 ⟨h1, h9⟩; cases h1; rw [h9]; clear h9 M9
    refine ax_ifB_ne (tgt := 41) dX10_gap_34 (by decide) (fun h34 => ?_) (fun h34 => ?_)
    · refine ax_iconst (v := 0) dX10_gap_41 (by decide) ?_
      first | (refine ja ?_; simp only [h34, and_self, and_true, true_and, not_true_eq_false, not_false_eq_true, or_true, true_or, or_false, false_or, or_self]; done) | (refine jb ?_; simp only [h34, and_self, and_true, true_and, not_true_eq_false, not_false_eq_true, or_true, true_or, or_false, false_or, or_self]; done) | exact ja h34 | exact jb (fun z => z h34) | exact ja (Or.inr h34) | exact ja (Or.inl h34)
    · refine ax_iconst (v := 1) dX10_gap_37 (by decide) ?_
      refine ax_goto (tgt := 42) dX10_gap_38 (by decide) ?_
      first | (refine ja ?_; simp only [h34, and_self, and_true, true_and, not_true_eq_false, not_false_eq_true, or_true, true_or, or_false, false_or, or_self]; done) | (refine jb ?_; simp only [h34, and_self, and_true, true_and, not_true_eq_false, not_false_eq_true, or_true, true_or, or_false, false_or, or_self]; done) | exact ja h34 | exact jb (fun z => z h34) | exact ja (Or.inr h34) | exact ja (Or.inl h34)
  refine ax_iconst (v := 2) dX10_gap_42 (by decide) ?_
  refine ax_iconst (v := 1) dX10_gap_43 (by decide) ?_
  refine ax_callV (As := _) (d2 := _) (c1 := 0) (n1 := 0) (c_badP (d := 0) (M := M0) (p := ¬ (0 ≤ y ∧ y ≤ 1)) hok h00 (w := 2) (k := 1) (by decide) (by decide) (by decide) rfl rfl) dX10_gap_44 mX10_bad wd_1775 acl_10 (lo_s hok 90 rfl) rfl (by omega) (by omega) (by omega) rfl rfl (fun _ _ h => by rcases h with ⟨_, h, _⟩ | ⟨_, h, _⟩ <;> cases h) ?_
  rintro o9 M9 (⟨g2, h1, h2⟩ | ⟨g2, h1, h2⟩) <;> cases h1 <;> rw [h2] <;> clear h2 M9
  · refine ax_if_eq (tgt := 52) dX10_gap_47 (by decide) (fun hc => ?_) (fun hc => ?_)
    · exact absurd hc (by decide)
    · refine ax_iconst (v := 0) dX10_gap_50 (by decide) ?_
      refine ax_iret dX10_gap_51 rfl ?_
      exact rq_bad hM0 (w := 2) (k := 1) rfl (by unfold qa_gap; rw [if_neg g1, if_pos g2])
  refine ax_if_eq (tgt := 52) dX10_gap_47 (by decide) (fun hc => ?_) (fun hc => ?_)
  rotate_left
  · exact absurd rfl hc
  obtain ⟨c, hc2, rfl⟩ := in_car (dn g1) (by omega) (by omega)
  obtain ⟨k, hk, rfl⟩ := in_nat (dn g2) (n := 1) rfl (by decide)
  refine ax_aload_n dX10_gap_52 rfl ?_
  refine ax_callV (As := _) (d2 := _) (c1 := 0) (n1 := 0) (c_X10_asTold (lw := lw) (M := M0) hok hr0 ho (fun w hw => by rw [hM0]; exact sf_law0 hw (hl w hw))) dX10_gap_53 mX10_asTold wd_1943 acl_10 (lo_s hok 90 rfl) rfl (by omega) (by omega) (by omega) rfl rfl (fun _ _ h => by cases h.1) ?_
  rintro o9 M1 ⟨h1, f1, f2⟩; cases h1
  have hok : lo_ok M1.2 := by rw [f1.1]; exact hok
  have e : ∀ v, v = qv_gap r lw c k → rq M M1 (.inl (some (av_i v))) (qa_gap r lw (nI c) (nI k)) := fun v hv => rq_sf hM0 (sf_mt f1) (by unfold qa_gap; rw [if_neg g1, if_neg g2, nI_clamp (by omega), nI_clamp (by omega), hv])
  obtain ⟨p, hp⟩ : ∃ p, p = mt_un r lw mt_n c := ⟨_, rfl⟩
  refine ax_iconst (v := 0) dX10_gap_56 (by decide) ?_
  refine ax_istore_n dX10_gap_57 (by decide) rfl ?_
  refine ax_iconst (v := (-1)) dX10_gap_58 (by decide) ?_
  refine ax_istore dX10_gap_59 (by decide) rfl ?_
  refine ax_iconst (v := 0) dX10_gap_61 (by decide) ?_
  refine ax_istore dX10_gap_62 (by decide) rfl ?_
  refine ax_iconst (v := 0) dX10_gap_64 (by decide) ?_
  refine ax_istore dX10_gap_65 (by decide) rfl ?_
  refine ax_for (mt_T r) (fun t N L => N = M1 ∧ L = [some (av_r 90), some (av_i (nI c)), some (av_i (nI k)), some (av_i (nI (gp p t).1)), some (av_i (gp p t).2.1), some (av_i (nI (gp p t).2.2)), some (av_i (nI t))]) 67 ?_ ?_ (i := 0) (by omega) ⟨rfl, rfl⟩
  · rintro t N L ht ⟨rfl, rfl⟩ next
    have hrw := (f2.1 c (by omega)).2.2.2.2.2.2.2 t ht
    have hgl := gp_le p t
    have h4 : mt_on r c t = true → N.1 (172 + 100 * c + t) 4 = if mt_si r lw mt_n c t < mt_stop r c t then 1 else 0 := fun q => (hrw.1 q).2.2.2.2.1
    refine ax_iload dX10_gap_67 rfl ?_
    refine ax_aload_n dX10_gap_69 rfl ?_
    refine ax_getI (f := 46) dX10_gap_70 acl_10 wd_1646 (by decide) rfl (lo_s hok 90 rfl) ?_
    rw [f2.2.1]
    refine ax_icmp_ge (tgt := 143) dX10_gap_73 (by decide) (fun hc => absurd ((nI_leI (by omega) (by omega)).mp hc) (by omega)) (fun hc => ?_)
    refine ax_aload_n dX10_gap_76 rfl ?_
    refine ax_getK (f := 36) 170 dX10_gap_77 acl_10 wd_1636 (by decide) rfl (lo_s hok 90 rfl) (lo_r hok 101 rfl) ?_
    refine ax_iload_n dX10_gap_80 rfl ?_
    refine ax_aaldN3 (171 + 100 * (c)) (c) dX10_gap_81 (lo_s hok 170 rfl) (by decide) (by first | with_reducible rfl | assumption | exact ax_nix (by simp only [nx_0, nx_1, nx_2, nx_3, nx_4, nx_10, nx_20, nx_21, nx_100, nI_add, pk_mul] <;> rfl) (by omega) | decide) (by omega) (lo_tt hok (by omega)) ?_
    refine ax_iload dX10_gap_82 rfl ?_
    refine ax_aaldN2 (172 + 100 * (c) + (t)) (t) dX10_gap_84 (lo_ts hok (by omega)) (by decide) (by first | with_reducible rfl | assumption | exact ax_nix (by simp only [nx_0, nx_1, nx_2, nx_3, nx_4, nx_10, nx_20, nx_21, nx_100, nI_add, pk_mul] <;> rfl) (by omega) | decide) (by omega) (lo_tr hok (by omega) (by omega)) ?_
    refine ax_iconst (v := 0) dX10_gap_85 (by decide) ?_
    refine ax_ialdN (0) dX10_gap_86 (by first | assumption | exact lo_tz hok (by omega) (by omega) | exact lo_z_m_wet hok (by omega) | exact lo_z_m_readWet hok (by omega) | exact lo_z_m_law hok (by omega) | exact lo_z_m_book hok (by omega) | exact lo_z_m_readBook hok (by omega) | exact lo_z_m_before hok (by omega) | exact lo_z_m_kept hok (by omega) | exact lo_z_m_seenAt hok (by omega) | exact lo_z_m_seenIn hok (by omega) | exact lo_z_m_t0 hok (by omega) | exact lo_z_m_t1 hok (by omega) | exact lo_z_m_c0 hok (by omega) | exact lo_z_m_c1 hok (by omega) | exact lo_z_x_kept hok (by omega)) (by decide) (by decide) (by decide) ?_
    refine ax_iconst (v := (-1)) dX10_gap_87 (by decide) ?_
    refine ax_join2 (p t = true) 114 (nI ((gp p t).2.2 + 1)) (nI 0) ?_ (fun ja jb => ?_)
    rotate_left
    · refine ax_icmp_eq (tgt := 113) dX10_gap_88 (by decide) (fun h88 => ?_) (fun h88 => ?_)
      · refine ax_iconst (v := 0) dX10_gap_113 (by decide) ?_
        first | (refine jb ?_; rw [hp]; simp [mt_un, (mt_rw_on ho (by omega) (by omega) hrw).mp h88]; done) | (refine jb ?_; rw [hp]; intro z; simp only [mt_un, Bool.and_eq_true, decide_eq_true_eq] at z; have e := h4 z.1; rw [if_pos z.2] at e; exact h103 e) | (rw [nI_1]; refine ja ?_; rw [hp]; have hon : mt_on r c t = true := Decidable.byContradiction (fun z => h88 ((mt_rw_on ho (by omega) (by omega) hrw).mpr (mt_nf z))); have e := h4 hon; simp only [mt_un, Bool.and_eq_true, decide_eq_true_eq]; refine ⟨hon, Decidable.byContradiction (fun z => ?_)⟩; rw [if_neg z, h103] at e; exact absurd e (by decide))
      · refine ax_aload_n dX10_gap_91 rfl ?_
        refine ax_getK (f := 36) 170 dX10_gap_92 acl_10 wd_1636 (by decide) rfl (lo_s hok 90 rfl) (lo_r hok 101 rfl) ?_
        refine ax_iload_n dX10_gap_95 rfl ?_
        refine ax_aaldN3 (171 + 100 * (c)) (c) dX10_gap_96 (lo_s hok 170 rfl) (by decide) (by first | with_reducible rfl | assumption | exact ax_nix (by simp only [nx_0, nx_1, nx_2, nx_3, nx_4, nx_10, nx_20, nx_21, nx_100, nI_add, pk_mul] <;> rfl) (by omega) | decide) (by omega) (lo_tt hok (by omega)) ?_
        refine ax_iload dX10_gap_97 rfl ?_
        refine ax_aaldN2 (172 + 100 * (c) + (t)) (t) dX10_gap_99 (lo_ts hok (by omega)) (by decide) (by first | with_reducible rfl | assumption | exact ax_nix (by simp only [nx_0, nx_1, nx_2, nx_3, nx_4, nx_10, nx_20, nx_21, nx_100, nI_add, pk_mul] <;> rfl) (by omega) | decide) (by omega) (lo_tr hok (by omega) (by omega)) ?_
        refine ax_iconst (v := 4) dX10_gap_100 (by decide) ?_
        refine ax_ialdN (4) dX10_gap_101 (by first | assumption | exact lo_tz hok (by omega) (by omega) | exact lo_z_m_wet hok (by omega) | exact lo_z_m_readWet hok (by omega) | exact lo_z_m_law hok (by omega) | exact lo_z_m_book hok (by omega) | exact lo_z_m_readBook hok (by omega) | exact lo_z_m_before hok (by omega) | exact lo_z_m_kept hok (by omega) | exact lo_z_m_seenAt hok (by omega) | exact lo_z_m_seenIn hok (by omega) | exact lo_z_m_t0 hok (by omega) | exact lo_z_m_t1 hok (by omega) | exact lo_z_m_c0 hok (by omega) | exact lo_z_m_c1 hok (by omega) | exact lo_z_x_kept hok (by omega)) (by decide) (by decide) (by decide) ?_
        refine ax_iconst (v := 1) dX10_gap_102 (by decide) ?_
        refine ax_icmp_ne (tgt := 113) dX10_gap_103 (by decide) (fun h103 => ?_) (fun h103 => ?_)
        · refine ax_iconst (v := 0) dX10_gap_113 (by decide) ?_
          first | (refine jb ?_; rw [hp]; simp [mt_un, (mt_rw_on ho (by omega) (by omega) hrw).mp h88]; done) | (refine jb ?_; rw [hp]; intro z; simp only [mt_un, Bool.and_eq_true, decide_eq_true_eq] at z; have e := h4 z.1; rw [if_pos z.2] at e; exact h103 e) | (rw [nI_1]; refine ja ?_; rw [hp]; have hon : mt_on r c t = true := Decidable.byContradiction (fun z => h88 ((mt_rw_on ho (by omega) (by omega) hrw).mpr (mt_nf z))); have e := h4 hon; simp only [mt_un, Bool.and_eq_true, decide_eq_true_eq]; refine ⟨hon, Decidable.byContradiction (fun z => ?_)⟩; rw [if_neg z, h103] at e; exact absurd e (by decide))
        · refine ax_iload dX10_gap_106 rfl ?_
          refine ax_iconst (v := 1) dX10_gap_108 (by decide) ?_
          refine ax_iadd dX10_gap_109 ?_
          refine ax_goto (tgt := 114) dX10_gap_110 (by decide) ?_
          first | (refine jb ?_; rw [hp]; simp [mt_un, (mt_rw_on ho (by omega) (by omega) hrw).mp h88]; done) | (refine jb ?_; rw [hp]; intro z; simp only [mt_un, Bool.and_eq_true, decide_eq_true_eq] at z; have e := h4 z.1; rw [if_pos z.2] at e; exact h103 e) | (rw [nI_1]; refine ja ?_; rw [hp]; have hon : mt_on r c t = true := Decidable.byContradiction (fun z => h88 ((mt_rw_on ho (by omega) (by omega) hrw).mpr (mt_nf z))); have e := h4 hon; simp only [mt_un, Bool.and_eq_true, decide_eq_true_eq]; refine ⟨hon, Decidable.byContradiction (fun z => ?_)⟩; rw [if_neg z, h103] at e; exact absurd e (by decide))
    obtain ⟨w, hw⟩ : ∃ w, w = if p t = true then (gp p t).2.2 + 1 else 0 := ⟨_, rfl⟩
    have ew : (if p t = true then nI ((gp p t).2.2 + 1) else nI 0) = nI w := by rw [hw]; split <;> rfl
    rw [ew]
    have hwl : w ≤ 100 := by rw [hw]; split <;> omega
    have eg : gp p (t + 1) = if (gp p t).1 < w then (w, nI t - nI w + 1, w) else ((gp p t).1, (gp p t).2.1, w) := by rw [hw]; rfl
    refine ax_istore dX10_gap_114 (by decide) rfl ?_
    refine ax_iload dX10_gap_116 rfl ?_
    refine ax_iload_n dX10_gap_118 rfl ?_
    refine ax_icmp_gt (tgt := 125) dX10_gap_119 (by decide) (fun hc => ?_) (fun hc => ?_)
    · have hlt := (nI_ltI (by omega) (by omega)).mp hc
      rw [if_pos hlt] at eg
      refine ax_iload dX10_gap_125 rfl ?_
      refine ax_istore_n dX10_gap_127 (by decide) rfl ?_
      refine ax_iload dX10_gap_128 rfl ?_
      refine ax_iload dX10_gap_130 rfl ?_
      refine ax_isub dX10_gap_132 ?_
      refine ax_iconst (v := 1) dX10_gap_133 (by decide) ?_
      refine ax_iadd dX10_gap_134 ?_
      refine ax_istore dX10_gap_135 (by decide) rfl ?_
      refine ax_iinc (v := 1) dX10_gap_137 rfl (by decide) (by decide) rfl ?_
      refine ax_goto (tgt := 67) dX10_gap_140 (by decide) ?_
      exact next _ _ ⟨rfl, by rw [nI_1, eg]; rfl⟩
    · have hlt : ¬ (gp p t).1 < w := fun z => hc ((nI_ltI (by omega) (by omega)).mpr z)
      rw [if_neg hlt] at eg
      refine ax_goto (tgt := 137) dX10_gap_122 (by decide) ?_
      refine ax_iinc (v := 1) dX10_gap_137 rfl (by decide) (by decide) rfl ?_
      refine ax_goto (tgt := 67) dX10_gap_140 (by decide) ?_
      exact next _ _ ⟨rfl, by rw [nI_1, eg]; rfl⟩
  · rintro N L ⟨rfl, rfl⟩
    refine ax_iload dX10_gap_67 rfl ?_
    refine ax_aload_n dX10_gap_69 rfl ?_
    refine ax_getI (f := 46) dX10_gap_70 acl_10 wd_1646 (by decide) rfl (lo_s hok 90 rfl) ?_
    rw [f2.2.1]
    refine ax_icmp_ge (tgt := 143) dX10_gap_73 (by decide) (fun hc => ?_) (fun hc => absurd ((nI_leI (by omega) (by omega)).mpr (by omega)) hc)
    rcases (show k = 0 ∨ k = 1 by omega) with rfl | rfl
    · refine ax_iload_n dX10_gap_143 rfl ?_
      refine ax_if_ne (tgt := 151) dX10_gap_144 (by decide) (fun h144 => ?_) (fun h144 => ?_)
      · exact absurd rfl h144
      · refine ax_iload_n dX10_gap_147 rfl ?_
        refine ax_goto (tgt := 153) dX10_gap_148 (by decide) ?_
        refine ax_iret dX10_gap_153 rfl ?_
        exact e _ (by rw [hp]; rfl)
    · refine ax_iload_n dX10_gap_143 rfl ?_
      refine ax_if_ne (tgt := 151) dX10_gap_144 (by decide) (fun h144 => ?_) (fun h144 => ?_)
      · refine ax_iload dX10_gap_151 rfl ?_
        refine ax_iret dX10_gap_153 rfl ?_
        exact e _ (by rw [hp]; rfl)
      · exact absurd h144 (by decide)
theorem c_clear (hok : lo_ok M.2) (hr : rr M r) (ho : rd_ok r) (hl : ∀ w, w < 3 → ml_law M w (lw w)) (x : Int32) : ax_Met l G kX10_clear 8 0 0 M [av_r 90, av_i x] (fun o M2 => rq M M2 o (qa_clear r lw x)) := by
  have h9 := ho.1
  refine ax_body (by decide) (Nat.le_of_ble_eq_true rfl) ?_
  refine ax_aload_n dX10_clear_0 rfl ?_
  refine ax_iconst (v := 0) dX10_clear_1 (by decide) ?_
  refine ax_putI (f := 0) dX10_clear_2 acl_10 wd_1600 (by decide) rfl rfl (ax_nfI rfl) (lo_s hok 90 rfl) ?_
  refine ax_gen (fun M0 hM0 => ?_)
  have hok : lo_ok M0.2 := by rw [hM0]; exact hok
  have hr0 : rr M0 r := by rw [hM0]; exact rr_fr hr (fun n i q => ax_pn (by omega))
  have h00 : M0.1 90 0 = 0 := by rw [hM0, ax_pa]
  refine ax_aload_n dX10_clear_5 rfl ?_
  refine ax_join0 (¬ (0 ≤ x ∧ x ≤ iI (r 1) - 1)) 19 (1) (0) ?_ (fun ja jb => ?_)
  rotate_left
  · refine ax_aload_n dX10_clear_6 rfl ?_
    refine ax_iload_n dX10_clear_7 rfl ?_
    refine ax_callV (As := _) (d2 := _) (c1 := 0) (n1 := 0) (c_rIsCar (M := M0) hok hr0 _) dX10_clear_8 mX10_isCar wd_1919 acl_10 (lo_s hok 90 rfl) rfl (by omega) (by omega) (by omega) rfl rfl (fun _ _ h => by cases h.1) ?_
    rintro r M9 ⟨h1, h9⟩; cases h1; rw [h9]; clear h9 M9
    refine ax_ifB_ne (tgt := 18) dX10_clear_11 (by decide) (fun h11 => ?_) (fun h11 => ?_)
    · refine ax_iconst (v := 0) dX10_clear_18 (by decide) ?_
      first | (refine ja ?_; simp only [h11, and_self, and_true, true_and, not_true_eq_false, not_false_eq_true, or_true, true_or, or_false, false_or, or_self]; done) | (refine jb ?_; simp only [h11, and_self, and_true, true_and, not_true_eq_false, not_false_eq_true, or_true, true_or, or_false, false_or, or_self]; done) | exact ja h11 | exact jb (fun z => z h11) | exact ja (Or.inr h11) | exact ja (Or.inl h11)
    · refine ax_iconst (v := 1) dX10_clear_14 (by decide) ?_
      refine ax_goto (tgt := 19) dX10_clear_15 (by decide) ?_
      first | (refine ja ?_; simp only [h11, and_self, and_true, true_and, not_true_eq_false, not_false_eq_true, or_true, true_or, or_false, false_or, or_self]; done) | (refine jb ?_; simp only [h11, and_self, and_true, true_and, not_true_eq_false, not_false_eq_true, or_true, true_or, or_false, false_or, or_self]; done) | exact ja h11 | exact jb (fun z => z h11) | exact ja (Or.inr h11) | exact ja (Or.inl h11)
  refine ax_iconst (v := 1) dX10_clear_19 (by decide) ?_
  refine ax_iconst (v := 0) dX10_clear_20 (by decide) ?_
  refine ax_callV (As := _) (d2 := _) (c1 := 0) (n1 := 0) (c_badP (d := 0) (M := M0) (p := ¬ (0 ≤ x ∧ x ≤ iI (r 1) - 1)) hok h00 (w := 1) (k := 0) (by decide) (by decide) (by decide) rfl rfl) dX10_clear_21 mX10_bad wd_1775 acl_10 (lo_s hok 90 rfl) rfl (by omega) (by omega) (by omega) rfl rfl (fun _ _ h => by rcases h with ⟨_, h, _⟩ | ⟨_, h, _⟩ <;> cases h) ?_
  rintro o9 M9 (⟨g1, h1, h2⟩ | ⟨g1, h1, h2⟩) <;> cases h1 <;> rw [h2] <;> clear h2 M9
  · refine ax_if_eq (tgt := 29) dX10_clear_24 (by decide) (fun hc => ?_) (fun hc => ?_)
    · exact absurd hc (by decide)
    · refine ax_iconst (v := 0) dX10_clear_27 (by decide) ?_
      refine ax_iret dX10_clear_28 rfl ?_
      exact rq_bad hM0 (w := 1) (k := 0) rfl (by unfold qa_clear; rw [if_pos g1])
  refine ax_if_eq (tgt := 29) dX10_clear_24 (by decide) (fun hc => ?_) (fun hc => ?_)
  rotate_left
  · exact absurd rfl hc
  obtain ⟨c, hc2, rfl⟩ := in_car (dn g1) (by omega) (by omega)
  have hl0 : ∀ w, w < 3 → ml_law M0 w (lw w) := fun w hw => by rw [hM0]; exact sf_law0 hw (hl w hw)
  obtain ⟨p, hp⟩ : ∃ p, p = cl_p r lw c := ⟨_, rfl⟩
  have hfog : M0.1 100 24 = iI (r 34) := hr0.2.1 24 (by decide)
  refine ax_aload_n dX10_clear_29 rfl ?_
  refine ax_getK (f := 18) 100 dX10_clear_30 acl_10 wd_1618 (by decide) rfl (lo_s hok 90 rfl) (lo_r hok 89 rfl) ?_
  refine ax_bipush (v := 24) dX10_clear_33 (by decide) ?_
  refine ax_ialdN (24) dX10_clear_35 (lo_s hok 100 rfl) (by decide) (by decide) (by decide) ?_
  rw [hfog]
  refine ax_istore_n dX10_clear_36 (by decide) rfl ?_
  refine ax_iconst (v := (-1)) dX10_clear_37 (by decide) ?_
  refine ax_istore_n dX10_clear_38 (by decide) rfl ?_
  refine ax_bipush (v := 9) dX10_clear_39 (by decide) ?_
  refine ax_istore dX10_clear_41 (by decide) rfl ?_
  have tail : ∀ (N : ax_M) (bs : Int32) (y4 : Option ax_V), N.2 = M0.2 → (∀ n i, ¬ rs n i → ¬ (n = 100 ∧ i = 24) → N.1 n i = M0.1 n i) → bs = pl p 10 → ax_W l G kX10_clear (ax_FQ G (fun o M2 => rq M M2 o (qa_clear r lw (nI c)))) 8 0 0 N 88 [some (av_r 90), some (av_i (nI c)), some (av_i (iI (r 34))), some (av_i bs), y4] [] := by
    intro N bs y4 e1 e2 hb
    have hok : lo_ok N.2 := by rw [e1]; exact hok
    refine ax_aload_n dX10_clear_88 rfl ?_
    refine ax_getK (f := 18) 100 dX10_clear_89 acl_10 wd_1618 (by decide) rfl (lo_s hok 90 rfl) (lo_r hok 89 rfl) ?_
    refine ax_bipush (v := 24) dX10_clear_92 (by decide) ?_
    refine ax_iload_n dX10_clear_94 rfl ?_
    refine ax_iastN (24) dX10_clear_95 (lo_s hok 100 rfl) (by decide) (by decide) (by decide) ?_
    refine ax_gen (fun N2 hN2 => ?_)
    have hok : lo_ok N2.2 := by rw [hN2]; exact hok
    refine ax_iload_n dX10_clear_96 rfl ?_
    refine ax_iret dX10_clear_97 rfl ?_
    refine rq_sf hM0 ⟨by rw [hN2]; exact e1, fun n i q => ?_⟩ (by unfold qa_clear; rw [if_neg g1, nI_clamp (by omega), hb, hp])
    rw [hN2]
    by_cases z : n = 100 ∧ i = 24
    · rw [z.1, z.2, ax_pa]; exact hfog.symm
    · rw [ax_pn (by omega)]; exact e2 n i q z
  have plf : ∀ m k, k ≤ m → (∀ f, k ≤ f → f < m → p f = false) → pl p m = pl p k := by
    intro m k hk hf
    obtain ⟨q, rfl⟩ : ∃ q, m = k + q := ⟨m - k, by omega⟩
    induction q with
    | zero => rfl
    | succ q ih =>
      have e : pl p (k + (q + 1)) = if p (k + q) = true then nI (k + q) else pl p (k + q) := rfl
      rw [e, hf (k + q) (by omega) (by omega), if_neg (by decide)]
      exact ih (by omega) (fun f h1 h2 => hf f h1 (by omega))
  refine ax_for 10 (fun i N L => ∃ bs, L = [some (av_r 90), some (av_i (nI c)), some (av_i (iI (r 34))), some (av_i bs), some (av_i (iI (9 - (i : Int))))] ∧ N.2 = M0.2 ∧ (∀ n i, ¬ rs n i → ¬ (n = 100 ∧ i = 24) → N.1 n i = M0.1 n i) ∧ ((bs = -1 ∧ ∀ f, 10 - i ≤ f → f < 10 → p f = false) ∨ (¬ bs = -1 ∧ bs = pl p 10))) 43 ?_ ?_ (i := 0) (by omega) ⟨-1, rfl, rfl, fun _ _ _ _ => rfl, Or.inl ⟨rfl, fun f z1 z2 => by omega⟩⟩
  · rintro i N L hi ⟨bs, rfl, e1, e2, hb⟩ next
    have hok : lo_ok N.2 := by rw [e1]; exact hok
    refine ax_iload dX10_clear_43 rfl ?_
    refine ax_if_lt (tgt := 88) dX10_clear_45 (by decide) (fun hc => ?_) (fun hc => ?_)
    · rw [iv_lt, iI_t (by unfold iI_b; omega)] at hc
      exact absurd hc (by show ¬ _ < (0 : Int); omega)
    · refine ax_iload_n dX10_clear_48 rfl ?_
      refine ax_iconst (v := (-1)) dX10_clear_49 (by decide) ?_
      refine ax_icmp_ne (tgt := 88) dX10_clear_50 (by decide) (fun hc => ?_) (fun hc => ?_)
      · rcases hb with hb | hb
        · exact absurd hb.1 hc
        · exact tail N bs _ e1 e2 hb.2
      · rcases hb with hb | hb
        rotate_left
        · exact absurd hc hb.1
        obtain ⟨hb1, hb2⟩ := hb
        obtain ⟨f, hf⟩ : ∃ f, f + i = 9 := ⟨9 - i, by omega⟩
        have ef : iI (9 - (i : Int)) = nI f := by rw [iI_nI]; congr 1; omega
        rw [ef]
        refine ax_aload_n dX10_clear_53 rfl ?_
        refine ax_getK (f := 18) 100 dX10_clear_54 acl_10 wd_1618 (by decide) rfl (lo_s hok 90 rfl) (lo_r hok 89 rfl) ?_
        refine ax_bipush (v := 24) dX10_clear_57 (by decide) ?_
        refine ax_iload dX10_clear_59 rfl ?_
        refine ax_iastN (24) dX10_clear_61 (lo_s hok 100 rfl) (by decide) (by decide) (by decide) ?_
        refine ax_gen (fun N2 hN2 => ?_)
        have hok : lo_ok N2.2 := by rw [hN2]; exact hok
        have hrN : rr N2 (fg r (f : Int)) := by
          have e3 : ∀ n i, ¬ rs n i → ¬ (n = 100 ∧ i = 24) → N2.1 n i = M0.1 n i := fun n i q1 q2 => by rw [hN2, ax_pn (by omega)]; exact e2 n i q1 q2
          have ff : ∀ i, i ≠ 34 → fg r (f : Int) i = r i := fun i h => if_neg h
          refine ⟨fun k hk => ?_, fun k hk => ?_, fun k hk => ?_, fun k hk => ?_, fun k hk => ?_⟩
          · rw [e3 94 k (by unfold rs; omega) (by omega), ff k (by omega)]; exact hr0.1 k hk
          · by_cases z : k = 24
            · subst z; rw [hN2, ax_pa, iI_nI]; rfl
            · rw [e3 100 k (by unfold rs; omega) (by omega), ff (10 + k) (by omega)]; exact hr0.2.1 k hk
          · rw [e3 96 k (by unfold rs; omega) (by omega), ff (40 + k) (by omega)]; exact hr0.2.2.1 k hk
          · rw [e3 98 k (by unfold rs; omega) (by omega), ff (50 + k) (by omega)]; exact hr0.2.2.2.1 k hk
          · rw [e3 (107 + k) 0 (by unfold rs; omega) (by omega), e3 (107 + k) 1 (by unfold rs; omega) (by omega), ff (60 + 2 * k) (by omega), ff (61 + 2 * k) (by omega)]; exact hr0.2.2.2.2 k hk
        have hlN : ∀ w, w < 3 → ml_law N2 w (lw w) := fun w hw => ml_law_fr (hl0 w hw) (fun n i q => by rw [hN2, ax_pn (by omega)]; exact e2 n i (by unfold rs; omega) (by omega))
        refine ax_aload_n dX10_clear_62 rfl ?_
        refine ax_callV (As := _) (d2 := _) (c1 := 0) (n1 := 0) (c_X10_asTold (lw := lw) (M := N2) hok hrN (fg_ok ho (by omega)) hlN) dX10_clear_63 mX10_asTold wd_1943 acl_10 (lo_s hok 90 rfl) rfl (by omega) (by omega) (by omega) rfl rfl (fun _ _ h => by cases h.1) ?_
        rintro o9 N3 ⟨h1, f1, f2⟩; cases h1
        have hok : lo_ok N3.2 := by rw [f1.1]; exact hok
        have g1' : N3.2 = M0.2 := by rw [f1.1, hN2]; exact e1
        have g2' : ∀ n i, ¬ rs n i → ¬ (n = 100 ∧ i = 24) → N3.1 n i = M0.1 n i := fun n i q1 q2 => by rw [(sf_mt f1).2 n i q1, hN2, ax_pn (by omega)]; exact e2 n i q1 q2
        have hh : N3.1 377 c = mt_hit (fg r (f : Int)) lw mt_n c (mt_T (fg r (f : Int))) := (f2.1 c (by omega)).2.2.2.2.1
        have hpf : p f = true ↔ N3.1 377 c = 0 := by rw [hp, hh]; unfold cl_p; simp
        refine ax_aload_n dX10_clear_66 rfl ?_
        refine ax_getK (f := 39) 377 dX10_clear_67 acl_10 wd_1639 (by decide) rfl (lo_s hok 90 rfl) (lo_r hok 104 rfl) ?_
        refine ax_iload_n dX10_clear_70 rfl ?_
        refine ax_ialdN (c) dX10_clear_71 (lo_s hok 377 rfl) (by decide) (by first | with_reducible rfl | assumption | exact ax_nix (by simp only [nx_0, nx_1, nx_2, nx_3, nx_4, nx_10, nx_20, nx_21, nx_100, nI_add, pk_mul] <;> rfl) (by omega) | decide) (by omega) ?_
        refine ax_join1 (p f = true) 81 (nI f) (-1) ?_ (fun ja jb => ?_)
        rotate_left
        · refine ax_if_ne (tgt := 80) dX10_clear_72 (by decide) (fun h72 => ?_) (fun h72 => ?_)
          · refine ax_iconst (v := (-1)) dX10_clear_80 (by decide) ?_
            first | exact ja (hpf.mpr h72) | exact jb (fun z => h72 (hpf.mp z))
          · refine ax_iload dX10_clear_75 rfl ?_
            refine ax_goto (tgt := 81) dX10_clear_77 (by decide) ?_
            first | exact ja (hpf.mpr h72) | exact jb (fun z => h72 (hpf.mp z))
        refine ax_istore_n dX10_clear_81 (by decide) rfl ?_
        have ei : nI f + (-1) = iI (9 - ((i + 1 : Nat) : Int)) := by
          rw [iI_nI, show (-1 : Int32) = iI (-1) from rfl, iI_add]; congr 1; omega
        refine ax_iinc (v := (-1)) dX10_clear_82 rfl (by decide) (by decide) rfl ?_
        refine ax_goto (tgt := 43) dX10_clear_85 (by decide) ?_
        rw [ei]
        refine next _ _ ⟨_, rfl, g1', g2', ?_⟩
        by_cases q : p f = true
        · rw [if_pos q]
          refine Or.inr ⟨nI_m1 (by omega), ?_⟩
          rw [plf 10 (f + 1) (by omega) (fun g h1 h2 => hb2 g (by omega) h2)]
          exact (if_pos q).symm
        · rw [if_neg q]
          refine Or.inl ⟨rfl, fun g h1 h2 => ?_⟩
          by_cases z : g = f
          · subst z; exact mt_nf q
          · exact hb2 g (by omega) h2
  · rintro N L ⟨bs, rfl, e1, e2, hb⟩
    have hok : lo_ok N.2 := by rw [e1]; exact hok
    refine ax_iload dX10_clear_43 rfl ?_
    refine ax_if_lt (tgt := 88) dX10_clear_45 (by decide) (fun hc => ?_) (fun hc => ?_)
    · refine tail N bs _ e1 e2 ?_
      rcases hb with hb | hb
      · rw [hb.1, plf 10 0 (by omega) (fun f h1 h2 => hb.2 f (by omega) h2)]; rfl
      · exact hb.2
    · exact absurd (show iI (9 - ((10 : Nat) : Int)) < 0 by decide) hc
theorem c_paces (hok : lo_ok M.2) (hr : rr M r) (ho : rd_ok r) (hl : ∀ w, w < 3 → ml_law M w (lw w)) (x : Int32) : ax_Met l G kX10_paces 8 0 0 M [av_r 90, av_i x] (fun o M2 => rq M M2 o (qa_paces r lw x)) := by
  have h9 := ho.1
  refine ax_body (by decide) (Nat.le_of_ble_eq_true rfl) ?_
  refine ax_aload_n dX10_paces_0 rfl ?_
  refine ax_iconst (v := 0) dX10_paces_1 (by decide) ?_
  refine ax_putI (f := 0) dX10_paces_2 acl_10 wd_1600 (by decide) rfl rfl (ax_nfI rfl) (lo_s hok 90 rfl) ?_
  refine ax_gen (fun M0 hM0 => ?_)
  have hok : lo_ok M0.2 := by rw [hM0]; exact hok
  have hr0 : rr M0 r := by rw [hM0]; exact rr_fr hr (fun n i q => ax_pn (by omega))
  have h00 : M0.1 90 0 = 0 := by rw [hM0, ax_pa]
  refine ax_aload_n dX10_paces_5 rfl ?_
  refine ax_join0 (¬ (0 ≤ x ∧ x ≤ 1)) 20 (1) (0) ?_ (fun ja jb => ?_)
  rotate_left
  · refine ax_iload_n dX10_paces_6 rfl ?_
    refine ax_iconst (v := 0) dX10_paces_7 (by decide) ?_
    refine ax_iconst (v := 1) dX10_paces_8 (by decide) ?_
    refine ax_callS (As := _) (c1 := 0) (n1 := 0) (c_X10_in (d := 0) (M := M0) _ _ _) dX10_paces_9 mX10_in wd_1772 rfl (by omega) (by omega) (by omega) rfl rfl (fun _ _ h => by cases h.1) ?_
    rintro r M9 ⟨h1, h9⟩; cases h1; rw [h9]; clear h9 M9
    refine ax_ifB_ne (tgt := 19) dX10_paces_12 (by decide) (fun h12 => ?_) (fun h12 => ?_)
    · refine ax_iconst (v := 0) dX10_paces_19 (by decide) ?_
      first | (refine ja ?_; simp only [h12, and_self, and_true, true_and, not_true_eq_false, not_false_eq_true, or_true, true_or, or_false, false_or, or_self]; done) | (refine jb ?_; simp only [h12, and_self, and_true, true_and, not_true_eq_false, not_false_eq_true, or_true, true_or, or_false, false_or, or_self]; done) | exact ja h12 | exact jb (fun z => z h12) | exact ja (Or.inr h12) | exact ja (Or.inl h12)
    · refine ax_iconst (v := 1) dX10_paces_15 (by decide) ?_
      refine ax_goto (tgt := 20) dX10_paces_16 (by decide) ?_
      first | (refine ja ?_; simp only [h12, and_self, and_true, true_and, not_true_eq_false, not_false_eq_true, or_true, true_or, or_false, false_or, or_self]; done) | (refine jb ?_; simp only [h12, and_self, and_true, true_and, not_true_eq_false, not_false_eq_true, or_true, true_or, or_false, false_or, or_self]; done) | exact ja h12 | exact jb (fun z => z h12) | exact ja (Or.inr h12) | exact ja (Or.inl h12)
  refine ax_iconst (v := 1) dX10_paces_20 (by decide) ?_
  refine ax_iconst (v := 1) dX10_paces_21 (by decide) ?_
  refine ax_callV (As := _) (d2 := _) (c1 := 0) (n1 := 0) (c_badP (d := 0) (M := M0) (p := ¬ (0 ≤ x ∧ x ≤ 1)) hok h00 (w := 1) (k := 1) (by decide) (by decide) (by decide) rfl rfl) dX10_paces_22 mX10_bad wd_1775 acl_10 (lo_s hok 90 rfl) rfl (by omega) (by omega) (by omega) rfl rfl (fun _ _ h => by rcases h with ⟨_, h, _⟩ | ⟨_, h, _⟩ <;> cases h) ?_
  rintro o9 M9 (⟨g1, h1, h2⟩ | ⟨g1, h1, h2⟩) <;> cases h1 <;> rw [h2] <;> clear h2 M9
  · refine ax_if_ne (tgt := 36) dX10_paces_25 (by decide) (fun hc => ?_) (fun hc => ?_)
    · refine ax_iconst (v := 0) dX10_paces_36 (by decide) ?_
      refine ax_iret dX10_paces_37 rfl ?_
      exact rq_bad hM0 (w := 1) (k := 1) rfl (by unfold qa_paces; rw [if_pos g1])
    · exact absurd hc (by decide)
  refine ax_if_ne (tgt := 36) dX10_paces_25 (by decide) (fun hc => ?_) (fun hc => ?_)
  · exact absurd rfl hc
  refine ax_aload_n dX10_paces_28 rfl ?_
  refine ax_iconst (v := 2) dX10_paces_29 (by decide) ?_
  refine ax_callV (As := _) (d2 := _) (c1 := 0) (n1 := 0) (c_notTwo (M := M0) hok hr0 ho h00 (w := 2) (by decide) rfl) dX10_paces_30 mX10_notTwo wd_2029 acl_10 (lo_s hok 90 rfl) rfl (by omega) (by omega) (by omega) rfl rfl (fun _ _ h => by rcases h with ⟨_, h, _⟩ | ⟨_, h, _⟩ <;> cases h) ?_
  rintro o9 M9 (⟨g2, h1, h2⟩ | ⟨g2, h1, h2⟩) <;> cases h1 <;> rw [h2] <;> clear h2 M9
  · refine ax_if_eq (tgt := 38) dX10_paces_33 (by decide) (fun hc => ?_) (fun hc => ?_)
    · exact absurd hc (by decide)
    · refine ax_iconst (v := 0) dX10_paces_36 (by decide) ?_
      refine ax_iret dX10_paces_37 rfl ?_
      exact rq_bad hM0 (w := 2) (k := 2) rfl (by unfold qa_paces; rw [if_neg g1, if_pos g2])
  refine ax_if_eq (tgt := 38) dX10_paces_33 (by decide) (fun hc => ?_) (fun hc => ?_)
  rotate_left
  · exact absurd rfl hc
  obtain ⟨k, hk, rfl⟩ := in_nat (dn g1) (n := 1) rfl (by decide)
  have hl0 : ∀ w, w < 3 → ml_law M0 w (lw w) := fun w hw => by rw [hM0]; exact sf_law0 hw (hl w hw)
  obtain ⟨v, hv⟩ : ∃ v, v = ps_v r lw := ⟨_, rfl⟩
  have vle : ∀ a b, v a b ≤ 20 := fun a b => by
    have h1 := mt_hn_le (pc2 r (a : Int) (b : Int)) lw mt_n 0
    have h2 := mt_hn_le (pc2 r (a : Int) (b : Int)) lw mt_n 1
    rw [hv]; unfold ps_v; omega
  refine ax_iconst (v := (-1)) dX10_paces_38 (by decide) ?_
  refine ax_istore_n dX10_paces_39 (by decide) rfl ?_
  refine ax_iconst (v := 0) dX10_paces_40 (by decide) ?_
  refine ax_istore_n dX10_paces_41 (by decide) rfl ?_
  refine ax_iconst (v := 0) dX10_paces_42 (by decide) ?_
  refine ax_istore dX10_paces_43 (by decide) rfl ?_
  refine ax_aload_n dX10_paces_45 rfl ?_
  refine ax_iconst (v := 0) dX10_paces_46 (by decide) ?_
  refine ax_callV (As := _) (d2 := _) (c1 := 0) (n1 := 0) (c_rPace (d := 0) (M := M0) hok hr0 (c := 0) (by decide) rfl) dX10_paces_47 mX10_paceOf wd_1923 acl_10 (lo_s hok 90 rfl) rfl (by omega) (by omega) (by omega) rfl rfl (fun _ _ h => by cases h.1) ?_
  rintro r M9 ⟨h1, h9⟩; cases h1; rw [h9]; clear h9 M9
  refine ax_istore dX10_paces_50 (by decide) rfl ?_
  refine ax_aload_n dX10_paces_52 rfl ?_
  refine ax_iconst (v := 1) dX10_paces_53 (by decide) ?_
  refine ax_callV (As := _) (d2 := _) (c1 := 0) (n1 := 0) (c_rPace (d := 0) (M := M0) hok hr0 (c := 1) (by decide) rfl) dX10_paces_54 mX10_paceOf wd_1923 acl_10 (lo_s hok 90 rfl) rfl (by omega) (by omega) (by omega) rfl rfl (fun _ _ h => by cases h.1) ?_
  rintro r M9 ⟨h1, h9⟩; cases h1; rw [h9]; clear h9 M9
  refine ax_istore dX10_paces_57 (by decide) rfl ?_
  refine ax_iconst (v := 1) dX10_paces_59 (by decide) ?_
  refine ax_istore dX10_paces_60 (by decide) rfl ?_
  -- memory and best pair behind some pairs
  have J : ∃ J : ax_M → Prop, ∀ N, J N ↔ (N.2 = M0.2 ∧ ∀ n i, ¬ rs n i → ¬ (n = 100 ∧ (i = 0 ∨ i = 2)) → N.1 n i = M0.1 n i) := ⟨_, fun _ => Iff.rfl⟩
  obtain ⟨J, hJ⟩ := J
  refine ax_for 3 (fun a N L => ∃ bs ls sm y8 y9, L = [some (av_r 90), some (av_i (nI k)), some (av_i bs), some (av_i ls), some (av_i sm), some (av_i (iI (r 10))), some (av_i (iI (r 12))), some (av_i (nI (a + 1))), y8, y9] ∧ J N ∧ (a = 0 → bs = -1) ∧ (0 < a → bs = nI (10 * (ps_a v a).1 + (ps_a v a).2) ∧ ls = nI (v (ps_a v a).1 (ps_a v a).2) ∧ sm = nI ((ps_a v a).1 + (ps_a v a).2))) 62 ?_ ?_ (i := 0) (by omega) ⟨-1, 0, 0, _, _, rfl, (hJ M0).mpr ⟨rfl, fun _ _ _ _ => rfl⟩, fun _ => rfl, fun z => by omega⟩
  · rintro a N L ha ⟨bs, ls, sm, y8, y9, rfl, jN, i0, i1⟩ next
    refine ax_iload dX10_paces_62 rfl ?_
    refine ax_iconst (v := 4) dX10_paces_64 (by decide) ?_
    refine ax_icmp_ge (tgt := 179) dX10_paces_65 (by decide) (fun hc => absurd ((nI_leI (a := 4) (by omega) (by omega)).mp hc) (by omega)) (fun hc => ?_)
    refine ax_iconst (v := 1) dX10_paces_68 (by decide) ?_
    refine ax_istore dX10_paces_69 (by decide) rfl ?_
    refine ax_for 3 (fun b N L => ∃ bs ls sm y9, L = [some (av_r 90), some (av_i (nI k)), some (av_i bs), some (av_i ls), some (av_i sm), some (av_i (iI (r 10))), some (av_i (iI (r 12))), some (av_i (nI (a + 1))), some (av_i (nI (b + 1))), y9] ∧ J N ∧ (a = 0 ∧ b = 0 → bs = -1) ∧ (0 < a ∨ 0 < b → bs = nI (10 * (ps_r v (a + 1) (ps_a v a) b).1 + (ps_r v (a + 1) (ps_a v a) b).2) ∧ ls = nI (v (ps_r v (a + 1) (ps_a v a) b).1 (ps_r v (a + 1) (ps_a v a) b).2) ∧ sm = nI ((ps_r v (a + 1) (ps_a v a) b).1 + (ps_r v (a + 1) (ps_a v a) b).2))) 71 ?_ ?_ (i := 0) (by omega) ⟨bs, ls, sm, y9, rfl, jN, fun z => i0 z.1, fun z => i1 (by omega)⟩
    · rintro b N L hb ⟨bs, ls, sm, y9, rfl, jN, i0, i1⟩ next2
      obtain ⟨e1, e2⟩ := (hJ N).mp jN
      have hok : lo_ok N.2 := by rw [e1]; exact ‹lo_ok M0.2›
      refine ax_iload dX10_paces_71 rfl ?_
      refine ax_iconst (v := 4) dX10_paces_73 (by decide) ?_
      refine ax_icmp_ge (tgt := 173) dX10_paces_74 (by decide) (fun hc => absurd ((nI_leI (a := 4) (by omega) (by omega)).mp hc) (by omega)) (fun hc => ?_)
      refine ax_aload_n dX10_paces_77 rfl ?_
      refine ax_getK (f := 18) 100 dX10_paces_78 acl_10 wd_1618 (by decide) rfl (lo_s hok 90 rfl) (lo_r hok 89 rfl) ?_
      refine ax_iconst (v := 0) dX10_paces_81 (by decide) ?_
      refine ax_iload dX10_paces_82 rfl ?_
      refine ax_iastN (0) dX10_paces_84 (lo_s hok 100 rfl) (by decide) (by decide) (by decide) ?_
      refine ax_aload_n dX10_paces_85 rfl ?_
      refine ax_getK (f := 18) 100 dX10_paces_86 acl_10 wd_1618 (by decide) rfl (lo_s hok 90 rfl) (lo_r hok 89 rfl) ?_
      refine ax_iconst (v := 2) dX10_paces_89 (by decide) ?_
      refine ax_iload dX10_paces_90 rfl ?_
      refine ax_iastN (2) dX10_paces_92 (lo_s hok 100 rfl) (by decide) (by decide) (by decide) ?_
      refine ax_gen (fun N2 hN2 => ?_)
      have hok : lo_ok N2.2 := by rw [hN2]; exact hok
      have e3 : ∀ n i, ¬ rs n i → ¬ (n = 100 ∧ (i = 0 ∨ i = 2)) → N2.1 n i = M0.1 n i := fun n i q1 q2 => by rw [hN2, ax_pn (by omega), ax_pn (by omega)]; exact e2 n i q1 q2
      have hrN : rr N2 (pc2 r ((a + 1 : Nat) : Int) ((b + 1 : Nat) : Int)) := by
        have ff : ∀ i, i ≠ 10 → i ≠ 12 → pc2 r ((a + 1 : Nat) : Int) ((b + 1 : Nat) : Int) i = r i := fun i h h' => by unfold pc2; rw [if_neg h, if_neg h']
        refine ⟨fun k hk => ?_, fun k hk => ?_, fun k hk => ?_, fun k hk => ?_, fun k hk => ?_⟩
        · rw [e3 94 k (by unfold rs; omega) (by omega), ff k (by omega) (by omega)]; exact hr0.1 k hk
        · by_cases z : k = 0
          · subst z; rw [hN2, ax_pn (by omega), ax_pa, iI_nI]; rfl
          · by_cases z2 : k = 2
            · subst z2; rw [hN2, ax_pa, iI_nI]; rfl
            · rw [e3 100 k (by unfold rs; omega) (by omega), ff (10 + k) (by omega) (by omega)]; exact hr0.2.1 k hk
        · rw [e3 96 k (by unfold rs; omega) (by omega), ff (40 + k) (by omega) (by omega)]; exact hr0.2.2.1 k hk
        · rw [e3 98 k (by unfold rs; omega) (by omega), ff (50 + k) (by omega) (by omega)]; exact hr0.2.2.2.1 k hk
        · rw [e3 (107 + k) 0 (by unfold rs; omega) (by omega), e3 (107 + k) 1 (by unfold rs; omega) (by omega), ff (60 + 2 * k) (by omega) (by omega), ff (61 + 2 * k) (by omega) (by omega)]; exact hr0.2.2.2.2 k hk
      have hlN : ∀ w, w < 3 → ml_law N2 w (lw w) := fun w hw => ml_law_fr (hl0 w hw) (fun n i q => e3 n i (by unfold rs; omega) (by omega))
      refine ax_aload_n dX10_paces_93 rfl ?_
      refine ax_callV (As := _) (d2 := _) (c1 := 0) (n1 := 0) (c_X10_asTold (lw := lw) (M := N2) hok hrN (pc2_ok ho (by omega) (by omega)) hlN) dX10_paces_94 mX10_asTold wd_1943 acl_10 (lo_s hok 90 rfl) rfl (by omega) (by omega) (by omega) rfl rfl (fun _ _ h => by cases h.1) ?_
      rintro o9 N3 ⟨h1, f1, f2⟩; cases h1
      have hok : lo_ok N3.2 := by rw [f1.1]; exact hok
      have jN3 : J N3 := (hJ N3).mpr ⟨by rw [f1.1, hN2]; exact e1, fun n i q1 q2 => by rw [(sf_mt f1).2 n i q1]; exact e3 n i q1 q2⟩
      have eh : ∀ c, c < 2 → mt_ones (N3.1 377 c) 10 = nI (mt_hn (pc2 r ((a + 1 : Nat) : Int) ((b + 1 : Nat) : Int)) lw mt_n c) := fun c hc => by
        rw [(f2.1 c hc).2.2.2.2.1]; unfold mt_hit; rw [mt_ones_or]; rfl
      refine ax_aload_n dX10_paces_97 rfl ?_
      refine ax_getK (f := 39) 377 dX10_paces_98 acl_10 wd_1639 (by decide) rfl (lo_s hok 90 rfl) (lo_r hok 104 rfl) ?_
      refine ax_iconst (v := 0) dX10_paces_101 (by decide) ?_
      refine ax_ialdN (0) dX10_paces_102 (lo_s hok 377 rfl) (by decide) (by decide) (by decide) ?_
      refine ax_callS (As := _) (c1 := 0) (n1 := 0) (c_X10_ones (d := 0) (M := N3) _) dX10_paces_103 mX10_ones wd_2041 rfl (by omega) (by omega) (by omega) rfl rfl (fun _ _ h => by cases h.1) ?_
      rintro r M9 ⟨h1, h9⟩; cases h1; rw [h9]; clear h9 M9
      rw [eh 0 (by decide)]
      refine ax_aload_n dX10_paces_106 rfl ?_
      refine ax_getK (f := 39) 377 dX10_paces_107 acl_10 wd_1639 (by decide) rfl (lo_s hok 90 rfl) (lo_r hok 104 rfl) ?_
      refine ax_iconst (v := 1) dX10_paces_110 (by decide) ?_
      refine ax_ialdN (1) dX10_paces_111 (lo_s hok 377 rfl) (by decide) (by decide) (by decide) ?_
      refine ax_callS (As := _) (c1 := 0) (n1 := 0) (c_X10_ones (d := 0) (M := N3) _) dX10_paces_112 mX10_ones wd_2041 rfl (by omega) (by omega) (by omega) rfl rfl (fun _ _ h => by cases h.1) ?_
      rintro r M9 ⟨h1, h9⟩; cases h1; rw [h9]; clear h9 M9
      rw [eh 1 (by decide)]
      refine ax_iadd dX10_paces_115 ?_
      have es : nI (mt_hn (pc2 r ((a + 1 : Nat) : Int) ((b + 1 : Nat) : Int)) lw mt_n 0) + nI (mt_hn (pc2 r ((a + 1 : Nat) : Int) ((b + 1 : Nat) : Int)) lw mt_n 1) = nI (v (a + 1) (b + 1)) := by rw [nI_add, hv]; rfl
      rw [es]
      have hkl := ps_r_le (v := v) (st := ps_a v a) (a := a + 1) (ps_a_le v a (by omega)) (by omega) b (by omega)
      have sab := vle (a + 1) (b + 1)
      have spp := vle (ps_r v (a + 1) (ps_a v a) b).1 (ps_r v (a + 1) (ps_a v a) b).2
      have setp : ((a = 0 ∧ b = 0) ∨ ps_lt v (a + 1) (b + 1) (ps_r v (a + 1) (ps_a v a) b) = true) → ax_W l G kX10_paces (ax_FQ G (fun o M2 => rq M M2 o (qa_paces r lw (nI k)))) 8 0 0 N3 148 [some (av_r 90), some (av_i (nI k)), some (av_i bs), some (av_i ls), some (av_i sm), some (av_i (iI (r 10))), some (av_i (iI (r 12))), some (av_i (nI (a + 1))), some (av_i (nI (b + 1))), some (av_i (nI (v (a + 1) (b + 1))))] [] := by
        intro hh
        have ek : ps_r v (a + 1) (ps_a v a) (b + 1) = (a + 1, b + 1) := by
          rcases hh with ⟨rfl, rfl⟩ | hh
          · unfold ps_r
            split
            · rfl
            · rfl
          · exact if_pos hh
        refine ax_bipush (v := 10) dX10_paces_148 (by decide) ?_
        refine ax_iload dX10_paces_150 rfl ?_
        refine ax_imul dX10_paces_152 ?_
        refine ax_iload dX10_paces_153 rfl ?_
        refine ax_iadd dX10_paces_155 ?_
        refine ax_istore_n dX10_paces_156 (by decide) rfl ?_
        refine ax_iload dX10_paces_157 rfl ?_
        refine ax_istore_n dX10_paces_159 (by decide) rfl ?_
        refine ax_iload dX10_paces_160 rfl ?_
        refine ax_iload dX10_paces_162 rfl ?_
        refine ax_iadd dX10_paces_164 ?_
        refine ax_istore dX10_paces_165 (by decide) rfl ?_
        refine ax_iinc (v := 1) dX10_paces_167 rfl (by decide) (by decide) rfl ?_
        refine ax_goto (tgt := 71) dX10_paces_170 (by decide) ?_
        refine next2 _ _ ⟨_, _, _, _, by rw [nI_1]; rfl, jN3, fun z => by omega, fun _ => ?_⟩
        rw [ek]
        exact ⟨by rw [nx_10, pk_mul, nI_add], rfl, by rw [nI_add]⟩
      have stay : (0 < a ∨ 0 < b) → ¬ ps_lt v (a + 1) (b + 1) (ps_r v (a + 1) (ps_a v a) b) = true → ax_W l G kX10_paces (ax_FQ G (fun o M2 => rq M M2 o (qa_paces r lw (nI k)))) 8 0 0 N3 167 [some (av_r 90), some (av_i (nI k)), some (av_i bs), some (av_i ls), some (av_i sm), some (av_i (iI (r 10))), some (av_i (iI (r 12))), some (av_i (nI (a + 1))), some (av_i (nI (b + 1))), some (av_i (nI (v (a + 1) (b + 1))))] [] := by
        intro hnz hh
        have ek : ps_r v (a + 1) (ps_a v a) (b + 1) = ps_r v (a + 1) (ps_a v a) b := if_neg hh
        refine ax_iinc (v := 1) dX10_paces_167 rfl (by decide) (by decide) rfl ?_
        refine ax_goto (tgt := 71) dX10_paces_170 (by decide) ?_
        refine next2 _ _ ⟨_, _, _, _, by rw [nI_1]; rfl, jN3, fun z => by omega, fun _ => ?_⟩
        rw [ek]
        exact i1 hnz
      refine ax_istore dX10_paces_116 (by decide) rfl ?_
      refine ax_iload_n dX10_paces_118 rfl ?_
      refine ax_iconst (v := (-1)) dX10_paces_119 (by decide) ?_
      refine ax_icmp_eq (tgt := 148) dX10_paces_120 (by decide) (fun hc => ?_) (fun hc => ?_)
      · refine setp (Or.inl ?_)
        refine Decidable.byContradiction (fun z => ?_)
        have := (i1 (by omega)).1
        rw [hc] at this
        exact nI_m1 (by omega) this.symm
      · have hnz : 0 < a ∨ 0 < b := by
          rcases Nat.eq_zero_or_pos a with q | q
          · rcases Nat.eq_zero_or_pos b with q2 | q2
            · exact absurd (i0 ⟨q, q2⟩) hc
            · exact Or.inr q2
          · exact Or.inl q
        obtain ⟨j1, j2, j3⟩ := i1 hnz
        refine ax_iload dX10_paces_123 rfl ?_
        refine ax_iload_n dX10_paces_125 rfl ?_
        refine ax_icmp_gt (tgt := 167) dX10_paces_126 (by decide) (fun hc => ?_) (fun hc => ?_)
        · rw [j2] at hc
          have hlt := (nI_ltI (by omega) (by omega)).mp hc
          exact stay hnz (by unfold ps_lt; simp; omega)
        · have hge : ¬ v (ps_r v (a + 1) (ps_a v a) b).1 (ps_r v (a + 1) (ps_a v a) b).2 < v (a + 1) (b + 1) := fun z => hc (by rw [j2]; exact (nI_ltI (by omega) (by omega)).mpr z)
          refine ax_iload dX10_paces_129 rfl ?_
          refine ax_iload_n dX10_paces_131 rfl ?_
          refine ax_icmp_ne (tgt := 148) dX10_paces_132 (by decide) (fun hc => ?_) (fun hc => ?_)
          · have hne : ¬ v (a + 1) (b + 1) = v (ps_r v (a + 1) (ps_a v a) b).1 (ps_r v (a + 1) (ps_a v a) b).2 := fun z => hc (by rw [j2, z])
            exact setp (Or.inr (by unfold ps_lt; simp; omega))
          · rw [j2] at hc
            have heq := (nI_eq (by omega) (by omega)).mp hc
            refine ax_iload dX10_paces_135 rfl ?_
            refine ax_iload dX10_paces_137 rfl ?_
            refine ax_iadd dX10_paces_139 ?_
            rw [nI_add]
            refine ax_iload dX10_paces_140 rfl ?_
            refine ax_icmp_gt (tgt := 148) dX10_paces_142 (by decide) (fun hc => ?_) (fun hc => ?_)
            · rw [j3] at hc
              have hlt := (nI_ltI (by omega) (by omega)).mp hc
              exact setp (Or.inr (by unfold ps_lt; simp; omega))
            · have hlt : ¬ (ps_r v (a + 1) (ps_a v a) b).1 + (ps_r v (a + 1) (ps_a v a) b).2 < a + 1 + (b + 1) := fun z => hc (by rw [j3]; exact (nI_ltI (by omega) (by omega)).mpr z)
              refine ax_goto (tgt := 167) dX10_paces_145 (by decide) ?_
              exact stay hnz (by unfold ps_lt; simp; omega)
    · rintro N L ⟨bs, ls, sm, y9, rfl, jN, i0, i1⟩
      refine ax_iload dX10_paces_71 rfl ?_
      refine ax_iconst (v := 4) dX10_paces_73 (by decide) ?_
      refine ax_icmp_ge (tgt := 173) dX10_paces_74 (by decide) (fun hc => ?_) (fun hc => absurd ((nI_leI (a := 4) (by omega) (by omega)).mpr (by omega)) hc)
      refine ax_iinc (v := 1) dX10_paces_173 rfl (by decide) (by decide) rfl ?_
      refine ax_goto (tgt := 62) dX10_paces_176 (by decide) ?_
      exact next _ _ ⟨_, _, _, _, _, by rw [nI_1]; rfl, jN, fun z => by omega, fun _ => i1 (by omega)⟩
  · rintro N L ⟨bs, ls, sm, y8, y9, rfl, jN, i0, i1⟩
    obtain ⟨e1, e2⟩ := (hJ N).mp jN
    have hok : lo_ok N.2 := by rw [e1]; exact ‹lo_ok M0.2›
    obtain ⟨j1, j2, j3⟩ := i1 (by omega)
    refine ax_iload dX10_paces_62 rfl ?_
    refine ax_iconst (v := 4) dX10_paces_64 (by decide) ?_
    refine ax_icmp_ge (tgt := 179) dX10_paces_65 (by decide) (fun hc => ?_) (fun hc => absurd ((nI_leI (a := 4) (by omega) (by omega)).mpr (by omega)) hc)
    refine ax_aload_n dX10_paces_179 rfl ?_
    refine ax_getK (f := 18) 100 dX10_paces_180 acl_10 wd_1618 (by decide) rfl (lo_s hok 90 rfl) (lo_r hok 89 rfl) ?_
    refine ax_iconst (v := 0) dX10_paces_183 (by decide) ?_
    refine ax_iload dX10_paces_184 rfl ?_
    refine ax_iastN (0) dX10_paces_186 (lo_s hok 100 rfl) (by decide) (by decide) (by decide) ?_
    refine ax_aload_n dX10_paces_187 rfl ?_
    refine ax_getK (f := 18) 100 dX10_paces_188 acl_10 wd_1618 (by decide) rfl (lo_s hok 90 rfl) (lo_r hok 89 rfl) ?_
    refine ax_iconst (v := 2) dX10_paces_191 (by decide) ?_
    refine ax_iload dX10_paces_192 rfl ?_
    refine ax_iastN (2) dX10_paces_194 (lo_s hok 100 rfl) (by decide) (by decide) (by decide) ?_
    refine ax_gen (fun N2 hN2 => ?_)
    have hok : lo_ok N2.2 := by rw [hN2]; exact hok
    have hs2 : sf M0 N2 := ⟨by rw [hN2]; exact e1, fun n i q => by
      rw [hN2]
      by_cases z : n = 100 ∧ i = 2
      · rw [z.1, z.2, ax_pa]; exact (hr0.2.1 2 (by decide)).symm
      · rw [ax_pn (by omega)]
        by_cases z2 : n = 100 ∧ i = 0
        · rw [z2.1, z2.2, ax_pa]; exact (hr0.2.1 0 (by decide)).symm
        · rw [ax_pn (by omega)]; exact e2 n i q (by omega)⟩
    have e : ∀ w, w = qv_paces r lw k → rq M N2 (.inl (some (av_i w))) (qa_paces r lw (nI k)) := fun w hw => rq_sf hM0 hs2 (by unfold qa_paces; rw [if_neg g1, if_neg g2, nI_clamp (by omega), hw])
    rcases (show k = 0 ∨ k = 1 by omega) with rfl | rfl
    · refine ax_iload_n dX10_paces_195 rfl ?_
      refine ax_if_ne (tgt := 203) dX10_paces_196 (by decide) (fun h196 => ?_) (fun h196 => ?_)
      · exact absurd rfl h196
      · refine ax_iload_n dX10_paces_199 rfl ?_
        refine ax_goto (tgt := 204) dX10_paces_200 (by decide) ?_
        refine ax_iret dX10_paces_204 rfl ?_
        exact e _ (by rw [j1, hv]; rfl)
    · refine ax_iload_n dX10_paces_195 rfl ?_
      refine ax_if_ne (tgt := 203) dX10_paces_196 (by decide) (fun h196 => ?_) (fun h196 => ?_)
      · refine ax_iload_n dX10_paces_203 rfl ?_
        refine ax_iret dX10_paces_204 rfl ?_
        exact e _ (by rw [j2, hv]; rfl)
      · exact absurd h196 (by decide)
end QJ

