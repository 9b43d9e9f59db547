/-! ===== sums, would, cost: the reference ===== -/
def mt_bc (r : Nat → Int) (lw : mt_L) (d : Nat → Int32) (c : Nat) : Nat → Nat := mt_cnt (fun t => mt_on r c t && decide (0 < mt_b r lw d c t))
def mt_fc (r : Nat → Int) (lw : mt_L) (d : Nat → Int32) (c : Nat) : Nat → Nat := mt_cnt (fun t => mt_on r c t && decide (mt_f r lw d c t = 1))
def mt_cc (r : Nat → Int) (lw : mt_L) (d : Nat → Int32) (c : Nat) : Nat → Nat := mt_cnt (fun t => mt_on r c t && !decide (mt_f r lw d c t = (mt_s r lw d t).2 c))
def mt_ls (r : Nat → Int) (lw : mt_L) (d : Nat → Int32) (c : Nat) : Nat → Int
  | 0 => -1
  | t + 1 => if mt_on r c t = true then (if mt_ls r lw d c t = -1 then mt_si r lw d c t else min (mt_ls r lw d c t) (mt_si r lw d c t)) else mt_ls r lw d c t
theorem mt_ls_b (r : Nat → Int) (lw : mt_L) (d : Nat → Int32) (c : Nat) : ∀ t, -1 ≤ mt_ls r lw d c t ∧ mt_ls r lw d c t ≤ 60
  | 0 => by show (-1 : Int) ≤ -1 ∧ (-1 : Int) ≤ 60; omega
  | t + 1 => by
    have ih := mt_ls_b r lw d c t
    have := mt_si_b r lw d c t
    have e : mt_ls r lw d c (t + 1) = if mt_on r c t = true then (if mt_ls r lw d c t = -1 then mt_si r lw d c t else min (mt_ls r lw d c t) (mt_si r lw d c t)) else mt_ls r lw d c t := rfl
    rw [e]
    split
    · split <;> omega
    · exact ih
theorem ev_beam_01 (f : Int32) (lw : Option (List (Int32 × Int32))) (kn : Nat → Int32) : ev_beam f lw kn = 0 ∨ ev_beam f lw kn = 1 := by
  unfold ev_beam
  by_cases q : 0 < (if f = -1 then ev_rule lw kn else kn 8 - f)
  · rw [if_pos q]; exact Or.inr rfl
  · rw [if_neg q]; exact Or.inl rfl
theorem mt_s_01 (r : Nat → Int) (lw : mt_L) (d : Nat → Int32) (c : Nat) : ∀ t, (mt_s r lw d t).2 c = 0 ∨ (mt_s r lw d t).2 c = 1
  | 0 => Or.inr rfl
  | t + 1 => by
    show mt_F r lw d t (mt_s r lw d t) c = 0 ∨ mt_F r lw d t (mt_s r lw d t) c = 1
    unfold mt_F
    split
    · exact ev_beam_01 _ _ _
    · exact mt_s_01 r lw d c t
theorem mt_f_01 (r : Nat → Int) (lw : mt_L) (d : Nat → Int32) (c t : Nat) : mt_f r lw d c t = 0 ∨ mt_f r lw d c t = 1 := mt_s_01 r lw d c (t + 1)
theorem nI_cnt (p : Nat → Bool) (t : Nat) : nI (mt_cnt p t) + (if p t = true then 1 else 0) = nI (mt_cnt p (t + 1)) := by
  show _ = nI (mt_cnt p t + _)
  rw [← nI_add]; congr 1; split <;> rfl
theorem nI_cntP {p : Nat → Bool} {t : Nat} {b : Prop} [Decidable b] (h : b ↔ p t = true) : nI (mt_cnt p t) + (if b then 1 else 0) = nI (mt_cnt p (t + 1)) := by
  rw [← nI_cnt]; congr 1; by_cases q : b; rw [if_pos q, if_pos (h.mp q)]; rw [if_neg q, if_neg (fun z => q (h.mpr z))]
theorem mt_s_off {r : Nat → Int} {lw : mt_L} {d : Nat → Int32} {c t : Nat} (h : mt_on r c t = false) : (mt_s r lw d (t + 1)).2 c = (mt_s r lw d t).2 c := by
  show mt_F r lw d t (mt_s r lw d t) c = _
  unfold mt_F
  rw [if_neg (by rw [h]; decide)]
theorem mt_cnt_off {p : Nat → Bool} {t : Nat} (h : p t = false) : mt_cnt p (t + 1) = mt_cnt p t := by
  show mt_cnt p t + _ = _
  rw [if_neg (by rw [h]; decide)]; rfl
theorem iI_le0 {b : Int} (h : iI_b b) : iI b ≤ 0 ↔ b ≤ 0 := iI_le (b := 0) h (by unfold iI_b; omega)
def qv_sums (r : Nat → Int) (lw : mt_L) (c k : Nat) : Int32 := if k = 0 then nI (mt_us r lw mt_n c) else if k = 1 then nI (mt_gl r lw mt_n c (mt_T r)) else if k = 2 then nI (mt_bc r lw mt_n c (mt_T r)) else if k = 3 then nI (mt_fc r lw mt_n c (mt_T r)) else if k = 4 then nI (mt_cc r lw mt_n c (mt_T r)) else iI (mt_ls r lw mt_n c (mt_T r))
def qa_sums (r : Nat → Int) (lw : mt_L) (x y : Int32) : ax_V ⊕ (Nat × Nat) := if ¬ (0 ≤ x ∧ x ≤ iI (r 1) - 1) then .inr (1, 0) else if ¬ (0 ≤ y ∧ y ≤ 5) then .inr (2, 1) else .inl (av_i (qv_sums r lw x.toNatClampNeg y.toNatClampNeg))
def wd_kn (r : Nat → Int) (a b y w : Int32) (k : Nat) : Int32 := if k = 0 then a else if k = 1 then iI (r 34) else if k = 2 then b else if k = 3 then y else if k = 4 then w else if k = 8 then 99 else 0
def qa_would (r : Nat → Int) (lw : mt_L) (a b y w : Int32) : ax_V ⊕ (Nat × Nat) := if ¬ (0 ≤ a ∧ a ≤ 60) ∨ ¬ (0 ≤ b ∧ b ≤ 20) ∨ ¬ (17 ≤ y ∧ y ≤ 99) ∨ ¬ (0 ≤ w ∧ w ≤ 1) then .inr (1, 1) else .inl (av_i (ev_sight (lw 0) (wd_kn r a b y w)))
def mt_c2 (c : Nat) (a b : Int32) : Nat → Int32 := if c = 0 then mt_d a b else mt_d b a
def qa_cost (r : Nat → Int) (lw : mt_L) (x a b : Int32) : ax_V ⊕ (Nat × Nat) := if ¬ (0 ≤ x ∧ x ≤ iI (r 1) - 1) then .inr (1, 0) else if ¬ (0 ≤ a ∧ a ≤ 60) ∨ ¬ (0 ≤ b ∧ b ≤ 60) then .inr (2, 1) else if r 1 < 2 then .inr (3, 2) else .inl (av_i (nI (mt_cost r lw (mt_c2 x.toNatClampNeg a b) x.toNatClampNeg)))
/-- of 0 .. n the first with the least v -/
def am (v : Nat → Nat) : Nat → Nat
  | 0 => 0
  | n + 1 => if v (n + 1) < v (am v n) then n + 1 else am v n
theorem am_le (v : Nat → Nat) : ∀ n, am v n ≤ n
  | 0 => Nat.le_refl _
  | n + 1 => by
    have := am_le v n
    unfold am
    split <;> omega
def qa_answer (r : Nat → Int) (lw : mt_L) (x n : Int32) : ax_V ⊕ (Nat × Nat) := if ¬ (0 ≤ x ∧ x ≤ iI (r 1) - 1) then .inr (1, 0) else if ¬ (0 ≤ n ∧ n ≤ 20) then .inr (2, 1) else if r 1 < 2 then .inr (3, 2) else .inl (av_i (nI (am (fun d => mt_cost r lw (mt_c2 x.toNatClampNeg (nI d) (-1)) x.toNatClampNeg) n.toNatClampNeg)))
section QC
variable {l : Launch} {G : ax_G} {M : ax_M} {r : Nat → Int} {lw : mt_L}
theorem c_sums (hok : lo_ok M.2) (hr : rr M r) (ho : rd_ok r) (hl : ∀ w, w < 3 → ml_law M w (lw w)) (x y : Int32) : ax_Met l G kX10_sums 8 0 0 M [av_r 90, av_i x, av_i y] (fun o M2 => rq M M2 o (qa_sums r lw x y)) := by
  have h9 := ho.1
  have hTT := mt_T_le r
  refine ax_body (by decide) (Nat.le_of_ble_eq_true rfl) ?_
  refine ax_aload_n dX10_sums_0 rfl ?_
  refine ax_iconst (v := 0) dX10_sums_1 (by decide) ?_
  refine ax_putI (f := 0) dX10_sums_2 acl_10 wd_1600 (by decide) rfl rfl (ax_nfI rfl) (lo_s hok 90 rfl) ?_
  refine ax_gen (fun M0 hM0 => ?_)
  have hok : lo_ok M0.2 := by rw [hM0]; exact hok
  have hr0 : rr M0 r := by rw [hM0]; exact rr_fr hr (fun n i q => ax_pn (by omega))
  have h00 : M0.1 90 0 = 0 := by rw [hM0, ax_pa]
  refine ax_aload_n dX10_sums_5 rfl ?_
  refine ax_join0 (¬ (0 ≤ x ∧ x ≤ iI (r 1) - 1)) 19 (1) (0) ?_ (fun ja jb => ?_)
  rotate_left
  · refine ax_aload_n dX10_sums_6 rfl ?_
    refine ax_iload_n dX10_sums_7 rfl ?_
    refine ax_callV (As := _) (d2 := _) (c1 := 0) (n1 := 0) (c_rIsCar (M := M0) hok hr0 _) dX10_sums_8 mX10_isCar wd_1919 acl_10 (lo_s hok 90 rfl) rfl (by omega) (by omega) (by omega) rfl rfl (fun _ _ h => by cases h.1) ?_
    rintro r M9 ⟨h1, h9⟩; cases h1; rw [h9]; clear h9 M9
    refine ax_ifB_ne (tgt := 18) dX10_sums_11 (by decide) (fun h11 => ?_) (fun h11 => ?_)
    · refine ax_iconst (v := 0) dX10_sums_18 (by decide) ?_
      first | (refine ja ?_; simp only [h11, and_self, and_true, true_and, not_true_eq_false, not_false_eq_true, or_true, true_or, or_false, false_or, or_self]; done) | (refine jb ?_; simp only [h11, and_self, and_true, true_and, not_true_eq_false, not_false_eq_true, or_true, true_or, or_false, false_or, or_self]; done) | exact ja h11 | exact jb (fun z => z h11) | exact ja (Or.inr h11) | exact ja (Or.inl h11)
    · refine ax_iconst (v := 1) dX10_sums_14 (by decide) ?_
      refine ax_goto (tgt := 19) dX10_sums_15 (by decide) ?_
      first | (refine ja ?_; simp only [h11, and_self, and_true, true_and, not_true_eq_false, not_false_eq_true, or_true, true_or, or_false, false_or, or_self]; done) | (refine jb ?_; simp only [h11, and_self, and_true, true_and, not_true_eq_false, not_false_eq_true, or_true, true_or, or_false, false_or, or_self]; done) | exact ja h11 | exact jb (fun z => z h11) | exact ja (Or.inr h11) | exact ja (Or.inl h11)
  refine ax_iconst (v := 1) dX10_sums_19 (by decide) ?_
  refine ax_iconst (v := 0) dX10_sums_20 (by decide) ?_
  refine ax_callV (As := _) (d2 := _) (c1 := 0) (n1 := 0) (c_badP (d := 0) (M := M0) (p := ¬ (0 ≤ x ∧ x ≤ iI (r 1) - 1)) hok h00 (w := 1) (k := 0) (by decide) (by decide) (by decide) rfl rfl) dX10_sums_21 mX10_bad wd_1775 acl_10 (lo_s hok 90 rfl) rfl (by omega) (by omega) (by omega) rfl rfl (fun _ _ h => by rcases h with ⟨_, h, _⟩ | ⟨_, h, _⟩ <;> cases h) ?_
  rintro o9 M9 (⟨g1, h1, h2⟩ | ⟨g1, h1, h2⟩) <;> cases h1 <;> rw [h2] <;> clear h2 M9
  · refine ax_if_ne (tgt := 50) dX10_sums_24 (by decide) (fun hc => ?_) (fun hc => ?_)
    · refine ax_iconst (v := 0) dX10_sums_50 (by decide) ?_
      refine ax_iret dX10_sums_51 rfl ?_
      exact rq_bad hM0 (w := 1) (k := 0) rfl (by unfold qa_sums; rw [if_pos g1])
    · exact absurd hc (by decide)
  refine ax_if_ne (tgt := 50) dX10_sums_24 (by decide) (fun hc => ?_) (fun hc => ?_)
  · exact absurd rfl hc
  refine ax_aload_n dX10_sums_27 rfl ?_
  refine ax_join0 (¬ (0 ≤ y ∧ y ≤ 5)) 42 (1) (0) ?_ (fun ja jb => ?_)
  rotate_left
  · refine ax_iload_n dX10_sums_28 rfl ?_
    refine ax_iconst (v := 0) dX10_sums_29 (by decide) ?_
    refine ax_iconst (v := 5) dX10_sums_30 (by decide) ?_
    refine ax_callS (As := _) (c1 := 0) (n1 := 0) (c_X10_in (d := 0) (M := M0) _ _ _) dX10_sums_31 mX10_in wd_1772 rfl (by omega) (by omega) (by omega) rfl rfl (fun _ _ h => by cases h.1) ?_
    rintro r M9 ⟨h1, h9⟩; cases h1; rw [h9]; clear h9 M9
    refine ax_ifB_ne (tgt := 41) dX10_sums_34 (by decide) (fun h34 => ?_) (fun h34 => ?_)
    · refine ax_iconst (v := 0) dX10_sums_41 (by decide) ?_
      first | (refine ja ?_; simp only [h34, and_self, and_true, true_and, not_true_eq_false, not_false_eq_true, or_true, true_or, or_false, false_or, or_self]; done) | (refine jb ?_; simp only [h34, and_self, and_true, true_and, not_true_eq_false, not_false_eq_true, or_true, true_or, or_false, false_or, or_self]; done) | exact ja h34 | exact jb (fun z => z h34) | exact ja (Or.inr h34) | exact ja (Or.inl h34)
    · refine ax_iconst (v := 1) dX10_sums_37 (by decide) ?_
      refine ax_goto (tgt := 42) dX10_sums_38 (by decide) ?_
      first | (refine ja ?_; simp only [h34, and_self, and_true, true_and, not_true_eq_false, not_false_eq_true, or_true, true_or, or_false, false_or, or_self]; done) | (refine jb ?_; simp only [h34, and_self, and_true, true_and, not_true_eq_false, not_false_eq_true, or_true, true_or, or_false, false_or, or_self]; done) | exact ja h34 | exact jb (fun z => z h34) | exact ja (Or.inr h34) | exact ja (Or.inl h34)
  refine ax_iconst (v := 2) dX10_sums_42 (by decide) ?_
  refine ax_iconst (v := 1) dX10_sums_43 (by decide) ?_
  refine ax_callV (As := _) (d2 := _) (c1 := 0) (n1 := 0) (c_badP (d := 0) (M := M0) (p := ¬ (0 ≤ y ∧ y ≤ 5)) hok h00 (w := 2) (k := 1) (by decide) (by decide) (by decide) rfl rfl) dX10_sums_44 mX10_bad wd_1775 acl_10 (lo_s hok 90 rfl) rfl (by omega) (by omega) (by omega) rfl rfl (fun _ _ h => by rcases h with ⟨_, h, _⟩ | ⟨_, h, _⟩ <;> cases h) ?_
  rintro o9 M9 (⟨g2, h1, h2⟩ | ⟨g2, h1, h2⟩) <;> cases h1 <;> rw [h2] <;> clear h2 M9
  · refine ax_if_eq (tgt := 52) dX10_sums_47 (by decide) (fun hc => ?_) (fun hc => ?_)
    · exact absurd hc (by decide)
    · refine ax_iconst (v := 0) dX10_sums_50 (by decide) ?_
      refine ax_iret dX10_sums_51 rfl ?_
      exact rq_bad hM0 (w := 2) (k := 1) rfl (by unfold qa_sums; rw [if_neg g1, if_pos g2])
  refine ax_if_eq (tgt := 52) dX10_sums_47 (by decide) (fun hc => ?_) (fun hc => ?_)
  rotate_left
  · exact absurd rfl hc
  obtain ⟨c, hc2, rfl⟩ := in_car (dn g1) (by omega) (by omega)
  obtain ⟨k, hk, rfl⟩ := in_nat (dn g2) (n := 5) rfl (by decide)
  refine ax_aload_n dX10_sums_52 rfl ?_
  refine ax_callV (As := _) (d2 := _) (c1 := 0) (n1 := 0) (c_X10_asTold (lw := lw) (M := M0) hok hr0 ho (fun w hw => by rw [hM0]; exact sf_law0 hw (hl w hw))) dX10_sums_53 mX10_asTold wd_1943 acl_10 (lo_s hok 90 rfl) rfl (by omega) (by omega) (by omega) rfl rfl (fun _ _ h => by cases h.1) ?_
  rintro o9 M1 ⟨h1, f1, f2⟩; cases h1
  have hok : lo_ok M1.2 := by rw [f1.1]; exact hok
  have e : ∀ v, v = qv_sums r lw c k → rq M M1 (.inl (some (av_i v))) (qa_sums r lw (nI c) (nI k)) := fun v hv => rq_sf hM0 (sf_mt f1) (by unfold qa_sums; rw [if_neg g1, if_neg g2, nI_clamp (by omega), nI_clamp (by omega), hv])
  refine ax_iconst (v := 0) dX10_sums_56 (by decide) ?_
  refine ax_istore_n dX10_sums_57 (by decide) rfl ?_
  refine ax_iconst (v := 0) dX10_sums_58 (by decide) ?_
  refine ax_istore dX10_sums_59 (by decide) rfl ?_
  refine ax_iconst (v := 0) dX10_sums_61 (by decide) ?_
  refine ax_istore dX10_sums_62 (by decide) rfl ?_
  refine ax_iconst (v := (-1)) dX10_sums_64 (by decide) ?_
  refine ax_istore dX10_sums_65 (by decide) rfl ?_
  refine ax_iconst (v := 1) dX10_sums_67 (by decide) ?_
  refine ax_istore dX10_sums_68 (by decide) rfl ?_
  refine ax_iconst (v := 0) dX10_sums_70 (by decide) ?_
  refine ax_istore dX10_sums_71 (by decide) rfl ?_
  refine ax_for (mt_T r) (fun t N L => ∃ y9, N = M1 ∧ L = [some (av_r 90), some (av_i (nI c)), some (av_i (nI k)), some (av_i (nI (mt_bc r lw mt_n c t))), some (av_i (nI (mt_fc r lw mt_n c t))), some (av_i (nI (mt_cc r lw mt_n c t))), some (av_i (iI (mt_ls r lw mt_n c t))), some (av_i ((mt_s r lw mt_n t).2 c)), some (av_i (nI t)), y9]) 73 ?_ ?_ (i := 0) (by omega) ⟨_, rfl, rfl⟩
  · rintro t N L ht ⟨y9, rfl, rfl⟩ next
    have hrw := (f2.1 c (by omega)).2.2.2.2.2.2.2 t ht
    refine ax_iload dX10_sums_73 rfl ?_
    refine ax_aload_n dX10_sums_75 rfl ?_
    refine ax_getI (f := 46) dX10_sums_76 acl_10 wd_1646 (by decide) rfl (lo_s hok 90 rfl) ?_
    rw [f2.2.1]
    refine ax_icmp_ge (tgt := 183) dX10_sums_79 (by decide) (fun hc => absurd ((nI_leI (by omega) (by omega)).mp hc) (by omega)) (fun hc => ?_)
    refine ax_aload_n dX10_sums_82 rfl ?_
    refine ax_getK (f := 36) 170 dX10_sums_83 acl_10 wd_1636 (by decide) rfl (lo_s hok 90 rfl) (lo_r hok 101 rfl) ?_
    refine ax_iload_n dX10_sums_86 rfl ?_
    refine ax_aaldN3 (171 + 100 * (c)) (c) dX10_sums_87 (lo_s hok 170 rfl) (by decide) (by first | with_reducible rfl | assumption | exact ax_nix (by simp only [nx_0, nx_1, nx_2, nx_3, nx_4, nx_10, nx_20, nx_21, nx_100, nI_add, pk_mul] <;> rfl) (by omega) | decide) (by omega) (lo_tt hok (by omega)) ?_
    refine ax_iload dX10_sums_88 rfl ?_
    refine ax_aaldN2 (172 + 100 * (c) + (t)) (t) dX10_sums_90 (lo_ts hok (by omega)) (by decide) (by first | with_reducible rfl | assumption | exact ax_nix (by simp only [nx_0, nx_1, nx_2, nx_3, nx_4, nx_10, nx_20, nx_21, nx_100, nI_add, pk_mul] <;> rfl) (by omega) | decide) (by omega) (lo_tr hok (by omega) (by omega)) ?_
    refine ax_astore dX10_sums_91 (by decide) rfl ?_
    refine ax_aload dX10_sums_93 rfl ?_
    refine ax_iconst (v := 0) dX10_sums_95 (by decide) ?_
    refine ax_ialdN (0) dX10_sums_96 (by first | assumption | exact lo_tz hok (by omega) (by omega) | exact lo_z_m_wet hok (by omega) | exact lo_z_m_readWet hok (by omega) | exact lo_z_m_law hok (by omega) | exact lo_z_m_book hok (by omega) | exact lo_z_m_readBook hok (by omega) | exact lo_z_m_before hok (by omega) | exact lo_z_m_kept hok (by omega) | exact lo_z_m_seenAt hok (by omega) | exact lo_z_m_seenIn hok (by omega) | exact lo_z_m_t0 hok (by omega) | exact lo_z_m_t1 hok (by omega) | exact lo_z_m_c0 hok (by omega) | exact lo_z_m_c1 hok (by omega) | exact lo_z_x_kept hok (by omega)) (by decide) (by decide) (by decide) ?_
    refine ax_iconst (v := (-1)) dX10_sums_97 (by decide) ?_
    refine ax_icmp_ne (tgt := 104) dX10_sums_98 (by decide) (fun hc => ?_) (fun hc => ?_)
    · have hon : mt_on r c t = true := Decidable.byContradiction (fun q => hc ((mt_rw_on ho (by omega) (by omega) hrw).mpr (mt_nf q)))
      have hrow := hrw.1 hon
      have e1 : N.1 (172 + 100 * c + t) 1 = mt_f r lw mt_n c t := lk_row_at hrow (by decide)
      have e2 : N.1 (172 + 100 * c + t) 2 = iI (mt_b r lw mt_n c t) := lk_row_at hrow (by decide)
      have e3 : N.1 (172 + 100 * c + t) 3 = iI (mt_si r lw mt_n c t) := lk_row_at hrow (by decide)
      have hbb := mt_b_b ho lw mt_n (c := c) (by omega) t
      have hsb := mt_si_b r lw mt_n c t
      have hlb := mt_ls_b r lw mt_n c t
      have hi0 : iI_b (mt_b r lw mt_n c t) := by unfold iI_b; omega
      refine ax_iload_n dX10_sums_104 rfl ?_
      refine ax_aload dX10_sums_105 rfl ?_
      refine ax_iconst (v := 2) dX10_sums_107 (by decide) ?_
      refine ax_ialdN (2) dX10_sums_108 (by first | assumption | exact lo_tz hok (by omega) (by omega) | exact lo_z_m_wet hok (by omega) | exact lo_z_m_readWet hok (by omega) | exact lo_z_m_law hok (by omega) | exact lo_z_m_book hok (by omega) | exact lo_z_m_readBook hok (by omega) | exact lo_z_m_before hok (by omega) | exact lo_z_m_kept hok (by omega) | exact lo_z_m_seenAt hok (by omega) | exact lo_z_m_seenIn hok (by omega) | exact lo_z_m_t0 hok (by omega) | exact lo_z_m_t1 hok (by omega) | exact lo_z_m_c0 hok (by omega) | exact lo_z_m_c1 hok (by omega) | exact lo_z_x_kept hok (by omega)) (by decide) (by decide) (by decide) ?_
      rw [e2]
      refine ax_join1 (0 < mt_b r lw mt_n c t) 117 (1) (0) ?_ (fun ja jb => ?_)
      rotate_left
      · refine ax_if_le (tgt := 116) dX10_sums_109 (by decide) (fun h109 => ?_) (fun h109 => ?_)
        · refine ax_iconst (v := 0) dX10_sums_116 (by decide) ?_
          first | exact jb (by have := (iI_le0 hi0).mp h109; omega) | exact ja (Int.not_le.mp (fun z => h109 ((iI_le0 hi0).mpr z)))
        · refine ax_iconst (v := 1) dX10_sums_112 (by decide) ?_
          refine ax_goto (tgt := 117) dX10_sums_113 (by decide) ?_
          first | exact jb (by have := (iI_le0 hi0).mp h109; omega) | exact ja (Int.not_le.mp (fun z => h109 ((iI_le0 hi0).mpr z)))
      refine ax_iadd dX10_sums_117 ?_
      refine ax_istore_n dX10_sums_118 (by decide) rfl ?_
      refine ax_iload dX10_sums_119 rfl ?_
      refine ax_aload dX10_sums_121 rfl ?_
      refine ax_iconst (v := 1) dX10_sums_123 (by decide) ?_
      refine ax_ialdN (1) dX10_sums_124 (by first | assumption | exact lo_tz hok (by omega) (by omega) | exact lo_z_m_wet hok (by omega) | exact lo_z_m_readWet hok (by omega) | exact lo_z_m_law hok (by omega) | exact lo_z_m_book hok (by omega) | exact lo_z_m_readBook hok (by omega) | exact lo_z_m_before hok (by omega) | exact lo_z_m_kept hok (by omega) | exact lo_z_m_seenAt hok (by omega) | exact lo_z_m_seenIn hok (by omega) | exact lo_z_m_t0 hok (by omega) | exact lo_z_m_t1 hok (by omega) | exact lo_z_m_c0 hok (by omega) | exact lo_z_m_c1 hok (by omega) | exact lo_z_x_kept hok (by omega)) (by decide) (by decide) (by decide) ?_
      rw [e1]
      refine ax_iadd dX10_sums_125 ?_
      refine ax_istore dX10_sums_126 (by decide) rfl ?_
      refine ax_iload dX10_sums_128 rfl ?_
      refine ax_aload dX10_sums_130 rfl ?_
      refine ax_iconst (v := 1) dX10_sums_132 (by decide) ?_
      refine ax_ialdN (1) dX10_sums_133 (by first | assumption | exact lo_tz hok (by omega) (by omega) | exact lo_z_m_wet hok (by omega) | exact lo_z_m_readWet hok (by omega) | exact lo_z_m_law hok (by omega) | exact lo_z_m_book hok (by omega) | exact lo_z_m_readBook hok (by omega) | exact lo_z_m_before hok (by omega) | exact lo_z_m_kept hok (by omega) | exact lo_z_m_seenAt hok (by omega) | exact lo_z_m_seenIn hok (by omega) | exact lo_z_m_t0 hok (by omega) | exact lo_z_m_t1 hok (by omega) | exact lo_z_m_c0 hok (by omega) | exact lo_z_m_c1 hok (by omega) | exact lo_z_x_kept hok (by omega)) (by decide) (by decide) (by decide) ?_
      rw [e1]
      refine ax_iload dX10_sums_134 rfl ?_
      refine ax_join2 (¬ mt_f r lw mt_n c t = (mt_s r lw mt_n t).2 c) 144 (1) (0) ?_ (fun ja jb => ?_)
      rotate_left
      · refine ax_icmp_eq (tgt := 143) dX10_sums_136 (by decide) (fun h136 => ?_) (fun h136 => ?_)
        · refine ax_iconst (v := 0) dX10_sums_143 (by decide) ?_
          first | exact jb (fun z => z h136) | exact ja h136
        · refine ax_iconst (v := 1) dX10_sums_139 (by decide) ?_
          refine ax_goto (tgt := 144) dX10_sums_140 (by decide) ?_
          first | exact jb (fun z => z h136) | exact ja h136
      refine ax_iadd dX10_sums_144 ?_
      refine ax_istore dX10_sums_145 (by decide) rfl ?_
      refine ax_aload dX10_sums_147 rfl ?_
      refine ax_iconst (v := 1) dX10_sums_149 (by decide) ?_
      refine ax_ialdN (1) dX10_sums_150 (by first | assumption | exact lo_tz hok (by omega) (by omega) | exact lo_z_m_wet hok (by omega) | exact lo_z_m_readWet hok (by omega) | exact lo_z_m_law hok (by omega) | exact lo_z_m_book hok (by omega) | exact lo_z_m_readBook hok (by omega) | exact lo_z_m_before hok (by omega) | exact lo_z_m_kept hok (by omega) | exact lo_z_m_seenAt hok (by omega) | exact lo_z_m_seenIn hok (by omega) | exact lo_z_m_t0 hok (by omega) | exact lo_z_m_t1 hok (by omega) | exact lo_z_m_c0 hok (by omega) | exact lo_z_m_c1 hok (by omega) | exact lo_z_x_kept hok (by omega)) (by decide) (by decide) (by decide) ?_
      rw [e1]
      refine ax_istore dX10_sums_151 (by decide) rfl ?_
      refine ax_iload dX10_sums_153 rfl ?_
      refine ax_iconst (v := (-1)) dX10_sums_155 (by decide) ?_
      refine ax_join2 (mt_ls r lw mt_n c t = -1) 175 (iI (mt_si r lw mt_n c t)) (iI (min (mt_ls r lw mt_n c t) (mt_si r lw mt_n c t))) ?_ (fun ja jb => ?_)
      rotate_left
      · refine ax_icmp_ne (tgt := 166) dX10_sums_156 (by decide) (fun h156 => ?_) (fun h156 => ?_)
        · refine ax_iload dX10_sums_166 rfl ?_
          refine ax_aload dX10_sums_168 rfl ?_
          refine ax_iconst (v := 3) dX10_sums_170 (by decide) ?_
          refine ax_ialdN (3) dX10_sums_171 (by first | assumption | exact lo_tz hok (by omega) (by omega) | exact lo_z_m_wet hok (by omega) | exact lo_z_m_readWet hok (by omega) | exact lo_z_m_law hok (by omega) | exact lo_z_m_book hok (by omega) | exact lo_z_m_readBook hok (by omega) | exact lo_z_m_before hok (by omega) | exact lo_z_m_kept hok (by omega) | exact lo_z_m_seenAt hok (by omega) | exact lo_z_m_seenIn hok (by omega) | exact lo_z_m_t0 hok (by omega) | exact lo_z_m_t1 hok (by omega) | exact lo_z_m_c0 hok (by omega) | exact lo_z_m_c1 hok (by omega) | exact lo_z_x_kept hok (by omega)) (by decide) (by decide) (by decide) ?_
          refine ax_callS (As := _) (c1 := 0) (n1 := 0) (c_X10_less (d := 0) (M := N) _ _) dX10_sums_172 mX10_less wd_1905 rfl (by omega) (by omega) (by omega) rfl rfl (fun _ _ h => by cases h.1) ?_
          rintro r M9 ⟨h1, h9⟩; cases h1; rw [h9]; clear h9 M9
          first | (rw [e3]; exact ja ((iI_eq (b := -1) (by unfold iI_b; omega) (by unfold iI_b; omega)).mp h156)) | (rw [e3]; have em := iI_min (a := mt_ls r lw mt_n c t) (b := mt_si r lw mt_n c t) (by unfold iI_b; omega) (by unfold iI_b; omega); unfold md_min at em; rw [em]; exact jb (fun z => h156 (by rw [z]; rfl)))
        · refine ax_aload dX10_sums_159 rfl ?_
          refine ax_iconst (v := 3) dX10_sums_161 (by decide) ?_
          refine ax_ialdN (3) dX10_sums_162 (by first | assumption | exact lo_tz hok (by omega) (by omega) | exact lo_z_m_wet hok (by omega) | exact lo_z_m_readWet hok (by omega) | exact lo_z_m_law hok (by omega) | exact lo_z_m_book hok (by omega) | exact lo_z_m_readBook hok (by omega) | exact lo_z_m_before hok (by omega) | exact lo_z_m_kept hok (by omega) | exact lo_z_m_seenAt hok (by omega) | exact lo_z_m_seenIn hok (by omega) | exact lo_z_m_t0 hok (by omega) | exact lo_z_m_t1 hok (by omega) | exact lo_z_m_c0 hok (by omega) | exact lo_z_m_c1 hok (by omega) | exact lo_z_x_kept hok (by omega)) (by decide) (by decide) (by decide) ?_
          refine ax_goto (tgt := 175) dX10_sums_163 (by decide) ?_
          first | (rw [e3]; exact ja ((iI_eq (b := -1) (by unfold iI_b; omega) (by unfold iI_b; omega)).mp h156)) | (rw [e3]; have em := iI_min (a := mt_ls r lw mt_n c t) (b := mt_si r lw mt_n c t) (by unfold iI_b; omega) (by unfold iI_b; omega); unfold md_min at em; rw [em]; exact jb (fun z => h156 (by rw [z]; rfl)))
      refine ax_istore dX10_sums_175 (by decide) rfl ?_
      refine ax_iinc (v := 1) dX10_sums_177 rfl (by decide) (by decide) rfl ?_
      refine ax_goto (tgt := 73) dX10_sums_180 (by decide) ?_
      refine next _ _ ⟨some (av_r (172 + 100 * c + t)), rfl, ?_⟩
      have eB : nI (mt_bc r lw mt_n c t) + (if 0 < mt_b r lw mt_n c t then 1 else 0) = nI (mt_bc r lw mt_n c (t + 1)) := nI_cntP (by simp [hon])
      have eC : nI (mt_cc r lw mt_n c t) + (if ¬ mt_f r lw mt_n c t = (mt_s r lw mt_n t).2 c then 1 else 0) = nI (mt_cc r lw mt_n c (t + 1)) := nI_cntP (by simp [hon])
      rw [nI_1, eB, eC]
      have eF : nI (mt_fc r lw mt_n c t) + mt_f r lw mt_n c t = nI (mt_fc r lw mt_n c (t + 1)) := by
        unfold mt_fc
        rw [← nI_cnt]
        congr 1
        rcases mt_f_01 r lw mt_n c t with q | q <;> simp [q, hon]
      have eL : (if mt_ls r lw mt_n c t = -1 then iI (mt_si r lw mt_n c t) else iI (min (mt_ls r lw mt_n c t) (mt_si r lw mt_n c t))) = iI (mt_ls r lw mt_n c (t + 1)) := by
        show _ = iI (if _ then (if _ then _ else _) else _)
        rw [if_pos hon]; split <;> rfl
      rw [eF, eL]
      rfl
    · have hoff := (mt_rw_on ho (by omega) (by omega) hrw).mp hc
      refine ax_goto (tgt := 177) dX10_sums_101 (by decide) ?_
      refine ax_iinc (v := 1) dX10_sums_177 rfl (by decide) (by decide) rfl ?_
      refine ax_goto (tgt := 73) dX10_sums_180 (by decide) ?_
      refine next _ _ ⟨some (av_r (172 + 100 * c + t)), rfl, ?_⟩
      rw [nI_1, mt_s_off hoff, show mt_bc r lw mt_n c (t + 1) = mt_bc r lw mt_n c t from mt_cnt_off (by simp [hoff]), show mt_fc r lw mt_n c (t + 1) = mt_fc r lw mt_n c t from mt_cnt_off (by simp [hoff]), show mt_cc r lw mt_n c (t + 1) = mt_cc r lw mt_n c t from mt_cnt_off (by simp [hoff]), show mt_ls r lw mt_n c (t + 1) = mt_ls r lw mt_n c t from if_neg (by simp [hoff])]
      rfl
  · rintro N L ⟨y9, rfl, rfl⟩
    refine ax_iload dX10_sums_73 rfl ?_
    refine ax_aload_n dX10_sums_75 rfl ?_
    refine ax_getI (f := 46) dX10_sums_76 acl_10 wd_1646 (by decide) rfl (lo_s hok 90 rfl) ?_
    rw [f2.2.1]
    refine ax_icmp_ge (tgt := 183) dX10_sums_79 (by decide) (fun hc => ?_) (fun hc => absurd ((nI_leI (by omega) (by omega)).mpr (by omega)) hc)
    refine ax_iload_n dX10_sums_183 rfl ?_
    rcases (show k = 0 ∨ k = 1 ∨ k = 2 ∨ k = 3 ∨ k = 4 ∨ k = 5 by omega) with rfl | rfl | rfl | rfl | rfl | rfl
    · refine ax_tableIn (off := 36) (tgt := 220) dX10_sums_184 (by decide) (by decide) rfl (by decide) ?_
      refine ax_aload_n dX10_sums_220 rfl ?_
      refine ax_iload_n dX10_sums_221 rfl ?_
      refine ax_callV (As := _) (d2 := _) (c1 := 0) (n1 := 0) (c_X10_unsafeOf (d := 0) (M := N) hok ho f2 (c := c) (by omega) rfl) dX10_sums_222 mX10_unsafeOf wd_2017 acl_10 (lo_s hok 90 rfl) rfl (by omega) (by omega) (by omega) rfl rfl (fun _ _ h => by cases h.1) ?_
      rintro r M9 ⟨h1, h9⟩; cases h1; rw [h9]; clear h9 M9
      refine ax_iret dX10_sums_225 rfl ?_
      exact e _ rfl
    · refine ax_tableIn (off := 42) (tgt := 226) dX10_sums_184 (by decide) (by decide) rfl (by decide) ?_
      refine ax_aload_n dX10_sums_226 rfl ?_
      refine ax_getK (f := 40) 378 dX10_sums_227 acl_10 wd_1640 (by decide) rfl (lo_s hok 90 rfl) (lo_r hok 105 rfl) ?_
      refine ax_iload_n dX10_sums_230 rfl ?_
      refine ax_ialdN (c) dX10_sums_231 (lo_s hok 378 rfl) (by decide) (by first | with_reducible rfl | assumption | exact ax_nix (by simp only [nx_0, nx_1, nx_2, nx_3, nx_4, nx_10, nx_20, nx_21, nx_100, nI_add, pk_mul] <;> rfl) (by omega) | decide) (by omega) ?_
      refine ax_iret dX10_sums_232 rfl ?_
      exact e _ (f2.1 c (by omega)).2.2.2.2.2.1
    · refine ax_tableIn (off := 49) (tgt := 233) dX10_sums_184 (by decide) (by decide) rfl (by decide) ?_
      refine ax_iload_n dX10_sums_233 rfl ?_
      refine ax_iret dX10_sums_234 rfl ?_
      exact e _ rfl
    · refine ax_tableIn (off := 51) (tgt := 235) dX10_sums_184 (by decide) (by decide) rfl (by decide) ?_
      refine ax_iload dX10_sums_235 rfl ?_
      refine ax_iret dX10_sums_237 rfl ?_
      exact e _ rfl
    · refine ax_tableIn (off := 54) (tgt := 238) dX10_sums_184 (by decide) (by decide) rfl (by decide) ?_
      refine ax_iload dX10_sums_238 rfl ?_
      refine ax_iret dX10_sums_240 rfl ?_
      exact e _ rfl
    · refine ax_tableOut (tgt := 241) dX10_sums_184 (by decide) (by decide) ?_
      refine ax_iload dX10_sums_241 rfl ?_
      refine ax_iret dX10_sums_243 rfl ?_
      exact e _ rfl
theorem c_would (hok : lo_ok M.2) (hr : rr M r) (ho : rd_ok r) (hl : ∀ w, w < 3 → ml_law M w (lw w)) (a b y w : Int32) : ax_Met l G kX10_would 4 0 0 M [av_r 90, av_i a, av_i b, av_i y, av_i w] (fun o M2 => rq M M2 o (qa_would r lw a b y w)) := by
  have h9 := ho.1
  refine ax_body (by decide) (Nat.le_of_ble_eq_true rfl) ?_
  refine ax_aload_n dX10_would_0 rfl ?_
  refine ax_iconst (v := 0) dX10_would_1 (by decide) ?_
  refine ax_putI (f := 0) dX10_would_2 acl_10 wd_1600 (by decide) rfl rfl (ax_nfI rfl) (lo_s hok 90 rfl) ?_
  refine ax_gen (fun M0 hM0 => ?_)
  have hok : lo_ok M0.2 := by rw [hM0]; exact hok
  have hr0 : rr M0 r := by rw [hM0]; exact rr_fr hr (fun n i q => ax_pn (by omega))
  have h00 : M0.1 90 0 = 0 := by rw [hM0, ax_pa]
  refine ax_aload_n dX10_would_5 rfl ?_
  refine ax_join0 (¬ (0 ≤ a ∧ a ≤ 60) ∨ ¬ (0 ≤ b ∧ b ≤ 20) ∨ ¬ (17 ≤ y ∧ y ≤ 99) ∨ ¬ (0 ≤ w ∧ w ≤ 1)) 52 (1) (0) ?_ (fun ja jb => ?_)
  rotate_left
  · refine ax_iload_n dX10_would_6 rfl ?_
    refine ax_iconst (v := 0) dX10_would_7 (by decide) ?_
    refine ax_bipush (v := 60) dX10_would_8 (by decide) ?_
    refine ax_callS (As := _) (c1 := 0) (n1 := 0) (c_X10_in (d := 0) (M := M0) _ _ _) dX10_would_10 mX10_in wd_1772 rfl (by omega) (by omega) (by omega) rfl rfl (fun _ _ h => by cases h.1) ?_
    rintro r M9 ⟨h1, h9⟩; cases h1; rw [h9]; clear h9 M9
    refine ax_ifB_eq (tgt := 47) dX10_would_13 (by decide) (fun h13 => ?_) (fun h13 => ?_)
    · refine ax_iconst (v := 1) dX10_would_47 (by decide) ?_
      refine ax_goto (tgt := 52) dX10_would_48 (by decide) ?_
      first | (refine ja ?_; simp only [h13, and_self, and_true, true_and, not_true_eq_false, not_false_eq_true, or_true, true_or, or_false, false_or, or_self]; done) | (refine jb ?_; simp only [h13, and_self, and_true, true_and, not_true_eq_false, not_false_eq_true, or_true, true_or, or_false, false_or, or_self]; done) | exact ja h13 | exact jb (fun z => z h13) | exact ja (Or.inr h13) | exact ja (Or.inl h13)
    · refine ax_iload_n dX10_would_16 rfl ?_
      refine ax_iconst (v := 0) dX10_would_17 (by decide) ?_
      refine ax_bipush (v := 20) dX10_would_18 (by decide) ?_
      refine ax_callS (As := _) (c1 := 0) (n1 := 0) (c_X10_in (d := 0) (M := M0) _ _ _) dX10_would_20 mX10_in wd_1772 rfl (by omega) (by omega) (by omega) rfl rfl (fun _ _ h => by cases h.1) ?_
      rintro r M9 ⟨h1, h9⟩; cases h1; rw [h9]; clear h9 M9
      refine ax_ifB_eq (tgt := 47) dX10_would_23 (by decide) (fun h23 => ?_) (fun h23 => ?_)
      · refine ax_iconst (v := 1) dX10_would_47 (by decide) ?_
        refine ax_goto (tgt := 52) dX10_would_48 (by decide) ?_
        first | (refine ja ?_; simp only [h13, h23, and_self, and_true, true_and, not_true_eq_false, not_false_eq_true, or_true, true_or, or_false, false_or, or_self]; done) | (refine jb ?_; simp only [h13, h23, and_self, and_true, true_and, not_true_eq_false, not_false_eq_true, or_true, true_or, or_false, false_or, or_self]; done) | exact ja h23 | exact jb (fun z => z h23) | exact ja (Or.inr h23) | exact ja (Or.inl h23)
      · refine ax_iload_n dX10_would_26 rfl ?_
        refine ax_bipush (v := 17) dX10_would_27 (by decide) ?_
        refine ax_bipush (v := 99) dX10_would_29 (by decide) ?_
        refine ax_callS (As := _) (c1 := 0) (n1 := 0) (c_X10_in (d := 0) (M := M0) _ _ _) dX10_would_31 mX10_in wd_1772 rfl (by omega) (by omega) (by omega) rfl rfl (fun _ _ h => by cases h.1) ?_
        rintro r M9 ⟨h1, h9⟩; cases h1; rw [h9]; clear h9 M9
        refine ax_ifB_eq (tgt := 47) dX10_would_34 (by decide) (fun h34 => ?_) (fun h34 => ?_)
        · refine ax_iconst (v := 1) dX10_would_47 (by decide) ?_
          refine ax_goto (tgt := 52) dX10_would_48 (by decide) ?_
          first | (refine ja ?_; simp only [h13, h23, h34, and_self, and_true, true_and, not_true_eq_false, not_false_eq_true, or_true, true_or, or_false, false_or, or_self]; done) | (refine jb ?_; simp only [h13, h23, h34, and_self, and_true, true_and, not_true_eq_false, not_false_eq_true, or_true, true_or, or_false, false_or, or_self]; done) | exact ja h34 | exact jb (fun z => z h34) | exact ja (Or.inr h34) | exact ja (Or.inl h34)
        · refine ax_iload dX10_would_37 rfl ?_
          refine ax_iconst (v := 0) dX10_would_39 (by decide) ?_
          refine ax_iconst (v := 1) dX10_would_40 (by decide) ?_
          refine ax_callS (As := _) (c1 := 0) (n1 := 0) (c_X10_in (d := 0) (M := M0) _ _ _) dX10_would_41 mX10_in wd_1772 rfl (by omega) (by omega) (by omega) rfl rfl (fun _ _ h => by cases h.1) ?_
          rintro r M9 ⟨h1, h9⟩; cases h1; rw [h9]; clear h9 M9
          refine ax_ifB_ne (tgt := 51) dX10_would_44 (by decide) (fun h44 => ?_) (fun h44 => ?_)
          · refine ax_iconst (v := 0) dX10_would_51 (by decide) ?_
            first | (refine ja ?_; simp only [h13, h23, h34, h44, and_self, and_true, true_and, not_true_eq_false, not_false_eq_true, or_true, true_or, or_false, false_or, or_self]; done) | (refine jb ?_; simp only [h13, h23, h34, h44, and_self, and_true, true_and, not_true_eq_false, not_false_eq_true, or_true, true_or, or_false, false_or, or_self]; done) | exact ja h44 | exact jb (fun z => z h44) | exact ja (Or.inr h44) | exact ja (Or.inl h44)
          · refine ax_iconst (v := 1) dX10_would_47 (by decide) ?_
            refine ax_goto (tgt := 52) dX10_would_48 (by decide) ?_
            first | (refine ja ?_; simp only [h13, h23, h34, h44, and_self, and_true, true_and, not_true_eq_false, not_false_eq_true, or_true, true_or, or_false, false_or, or_self]; done) | (refine jb ?_; simp only [h13, h23, h34, h44, and_self, and_true, true_and, not_true_eq_false, not_false_eq_true, or_true, true_or, or_false, false_or, or_self]; done) | exact ja h44 | exact jb (fun z => z h44) | exact ja (Or.inr h44) | exact ja (Or.inl h44)
  refine ax_iconst (v := 1) dX10_would_52 (by decide) ?_
  refine ax_iconst (v := 1) dX10_would_53 (by decide) ?_
  refine ax_callV (As := _) (d2 := _) (c1 := 0) (n1 := 0) (c_badP (d := 0) (M := M0) (p := ¬ (0 ≤ a ∧ a ≤ 60) ∨ ¬ (0 ≤ b ∧ b ≤ 20) ∨ ¬ (17 ≤ y ∧ y ≤ 99) ∨ ¬ (0 ≤ w ∧ w ≤ 1)) hok h00 (w := 1) (k := 1) (by decide) (by decide) (by decide) rfl rfl) dX10_would_54 mX10_bad wd_1775 acl_10 (lo_s hok 90 rfl) rfl (by omega) (by omega) (by omega) rfl rfl (fun _ _ h => by rcases h with ⟨_, h, _⟩ | ⟨_, h, _⟩ <;> cases h) ?_
  rintro o9 M9 (⟨g1, h1, h2⟩ | ⟨g1, h1, h2⟩) <;> cases h1 <;> rw [h2] <;> clear h2 M9
  · refine ax_if_eq (tgt := 62) dX10_would_57 (by decide) (fun hc => ?_) (fun hc => ?_)
    · exact absurd hc (by decide)
    · refine ax_iconst (v := 0) dX10_would_60 (by decide) ?_
      refine ax_iret dX10_would_61 rfl ?_
      exact rq_bad hM0 (w := 1) (k := 1) rfl (by unfold qa_would; rw [if_pos g1])
  refine ax_if_eq (tgt := 62) dX10_would_57 (by decide) (fun hc => ?_) (fun hc => ?_)
  rotate_left
  · exact absurd rfl hc
  obtain ⟨bb, hbb, rfl⟩ := in_nat (dn (fun z => g1 (Or.inr (Or.inl z)))) (n := 20) rfl (by decide)
  refine ax_iconst (v := 0) dX10_would_62 (by decide) ?_
  refine ax_istore dX10_would_63 (by decide) rfl ?_
  refine ax_for 12 (fun j N L => L = [some (av_r 90), some (av_i a), some (av_i (nI bb)), some (av_i y), some (av_i w), some (av_i (nI j))] ∧ kI M0 N j (fun _ => 0)) 65 ?_ ?_ (i := 0) (by omega) ⟨rfl, kI_0 _ _⟩
  · rintro j N L ht ⟨rfl, g⟩ next
    have hok : lo_ok N.2 := by rw [g.1]; exact hok
    refine ax_iload dX10_would_65 rfl ?_
    refine ax_bipush (v := 12) dX10_would_67 (by decide) ?_
    refine ax_icmp_ge (tgt := 86) dX10_would_69 (by decide) (fun hc => absurd ((nI_leI (a := 12) (by omega) (by omega)).mp hc) (by omega)) (fun hc => ?_)
    refine ax_aload_n dX10_would_72 rfl ?_
    refine ax_getK (f := 27) 118 dX10_would_73 acl_10 wd_1627 (by decide) rfl (lo_s hok 90 rfl) (lo_r hok 96 rfl) ?_
    refine ax_iload dX10_would_76 rfl ?_
    refine ax_iconst (v := 0) dX10_would_78 (by decide) ?_
    refine ax_iastN (j) dX10_would_79 (lo_s hok 118 rfl) (by decide) (by first | with_reducible rfl | assumption | exact ax_nix (by simp only [nx_0, nx_1, nx_2, nx_3, nx_4, nx_10, nx_20, nx_21, nx_100, nI_add, pk_mul] <;> rfl) (by omega) | decide) (by omega) ?_
    refine ax_gen (fun N2 hN2 => ?_)
    have hok : lo_ok N2.2 := by rw [hN2]; exact hok
    refine ax_iinc (v := 1) dX10_would_80 rfl (by decide) (by decide) rfl ?_
    refine ax_goto (tgt := 65) dX10_would_83 (by decide) ?_
    exact next _ _ ⟨by rw [nI_1]; rfl, kI_s g hN2 rfl⟩
  · rintro N L ⟨rfl, g⟩
    have hok : lo_ok N.2 := by rw [g.1]; exact hok
    have hrN := kI_rr g hr0
    refine ax_iload dX10_would_65 rfl ?_
    refine ax_bipush (v := 12) dX10_would_67 (by decide) ?_
    refine ax_icmp_ge (tgt := 86) dX10_would_69 (by decide) (fun hc => ?_) (fun hc => absurd ((nI_leI (a := 12) (by omega) (by omega)).mpr (by omega)) hc)
    refine ax_aload_n dX10_would_86 rfl ?_
    refine ax_getK (f := 27) 118 dX10_would_87 acl_10 wd_1627 (by decide) rfl (lo_s hok 90 rfl) (lo_r hok 96 rfl) ?_
    refine ax_iconst (v := 0) dX10_would_90 (by decide) ?_
    refine ax_iload_n dX10_would_91 rfl ?_
    refine ax_iastN (0) dX10_would_92 (lo_s hok 118 rfl) (by decide) (by decide) (by decide) ?_
    refine ax_aload_n dX10_would_93 rfl ?_
    refine ax_getK (f := 27) 118 dX10_would_94 acl_10 wd_1627 (by decide) rfl (lo_s hok 90 rfl) (lo_r hok 96 rfl) ?_
    refine ax_iconst (v := 1) dX10_would_97 (by decide) ?_
    refine ax_aload_n dX10_would_98 rfl ?_
    refine ax_getK (f := 18) 100 dX10_would_99 acl_10 wd_1618 (by decide) rfl (lo_s hok 90 rfl) (lo_r hok 89 rfl) ?_
    refine ax_bipush (v := 24) dX10_would_102 (by decide) ?_
    refine ax_ialdN (24) dX10_would_104 (lo_s hok 100 rfl) (by decide) (by decide) (by decide) ?_
    refine ax_iastN (1) dX10_would_105 (lo_s hok 118 rfl) (by decide) (by decide) (by decide) ?_
    refine ax_aload_n dX10_would_106 rfl ?_
    refine ax_getK (f := 27) 118 dX10_would_107 acl_10 wd_1627 (by decide) rfl (lo_s hok 90 rfl) (lo_r hok 96 rfl) ?_
    refine ax_iconst (v := 2) dX10_would_110 (by decide) ?_
    refine ax_iload_n dX10_would_111 rfl ?_
    refine ax_iastN (2) dX10_would_112 (lo_s hok 118 rfl) (by decide) (by decide) (by decide) ?_
    refine ax_aload_n dX10_would_113 rfl ?_
    refine ax_getK (f := 27) 118 dX10_would_114 acl_10 wd_1627 (by decide) rfl (lo_s hok 90 rfl) (lo_r hok 96 rfl) ?_
    refine ax_iconst (v := 3) dX10_would_117 (by decide) ?_
    refine ax_iload_n dX10_would_118 rfl ?_
    refine ax_iastN (3) dX10_would_119 (lo_s hok 118 rfl) (by decide) (by decide) (by decide) ?_
    refine ax_aload_n dX10_would_120 rfl ?_
    refine ax_getK (f := 27) 118 dX10_would_121 acl_10 wd_1627 (by decide) rfl (lo_s hok 90 rfl) (lo_r hok 96 rfl) ?_
    refine ax_iconst (v := 4) dX10_would_124 (by decide) ?_
    refine ax_iload dX10_would_125 rfl ?_
    refine ax_iastN (4) dX10_would_127 (lo_s hok 118 rfl) (by decide) (by decide) (by decide) ?_
    refine ax_aload_n dX10_would_128 rfl ?_
    refine ax_getK (f := 27) 118 dX10_would_129 acl_10 wd_1627 (by decide) rfl (lo_s hok 90 rfl) (lo_r hok 96 rfl) ?_
    refine ax_bipush (v := 8) dX10_would_132 (by decide) ?_
    refine ax_bipush (v := 99) dX10_would_134 (by decide) ?_
    refine ax_iastN (8) dX10_would_136 (lo_s hok 118 rfl) (by decide) (by decide) (by decide) ?_
    refine ax_gen (fun N2 hN2 => ?_)
    have hok : lo_ok N2.2 := by rw [hN2]; exact hok
    have hk : ∀ k, k < 12 → N2.1 118 k = wd_kn r a (nI bb) y w k := by
      intro k hk
      have h0 := g.2.2 k hk
      have hfog : N.1 100 24 = iI (r 34) := hrN.2.1 24 (by decide)
      rw [hN2]
      simp only [ax_pI, ax_u2]
      rcases (show k = 0 ∨ k = 1 ∨ k = 2 ∨ k = 3 ∨ k = 4 ∨ k = 5 ∨ k = 6 ∨ k = 7 ∨ k = 8 ∨ k = 9 ∨ k = 10 ∨ k = 11 by omega) with rfl | rfl | rfl | rfl | rfl | rfl | rfl | rfl | rfl | rfl | rfl | rfl <;> simp [wd_kn, h0, hfog]
    have hs2 : sf M0 N2 := ⟨by rw [hN2]; exact g.1, fun n i q => by
      have hn : n ≠ 118 := fun z => q (by unfold rs; omega)
      rw [hN2, ax_pn (by omega), ax_pn (by omega), ax_pn (by omega), ax_pn (by omega), ax_pn (by omega), ax_pn (by omega)]; exact g.2.1 n i hn⟩
    have hl0 : ml_law N2 0 (lw 0) := sf_law hs2 (by decide) (by rw [hM0]; exact sf_law0 (by decide) (hl 0 (by decide)))
    refine ax_aload_n dX10_would_137 rfl ?_
    refine ax_callV (As := _) (d2 := _) (c1 := 0) (n1 := 0) (c_X10_sightBy (M := N2) hok hl0 (by rw [hk 2 (by decide)]; show ¬ nI bb + 1 = 0; rw [nI_1]; exact nI_ne0 (by omega) (by omega))) dX10_would_138 mX10_sightBy wd_1985 acl_10 (lo_s hok 90 rfl) rfl (by omega) (by omega) (by omega) rfl rfl (fun _ _ h => by cases h.1) ?_
    rintro o9 N3 ⟨h1, f1⟩; cases h1
    refine ax_iret dX10_would_141 rfl ?_
    refine rq_sf hM0 (sf_tr hs2 (sf_ev f1)) ?_
    unfold qa_would
    rw [if_neg g1, ev_sight_cong hk (ml_law_ev hl0)]
theorem c_costBy (hok : lo_ok M.2) (hr : rr M r) (ho : rd_ok r) (hl : ∀ w, w < 3 → ml_law M w (lw w)) {c : Nat} (hc2 : c < 2) {x : Int32} (hx : x = nI c) (a b : Int32) : ax_Met l G kX10_costBy 7 0 0 M [av_r 90, av_i x, av_i a, av_i b] (fun o M2 => o = .inl (some (av_i (nI (mt_cost r lw (mt_c2 c a b) c)))) ∧ mt_fr M M2) := by
  subst hx
  have h0 : nI c = 0 ↔ c = 0 := nI_eq (b := 0) (by omega) (by omega)
  refine ax_body (by decide) (Nat.le_of_ble_eq_true rfl) ?_
  refine ax_aload_n dX10_costBy_0 rfl ?_
  refine ax_iload_n dX10_costBy_1 rfl ?_
  refine ax_join1 (c = 0) 10 (a) (b) ?_ (fun ja jb => ?_)
  rotate_left
  · refine ax_if_ne (tgt := 9) dX10_costBy_2 (by decide) (fun h2 => ?_) (fun h2 => ?_)
    · refine ax_iload_n dX10_costBy_9 rfl ?_
      first | exact ja (h0.mp h2) | exact jb (fun z => h2 (h0.mpr z))
    · refine ax_iload_n dX10_costBy_5 rfl ?_
      refine ax_goto (tgt := 10) dX10_costBy_6 (by decide) ?_
      first | exact ja (h0.mp h2) | exact jb (fun z => h2 (h0.mpr z))
  refine ax_iload_n dX10_costBy_10 rfl ?_
  refine ax_join1 (c = 0) 19 (b) (a) ?_ (fun ja jb => ?_)
  rotate_left
  · refine ax_if_ne (tgt := 18) dX10_costBy_11 (by decide) (fun h11 => ?_) (fun h11 => ?_)
    · refine ax_iload_n dX10_costBy_18 rfl ?_
      first | exact ja (h0.mp h11) | exact jb (fun z => h11 (h0.mpr z))
    · refine ax_iload_n dX10_costBy_14 rfl ?_
      refine ax_goto (tgt := 19) dX10_costBy_15 (by decide) ?_
      first | exact ja (h0.mp h11) | exact jb (fun z => h11 (h0.mpr z))
  refine ax_callV (As := _) (d2 := _) (c1 := 0) (n1 := 0) (c_X10_meets (M := M) (lw := lw) hok hr ho hl _ _) dX10_costBy_19 mX10_meets wd_1947 acl_10 (lo_s hok 90 rfl) rfl (by omega) (by omega) (by omega) rfl rfl (fun _ _ h => by cases h.1) ?_
  rintro o9 N ⟨h1, f1, f2⟩; cases h1
  have hok : lo_ok N.2 := by rw [f1.1]; exact hok
  have e : mt_d (if c = 0 then a else b) (if c = 0 then b else a) = mt_c2 c a b := by unfold mt_c2; split <;> rfl
  rw [e] at f2
  refine ax_aload_n dX10_costBy_22 rfl ?_
  refine ax_iload_n dX10_costBy_23 rfl ?_
  refine ax_callV (As := _) (d2 := _) (c1 := 0) (n1 := 0) (c_X10_costOf (M := N) hok ho f2 hc2 rfl) dX10_costBy_24 mX10_costOf wd_2037 acl_10 (lo_s hok 90 rfl) rfl (by omega) (by omega) (by omega) rfl rfl (fun _ _ h => by cases h.1) ?_
  rintro r M9 ⟨h1, h9⟩; cases h1; rw [h9]; clear h9 M9
  refine ax_iret dX10_costBy_27 rfl ?_
  exact ⟨rfl, f1⟩
theorem c_cost (hok : lo_ok M.2) (hr : rr M r) (ho : rd_ok r) (hl : ∀ w, w < 3 → ml_law M w (lw w)) (x a b : Int32) : ax_Met l G kX10_cost 8 0 0 M [av_r 90, av_i x, av_i a, av_i b] (fun o M2 => rq M M2 o (qa_cost r lw x a b)) := by
  have h9 := ho.1
  refine ax_body (by decide) (Nat.le_of_ble_eq_true rfl) ?_
  refine ax_aload_n dX10_cost_0 rfl ?_
  refine ax_iconst (v := 0) dX10_cost_1 (by decide) ?_
  refine ax_putI (f := 0) dX10_cost_2 acl_10 wd_1600 (by decide) rfl rfl (ax_nfI rfl) (lo_s hok 90 rfl) ?_
  refine ax_gen (fun M0 hM0 => ?_)
  have hok : lo_ok M0.2 := by rw [hM0]; exact hok
  have hr0 : rr M0 r := by rw [hM0]; exact rr_fr hr (fun n i q => ax_pn (by omega))
  have h00 : M0.1 90 0 = 0 := by rw [hM0, ax_pa]
  refine ax_aload_n dX10_cost_5 rfl ?_
  refine ax_join0 (¬ (0 ≤ x ∧ x ≤ iI (r 1) - 1)) 19 (1) (0) ?_ (fun ja jb => ?_)
  rotate_left
  · refine ax_aload_n dX10_cost_6 rfl ?_
    refine ax_iload_n dX10_cost_7 rfl ?_
    refine ax_callV (As := _) (d2 := _) (c1 := 0) (n1 := 0) (c_rIsCar (M := M0) hok hr0 _) dX10_cost_8 mX10_isCar wd_1919 acl_10 (lo_s hok 90 rfl) rfl (by omega) (by omega) (by omega) rfl rfl (fun _ _ h => by cases h.1) ?_
    rintro r M9 ⟨h1, h9⟩; cases h1; rw [h9]; clear h9 M9
    refine ax_ifB_ne (tgt := 18) dX10_cost_11 (by decide) (fun h11 => ?_) (fun h11 => ?_)
    · refine ax_iconst (v := 0) dX10_cost_18 (by decide) ?_
      first | (refine ja ?_; simp only [h11, and_self, and_true, true_and, not_true_eq_false, not_false_eq_true, or_true, true_or, or_false, false_or, or_self]; done) | (refine jb ?_; simp only [h11, and_self, and_true, true_and, not_true_eq_false, not_false_eq_true, or_true, true_or, or_false, false_or, or_self]; done) | exact ja h11 | exact jb (fun z => z h11) | exact ja (Or.inr h11) | exact ja (Or.inl h11)
    · refine ax_iconst (v := 1) dX10_cost_14 (by decide) ?_
      refine ax_goto (tgt := 19) dX10_cost_15 (by decide) ?_
      first | (refine ja ?_; simp only [h11, and_self, and_true, true_and, not_true_eq_false, not_false_eq_true, or_true, true_or, or_false, false_or, or_self]; done) | (refine jb ?_; simp only [h11, and_self, and_true, true_and, not_true_eq_false, not_false_eq_true, or_true, true_or, or_false, false_or, or_self]; done) | exact ja h11 | exact jb (fun z => z h11) | exact ja (Or.inr h11) | exact ja (Or.inl h11)
  refine ax_iconst (v := 1) dX10_cost_19 (by decide) ?_
  refine ax_iconst (v := 0) dX10_cost_20 (by decide) ?_
  refine ax_callV (As := _) (d2 := _) (c1 := 0) (n1 := 0) (c_badP (d := 0) (M := M0) (p := ¬ (0 ≤ x ∧ x ≤ iI (r 1) - 1)) hok h00 (w := 1) (k := 0) (by decide) (by decide) (by decide) rfl rfl) dX10_cost_21 mX10_bad wd_1775 acl_10 (lo_s hok 90 rfl) rfl (by omega) (by omega) (by omega) rfl rfl (fun _ _ h => by rcases h with ⟨_, h, _⟩ | ⟨_, h, _⟩ <;> cases h) ?_
  rintro o9 M9 (⟨g1, h1, h2⟩ | ⟨g1, h1, h2⟩) <;> cases h1 <;> rw [h2] <;> clear h2 M9
  · refine ax_if_ne (tgt := 69) dX10_cost_24 (by decide) (fun hc => ?_) (fun hc => ?_)
    · refine ax_iconst (v := 0) dX10_cost_69 (by decide) ?_
      refine ax_iret dX10_cost_70 rfl ?_
      exact rq_bad hM0 (w := 1) (k := 0) rfl (by unfold qa_cost; rw [if_pos g1])
    · exact absurd hc (by decide)
  refine ax_if_ne (tgt := 69) dX10_cost_24 (by decide) (fun hc => ?_) (fun hc => ?_)
  · exact absurd rfl hc
  refine ax_aload_n dX10_cost_27 rfl ?_
  refine ax_join0 (¬ (0 ≤ a ∧ a ≤ 60) ∨ ¬ (0 ≤ b ∧ b ≤ 60)) 53 (1) (0) ?_ (fun ja jb => ?_)
  rotate_left
  · refine ax_iload_n dX10_cost_28 rfl ?_
    refine ax_iconst (v := 0) dX10_cost_29 (by decide) ?_
    refine ax_bipush (v := 60) dX10_cost_30 (by decide) ?_
    refine ax_callS (As := _) (c1 := 0) (n1 := 0) (c_X10_in (d := 0) (M := M0) _ _ _) dX10_cost_32 mX10_in wd_1772 rfl (by omega) (by omega) (by omega) rfl rfl (fun _ _ h => by cases h.1) ?_
    rintro r M9 ⟨h1, h9⟩; cases h1; rw [h9]; clear h9 M9
    refine ax_ifB_eq (tgt := 48) dX10_cost_35 (by decide) (fun h35 => ?_) (fun h35 => ?_)
    · refine ax_iconst (v := 1) dX10_cost_48 (by decide) ?_
      refine ax_goto (tgt := 53) dX10_cost_49 (by decide) ?_
      first | (refine ja ?_; simp only [h35, and_self, and_true, true_and, not_true_eq_false, not_false_eq_true, or_true, true_or, or_false, false_or, or_self]; done) | (refine jb ?_; simp only [h35, and_self, and_true, true_and, not_true_eq_false, not_false_eq_true, or_true, true_or, or_false, false_or, or_self]; done) | exact ja h35 | exact jb (fun z => z h35) | exact ja (Or.inr h35) | exact ja (Or.inl h35)
    · refine ax_iload_n dX10_cost_38 rfl ?_
      refine ax_iconst (v := 0) dX10_cost_39 (by decide) ?_
      refine ax_bipush (v := 60) dX10_cost_40 (by decide) ?_
      refine ax_callS (As := _) (c1 := 0) (n1 := 0) (c_X10_in (d := 0) (M := M0) _ _ _) dX10_cost_42 mX10_in wd_1772 rfl (by omega) (by omega) (by omega) rfl rfl (fun _ _ h => by cases h.1) ?_
      rintro r M9 ⟨h1, h9⟩; cases h1; rw [h9]; clear h9 M9
      refine ax_ifB_ne (tgt := 52) dX10_cost_45 (by decide) (fun h45 => ?_) (fun h45 => ?_)
      · refine ax_iconst (v := 0) dX10_cost_52 (by decide) ?_
        first | (refine ja ?_; simp only [h35, h45, and_self, and_true, true_and, not_true_eq_false, not_false_eq_true, or_true, true_or, or_false, false_or, or_self]; done) | (refine jb ?_; simp only [h35, h45, and_self, and_true, true_and, not_true_eq_false, not_false_eq_true, or_true, true_or, or_false, false_or, or_self]; done) | exact ja h45 | exact jb (fun z => z h45) | exact ja (Or.inr h45) | exact ja (Or.inl h45)
      · refine ax_iconst (v := 1) dX10_cost_48 (by decide) ?_
        refine ax_goto (tgt := 53) dX10_cost_49 (by decide) ?_
        first | (refine ja ?_; simp only [h35, h45, and_self, and_true, true_and, not_true_eq_false, not_false_eq_true, or_true, true_or, or_false, false_or, or_self]; done) | (refine jb ?_; simp only [h35, h45, and_self, and_true, true_and, not_true_eq_false, not_false_eq_true, or_true, true_or, or_false, false_or, or_self]; done) | exact ja h45 | exact jb (fun z => z h45) | exact ja (Or.inr h45) | exact ja (Or.inl h45)
  refine ax_iconst (v := 2) dX10_cost_53 (by decide) ?_
  refine ax_iconst (v := 1) dX10_cost_54 (by decide) ?_
  refine ax_callV (As := _) (d2 := _) (c1 := 0) (n1 := 0) (c_badP (d := 0) (M := M0) (p := ¬ (0 ≤ a ∧ a ≤ 60) ∨ ¬ (0 ≤ b ∧ b ≤ 60)) hok h00 (w := 2) (k := 1) (by decide) (by decide) (by decide) rfl rfl) dX10_cost_55 mX10_bad wd_1775 acl_10 (lo_s hok 90 rfl) rfl (by omega) (by omega) (by omega) rfl rfl (fun _ _ h => by rcases h with ⟨_, h, _⟩ | ⟨_, h, _⟩ <;> cases h) ?_
  rintro o9 M9 (⟨g2, h1, h2⟩ | ⟨g2, h1, h2⟩) <;> cases h1 <;> rw [h2] <;> clear h2 M9
  · refine ax_if_ne (tgt := 69) dX10_cost_58 (by decide) (fun hc => ?_) (fun hc => ?_)
    · refine ax_iconst (v := 0) dX10_cost_69 (by decide) ?_
      refine ax_iret dX10_cost_70 rfl ?_
      exact rq_bad hM0 (w := 2) (k := 1) rfl (by unfold qa_cost; rw [if_neg g1, if_pos g2])
    · exact absurd hc (by decide)
  refine ax_if_ne (tgt := 69) dX10_cost_58 (by decide) (fun hc => ?_) (fun hc => ?_)
  · exact absurd rfl hc
  refine ax_aload_n dX10_cost_61 rfl ?_
  refine ax_iconst (v := 3) dX10_cost_62 (by decide) ?_
  refine ax_callV (As := _) (d2 := _) (c1 := 0) (n1 := 0) (c_notTwo (M := M0) hok hr0 ho h00 (w := 3) (by decide) rfl) dX10_cost_63 mX10_notTwo wd_2029 acl_10 (lo_s hok 90 rfl) rfl (by omega) (by omega) (by omega) rfl rfl (fun _ _ h => by rcases h with ⟨_, h, _⟩ | ⟨_, h, _⟩ <;> cases h) ?_
  rintro o9 M9 (⟨g3, h1, h2⟩ | ⟨g3, h1, h2⟩) <;> cases h1 <;> rw [h2] <;> clear h2 M9
  · refine ax_if_eq (tgt := 71) dX10_cost_66 (by decide) (fun hc => ?_) (fun hc => ?_)
    · exact absurd hc (by decide)
    · refine ax_iconst (v := 0) dX10_cost_69 (by decide) ?_
      refine ax_iret dX10_cost_70 rfl ?_
      exact rq_bad hM0 (w := 3) (k := 2) rfl (by unfold qa_cost; rw [if_neg g1, if_neg g2, if_pos g3])
  refine ax_if_eq (tgt := 71) dX10_cost_66 (by decide) (fun hc => ?_) (fun hc => ?_)
  rotate_left
  · exact absurd rfl hc
  obtain ⟨c, hc2, rfl⟩ := in_car (dn g1) (by omega) (by omega)
  refine ax_aload_n dX10_cost_71 rfl ?_
  refine ax_iload_n dX10_cost_72 rfl ?_
  refine ax_iload_n dX10_cost_73 rfl ?_
  refine ax_iload_n dX10_cost_74 rfl ?_
  refine ax_callV (As := _) (d2 := _) (c1 := 0) (n1 := 0) (c_costBy (lw := lw) (M := M0) hok hr0 ho (fun w hw => by rw [hM0]; exact sf_law0 hw (hl w hw)) (c := c) (by omega) rfl _ _) dX10_cost_75 mX10_costBy wd_2033 acl_10 (lo_s hok 90 rfl) rfl (by omega) (by omega) (by omega) rfl rfl (fun _ _ h => by cases h.1) ?_
  rintro o9 M1 ⟨h1, f1⟩; cases h1
  refine ax_iret dX10_cost_78 rfl ?_
  refine rq_sf hM0 (sf_mt f1) ?_
  unfold qa_cost
  rw [if_neg g1, if_neg g2, if_neg g3, nI_clamp (by omega)]
theorem c_answer (hok : lo_ok M.2) (hr : rr M r) (ho : rd_ok r) (hl : ∀ w, w < 3 → ml_law M w (lw w)) (x n : Int32) : ax_Met l G kX10_answer 8 0 0 M [av_r 90, av_i x, av_i n] (fun o M2 => rq M M2 o (qa_answer r lw x n)) := by
  have h9 := ho.1
  refine ax_body (by decide) (Nat.le_of_ble_eq_true rfl) ?_
  refine ax_aload_n dX10_answer_0 rfl ?_
  refine ax_iconst (v := 0) dX10_answer_1 (by decide) ?_
  refine ax_putI (f := 0) dX10_answer_2 acl_10 wd_1600 (by decide) rfl rfl (ax_nfI rfl) (lo_s hok 90 rfl) ?_
  refine ax_gen (fun M0 hM0 => ?_)
  have hok : lo_ok M0.2 := by rw [hM0]; exact hok
  have hr0 : rr M0 r := by rw [hM0]; exact rr_fr hr (fun n i q => ax_pn (by omega))
  have h00 : M0.1 90 0 = 0 := by rw [hM0, ax_pa]
  refine ax_aload_n dX10_answer_5 rfl ?_
  refine ax_join0 (¬ (0 ≤ x ∧ x ≤ iI (r 1) - 1)) 19 (1) (0) ?_ (fun ja jb => ?_)
  rotate_left
  · refine ax_aload_n dX10_answer_6 rfl ?_
    refine ax_iload_n dX10_answer_7 rfl ?_
    refine ax_callV (As := _) (d2 := _) (c1 := 0) (n1 := 0) (c_rIsCar (M := M0) hok hr0 _) dX10_answer_8 mX10_isCar wd_1919 acl_10 (lo_s hok 90 rfl) rfl (by omega) (by omega) (by omega) rfl rfl (fun _ _ h => by cases h.1) ?_
    rintro r M9 ⟨h1, h9⟩; cases h1; rw [h9]; clear h9 M9
    refine ax_ifB_ne (tgt := 18) dX10_answer_11 (by decide) (fun h11 => ?_) (fun h11 => ?_)
    · refine ax_iconst (v := 0) dX10_answer_18 (by decide) ?_
      first | (refine ja ?_; simp only [h11, and_self, and_true, true_and, not_true_eq_false, not_false_eq_true, or_true, true_or, or_false, false_or, or_self]; done) | (refine jb ?_; simp only [h11, and_self, and_true, true_and, not_true_eq_false, not_false_eq_true, or_true, true_or, or_false, false_or, or_self]; done) | exact ja h11 | exact jb (fun z => z h11) | exact ja (Or.inr h11) | exact ja (Or.inl h11)
    · refine ax_iconst (v := 1) dX10_answer_14 (by decide) ?_
      refine ax_goto (tgt := 19) dX10_answer_15 (by decide) ?_
      first | (refine ja ?_; simp only [h11, and_self, and_true, true_and, not_true_eq_false, not_false_eq_true, or_true, true_or, or_false, false_or, or_self]; done) | (refine jb ?_; simp only [h11, and_self, and_true, true_and, not_true_eq_false, not_false_eq_true, or_true, true_or, or_false, false_or, or_self]; done) | exact ja h11 | exact jb (fun z => z h11) | exact ja (Or.inr h11) | exact ja (Or.inl h11)
  refine ax_iconst (v := 1) dX10_answer_19 (by decide) ?_
  refine ax_iconst (v := 0) dX10_answer_20 (by decide) ?_
  refine ax_callV (As := _) (d2 := _) (c1 := 0) (n1 := 0) (c_badP (d := 0) (M := M0) (p := ¬ (0 ≤ x ∧ x ≤ iI (r 1) - 1)) hok h00 (w := 1) (k := 0) (by decide) (by decide) (by decide) rfl rfl) dX10_answer_21 mX10_bad wd_1775 acl_10 (lo_s hok 90 rfl) rfl (by omega) (by omega) (by omega) rfl rfl (fun _ _ h => by rcases h with ⟨_, h, _⟩ | ⟨_, h, _⟩ <;> cases h) ?_
  rintro o9 M9 (⟨g1, h1, h2⟩ | ⟨g1, h1, h2⟩) <;> cases h1 <;> rw [h2] <;> clear h2 M9
  · refine ax_if_ne (tgt := 59) dX10_answer_24 (by decide) (fun hc => ?_) (fun hc => ?_)
    · refine ax_iconst (v := 0) dX10_answer_59 (by decide) ?_
      refine ax_iret dX10_answer_60 rfl ?_
      exact rq_bad hM0 (w := 1) (k := 0) rfl (by unfold qa_answer; rw [if_pos g1])
    · exact absurd hc (by decide)
  refine ax_if_ne (tgt := 59) dX10_answer_24 (by decide) (fun hc => ?_) (fun hc => ?_)
  · exact absurd rfl hc
  refine ax_aload_n dX10_answer_27 rfl ?_
  refine ax_join0 (¬ (0 ≤ n ∧ n ≤ 20)) 43 (1) (0) ?_ (fun ja jb => ?_)
  rotate_left
  · refine ax_iload_n dX10_answer_28 rfl ?_
    refine ax_iconst (v := 0) dX10_answer_29 (by decide) ?_
    refine ax_bipush (v := 20) dX10_answer_30 (by decide) ?_
    refine ax_callS (As := _) (c1 := 0) (n1 := 0) (c_X10_in (d := 0) (M := M0) _ _ _) dX10_answer_32 mX10_in wd_1772 rfl (by omega) (by omega) (by omega) rfl rfl (fun _ _ h => by cases h.1) ?_
    rintro r M9 ⟨h1, h9⟩; cases h1; rw [h9]; clear h9 M9
    refine ax_ifB_ne (tgt := 42) dX10_answer_35 (by decide) (fun h35 => ?_) (fun h35 => ?_)
    · refine ax_iconst (v := 0) dX10_answer_42 (by decide) ?_
      first | (refine ja ?_; simp only [h35, and_self, and_true, true_and, not_true_eq_false, not_false_eq_true, or_true, true_or, or_false, false_or, or_self]; done) | (refine jb ?_; simp only [h35, and_self, and_true, true_and, not_true_eq_false, not_false_eq_true, or_true, true_or, or_false, false_or, or_self]; done) | exact ja h35 | exact jb (fun z => z h35) | exact ja (Or.inr h35) | exact ja (Or.inl h35)
    · refine ax_iconst (v := 1) dX10_answer_38 (by decide) ?_
      refine ax_goto (tgt := 43) dX10_answer_39 (by decide) ?_
      first | (refine ja ?_; simp only [h35, and_self, and_true, true_and, not_true_eq_false, not_false_eq_true, or_true, true_or, or_false, false_or, or_self]; done) | (refine jb ?_; simp only [h35, and_self, and_true, true_and, not_true_eq_false, not_false_eq_true, or_true, true_or, or_false, false_or, or_self]; done) | exact ja h35 | exact jb (fun z => z h35) | exact ja (Or.inr h35) | exact ja (Or.inl h35)
  refine ax_iconst (v := 2) dX10_answer_43 (by decide) ?_
  refine ax_iconst (v := 1) dX10_answer_44 (by decide) ?_
  refine ax_callV (As := _) (d2 := _) (c1 := 0) (n1 := 0) (c_badP (d := 0) (M := M0) (p := ¬ (0 ≤ n ∧ n ≤ 20)) hok h00 (w := 2) (k := 1) (by decide) (by decide) (by decide) rfl rfl) dX10_answer_45 mX10_bad wd_1775 acl_10 (lo_s hok 90 rfl) rfl (by omega) (by omega) (by omega) rfl rfl (fun _ _ h => by rcases h with ⟨_, h, _⟩ | ⟨_, h, _⟩ <;> cases h) ?_
  rintro o9 M9 (⟨g2, h1, h2⟩ | ⟨g2, h1, h2⟩) <;> cases h1 <;> rw [h2] <;> clear h2 M9
  · refine ax_if_ne (tgt := 59) dX10_answer_48 (by decide) (fun hc => ?_) (fun hc => ?_)
    · refine ax_iconst (v := 0) dX10_answer_59 (by decide) ?_
      refine ax_iret dX10_answer_60 rfl ?_
      exact rq_bad hM0 (w := 2) (k := 1) rfl (by unfold qa_answer; rw [if_neg g1, if_pos g2])
    · exact absurd hc (by decide)
  refine ax_if_ne (tgt := 59) dX10_answer_48 (by decide) (fun hc => ?_) (fun hc => ?_)
  · exact absurd rfl hc
  refine ax_aload_n dX10_answer_51 rfl ?_
  refine ax_iconst (v := 3) dX10_answer_52 (by decide) ?_
  refine ax_callV (As := _) (d2 := _) (c1 := 0) (n1 := 0) (c_notTwo (M := M0) hok hr0 ho h00 (w := 3) (by decide) rfl) dX10_answer_53 mX10_notTwo wd_2029 acl_10 (lo_s hok 90 rfl) rfl (by omega) (by omega) (by omega) rfl rfl (fun _ _ h => by rcases h with ⟨_, h, _⟩ | ⟨_, h, _⟩ <;> cases h) ?_
  rintro o9 M9 (⟨g3, h1, h2⟩ | ⟨g3, h1, h2⟩) <;> cases h1 <;> rw [h2] <;> clear h2 M9
  · refine ax_if_eq (tgt := 61) dX10_answer_56 (by decide) (fun hc => ?_) (fun hc => ?_)
    · exact absurd hc (by decide)
    · refine ax_iconst (v := 0) dX10_answer_59 (by decide) ?_
      refine ax_iret dX10_answer_60 rfl ?_
      exact rq_bad hM0 (w := 3) (k := 2) rfl (by unfold qa_answer; rw [if_neg g1, if_neg g2, if_pos g3])
  refine ax_if_eq (tgt := 61) dX10_answer_56 (by decide) (fun hc => ?_) (fun hc => ?_)
  rotate_left
  · exact absurd rfl hc
  obtain ⟨c, hc2, rfl⟩ := in_car (dn g1) (by omega) (by omega)
  obtain ⟨n, hn, rfl⟩ := in_nat (dn g2) (n := 20) rfl (by decide)
  have hl0 : ∀ w, w < 3 → ml_law M0 w (lw w) := fun w hw => by rw [hM0]; exact sf_law0 hw (hl w hw)
  obtain ⟨v, hv⟩ : ∃ v, v = fun d => mt_cost r lw (mt_c2 c (nI d) (-1)) c := ⟨_, rfl⟩
  have hvl : ∀ d, v d ≤ 199 := fun d => by rw [hv]; exact mt_cost_le _ _ _ _
  refine ax_iconst (v := 0) dX10_answer_61 (by decide) ?_
  refine ax_istore_n dX10_answer_62 (by decide) rfl ?_
  refine ax_iconst (v := (-1)) dX10_answer_63 (by decide) ?_
  refine ax_istore dX10_answer_64 (by decide) rfl ?_
  refine ax_iconst (v := 0) dX10_answer_66 (by decide) ?_
  refine ax_istore dX10_answer_67 (by decide) rfl ?_
  refine ax_for (n + 1) (fun d N L => ∃ bs ls y6, L = [some (av_r 90), some (av_i (nI c)), some (av_i (nI n)), some (av_i bs), some (av_i ls), some (av_i (nI d)), y6] ∧ mt_fr M0 N ∧ (d = 0 → bs = 0 ∧ ls = -1) ∧ ∀ q, d = q + 1 → bs = nI (am v q) ∧ ls = nI (v (am v q))) 69 ?_ ?_ (i := 0) (by omega) ⟨0, -1, _, rfl, mt_fr_0 _, fun _ => ⟨rfl, rfl⟩, fun q z => by omega⟩
  · rintro d N L ht ⟨bs, ls, y6, rfl, fr, i0, i1⟩ next
    have hok : lo_ok N.2 := by rw [fr.1]; exact hok
    refine ax_iload dX10_answer_69 rfl ?_
    refine ax_iload_n dX10_answer_71 rfl ?_
    refine ax_icmp_gt (tgt := 114) dX10_answer_72 (by decide) (fun hc => absurd ((nI_ltI (by omega) (by omega)).mp hc) (by omega)) (fun hc => ?_)
    refine ax_aload_n dX10_answer_75 rfl ?_
    refine ax_iload_n dX10_answer_76 rfl ?_
    refine ax_iload dX10_answer_77 rfl ?_
    refine ax_iconst (v := (-1)) dX10_answer_79 (by decide) ?_
    refine ax_callV (As := _) (d2 := _) (c1 := 0) (n1 := 0) (c_costBy (lw := lw) (M := N) hok (mt_fr_rr fr hr0) ho (fun w hw => mt_fr_law fr hw (hl0 w hw)) (c := c) (by omega) rfl _ _) dX10_answer_80 mX10_costBy wd_2033 acl_10 (lo_s hok 90 rfl) rfl (by omega) (by omega) (by omega) rfl rfl (fun _ _ h => by cases h.1) ?_
    rintro o9 N2 ⟨h1, f1⟩; cases h1
    have hok : lo_ok N2.2 := by rw [f1.1]; exact hok
    have ev : mt_cost r lw (mt_c2 c (nI d) (-1)) c = v d := by rw [hv]
    rw [ev]
    have hfr := mt_fr_tr fr f1
    have hd := hvl d
    refine ax_istore dX10_answer_83 (by decide) rfl ?_
    refine ax_iload dX10_answer_85 rfl ?_
    refine ax_iconst (v := (-1)) dX10_answer_87 (by decide) ?_
    refine ax_icmp_eq (tgt := 101) dX10_answer_88 (by decide) (fun hc => ?_) (fun hc => ?_)
    · have hd0 : d = 0 := by
        rcases Nat.eq_zero_or_pos d with q | q
        · exact q
        · have := (i1 (d - 1) (by omega)).2
          have hq := hvl (am v (d - 1))
          rw [hc] at this
          exact absurd this.symm (nI_m1 (by omega))
      refine ax_iload dX10_answer_101 rfl ?_
      refine ax_istore_n dX10_answer_103 (by decide) rfl ?_
      refine ax_iload dX10_answer_104 rfl ?_
      refine ax_istore dX10_answer_106 (by decide) rfl ?_
      refine ax_iinc (v := 1) dX10_answer_108 rfl (by decide) (by decide) rfl ?_
      refine ax_goto (tgt := 69) dX10_answer_111 (by decide) ?_
      refine next _ _ ⟨_, _, _, by rw [nI_1]; rfl, hfr, fun z => by omega, fun q z => ?_⟩
      have : q = 0 := by omega
      subst this hd0
      exact ⟨rfl, rfl⟩
    · have hd0 : 0 < d := by
        rcases Nat.eq_zero_or_pos d with q | q
        · exact absurd (i0 q).2 hc
        · exact q
      obtain ⟨q, rfl⟩ : ∃ q, d = q + 1 := ⟨d - 1, by omega⟩
      obtain ⟨j1, j2⟩ := i1 q rfl
      have hq := hvl (am v q)
      refine ax_iload dX10_answer_91 rfl ?_
      refine ax_iload dX10_answer_93 rfl ?_
      rw [j2]
      refine ax_icmp_lt (tgt := 101) dX10_answer_95 (by decide) (fun hc => ?_) (fun hc => ?_)
      · have hlt := (nI_ltI (by omega) (by omega)).mp hc
        refine ax_iload dX10_answer_101 rfl ?_
        refine ax_istore_n dX10_answer_103 (by decide) rfl ?_
        refine ax_iload dX10_answer_104 rfl ?_
        refine ax_istore dX10_answer_106 (by decide) rfl ?_
        refine ax_iinc (v := 1) dX10_answer_108 rfl (by decide) (by decide) rfl ?_
        refine ax_goto (tgt := 69) dX10_answer_111 (by decide) ?_
        refine next _ _ ⟨_, _, _, by rw [nI_1]; rfl, hfr, fun z => by omega, fun p z => ?_⟩
        have : p = q + 1 := by omega
        subst this
        have e : am v (q + 1) = q + 1 := if_pos hlt
        rw [e]
        exact ⟨rfl, rfl⟩
      · have hlt : ¬ v (q + 1) < v (am v q) := fun z => hc ((nI_ltI (by omega) (by omega)).mpr z)
        refine ax_goto (tgt := 108) dX10_answer_98 (by decide) ?_
        refine ax_iinc (v := 1) dX10_answer_108 rfl (by decide) (by decide) rfl ?_
        refine ax_goto (tgt := 69) dX10_answer_111 (by decide) ?_
        refine next _ _ ⟨_, _, _, by rw [nI_1]; rfl, hfr, fun z => by omega, fun p z => ?_⟩
        have : p = q + 1 := by omega
        subst this
        have e : am v (q + 1) = am v q := if_neg hlt
        rw [e]
        exact ⟨j1, rfl⟩
  · rintro N L ⟨bs, ls, y6, rfl, fr, i0, i1⟩
    refine ax_iload dX10_answer_69 rfl ?_
    refine ax_iload_n dX10_answer_71 rfl ?_
    refine ax_icmp_gt (tgt := 114) dX10_answer_72 (by decide) (fun hc => ?_) (fun hc => absurd ((nI_ltI (by omega) (by omega)).mpr (by omega)) hc)
    refine ax_iload_n dX10_answer_114 rfl ?_
    refine ax_iret dX10_answer_115 rfl ?_
    rw [(i1 n rfl).1]
    refine rq_sf hM0 (sf_mt fr) ?_
    unfold qa_answer
    rw [if_neg g1, if_neg g2, if_neg g3, nI_clamp (by omega), nI_clamp (by omega), hv]
end QC

