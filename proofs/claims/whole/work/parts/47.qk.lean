/-! ===== finds, nights: the reference ===== -/
def dl (s : Int32) : Nat → Int32
  | 0 => s
  | j + 1 => dl s j * 1103515245 + 12345
def nc_w (s : Int32) (j : Nat) : Nat := (dl s j >>> (16 &&& 31) &&& 32767).toInt.toNat
def nc (r : Nat → Int) (s : Int32) (j : Nat) : Int := ((nc_w s j % (r 0).toNat : Nat) : Int)
def ng (r : Nat → Int) (s : Int32) (n i : Nat) : Int := if 14 ≤ i ∧ i < 34 ∧ i % 2 = 0 ∧ (i - 14) / 2 < (r 2).toNat then nc r s (n * (r 2).toNat + (i - 14) / 2 + 1) else r i
def ni_h (r : Nat → Int) (lw : mt_L) (s : Int32) (c n : Nat) : Nat := mt_cnt (fun k => decide ((k : Int) < r 2) && hx r lw c (nc r s (n * (r 2).toNat + k + 1)) (r (15 + 2 * k))) 10
def su (f : Nat → Nat) : Nat → Nat
  | 0 => 0
  | n + 1 => su f n + f n
def mxn (f : Nat → Nat) : Nat → Nat
  | 0 => 0
  | n + 1 => max (mxn f n) (f n)
theorem su_le {f : Nat → Nat} {m : Nat} (h : ∀ n, f n ≤ m) : ∀ n, su f n ≤ n * m
  | 0 => by show 0 ≤ _; omega
  | n + 1 => by
    have := su_le h n
    have := h n
    show su f n + f n ≤ _
    rw [Nat.succ_mul]; omega
theorem mxn_le {f : Nat → Nat} {m : Nat} (h : ∀ n, f n ≤ m) : ∀ n, mxn f n ≤ m
  | 0 => Nat.zero_le _
  | n + 1 => by
    have := mxn_le h n
    have := h n
    show max (mxn f n) (f n) ≤ m
    omega
theorem ng_co (r : Nat → Int) (s : Int32) (n : Nat) : co r (ng r s n) := fun i h1 h2 => by
  unfold ng; rw [if_neg (by omega)]
theorem ng_2 (r : Nat → Int) (s : Int32) (n : Nat) : ng r s n 2 = r 2 := by unfold ng; rw [if_neg (by omega)]
theorem ng_x {r : Nat → Int} {s : Int32} {n k : Nat} (hk : k < 10) (h : (k : Int) < r 2) : ng r s n (14 + 2 * k) = nc r s (n * (r 2).toNat + k + 1) := by
  unfold ng; rw [if_pos (by omega), show (14 + 2 * k - 14) / 2 = k by omega]
theorem ng_h (r : Nat → Int) (s : Int32) (n k : Nat) : ng r s n (15 + 2 * k) = r (15 + 2 * k) := by
  unfold ng; rw [if_neg (by omega)]
theorem nc_b {r : Nat → Int} (ho : rd_ok r) (s : Int32) (j : Nat) : 0 ≤ nc r s j ∧ nc r s j < r 0 := by
  have h9 := ho.1
  have := Nat.mod_lt (nc_w s j) (show 0 < (r 0).toNat by omega)
  unfold nc; omega
theorem ng_ok {r : Nat → Int} (ho : rd_ok r) (s : Int32) (n : Nat) : rd_ok (ng r s n) := by
  have hc := ng_co r s n
  obtain ⟨h1, h2, h3, h4, h5⟩ := ho
  refine ⟨?_, fun c hc2 => ?_, fun k hk => ?_, fun k hk => ?_, fun k hk => ?_⟩
  · rw [hc 0 (by decide) (by decide), hc 1 (by decide) (by decide), ng_2, hc 3 (by decide) (by decide), hc 4 (by decide) (by decide), hc 5 (by decide) (by decide), hc 6 (by decide) (by decide), hc 34 (by decide) (by decide), hc 35 (by decide) (by decide)]
    exact h1
  · have := h2 c hc2
    unfold rd_oc at this ⊢
    rw [hc (10 + 2 * c) (by omega) (by omega), hc (11 + 2 * c) (by omega) (by omega), hc (40 + c) (by omega) (by omega), hc 1 (by decide) (by decide)]
    exact this
  · rw [hc 0 (by decide) (by decide), ng_2, ng_h]
    have := h3 k hk
    by_cases e : (k : Int) < r 2
    · rw [ng_x hk e]
      have hb := nc_b ⟨h1, h2, h3, h4, h5⟩ s (n * (r 2).toNat + k + 1)
      exact ⟨hb.1, by omega, this.2.2.1, this.2.2.2.1, fun _ => hb.2⟩
    · have e1 : ng r s n (14 + 2 * k) = r (14 + 2 * k) := by unfold ng; rw [if_neg (by omega)]
      rw [e1]; exact this
  · have := h4 k hk
    rw [hc (50 + k) (by omega) (by omega), hc 3 (by decide) (by decide), hc 0 (by decide) (by decide)]
    exact this
  · have := h5 k hk
    rw [hc (60 + 2 * k) (by omega) (by omega), hc (61 + 2 * k) (by omega) (by omega), hc 4 (by decide) (by decide), hc 0 (by decide) (by decide)]
    exact this
theorem ng_hn {r : Nat → Int} {lw : mt_L} {s : Int32} {n c : Nat} (hc : c < 2) : mt_hn (ng r s n) lw mt_n c = ni_h r lw s c n := by
  unfold mt_hn ni_h
  refine mt_cnt_cong (fun k hk => ?_)
  rw [ng_2, ng_h, co_T (ng_co r s n), co_hits (ng_co r s n) lw mt_n hc]
  by_cases e : (k : Int) < r 2
  · rw [ng_x hk e]; rfl
  · simp [e]
theorem ni_le (r : Nat → Int) (lw : mt_L) (s : Int32) (c n : Nat) : ni_h r lw s c n ≤ 10 := mt_cnt_le _ 10
def qv_nights (r : Nat → Int) (lw : mt_L) (s : Int32) (m k : Nat) : Int32 := if k = 0 then nI (su (ni_h r lw s 0) m) else if k = 1 then nI (su (ni_h r lw s 1) m) else if k = 2 then nI (mt_cnt (fun n => decide (ni_h r lw s 0 n + ni_h r lw s 1 n = 0)) m) else nI (mxn (fun n => ni_h r lw s 0 n + ni_h r lw s 1 n) m)
def qa_nights (r : Nat → Int) (lw : mt_L) (s x y : Int32) : ax_V ⊕ (Nat × Nat) := if ¬ (1 ≤ x ∧ x ≤ 20) ∨ ¬ (0 ≤ y ∧ y ≤ 3) then .inr (1, 1) else .inl (av_i (qv_nights r lw s x.toNatClampNeg y.toNatClampNeg))
section QK
variable {l : Launch} {G : ax_G} {M : ax_M} {r : Nat → Int} {lw : mt_L}
theorem c_finds (hok : lo_ok M.2) (hr : rr M r) (ho : rd_ok r) (hl : ∀ w, w < 3 → ml_law M w (lw w)) (x y : Int32) : ax_Met l G kX10_finds 8 0 0 M [av_r 90, av_i x, av_i y] (fun o M2 => rq M M2 o (qa_finds r lw x y)) := by
  have h9 := ho.1
  have hTT := mt_T_le r
  refine ax_body (by decide) (Nat.le_of_ble_eq_true rfl) ?_
  refine ax_aload_n dX10_finds_0 rfl ?_
  refine ax_iconst (v := 0) dX10_finds_1 (by decide) ?_
  refine ax_putI (f := 0) dX10_finds_2 acl_10 wd_1600 (by decide) rfl rfl (ax_nfI rfl) (lo_s hok 90 rfl) ?_
  refine ax_gen (fun M0 hM0 => ?_)
  have hok : lo_ok M0.2 := by rw [hM0]; exact hok
  have hr0 : rr M0 r := by rw [hM0]; exact rr_fr hr (fun n i q => ax_pn (by omega))
  have h00 : M0.1 90 0 = 0 := by rw [hM0, ax_pa]
  refine ax_aload_n dX10_finds_5 rfl ?_
  refine ax_join0 (¬ (0 ≤ x ∧ x ≤ iI (r 2) - 1)) 19 (1) (0) ?_ (fun ja jb => ?_)
  rotate_left
  · refine ax_aload_n dX10_finds_6 rfl ?_
    refine ax_iload_n dX10_finds_7 rfl ?_
    refine ax_callV (As := _) (d2 := _) (c1 := 0) (n1 := 0) (c_rIsCoat (M := M0) hok hr0 _) dX10_finds_8 mX10_isCoat wd_1935 acl_10 (lo_s hok 90 rfl) rfl (by omega) (by omega) (by omega) rfl rfl (fun _ _ h => by cases h.1) ?_
    rintro r M9 ⟨h1, h9⟩; cases h1; rw [h9]; clear h9 M9
    refine ax_ifB_ne (tgt := 18) dX10_finds_11 (by decide) (fun h11 => ?_) (fun h11 => ?_)
    · refine ax_iconst (v := 0) dX10_finds_18 (by decide) ?_
      first | (refine ja ?_; simp only [h11, and_self, and_true, true_and, not_true_eq_false, not_false_eq_true, or_true, true_or, or_false, false_or, or_self]; done) | (refine jb ?_; simp only [h11, and_self, and_true, true_and, not_true_eq_false, not_false_eq_true, or_true, true_or, or_false, false_or, or_self]; done) | exact ja h11 | exact jb (fun z => z h11) | exact ja (Or.inr h11) | exact ja (Or.inl h11)
    · refine ax_iconst (v := 1) dX10_finds_14 (by decide) ?_
      refine ax_goto (tgt := 19) dX10_finds_15 (by decide) ?_
      first | (refine ja ?_; simp only [h11, and_self, and_true, true_and, not_true_eq_false, not_false_eq_true, or_true, true_or, or_false, false_or, or_self]; done) | (refine jb ?_; simp only [h11, and_self, and_true, true_and, not_true_eq_false, not_false_eq_true, or_true, true_or, or_false, false_or, or_self]; done) | exact ja h11 | exact jb (fun z => z h11) | exact ja (Or.inr h11) | exact ja (Or.inl h11)
  refine ax_iconst (v := 1) dX10_finds_19 (by decide) ?_
  refine ax_iconst (v := 0) dX10_finds_20 (by decide) ?_
  refine ax_callV (As := _) (d2 := _) (c1 := 0) (n1 := 0) (c_badP (d := 0) (M := M0) (p := ¬ (0 ≤ x ∧ x ≤ iI (r 2) - 1)) hok h00 (w := 1) (k := 0) (by decide) (by decide) (by decide) rfl rfl) dX10_finds_21 mX10_bad wd_1775 acl_10 (lo_s hok 90 rfl) rfl (by omega) (by omega) (by omega) rfl rfl (fun _ _ h => by rcases h with ⟨_, h, _⟩ | ⟨_, h, _⟩ <;> cases h) ?_
  rintro o9 M9 (⟨g1, h1, h2⟩ | ⟨g1, h1, h2⟩) <;> cases h1 <;> rw [h2] <;> clear h2 M9
  · refine ax_if_ne (tgt := 50) dX10_finds_24 (by decide) (fun hc => ?_) (fun hc => ?_)
    · refine ax_iconst (v := 0) dX10_finds_50 (by decide) ?_
      refine ax_iret dX10_finds_51 rfl ?_
      exact rq_bad hM0 (w := 1) (k := 0) rfl (by unfold qa_finds; rw [if_pos g1])
    · exact absurd hc (by decide)
  refine ax_if_ne (tgt := 50) dX10_finds_24 (by decide) (fun hc => ?_) (fun hc => ?_)
  · exact absurd rfl hc
  refine ax_aload_n dX10_finds_27 rfl ?_
  refine ax_join0 (¬ (0 ≤ y ∧ y ≤ 1)) 42 (1) (0) ?_ (fun ja jb => ?_)
  rotate_left
  · refine ax_iload_n dX10_finds_28 rfl ?_
    refine ax_iconst (v := 0) dX10_finds_29 (by decide) ?_
    refine ax_iconst (v := 1) dX10_finds_30 (by decide) ?_
    refine ax_callS (As := _) (c1 := 0) (n1 := 0) (c_X10_in (d := 0) (M := M0) _ _ _) dX10_finds_31 mX10_in wd_1772 rfl (by omega) (by omega) (by omega) rfl rfl (fun _ _ h => by cases h.1) ?_
    rintro r M9 ⟨h1, h9⟩; cases h1; rw [h9]; clear h9 M9
    refine ax_ifB_ne (tgt := 41) dX10_finds_34 (by decide) (fun h34 => ?_) (fun h34 => ?_)
    · refine ax_iconst (v := 0) dX10_finds_41 (by decide) ?_
      first | (refine ja ?_; simp only [h34, and_self, and_true, true_and, not_true_eq_false, not_false_eq_true, or_true, true_or, or_false, false_or, or_self]; done) | (refine jb ?_; simp only [h34, and_self, and_true, true_and, not_true_eq_false, not_false_eq_true, or_true, true_or, or_false, false_or, or_self]; done) | exact ja h34 | exact jb (fun z => z h34) | exact ja (Or.inr h34) | exact ja (Or.inl h34)
    · refine ax_iconst (v := 1) dX10_finds_37 (by decide) ?_
      refine ax_goto (tgt := 42) dX10_finds_38 (by decide) ?_
      first | (refine ja ?_; simp only [h34, and_self, and_true, true_and, not_true_eq_false, not_false_eq_true, or_true, true_or, or_false, false_or, or_self]; done) | (refine jb ?_; simp only [h34, and_self, and_true, true_and, not_true_eq_false, not_false_eq_true, or_true, true_or, or_false, false_or, or_self]; done) | exact ja h34 | exact jb (fun z => z h34) | exact ja (Or.inr h34) | exact ja (Or.inl h34)
  refine ax_iconst (v := 2) dX10_finds_42 (by decide) ?_
  refine ax_iconst (v := 1) dX10_finds_43 (by decide) ?_
  refine ax_callV (As := _) (d2 := _) (c1 := 0) (n1 := 0) (c_badP (d := 0) (M := M0) (p := ¬ (0 ≤ y ∧ y ≤ 1)) hok h00 (w := 2) (k := 1) (by decide) (by decide) (by decide) rfl rfl) dX10_finds_44 mX10_bad wd_1775 acl_10 (lo_s hok 90 rfl) rfl (by omega) (by omega) (by omega) rfl rfl (fun _ _ h => by rcases h with ⟨_, h, _⟩ | ⟨_, h, _⟩ <;> cases h) ?_
  rintro o9 M9 (⟨g2, h1, h2⟩ | ⟨g2, h1, h2⟩) <;> cases h1 <;> rw [h2] <;> clear h2 M9
  · refine ax_if_eq (tgt := 52) dX10_finds_47 (by decide) (fun hc => ?_) (fun hc => ?_)
    · exact absurd hc (by decide)
    · refine ax_iconst (v := 0) dX10_finds_50 (by decide) ?_
      refine ax_iret dX10_finds_51 rfl ?_
      exact rq_bad hM0 (w := 2) (k := 1) rfl (by unfold qa_finds; rw [if_neg g1, if_pos g2])
  refine ax_if_eq (tgt := 52) dX10_finds_47 (by decide) (fun hc => ?_) (fun hc => ?_)
  rotate_left
  · exact absurd rfl hc
  obtain ⟨c, hc2, rfl⟩ := in_car (dn g1) (by omega) (by omega)
  obtain ⟨k, hk, rfl⟩ := in_nat (dn g2) (n := 1) rfl (by decide)
  refine ax_aload_n dX10_finds_52 rfl ?_
  refine ax_callV (As := _) (d2 := _) (c1 := 0) (n1 := 0) (c_X10_asTold (lw := lw) (M := M0) hok hr0 ho (fun w hw => by rw [hM0]; exact sf_law0 hw (hl w hw))) dX10_finds_53 mX10_asTold wd_1943 acl_10 (lo_s hok 90 rfl) rfl (by omega) (by omega) (by omega) rfl rfl (fun _ _ h => by cases h.1) ?_
  rintro o9 M1 ⟨h1, f1, f2⟩; cases h1
  have hok : lo_ok M1.2 := by rw [f1.1]; exact hok
  have hr1 := sf_rr (sf_mt f1) hr0
  obtain ⟨s, hs⟩ : ∃ s, s = fun q => mt_sk r lw mt_n q c (mt_T r) := ⟨_, rfl⟩
  have e : ∀ v, v = qv_finds s (r 1).toNat k → rq M M1 (.inl (some (av_i v))) (qa_finds r lw (nI c) (nI k)) := fun v hv => rq_sf hM0 (sf_mt f1) (by unfold qa_finds; rw [if_neg g1, if_neg g2, nI_clamp (by omega), nI_clamp (by omega), hv, hs])
  have hm : ∀ q, q < 2 → M1.1 (375 + q) c = mt_sb (s q) := fun q hq => by
    have := ((f2.1 q hq).2.2.2.1 c (by omega)).2
    rw [if_neg (by omega)] at this
    rw [hs]; exact this
  have hb : ∀ q u, q < 2 → s q = some u → u < 100 := fun q u hq hu => by
    rw [hs] at hu
    have := mt_sk_b ho lw mt_n (c := q) (k := c) (t := mt_T r) hq (by omega) (by omega) hu
    omega
  have hn : ∀ q, q < 2 → (mt_sb (s q) = -1 ↔ s q = none) := fun q hq => mt_sb_no (fun u hu => hb q u hq hu)
  refine ax_iconst (v := (-1)) dX10_finds_56 (by decide) ?_
  refine ax_istore_n dX10_finds_57 (by decide) rfl ?_
  refine ax_iconst (v := 0) dX10_finds_58 (by decide) ?_
  refine ax_istore dX10_finds_59 (by decide) rfl ?_
  refine ax_for (r 1).toNat (fun q N L => ∃ bs, N = M1 ∧ L = [some (av_r 90), some (av_i (nI c)), some (av_i (nI k)), some (av_i bs), some (av_i (nI q))] ∧ (fd s q = none → bs = -1) ∧ ∀ p, fd s q = some p → bs = nI p.1 ∧ p.1 < q ∧ s p.1 = some p.2) 61 ?_ ?_ (i := 0) (by omega) ⟨-1, rfl, rfl, fun _ => rfl, fun p z => by cases z⟩
  · rintro q N L hq ⟨bs, rfl, rfl, i0, i1⟩ next
    have hq2 : q < 2 := by omega
    have stay : fd s (q + 1) = fd s q → ax_W l G kX10_finds (ax_FQ G (fun o M2 => rq M M2 o (qa_finds r lw (nI c) (nI k)))) 8 0 0 N 113 [some (av_r 90), some (av_i (nI c)), some (av_i (nI k)), some (av_i bs), some (av_i (nI q))] [] := by
      intro ef
      refine ax_iinc (v := 1) dX10_finds_113 rfl (by decide) (by decide) rfl ?_
      refine ax_goto (tgt := 61) dX10_finds_116 (by decide) ?_
      refine next _ _ ⟨_, rfl, by rw [nI_1]; rfl, ?_, ?_⟩
      · rw [ef]; exact i0
      · rw [ef]; intro p hp; have := i1 p hp; exact ⟨this.1, by omega, this.2.2⟩
    have sett : ∀ u, s q = some u → fd s (q + 1) = some (q, u) → ax_W l G kX10_finds (ax_FQ G (fun o M2 => rq M M2 o (qa_finds r lw (nI c) (nI k)))) 8 0 0 N 110 [some (av_r 90), some (av_i (nI c)), some (av_i (nI k)), some (av_i bs), some (av_i (nI q))] [] := by
      intro u hu ef
      refine ax_iload dX10_finds_110 rfl ?_
      refine ax_istore_n dX10_finds_112 (by decide) rfl ?_
      refine ax_iinc (v := 1) dX10_finds_113 rfl (by decide) (by decide) rfl ?_
      refine ax_goto (tgt := 61) dX10_finds_116 (by decide) ?_
      refine next _ _ ⟨_, rfl, by rw [nI_1]; rfl, ?_, ?_⟩
      · rw [ef]; intro z; cases z
      · rw [ef]; intro p hp; cases hp; exact ⟨rfl, by show q < q + 1; omega, hu⟩
    refine ax_iload dX10_finds_61 rfl ?_
    refine ax_aload_n dX10_finds_63 rfl ?_
    refine ax_getK (f := 12) 94 dX10_finds_64 acl_10 wd_1612 (by decide) rfl (lo_s hok 90 rfl) (lo_r hok 83 rfl) ?_
    refine ax_iconst (v := 1) dX10_finds_67 (by decide) ?_
    refine ax_ialdN (1) dX10_finds_68 (lo_s hok 94 rfl) (by decide) (by decide) (by decide) ?_
    rw [hr1.1 1 (by decide), iI_tn (show 0 ≤ r 1 by omega)]
    refine ax_icmp_ge (tgt := 119) dX10_finds_69 (by decide) (fun hc => absurd ((nI_leI (by omega) (by omega)).mp hc) (by omega)) (fun hc => ?_)
    refine ax_aload_n dX10_finds_72 rfl ?_
    refine ax_getK (f := 38) 374 dX10_finds_73 acl_10 wd_1638 (by decide) rfl (lo_s hok 90 rfl) (lo_r hok 103 rfl) ?_
    refine ax_iload dX10_finds_76 rfl ?_
    refine ax_aaldN2 (375 + (q)) (q) dX10_finds_78 (lo_s hok 374 rfl) (by decide) (by first | with_reducible rfl | assumption | exact ax_nix (by simp only [nx_0, nx_1, nx_2, nx_3, nx_4, nx_10, nx_20, nx_21, nx_100, nI_add, pk_mul] <;> rfl) (by omega) | decide) (by omega) (lo_w_m_seenIn hok (by omega)) ?_
    refine ax_iload_n dX10_finds_79 rfl ?_
    refine ax_ialdN (c) dX10_finds_80 (by first | assumption | exact lo_tz hok (by omega) (by omega) | exact lo_z_m_wet hok (by omega) | exact lo_z_m_readWet hok (by omega) | exact lo_z_m_law hok (by omega) | exact lo_z_m_book hok (by omega) | exact lo_z_m_readBook hok (by omega) | exact lo_z_m_before hok (by omega) | exact lo_z_m_kept hok (by omega) | exact lo_z_m_seenAt hok (by omega) | exact lo_z_m_seenIn hok (by omega) | exact lo_z_m_t0 hok (by omega) | exact lo_z_m_t1 hok (by omega) | exact lo_z_m_c0 hok (by omega) | exact lo_z_m_c1 hok (by omega) | exact lo_z_x_kept hok (by omega)) (by decide) (by first | with_reducible rfl | assumption | exact ax_nix (by simp only [nx_0, nx_1, nx_2, nx_3, nx_4, nx_10, nx_20, nx_21, nx_100, nI_add, pk_mul] <;> rfl) (by omega) | decide) (by omega) ?_
    refine ax_iconst (v := (-1)) dX10_finds_81 (by decide) ?_
    rw [hm q hq2]
    have efd : fd s (q + 1) = match s q with
      | none => fd s q
      | some u => match fd s q with
        | none => some (q, u)
        | some p => if u < p.2 then some (q, u) else some p := rfl
    cases es : s q with
    | none =>
      refine ax_icmp_eq (tgt := 113) dX10_finds_82 (by decide) (fun hc => ?_) (fun hc => ?_)
      · exact stay (by rw [efd, es])
      · exact absurd rfl hc
    | some u =>
      have hu := hb q u hq2 es
      refine ax_icmp_eq (tgt := 113) dX10_finds_82 (by decide) (fun hc => ?_) (fun hc => ?_)
      · exact absurd hc (nI_m1 (by omega))
      · refine ax_iload_n dX10_finds_85 rfl ?_
        refine ax_iconst (v := (-1)) dX10_finds_86 (by decide) ?_
        cases ef : fd s q with
        | none =>
          rw [i0 ef]
          refine ax_icmp_eq (tgt := 110) dX10_finds_87 (by decide) (fun hc => ?_) (fun hc => ?_)
          · rw [i0 ef] at sett
            exact sett u es (by rw [efd, es, ef])
          · exact absurd rfl hc
        | some p =>
          obtain ⟨p1, p2, p3⟩ := i1 p ef
          have hp2 := hb p.1 p.2 (by omega) p3
          rw [p1] at stay sett ⊢
          refine ax_icmp_eq (tgt := 110) dX10_finds_87 (by decide) (fun hc => ?_) (fun hc => ?_)
          · exact absurd hc (nI_m1 (by omega))
          · refine ax_aload_n dX10_finds_90 rfl ?_
            refine ax_getK (f := 38) 374 dX10_finds_91 acl_10 wd_1638 (by decide) rfl (lo_s hok 90 rfl) (lo_r hok 103 rfl) ?_
            refine ax_iload dX10_finds_94 rfl ?_
            refine ax_aaldN2 (375 + (q)) (q) dX10_finds_96 (lo_s hok 374 rfl) (by decide) (by first | with_reducible rfl | assumption | exact ax_nix (by simp only [nx_0, nx_1, nx_2, nx_3, nx_4, nx_10, nx_20, nx_21, nx_100, nI_add, pk_mul] <;> rfl) (by omega) | decide) (by omega) (lo_w_m_seenIn hok (by omega)) ?_
            refine ax_iload_n dX10_finds_97 rfl ?_
            refine ax_ialdN (c) dX10_finds_98 (by first | assumption | exact lo_tz hok (by omega) (by omega) | exact lo_z_m_wet hok (by omega) | exact lo_z_m_readWet hok (by omega) | exact lo_z_m_law hok (by omega) | exact lo_z_m_book hok (by omega) | exact lo_z_m_readBook hok (by omega) | exact lo_z_m_before hok (by omega) | exact lo_z_m_kept hok (by omega) | exact lo_z_m_seenAt hok (by omega) | exact lo_z_m_seenIn hok (by omega) | exact lo_z_m_t0 hok (by omega) | exact lo_z_m_t1 hok (by omega) | exact lo_z_m_c0 hok (by omega) | exact lo_z_m_c1 hok (by omega) | exact lo_z_x_kept hok (by omega)) (by decide) (by first | with_reducible rfl | assumption | exact ax_nix (by simp only [nx_0, nx_1, nx_2, nx_3, nx_4, nx_10, nx_20, nx_21, nx_100, nI_add, pk_mul] <;> rfl) (by omega) | decide) (by omega) ?_
            refine ax_aload_n dX10_finds_99 rfl ?_
            refine ax_getK (f := 38) 374 dX10_finds_100 acl_10 wd_1638 (by decide) rfl (lo_s hok 90 rfl) (lo_r hok 103 rfl) ?_
            refine ax_iload_n dX10_finds_103 rfl ?_
            refine ax_aaldN2 (375 + (p.1)) (p.1) dX10_finds_104 (lo_s hok 374 rfl) (by decide) (by first | with_reducible rfl | assumption | exact ax_nix (by simp only [nx_0, nx_1, nx_2, nx_3, nx_4, nx_10, nx_20, nx_21, nx_100, nI_add, pk_mul] <;> rfl) (by omega) | decide) (by omega) (lo_w_m_seenIn hok (by omega)) ?_
            refine ax_iload_n dX10_finds_105 rfl ?_
            refine ax_ialdN (c) dX10_finds_106 (by first | assumption | exact lo_tz hok (by omega) (by omega) | exact lo_z_m_wet hok (by omega) | exact lo_z_m_readWet hok (by omega) | exact lo_z_m_law hok (by omega) | exact lo_z_m_book hok (by omega) | exact lo_z_m_readBook hok (by omega) | exact lo_z_m_before hok (by omega) | exact lo_z_m_kept hok (by omega) | exact lo_z_m_seenAt hok (by omega) | exact lo_z_m_seenIn hok (by omega) | exact lo_z_m_t0 hok (by omega) | exact lo_z_m_t1 hok (by omega) | exact lo_z_m_c0 hok (by omega) | exact lo_z_m_c1 hok (by omega) | exact lo_z_x_kept hok (by omega)) (by decide) (by first | with_reducible rfl | assumption | exact ax_nix (by simp only [nx_0, nx_1, nx_2, nx_3, nx_4, nx_10, nx_20, nx_21, nx_100, nI_add, pk_mul] <;> rfl) (by omega) | decide) (by omega) ?_
            rw [hm q hq2, hm p.1 (by omega), es, p3]
            refine ax_icmp_ge (tgt := 113) dX10_finds_107 (by decide) (fun hc => ?_) (fun hc => ?_)
            · have hle := (nI_leI (by omega) (by omega)).mp hc
              exact stay (by rw [efd, es, ef]; exact if_neg (by omega))
            · have hlt : ¬ p.2 ≤ u := fun z => hc ((nI_leI (by omega) (by omega)).mpr z)
              exact sett u es (by rw [efd, es, ef]; exact if_pos (by omega))
  · rintro N L ⟨bs, rfl, rfl, i0, i1⟩
    refine ax_iload dX10_finds_61 rfl ?_
    refine ax_aload_n dX10_finds_63 rfl ?_
    refine ax_getK (f := 12) 94 dX10_finds_64 acl_10 wd_1612 (by decide) rfl (lo_s hok 90 rfl) (lo_r hok 83 rfl) ?_
    refine ax_iconst (v := 1) dX10_finds_67 (by decide) ?_
    refine ax_ialdN (1) dX10_finds_68 (lo_s hok 94 rfl) (by decide) (by decide) (by decide) ?_
    rw [hr1.1 1 (by decide), iI_tn (show 0 ≤ r 1 by omega)]
    refine ax_icmp_ge (tgt := 119) dX10_finds_69 (by decide) (fun hc => ?_) (fun hc => absurd ((nI_leI (by omega) (by omega)).mpr (by omega)) hc)
    refine ax_iload_n dX10_finds_119 rfl ?_
    refine ax_iconst (v := (-1)) dX10_finds_120 (by decide) ?_
    cases ef : fd s (r 1).toNat with
    | none =>
      rw [i0 ef]
      refine ax_icmp_ne (tgt := 128) dX10_finds_121 (by decide) (fun hc => ?_) (fun hc => ?_)
      · exact absurd rfl hc
      · refine ax_iconst (v := (-1)) dX10_finds_124 (by decide) ?_
        refine ax_goto (tgt := 144) dX10_finds_125 (by decide) ?_
        refine ax_iret dX10_finds_144 rfl ?_
        exact e _ (by unfold qv_finds; rw [ef])
    | some p =>
      obtain ⟨p1, p2, p3⟩ := i1 p ef
      rw [p1]
      refine ax_icmp_ne (tgt := 128) dX10_finds_121 (by decide) (fun hc => ?_) (fun hc => ?_)
      · rcases (show k = 0 ∨ k = 1 by omega) with rfl | rfl
        · refine ax_iload_n dX10_finds_128 rfl ?_
          refine ax_if_ne (tgt := 136) dX10_finds_129 (by decide) (fun h129 => ?_) (fun h129 => ?_)
          · exact absurd rfl h129
          · refine ax_iload_n dX10_finds_132 rfl ?_
            refine ax_goto (tgt := 144) dX10_finds_133 (by decide) ?_
            refine ax_iret dX10_finds_144 rfl ?_
            exact e _ (by unfold qv_finds; rw [ef]; rfl)
        · refine ax_iload_n dX10_finds_128 rfl ?_
          refine ax_if_ne (tgt := 136) dX10_finds_129 (by decide) (fun hc => ?_) (fun hc => ?_)
          · refine ax_aload_n dX10_finds_136 rfl ?_
            refine ax_getK (f := 38) 374 dX10_finds_137 acl_10 wd_1638 (by decide) rfl (lo_s hok 90 rfl) (lo_r hok 103 rfl) ?_
            refine ax_iload_n dX10_finds_140 rfl ?_
            refine ax_aaldN2 (375 + (p.1)) (p.1) dX10_finds_141 (lo_s hok 374 rfl) (by decide) (by first | with_reducible rfl | assumption | exact ax_nix (by simp only [nx_0, nx_1, nx_2, nx_3, nx_4, nx_10, nx_20, nx_21, nx_100, nI_add, pk_mul] <;> rfl) (by omega) | decide) (by omega) (lo_w_m_seenIn hok (by omega)) ?_
            refine ax_iload_n dX10_finds_142 rfl ?_
            refine ax_ialdN (c) dX10_finds_143 (by first | assumption | exact lo_tz hok (by omega) (by omega) | exact lo_z_m_wet hok (by omega) | exact lo_z_m_readWet hok (by omega) | exact lo_z_m_law hok (by omega) | exact lo_z_m_book hok (by omega) | exact lo_z_m_readBook hok (by omega) | exact lo_z_m_before hok (by omega) | exact lo_z_m_kept hok (by omega) | exact lo_z_m_seenAt hok (by omega) | exact lo_z_m_seenIn hok (by omega) | exact lo_z_m_t0 hok (by omega) | exact lo_z_m_t1 hok (by omega) | exact lo_z_m_c0 hok (by omega) | exact lo_z_m_c1 hok (by omega) | exact lo_z_x_kept hok (by omega)) (by decide) (by first | with_reducible rfl | assumption | exact ax_nix (by simp only [nx_0, nx_1, nx_2, nx_3, nx_4, nx_10, nx_20, nx_21, nx_100, nI_add, pk_mul] <;> rfl) (by omega) | decide) (by omega) ?_
            rw [hm p.1 (by omega), p3]
            refine ax_iret dX10_finds_144 rfl ?_
            exact e _ (by unfold qv_finds; rw [ef]; rfl)
          · exact absurd hc (by decide)
      · exact absurd hc (nI_m1 (by omega))
set_option maxHeartbeats 1000000 in
theorem c_nights (hok : lo_ok M.2) (hr : rr M r) (ho : rd_ok r) (hl : ∀ w, w < 3 → ml_law M w (lw w)) (sd x y : Int32) : ax_Met l G kX10_nights 8 0 0 M [av_r 90, av_i sd, av_i x, av_i y] (fun o M2 => rq M M2 o (qa_nights r lw sd x y)) := by
  have h9 := ho.1
  refine ax_body (by decide) (Nat.le_of_ble_eq_true rfl) ?_
  refine ax_aload_n dX10_nights_0 rfl ?_
  refine ax_iconst (v := 0) dX10_nights_1 (by decide) ?_
  refine ax_putI (f := 0) dX10_nights_2 acl_10 wd_1600 (by decide) rfl rfl (ax_nfI rfl) (lo_s hok 90 rfl) ?_
  refine ax_gen (fun M0 hM0 => ?_)
  have hok : lo_ok M0.2 := by rw [hM0]; exact hok
  have hr0 : rr M0 r := by rw [hM0]; exact rr_fr hr (fun n i q => ax_pn (by omega))
  have h00 : M0.1 90 0 = 0 := by rw [hM0, ax_pa]
  refine ax_aload_n dX10_nights_5 rfl ?_
  refine ax_join0 (¬ (1 ≤ x ∧ x ≤ 20) ∨ ¬ (0 ≤ y ∧ y ≤ 3)) 30 (1) (0) ?_ (fun ja jb => ?_)
  rotate_left
  · refine ax_iload_n dX10_nights_6 rfl ?_
    refine ax_iconst (v := 1) dX10_nights_7 (by decide) ?_
    refine ax_bipush (v := 20) dX10_nights_8 (by decide) ?_
    refine ax_callS (As := _) (c1 := 0) (n1 := 0) (c_X10_in (d := 0) (M := M0) _ _ _) dX10_nights_10 mX10_in wd_1772 rfl (by omega) (by omega) (by omega) rfl rfl (fun _ _ h => by cases h.1) ?_
    rintro r M9 ⟨h1, h9⟩; cases h1; rw [h9]; clear h9 M9
    refine ax_ifB_eq (tgt := 25) dX10_nights_13 (by decide) (fun h13 => ?_) (fun h13 => ?_)
    · refine ax_iconst (v := 1) dX10_nights_25 (by decide) ?_
      refine ax_goto (tgt := 30) dX10_nights_26 (by decide) ?_
      first | (refine ja ?_; simp only [h13, and_self, and_true, true_and, not_true_eq_false, not_false_eq_true, or_true, true_or, or_false, false_or, or_self]; done) | (refine jb ?_; simp only [h13, and_self, and_true, true_and, not_true_eq_false, not_false_eq_true, or_true, true_or, or_false, false_or, or_self]; done) | exact ja h13 | exact jb (fun z => z h13) | exact ja (Or.inr h13) | exact ja (Or.inl h13)
    · refine ax_iload_n dX10_nights_16 rfl ?_
      refine ax_iconst (v := 0) dX10_nights_17 (by decide) ?_
      refine ax_iconst (v := 3) dX10_nights_18 (by decide) ?_
      refine ax_callS (As := _) (c1 := 0) (n1 := 0) (c_X10_in (d := 0) (M := M0) _ _ _) dX10_nights_19 mX10_in wd_1772 rfl (by omega) (by omega) (by omega) rfl rfl (fun _ _ h => by cases h.1) ?_
      rintro r M9 ⟨h1, h9⟩; cases h1; rw [h9]; clear h9 M9
      refine ax_ifB_ne (tgt := 29) dX10_nights_22 (by decide) (fun h22 => ?_) (fun h22 => ?_)
      · refine ax_iconst (v := 0) dX10_nights_29 (by decide) ?_
        first | (refine ja ?_; simp only [h13, h22, and_self, and_true, true_and, not_true_eq_false, not_false_eq_true, or_true, true_or, or_false, false_or, or_self]; done) | (refine jb ?_; simp only [h13, h22, and_self, and_true, true_and, not_true_eq_false, not_false_eq_true, or_true, true_or, or_false, false_or, or_self]; done) | exact ja h22 | exact jb (fun z => z h22) | exact ja (Or.inr h22) | exact ja (Or.inl h22)
      · refine ax_iconst (v := 1) dX10_nights_25 (by decide) ?_
        refine ax_goto (tgt := 30) dX10_nights_26 (by decide) ?_
        first | (refine ja ?_; simp only [h13, h22, and_self, and_true, true_and, not_true_eq_false, not_false_eq_true, or_true, true_or, or_false, false_or, or_self]; done) | (refine jb ?_; simp only [h13, h22, and_self, and_true, true_and, not_true_eq_false, not_false_eq_true, or_true, true_or, or_false, false_or, or_self]; done) | exact ja h22 | exact jb (fun z => z h22) | exact ja (Or.inr h22) | exact ja (Or.inl h22)
  refine ax_iconst (v := 1) dX10_nights_30 (by decide) ?_
  refine ax_iconst (v := 1) dX10_nights_31 (by decide) ?_
  refine ax_callV (As := _) (d2 := _) (c1 := 0) (n1 := 0) (c_badP (d := 0) (M := M0) (p := ¬ (1 ≤ x ∧ x ≤ 20) ∨ ¬ (0 ≤ y ∧ y ≤ 3)) hok h00 (w := 1) (k := 1) (by decide) (by decide) (by decide) rfl rfl) dX10_nights_32 mX10_bad wd_1775 acl_10 (lo_s hok 90 rfl) rfl (by omega) (by omega) (by omega) rfl rfl (fun _ _ h => by rcases h with ⟨_, h, _⟩ | ⟨_, h, _⟩ <;> cases h) ?_
  rintro o9 M9 (⟨g1, h1, h2⟩ | ⟨g1, h1, h2⟩) <;> cases h1 <;> rw [h2] <;> clear h2 M9
  · refine ax_if_eq (tgt := 40) dX10_nights_35 (by decide) (fun hc => ?_) (fun hc => ?_)
    · exact absurd hc (by decide)
    · refine ax_iconst (v := 0) dX10_nights_38 (by decide) ?_
      refine ax_iret dX10_nights_39 rfl ?_
      exact rq_bad hM0 (w := 1) (k := 1) rfl (by unfold qa_nights; rw [if_pos g1])
  refine ax_if_eq (tgt := 40) dX10_nights_35 (by decide) (fun hc => ?_) (fun hc => ?_)
  rotate_left
  · exact absurd rfl hc
  obtain ⟨m, hm1, hm, rfl⟩ := in_nat1 (dn (fun z => g1 (Or.inl z))) (n := 20) rfl (by decide)
  obtain ⟨k, hk, rfl⟩ := in_nat (dn (fun z => g1 (Or.inr z))) (n := 3) rfl (by decide)
  have hl0 : ∀ w, w < 3 → ml_law M0 w (lw w) := fun w hw => by rw [hM0]; exact sf_law0 hw (hl w hw)
  obtain ⟨K, hK⟩ : ∃ K, K = (r 2).toNat := ⟨_, rfl⟩
  have e : ∀ (N : ax_M) v, sf M0 N → v = qv_nights r lw sd m k → rq M N (.inl (some (av_i v))) (qa_nights r lw sd (nI m) (nI k)) := fun N v hs hv => rq_sf hM0 hs (by unfold qa_nights; rw [if_neg g1, nI_clamp (by omega), nI_clamp (by omega), hv])
  obtain ⟨a0, ha0⟩ : ∃ f, f = ni_h r lw sd 0 := ⟨_, rfl⟩
  obtain ⟨a1, ha1⟩ : ∃ f, f = ni_h r lw sd 1 := ⟨_, rfl⟩
  have l0 : ∀ n, a0 n ≤ 10 := fun n => by rw [ha0]; exact ni_le _ _ _ _ _
  have l1 : ∀ n, a1 n ≤ 10 := fun n => by rw [ha1]; exact ni_le _ _ _ _ _
  have J : ∃ J : ax_M → Prop, ∀ N, J N ↔ (N.2 = M0.2 ∧ (∀ n i, ¬ rs n i → ¬ (n = 100 ∧ 4 ≤ i ∧ i < 24 ∧ i % 2 = 0 ∧ (i - 4) / 2 < K) → N.1 n i = M0.1 n i) ∧ kp M0 N) := ⟨_, fun _ => Iff.rfl⟩
  obtain ⟨J, hJ⟩ := J
  refine ax_iload_n dX10_nights_40 rfl ?_
  refine ax_istore dX10_nights_41 (by decide) rfl ?_
  refine ax_iconst (v := 0) dX10_nights_43 (by decide) ?_
  refine ax_istore dX10_nights_44 (by decide) rfl ?_
  refine ax_iconst (v := 0) dX10_nights_46 (by decide) ?_
  refine ax_istore dX10_nights_47 (by decide) rfl ?_
  refine ax_iconst (v := 0) dX10_nights_49 (by decide) ?_
  refine ax_istore dX10_nights_50 (by decide) rfl ?_
  refine ax_iconst (v := 0) dX10_nights_52 (by decide) ?_
  refine ax_istore dX10_nights_53 (by decide) rfl ?_
  refine ax_aload_n dX10_nights_55 rfl ?_
  refine ax_callV (As := _) (d2 := _) (c1 := 0) (n1 := 0) (c_puts (M := M0) hok) dX10_nights_56 mX10_puts wd_2137 acl_10 (lo_s hok 90 rfl) rfl (by omega) (by omega) (by omega) rfl rfl (fun _ _ h => by cases h.1) ?_
  rintro r1 M1 ⟨h1, s1, k1⟩; cases h1
  refine ax_iconst (v := 0) dX10_nights_59 (by decide) ?_
  refine ax_istore dX10_nights_60 (by decide) rfl ?_
  refine ax_for m (fun n N L => ∃ y10, L = [some (av_r 90), some (av_i sd), some (av_i (nI m)), some (av_i (nI k)), some (av_i (dl sd (n * K))), some (av_i (nI (su a0 n))), some (av_i (nI (su a1 n))), some (av_i (nI (mt_cnt (fun n => decide (a0 n + a1 n = 0)) n))), some (av_i (nI (mxn (fun n => a0 n + a1 n) n))), some (av_i (nI n)), y10] ∧ J N) 62 ?_ ?_ (i := 0) (by omega) ⟨_, by rw [Nat.zero_mul]; rfl, (hJ M1).mpr ⟨s1.1, fun n i q _ => s1.2 n i q, k1⟩⟩
  · rintro n N L hn ⟨y10, rfl, jN⟩ next
    refine ax_iload dX10_nights_62 rfl ?_
    refine ax_iload_n dX10_nights_64 rfl ?_
    refine ax_icmp_ge (tgt := 210) dX10_nights_65 (by decide) (fun hc => absurd ((nI_leI (by omega) (by omega)).mp hc) (by omega)) (fun hc => ?_)
    refine ax_iconst (v := 0) dX10_nights_68 (by decide) ?_
    refine ax_istore dX10_nights_69 (by decide) rfl ?_
    refine ax_for K (fun j N L => L = [some (av_r 90), some (av_i sd), some (av_i (nI m)), some (av_i (nI k)), some (av_i (dl sd (n * K + j))), some (av_i (nI (su a0 n))), some (av_i (nI (su a1 n))), some (av_i (nI (mt_cnt (fun n => decide (a0 n + a1 n = 0)) n))), some (av_i (nI (mxn (fun n => a0 n + a1 n) n))), some (av_i (nI n)), some (av_i (nI j))] ∧ J N ∧ ∀ q, q < j → N.1 100 (4 + 2 * q) = iI (nc r sd (n * K + q + 1))) 71 ?_ ?_ (i := 0) (by omega) ⟨rfl, jN, fun q z => by omega⟩
    · rintro j N L hj ⟨rfl, jN, hq⟩ next2
      obtain ⟨e1, e2, e3⟩ := (hJ N).mp jN
      have hok : lo_ok N.2 := by rw [e1]; exact ‹lo_ok M0.2›
      have h942 : N.1 94 2 = nI K := by rw [e2 94 2 (by unfold rs; omega) (by omega), hr0.1 2 (by decide), iI_tn (by omega), hK]
      have h940 : N.1 94 0 = nI (r 0).toNat := by rw [e2 94 0 (by unfold rs; omega) (by omega), hr0.1 0 (by decide), iI_tn (by omega)]
      refine ax_iload dX10_nights_71 rfl ?_
      refine ax_aload_n dX10_nights_73 rfl ?_
      refine ax_getK (f := 12) 94 dX10_nights_74 acl_10 wd_1612 (by decide) rfl (lo_s hok 90 rfl) (lo_r hok 83 rfl) ?_
      refine ax_iconst (v := 2) dX10_nights_77 (by decide) ?_
      refine ax_ialdN (2) dX10_nights_78 (lo_s hok 94 rfl) (by decide) (by decide) (by decide) ?_
      rw [h942]
      refine ax_icmp_ge (tgt := 127) dX10_nights_79 (by decide) (fun hc => absurd ((nI_leI (by omega) (by omega)).mp hc) (by omega)) (fun hc => ?_)
      refine ax_iload dX10_nights_82 rfl ?_
      refine ax_ldc_w dX10_nights_84 wd_2141 ?_
      refine ax_imul dX10_nights_87 ?_
      refine ax_sipush (v := 12345) dX10_nights_88 (by decide) ?_
      refine ax_iadd dX10_nights_91 ?_
      refine ax_istore dX10_nights_92 (by decide) rfl ?_
      have ed : dl sd (n * K + j) * 1103515245 + 12345 = dl sd (n * K + j + 1) := rfl
      rw [ed]
      refine ax_aload_n dX10_nights_94 rfl ?_
      refine ax_getK (f := 18) 100 dX10_nights_95 acl_10 wd_1618 (by decide) rfl (lo_s hok 90 rfl) (lo_r hok 89 rfl) ?_
      refine ax_iconst (v := 4) dX10_nights_98 (by decide) ?_
      refine ax_iconst (v := 2) dX10_nights_99 (by decide) ?_
      refine ax_iload dX10_nights_100 rfl ?_
      refine ax_imul dX10_nights_102 ?_
      refine ax_iadd dX10_nights_103 ?_
      refine ax_iload dX10_nights_104 rfl ?_
      refine ax_bipush (v := 16) dX10_nights_106 (by decide) ?_
      refine ax_ishr dX10_nights_108 ?_
      refine ax_sipush (v := 32767) dX10_nights_109 (by decide) ?_
      refine ax_iand dX10_nights_112 ?_
      refine ax_aload_n dX10_nights_113 rfl ?_
      refine ax_getK (f := 12) 94 dX10_nights_114 acl_10 wd_1612 (by decide) rfl (lo_s hok 90 rfl) (lo_r hok 83 rfl) ?_
      refine ax_iconst (v := 0) dX10_nights_117 (by decide) ?_
      refine ax_ialdN (0) dX10_nights_118 (lo_s hok 94 rfl) (by decide) (by decide) (by decide) ?_
      rw [h940]
      obtain ⟨w, hw1, hw2⟩ := pk_andE (dl sd (n * K + j + 1) >>> (16 &&& 31)) (m := 32767) 15 (by decide)
      have hw3 : nc_w sd (n * K + j + 1) = w := by unfold nc_w; rw [hw2, nI_toInt (by omega)]; omega
      rw [hw2]
      refine ax_irem dX10_nights_119 (nI_ne0 (by omega) (by omega)) ?_
      rw [pk_rem (by omega) (by omega) (by omega)]
      refine ax_iastN (4 + 2 * j) dX10_nights_120 (lo_s hok 100 rfl) (by decide) (show (4 : Int32) + 2 * nI j = nI (4 + 2 * j) by rw [nx_4, nx_2, pk_mul, nI_add]) (by omega) ?_
      refine ax_gen (fun N2 hN2 => ?_)
      have hok : lo_ok N2.2 := by rw [hN2]; exact hok
      refine ax_iinc (v := 1) dX10_nights_121 rfl (by decide) (by decide) rfl ?_
      refine ax_goto (tgt := 71) dX10_nights_124 (by decide) ?_
      refine next2 _ _ ⟨by rw [nI_1]; rfl, (hJ N2).mpr ⟨by rw [hN2]; exact e1, fun n i q1 q2 => by rw [hN2, ax_pn (by omega)]; exact e2 n i q1 q2, fun i hi => by rw [hN2, ax_pn (by omega)]; exact e3.1 i hi, by rw [hN2, ax_pn (by omega)]; exact e3.2⟩, fun q z => ?_⟩
      rw [hN2]
      by_cases z2 : q = j
      · subst z2; rw [ax_pa]; unfold nc; rw [hw3, iI_nI]
      · rw [ax_pn (by omega)]; exact hq q (by omega)
    · rintro N L ⟨rfl, jN, hq⟩
      obtain ⟨e1, e2, e3⟩ := (hJ N).mp jN
      have hok : lo_ok N.2 := by rw [e1]; exact ‹lo_ok M0.2›
      have h942 : N.1 94 2 = nI K := by rw [e2 94 2 (by unfold rs; omega) (by omega), hr0.1 2 (by decide), iI_tn (by omega), hK]
      have hrN : rr N (ng r sd n) := by
        have hc := ng_co r sd n
        refine ⟨fun k hk => ?_, fun k hk => ?_, fun k hk => ?_, fun k hk => ?_, fun k hk => ?_⟩
        · rw [e2 94 k (by unfold rs; omega) (by omega), hr0.1 k hk]
          by_cases z : k = 2
          · subst z; rw [ng_2]
          · rw [hc k z (by omega)]
        · by_cases z : 4 ≤ k ∧ k < 24 ∧ k % 2 = 0 ∧ (k - 4) / 2 < K
          · obtain ⟨q, hq2⟩ : ∃ q, k = 4 + 2 * q := ⟨(k - 4) / 2, by omega⟩
            subst hq2
            rw [hq q (by omega), show 10 + (4 + 2 * q) = 14 + 2 * q by omega, ng_x (by omega) (by omega), hK]
          · rw [e2 100 k (by unfold rs; omega) (by omega), hr0.2.1 k hk]
            unfold ng; rw [if_neg (by omega)]
        · rw [e2 96 k (by unfold rs; omega) (by omega), hr0.2.2.1 k hk, hc (40 + k) (by omega) (by omega)]
        · rw [e2 98 k (by unfold rs; omega) (by omega), hr0.2.2.2.1 k hk, hc (50 + k) (by omega) (by omega)]
        · rw [e2 (107 + k) 0 (by unfold rs; omega) (by omega), e2 (107 + k) 1 (by unfold rs; omega) (by omega), hc (60 + 2 * k) (by omega) (by omega), hc (61 + 2 * k) (by omega) (by omega)]
          exact hr0.2.2.2.2 k hk
      refine ax_iload dX10_nights_71 rfl ?_
      refine ax_aload_n dX10_nights_73 rfl ?_
      refine ax_getK (f := 12) 94 dX10_nights_74 acl_10 wd_1612 (by decide) rfl (lo_s hok 90 rfl) (lo_r hok 83 rfl) ?_
      refine ax_iconst (v := 2) dX10_nights_77 (by decide) ?_
      refine ax_ialdN (2) dX10_nights_78 (lo_s hok 94 rfl) (by decide) (by decide) (by decide) ?_
      rw [h942]
      refine ax_icmp_ge (tgt := 127) dX10_nights_79 (by decide) (fun hc => ?_) (fun hc => absurd ((nI_leI (by omega) (by omega)).mpr (by omega)) hc)
      refine ax_aload_n dX10_nights_127 rfl ?_
      refine ax_callV (As := _) (d2 := _) (c1 := 0) (n1 := 0) (c_X10_asTold (lw := lw) (M := N) hok hrN (ng_ok ho sd n) (fun w hw => ml_law_fr (hl0 w hw) (fun n i q => e2 n i (by unfold rs; omega) (by omega)))) dX10_nights_128 mX10_asTold wd_1943 acl_10 (lo_s hok 90 rfl) rfl (by omega) (by omega) (by omega) rfl rfl (fun _ _ h => by cases h.1) ?_
      rintro o9 N3 ⟨h1, f1, f2⟩; cases h1
      have hok : lo_ok N3.2 := by rw [f1.1]; exact hok
      have eh : ∀ c, c < 2 → mt_ones (N3.1 377 c) 10 = nI (ni_h r lw sd c n) := fun c hc => by
        rw [(f2.1 c hc).2.2.2.2.1, ← ng_hn hc]; unfold mt_hit; rw [mt_ones_or]; rfl
      have eh0 : mt_ones (N3.1 377 0) 10 = nI (a0 n) := by rw [ha0]; exact eh 0 (by decide)
      have eh1 : mt_ones (N3.1 377 1) 10 = nI (a1 n) := by rw [ha1]; exact eh 1 (by decide)
      have b0 := l0 n
      have b1 := l1 n
      refine ax_aload_n dX10_nights_131 rfl ?_
      refine ax_getK (f := 39) 377 dX10_nights_132 acl_10 wd_1639 (by decide) rfl (lo_s hok 90 rfl) (lo_r hok 104 rfl) ?_
      refine ax_iconst (v := 0) dX10_nights_135 (by decide) ?_
      refine ax_ialdN (0) dX10_nights_136 (lo_s hok 377 rfl) (by decide) (by decide) (by decide) ?_
      refine ax_callS (As := _) (c1 := 0) (n1 := 0) (c_X10_ones (d := 0) (M := N3) _) dX10_nights_137 mX10_ones wd_2041 rfl (by omega) (by omega) (by omega) rfl rfl (fun _ _ h => by cases h.1) ?_
      rintro r M9 ⟨h1, h9⟩; cases h1; rw [h9]; clear h9 M9
      rw [eh0]
      refine ax_aload_n dX10_nights_140 rfl ?_
      refine ax_getK (f := 39) 377 dX10_nights_141 acl_10 wd_1639 (by decide) rfl (lo_s hok 90 rfl) (lo_r hok 104 rfl) ?_
      refine ax_iconst (v := 1) dX10_nights_144 (by decide) ?_
      refine ax_ialdN (1) dX10_nights_145 (lo_s hok 377 rfl) (by decide) (by decide) (by decide) ?_
      refine ax_callS (As := _) (c1 := 0) (n1 := 0) (c_X10_ones (d := 0) (M := N3) _) dX10_nights_146 mX10_ones wd_2041 rfl (by omega) (by omega) (by omega) rfl rfl (fun _ _ h => by cases h.1) ?_
      rintro r M9 ⟨h1, h9⟩; cases h1; rw [h9]; clear h9 M9
      rw [eh1]
      refine ax_iadd dX10_nights_149 ?_
      rw [nI_add]
      refine ax_istore dX10_nights_150 (by decide) rfl ?_
      refine ax_iload dX10_nights_152 rfl ?_
      refine ax_aload_n dX10_nights_154 rfl ?_
      refine ax_getK (f := 39) 377 dX10_nights_155 acl_10 wd_1639 (by decide) rfl (lo_s hok 90 rfl) (lo_r hok 104 rfl) ?_
      refine ax_iconst (v := 0) dX10_nights_158 (by decide) ?_
      refine ax_ialdN (0) dX10_nights_159 (lo_s hok 377 rfl) (by decide) (by decide) (by decide) ?_
      refine ax_callS (As := _) (c1 := 0) (n1 := 0) (c_X10_ones (d := 0) (M := N3) _) dX10_nights_160 mX10_ones wd_2041 rfl (by omega) (by omega) (by omega) rfl rfl (fun _ _ h => by cases h.1) ?_
      rintro r M9 ⟨h1, h9⟩; cases h1; rw [h9]; clear h9 M9
      rw [eh0]
      refine ax_iadd dX10_nights_163 ?_
      refine ax_istore dX10_nights_164 (by decide) rfl ?_
      refine ax_iload dX10_nights_166 rfl ?_
      refine ax_aload_n dX10_nights_168 rfl ?_
      refine ax_getK (f := 39) 377 dX10_nights_169 acl_10 wd_1639 (by decide) rfl (lo_s hok 90 rfl) (lo_r hok 104 rfl) ?_
      refine ax_iconst (v := 1) dX10_nights_172 (by decide) ?_
      refine ax_ialdN (1) dX10_nights_173 (lo_s hok 377 rfl) (by decide) (by decide) (by decide) ?_
      refine ax_callS (As := _) (c1 := 0) (n1 := 0) (c_X10_ones (d := 0) (M := N3) _) dX10_nights_174 mX10_ones wd_2041 rfl (by omega) (by omega) (by omega) rfl rfl (fun _ _ h => by cases h.1) ?_
      rintro r M9 ⟨h1, h9⟩; cases h1; rw [h9]; clear h9 M9
      rw [eh1]
      refine ax_iadd dX10_nights_177 ?_
      refine ax_istore dX10_nights_178 (by decide) rfl ?_
      refine ax_iload dX10_nights_180 rfl ?_
      refine ax_iload dX10_nights_182 rfl ?_
      have h0 : nI (a0 n + a1 n) = 0 ↔ a0 n + a1 n = 0 := nI_eq (b := 0) (by omega) (by omega)
      refine ax_join1 (a0 n + a1 n = 0) 192 (1) (0) ?_ (fun ja jb => ?_)
      rotate_left
      · refine ax_if_ne (tgt := 191) dX10_nights_184 (by decide) (fun h184 => ?_) (fun h184 => ?_)
        · refine ax_iconst (v := 0) dX10_nights_191 (by decide) ?_
          first | exact ja (h0.mp h184) | exact jb (fun z => h184 (h0.mpr z))
        · refine ax_iconst (v := 1) dX10_nights_187 (by decide) ?_
          refine ax_goto (tgt := 192) dX10_nights_188 (by decide) ?_
          first | exact ja (h0.mp h184) | exact jb (fun z => h184 (h0.mpr z))
      refine ax_iadd dX10_nights_192 ?_
      refine ax_istore dX10_nights_193 (by decide) rfl ?_
      refine ax_iload dX10_nights_195 rfl ?_
      refine ax_iload dX10_nights_197 rfl ?_
      refine ax_callS (As := _) (c1 := 0) (n1 := 0) (c_X10_more (d := 0) (M := N3) _ _) dX10_nights_199 mX10_more wd_1908 rfl (by omega) (by omega) (by omega) rfl rfl (fun _ _ h => by cases h.1) ?_
      rintro r M9 ⟨h1, h9⟩; cases h1; rw [h9]; clear h9 M9
      refine ax_istore dX10_nights_202 (by decide) rfl ?_
      refine ax_iinc (v := 1) dX10_nights_204 rfl (by decide) (by decide) rfl ?_
      refine ax_goto (tgt := 62) dX10_nights_207 (by decide) ?_
      have hmx := mxn_le (f := fun n => a0 n + a1 n) (m := 20) (fun n => by have := l0 n; have := l1 n; show a0 n + a1 n ≤ 20; omega) n
      have em : (if nI (a0 n + a1 n) < nI (mxn (fun n => a0 n + a1 n) n) then nI (mxn (fun n => a0 n + a1 n) n) else nI (a0 n + a1 n)) = nI (mxn (fun n => a0 n + a1 n) (n + 1)) := by
        show _ = nI (max (mxn (fun n => a0 n + a1 n) n) (a0 n + a1 n))
        by_cases q : a0 n + a1 n < mxn (fun n => a0 n + a1 n) n
        · rw [if_pos ((nI_ltI (by omega) (by omega)).mpr q)]; congr 1; omega
        · rw [if_neg (fun z => q ((nI_ltI (by omega) (by omega)).mp z))]; congr 1; omega
      have ec : nI (mt_cnt (fun n => decide (a0 n + a1 n = 0)) n) + (if a0 n + a1 n = 0 then 1 else 0) = nI (mt_cnt (fun n => decide (a0 n + a1 n = 0)) (n + 1)) := nI_cntP (by simp)
      refine next _ _ ⟨some (av_i (nI (a0 n + a1 n))), ?_, (hJ N3).mpr ⟨f1.1.trans e1, fun n i q1 q2 => by rw [(sf_mt f1).2 n i q1]; exact e2 n i q1 q2, fun i hi => by rw [f1.2 431 i (by omega) (by omega) (by omega) (by omega)]; exact e3.1 i hi, by rw [f1.2 90 52 (by omega) (by omega) (by omega) (by omega)]; exact e3.2⟩⟩
      rw [em, ec, nI_add, nI_add, nI_1, Nat.succ_mul]
      rfl
  · rintro N L ⟨y10, rfl, jN⟩
    obtain ⟨e1, e2, e3⟩ := (hJ N).mp jN
    have hok : lo_ok N.2 := by rw [e1]; exact ‹lo_ok M0.2›
    refine ax_iload dX10_nights_62 rfl ?_
    refine ax_iload_n dX10_nights_64 rfl ?_
    refine ax_icmp_ge (tgt := 210) dX10_nights_65 (by decide) (fun hc => ?_) (fun hc => absurd ((nI_leI (by omega) (by omega)).mpr (by omega)) hc)
    refine ax_aload_n dX10_nights_210 rfl ?_
    refine ax_callV (As := _) (d2 := _) (c1 := 0) (n1 := 0) (c_putsBack (M0 := M0) (M := N) hok ⟨e1, fun n i q1 q2 q3 => e2 n i q1 (by omega)⟩ e3) dX10_nights_211 mX10_putsBack wd_2142 acl_10 (lo_s hok 90 rfl) rfl (by omega) (by omega) (by omega) rfl rfl (fun _ _ h => by cases h.1) ?_
    rintro o9 N4 ⟨h1, f3, f4⟩; cases h1
    rcases (show k = 0 ∨ k = 1 ∨ k = 2 ∨ k = 3 by omega) with rfl | rfl | rfl | rfl
    · refine ax_iload_n dX10_nights_214 rfl ?_
      refine ax_if_ne (tgt := 223) dX10_nights_215 (by decide) (fun h215 => ?_) (fun h215 => ?_)
      · exact absurd rfl h215
      · refine ax_iload dX10_nights_218 rfl ?_
        refine ax_goto (tgt := 245) dX10_nights_220 (by decide) ?_
        refine ax_iret dX10_nights_245 rfl ?_
        exact e _ _ f3 (by rw [ha0]; rfl)
    · refine ax_iload_n dX10_nights_214 rfl ?_
      refine ax_if_ne (tgt := 223) dX10_nights_215 (by decide) (fun h215 => ?_) (fun h215 => ?_)
      · refine ax_iload_n dX10_nights_223 rfl ?_
        refine ax_iconst (v := 1) dX10_nights_224 (by decide) ?_
        refine ax_icmp_ne (tgt := 233) dX10_nights_225 (by decide) (fun h225 => ?_) (fun h225 => ?_)
        · exact absurd rfl h225
        · refine ax_iload dX10_nights_228 rfl ?_
          refine ax_goto (tgt := 245) dX10_nights_230 (by decide) ?_
          refine ax_iret dX10_nights_245 rfl ?_
          exact e _ _ f3 (by rw [ha1]; rfl)
      · exact absurd h215 (by decide)
    · refine ax_iload_n dX10_nights_214 rfl ?_
      refine ax_if_ne (tgt := 223) dX10_nights_215 (by decide) (fun h215 => ?_) (fun h215 => ?_)
      · refine ax_iload_n dX10_nights_223 rfl ?_
        refine ax_iconst (v := 1) dX10_nights_224 (by decide) ?_
        refine ax_icmp_ne (tgt := 233) dX10_nights_225 (by decide) (fun h225 => ?_) (fun h225 => ?_)
        · refine ax_iload_n dX10_nights_233 rfl ?_
          refine ax_iconst (v := 2) dX10_nights_234 (by decide) ?_
          refine ax_icmp_ne (tgt := 243) dX10_nights_235 (by decide) (fun h235 => ?_) (fun h235 => ?_)
          · exact absurd rfl h235
          · refine ax_iload dX10_nights_238 rfl ?_
            refine ax_goto (tgt := 245) dX10_nights_240 (by decide) ?_
            refine ax_iret dX10_nights_245 rfl ?_
            exact e _ _ f3 (by rw [ha0, ha1]; rfl)
        · exact absurd h225 (by decide)
      · exact absurd h215 (by decide)
    · refine ax_iload_n dX10_nights_214 rfl ?_
      refine ax_if_ne (tgt := 223) dX10_nights_215 (by decide) (fun h215 => ?_) (fun h215 => ?_)
      · refine ax_iload_n dX10_nights_223 rfl ?_
        refine ax_iconst (v := 1) dX10_nights_224 (by decide) ?_
        refine ax_icmp_ne (tgt := 233) dX10_nights_225 (by decide) (fun h225 => ?_) (fun h225 => ?_)
        · refine ax_iload_n dX10_nights_233 rfl ?_
          refine ax_iconst (v := 2) dX10_nights_234 (by decide) ?_
          refine ax_icmp_ne (tgt := 243) dX10_nights_235 (by decide) (fun h235 => ?_) (fun h235 => ?_)
          · refine ax_iload dX10_nights_243 rfl ?_
            refine ax_iret dX10_nights_245 rfl ?_
            exact e _ _ f3 (by rw [ha0, ha1]; rfl)
          · exact absurd h235 (by decide)
        · exact absurd h225 (by decide)
      · exact absurd h215 (by decide)
end QK

