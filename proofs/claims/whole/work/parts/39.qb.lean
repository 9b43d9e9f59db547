/-! ===== asks of what is told and of the meeting: the reference ===== -/
def mt_n : Nat → Int32 := mt_d (-1) (-1)
def mt_row (r : Nat → Int) (lw : mt_L) (d : Nat → Int32) (c t k : Nat) : Int32 := if k = 0 then iI (mt_pos r c t) else if k = 1 then mt_f r lw d c t else if k = 2 then iI (mt_b r lw d c t) else if k = 3 then iI (mt_si r lw d c t) else if k = 4 then (if mt_si r lw d c t < mt_stop r c t then 1 else 0) else (if mt_view r t = true then 1 else 0)
theorem lk_row_at {M : ax_M} {r : Nat → Int} {lw : mt_L} {d : Nat → Int32} {c t k : Nat} (h : lk_row M r lw d c t) (hk : k < 6) : M.1 (172 + 100 * c + t) k = mt_row r lw d c t k := by
  rcases (show k = 0 ∨ k = 1 ∨ k = 2 ∨ k = 3 ∨ k = 4 ∨ k = 5 by omega) with rfl | rfl | rfl | rfl | rfl | rfl
  · exact h.1
  · exact h.2.1
  · exact h.2.2.1
  · exact h.2.2.2.1
  · exact h.2.2.2.2.1
  · exact h.2.2.2.2.2
def rd_nb (r : Nat → Int) : Nat := mt_cnt (fun x => rd_hid r ((x : Int) - 1) ((x : Int) + 1)) (r 0).toNat
def rd_nw (r : Nat → Int) : Nat := mt_cnt (fun x => rd_wet r (x : Int)) (r 0).toNat
def qv_told (r : Nat → Int) (L : Int32) (k : Nat) : Int32 := if k < 3 then iI (r k) else if k = 3 then nI (rd_nb r) else if k = 4 then nI (rd_nw r) else if k = 5 then iI (r 34) else if k = 6 then iI (r 35) else if k = 7 then L else iI (r (k - 3))
def qa_told (r : Nat → Int) (L : Int32) (x : Int32) : ax_V ⊕ (Nat × Nat) := if ¬ (0 ≤ x ∧ x ≤ 9) then .inr (1, 1) else .inl (av_i (qv_told r L x.toNatClampNeg))
def qa_car (r : Nat → Int) (x y : Int32) : ax_V ⊕ (Nat × Nat) := if ¬ (0 ≤ x ∧ x ≤ iI (r 1) - 1) then .inr (1, 0) else if ¬ (0 ≤ y ∧ y ≤ 3) then .inr (2, 1) else .inl (av_i (if y = 0 then iI (r (40 + x.toNatClampNeg)) else if y = 1 then iI (r (10 + 2 * x.toNatClampNeg)) else if y = 2 then iI (r (11 + 2 * x.toNatClampNeg)) else if x = 0 then 0 else iI (r 0 - 1)))
def qa_coat (r : Nat → Int) (x y : Int32) : ax_V ⊕ (Nat × Nat) := if ¬ (0 ≤ x ∧ x ≤ iI (r 2) - 1) then .inr (1, 0) else if ¬ (0 ≤ y ∧ y ≤ 1) then .inr (2, 1) else .inl (av_i (iI (r (14 + 2 * x.toNatClampNeg + y.toNatClampNeg))))
def qv_at (r : Nat → Int) (lw : mt_L) (c t k : Nat) : Int32 := if mt_T r ≤ t ∨ mt_on r c t = false then -1 else mt_row r lw mt_n c t k
def qa_at (r : Nat → Int) (lw : mt_L) (x y z : Int32) : ax_V ⊕ (Nat × Nat) := if ¬ (0 ≤ x ∧ x ≤ iI (r 1) - 1) then .inr (1, 0) else if ¬ (0 ≤ y ∧ y ≤ 98) ∨ ¬ (0 ≤ z ∧ z ≤ 5) then .inr (2, 1) else .inl (av_i (qv_at r lw x.toNatClampNeg y.toNatClampNeg z.toNatClampNeg))
def qa_hits (r : Nat → Int) (lw : mt_L) (x : Int32) : ax_V ⊕ (Nat × Nat) := if ¬ (0 ≤ x ∧ x ≤ iI (r 1) - 1) then .inr (1, 0) else .inl (av_i (mt_hit r lw mt_n x.toNatClampNeg (mt_T r)))
def qa_sees (r : Nat → Int) (lw : mt_L) (x y : Int32) : ax_V ⊕ (Nat × Nat) := if ¬ (0 ≤ x ∧ x ≤ iI (r 1) - 1) ∨ ¬ (0 ≤ y ∧ y ≤ iI (r 2) - 1) then .inr (1, 0) else .inl (av_i (mt_sa r x.toNatClampNeg y.toNatClampNeg (mt_sk r lw mt_n x.toNatClampNeg y.toNatClampNeg (mt_T r))))
section QB
variable {l : Launch} {G : ax_G} {M : ax_M} {r : Nat → Int} {lw : mt_L}
theorem c_fault (hok : lo_ok M.2) : ax_Met l G kX10_fault 0 0 0 M [av_r 90] (fun o M2 => rq M M2 o (.inl (av_i (M.1 90 3)))) := by
  refine ax_body (by decide) (Nat.le_of_ble_eq_true rfl) ?_
  refine ax_aload_n dX10_fault_0 rfl ?_
  refine ax_iconst (v := 0) dX10_fault_1 (by decide) ?_
  refine ax_putI (f := 0) dX10_fault_2 acl_10 wd_1600 (by decide) rfl rfl (ax_nfI rfl) (lo_s hok 90 rfl) ?_
  refine ax_gen (fun M0 hM0 => ?_)
  have hok : lo_ok M0.2 := by rw [hM0]; exact hok
  refine ax_aload_n dX10_fault_5 rfl ?_
  refine ax_getI (f := 3) dX10_fault_6 acl_10 wd_1603 (by decide) rfl (lo_s hok 90 rfl) ?_
  refine ax_iret dX10_fault_9 rfl ?_
  rw [hM0, ax_pn (by decide), ← hM0]
  exact rq_sf hM0 (sf_0 _) rfl
theorem c_told (hok : lo_ok M.2) (hr : rr M r) (ho : rd_ok r) (x : Int32) : ax_Met l G kX10_told 2 0 0 M [av_r 90, av_i x] (fun o M2 => rq M M2 o (qa_told r (M.1 90 32) x)) := by
  have h9 := ho.1
  refine ax_body (by decide) (Nat.le_of_ble_eq_true rfl) ?_
  refine ax_aload_n dX10_told_0 rfl ?_
  refine ax_iconst (v := 0) dX10_told_1 (by decide) ?_
  refine ax_putI (f := 0) dX10_told_2 acl_10 wd_1600 (by decide) rfl rfl (ax_nfI rfl) (lo_s hok 90 rfl) ?_
  refine ax_gen (fun M0 hM0 => ?_)
  have hok : lo_ok M0.2 := by rw [hM0]; exact hok
  have hr0 : rr M0 r := by rw [hM0]; exact rr_fr hr (fun n i q => ax_pn (by omega))
  have h00 : M0.1 90 0 = 0 := by rw [hM0, ax_pa]
  refine ax_aload_n dX10_told_5 rfl ?_
  refine ax_join0 (¬ (0 ≤ x ∧ x ≤ 9)) 21 (1) (0) ?_ (fun ja jb => ?_)
  rotate_left
  · refine ax_iload_n dX10_told_6 rfl ?_
    refine ax_iconst (v := 0) dX10_told_7 (by decide) ?_
    refine ax_bipush (v := 9) dX10_told_8 (by decide) ?_
    refine ax_callS (As := _) (c1 := 0) (n1 := 0) (c_X10_in (d := 0) (M := M0) _ _ _) dX10_told_10 mX10_in wd_1772 rfl (by omega) (by omega) (by omega) rfl rfl (fun _ _ h => by cases h.1) ?_
    rintro r M9 ⟨h1, h9⟩; cases h1; rw [h9]; clear h9 M9
    refine ax_ifB_ne (tgt := 20) dX10_told_13 (by decide) (fun h13 => ?_) (fun h13 => ?_)
    · refine ax_iconst (v := 0) dX10_told_20 (by decide) ?_
      first | (refine ja ?_; simp only [h13, and_self, and_true, true_and, not_true_eq_false, not_false_eq_true, or_true, true_or, or_false, false_or, or_self]; done) | (refine jb ?_; simp only [h13, and_self, and_true, true_and, not_true_eq_false, not_false_eq_true, or_true, true_or, or_false, false_or, or_self]; done) | exact ja h13 | exact jb (fun z => z h13) | exact ja (Or.inr h13) | exact ja (Or.inl h13)
    · refine ax_iconst (v := 1) dX10_told_16 (by decide) ?_
      refine ax_goto (tgt := 21) dX10_told_17 (by decide) ?_
      first | (refine ja ?_; simp only [h13, and_self, and_true, true_and, not_true_eq_false, not_false_eq_true, or_true, true_or, or_false, false_or, or_self]; done) | (refine jb ?_; simp only [h13, and_self, and_true, true_and, not_true_eq_false, not_false_eq_true, or_true, true_or, or_false, false_or, or_self]; done) | exact ja h13 | exact jb (fun z => z h13) | exact ja (Or.inr h13) | exact ja (Or.inl h13)
  refine ax_iconst (v := 1) dX10_told_21 (by decide) ?_
  refine ax_iconst (v := 1) dX10_told_22 (by decide) ?_
  refine ax_callV (As := _) (d2 := _) (c1 := 0) (n1 := 0) (c_badP (d := 0) (M := M0) (p := ¬ (0 ≤ x ∧ x ≤ 9)) hok h00 (w := 1) (k := 1) (by decide) (by decide) (by decide) rfl rfl) dX10_told_23 mX10_bad wd_1775 acl_10 (lo_s hok 90 rfl) rfl (by omega) (by omega) (by omega) rfl rfl (fun _ _ h => by rcases h with ⟨_, h, _⟩ | ⟨_, h, _⟩ <;> cases h) ?_
  rintro o9 M9 (⟨g1, h1, h2⟩ | ⟨g1, h1, h2⟩) <;> cases h1 <;> rw [h2] <;> clear h2 M9
  · refine ax_if_eq (tgt := 31) dX10_told_26 (by decide) (fun hc => ?_) (fun hc => ?_)
    · exact absurd hc (by decide)
    · refine ax_iconst (v := 0) dX10_told_29 (by decide) ?_
      refine ax_iret dX10_told_30 rfl ?_
      exact rq_bad hM0 (w := 1) (k := 1) rfl (by unfold qa_told; rw [if_pos g1])
  refine ax_if_eq (tgt := 31) dX10_told_26 (by decide) (fun hc => ?_) (fun hc => ?_)
  rotate_left
  · exact absurd rfl hc
  obtain ⟨k, hk, rfl⟩ := in_nat (dn g1) (n := 9) rfl (by decide)
  have e : ∀ v, v = qv_told r (M.1 90 32) k → rq M M0 (.inl (some (av_i v))) (qa_told r (M.1 90 32) (nI k)) := fun v hv => rq_sf hM0 (sf_0 _) (by unfold qa_told; rw [if_neg g1, nI_clamp (by omega), hv])
  have loop : ∀ (p : Nat → Bool), (k = 3 ∨ k = 4) → (∀ t : Nat, p t = if k = 3 then rd_hid r ((t : Int) - 1) ((t : Int) + 1) else rd_wet r (t : Int)) → ax_W l G kX10_told (ax_FQ G (fun o M2 => rq M M2 o (qa_told r (M.1 90 32) (nI k)))) 2 0 0 M0 91 [some (av_r 90), some (av_i (nI k)), some (av_i (nI 0)), some (av_i (nI 0))] [] := by
    intro p hk3 hp
    refine ax_for (r 0).toNat (fun t N L => N = M0 ∧ L = [some (av_r 90), some (av_i (nI k)), some (av_i (nI (mt_cnt p t))), some (av_i (nI t))]) 91 ?_ ?_ (i := 0) (by omega) ⟨rfl, rfl⟩
    · rintro t N L ht ⟨rfl, rfl⟩ next
      have go : ∀ b : Prop, [Decidable b] → (b ↔ p t = true) → ax_W l G kX10_told (ax_FQ G (fun o M2 => rq M M2 o (qa_told r (M.1 90 32) (nI k)))) 2 0 0 N 136 [some (av_r 90), some (av_i (nI k)), some (av_i (nI (mt_cnt p t))), some (av_i (nI t))] [av_i (if b then 1 else 0), av_i (nI (mt_cnt p t))] := by
        intro b _ hb
        refine ax_iadd dX10_told_136 ?_
        refine ax_istore_n dX10_told_137 (by decide) rfl ?_
        refine ax_iinc (v := 1) dX10_told_138 rfl (by decide) (by decide) rfl ?_
        refine ax_goto (tgt := 91) dX10_told_141 (by decide) ?_
        refine next _ _ ⟨rfl, ?_⟩
        have e : nI (mt_cnt p t) + (if b then 1 else 0) = nI (mt_cnt p (t + 1)) := by
          show _ = nI (mt_cnt p t + _)
          rw [← nI_add]; congr 1
          by_cases q : b
          · rw [if_pos q, if_pos (hb.mp q)]; rfl
          · rw [if_neg q, if_neg (fun z => q (hb.mpr z))]; rfl
        rw [nI_1, e]; rfl
      refine ax_iload_n dX10_told_91 rfl ?_
      refine ax_aload_n dX10_told_92 rfl ?_
      refine ax_getK (f := 12) 94 dX10_told_93 acl_10 wd_1612 (by decide) rfl (lo_s hok 90 rfl) (lo_r hok 83 rfl) ?_
      refine ax_iconst (v := 0) dX10_told_96 (by decide) ?_
      refine ax_ialdN (0) dX10_told_97 (lo_s hok 94 rfl) (by decide) (by decide) (by decide) ?_
      rw [hr0.1 0 (by decide), iI_tn (by omega)]
      refine ax_icmp_ge (tgt := 144) dX10_told_98 (by decide) (fun hc => ?_) (fun hc => ?_)
      · exact absurd ((nI_leI (by omega) (by omega)).mp hc) (by omega)
      · refine ax_iload_n dX10_told_101 rfl ?_
        refine ax_iload_n dX10_told_102 rfl ?_
        refine ax_iconst (v := 3) dX10_told_103 (by decide) ?_
        refine ax_icmp_ne (tgt := 123) dX10_told_104 (by decide) (fun hc => ?_) (fun hc => ?_)
        · have hk4 : k = 4 := by
            rcases hk3 with q | q
            · subst q; exact absurd rfl hc
            · exact q
          have hpt := hp t
          rw [if_neg (by omega)] at hpt
          refine ax_aload_n dX10_told_123 rfl ?_
          refine ax_iload_n dX10_told_124 rfl ?_
          refine ax_callV (As := _) (d2 := _) (c1 := 0) (n1 := 0) (c_rWet (M := N) hok hr0 ho (t : Int) (by unfold iI_b; omega) (iI_nI t)) dX10_told_125 mX10_isWet wd_1911 acl_10 (lo_s hok 90 rfl) rfl (by omega) (by omega) (by omega) rfl rfl (fun _ _ h => by cases h.1) ?_
          rintro r M9 ⟨h1, h9⟩; cases h1; rw [h9]; clear h9 M9
          refine ax_join1 (rd_wet r (t : Int) = true) 136 (1) (0) ?_ (fun ja jb => ?_)
          rotate_left
          · refine ax_ifB_eq (tgt := 135) dX10_told_128 (by decide) (fun h128 => ?_) (fun h128 => ?_)
            · refine ax_iconst (v := 0) dX10_told_135 (by decide) ?_
              first | exact ja h128 | exact jb h128
            · refine ax_iconst (v := 1) dX10_told_131 (by decide) ?_
              refine ax_goto (tgt := 136) dX10_told_132 (by decide) ?_
              first | exact ja h128 | exact jb h128
          exact go _ (by rw [hpt])
        · have hk4 : k = 3 := (nI_eq (b := 3) (by omega) (by omega)).mp hc
          have hpt := hp t
          rw [if_pos hk4] at hpt
          refine ax_aload_n dX10_told_107 rfl ?_
          refine ax_iload_n dX10_told_108 rfl ?_
          refine ax_iconst (v := 1) dX10_told_109 (by decide) ?_
          refine ax_isub dX10_told_110 ?_
          refine ax_iload_n dX10_told_111 rfl ?_
          refine ax_iconst (v := 1) dX10_told_112 (by decide) ?_
          refine ax_iadd dX10_told_113 ?_
          refine ax_callV (As := _) (d2 := _) (c1 := 0) (n1 := 0) (c_rBend (M := N) hok hr0 ho ((t : Int) - 1) ((t : Int) + 1) (by unfold iI_b; omega) (by unfold iI_b; omega) (by rw [iI_nI, show (1 : Int32) = iI 1 from rfl, iI_sub]) (by rw [iI_nI, show (1 : Int32) = iI 1 from rfl, iI_add])) dX10_told_114 mX10_isBendBetween wd_1901 acl_10 (lo_s hok 90 rfl) rfl (by omega) (by omega) (by omega) rfl rfl (fun _ _ h => by cases h.1) ?_
          rintro r M9 ⟨h1, h9⟩; cases h1; rw [h9]; clear h9 M9
          refine ax_join1 (rd_hid r ((t : Int) - 1) ((t : Int) + 1) = true) 136 (1) (0) ?_ (fun ja jb => ?_)
          rotate_left
          · refine ax_ifB_eq (tgt := 135) dX10_told_117 (by decide) (fun h117 => ?_) (fun h117 => ?_)
            · refine ax_iconst (v := 0) dX10_told_135 (by decide) ?_
              first | exact ja h117 | exact jb h117
            · refine ax_goto (tgt := 131) dX10_told_120 (by decide) ?_
              refine ax_iconst (v := 1) dX10_told_131 (by decide) ?_
              refine ax_goto (tgt := 136) dX10_told_132 (by decide) ?_
              first | exact ja h117 | exact jb h117
          exact go _ (by rw [hpt])
    · rintro N L ⟨rfl, rfl⟩
      refine ax_iload_n dX10_told_91 rfl ?_
      refine ax_aload_n dX10_told_92 rfl ?_
      refine ax_getK (f := 12) 94 dX10_told_93 acl_10 wd_1612 (by decide) rfl (lo_s hok 90 rfl) (lo_r hok 83 rfl) ?_
      refine ax_iconst (v := 0) dX10_told_96 (by decide) ?_
      refine ax_ialdN (0) dX10_told_97 (lo_s hok 94 rfl) (by decide) (by decide) (by decide) ?_
      rw [hr0.1 0 (by decide), iI_tn (by omega)]
      refine ax_icmp_ge (tgt := 144) dX10_told_98 (by decide) (fun hc => ?_) (fun hc => ?_)
      · refine ax_iload_n dX10_told_144 rfl ?_
        refine ax_iret dX10_told_145 rfl ?_
        refine e _ ?_
        rcases hk3 with rfl | rfl
        · show _ = nI (rd_nb r)
          unfold rd_nb; congr 2; funext t; exact hp t
        · show _ = nI (rd_nw r)
          unfold rd_nw; congr 2; funext t; exact hp t
      · exact absurd ((nI_leI (by omega) (by omega)).mpr (Nat.le_refl _)) hc
  refine ax_iload_n dX10_told_31 rfl ?_
  rcases (show k = 0 ∨ k = 1 ∨ k = 2 ∨ k = 3 ∨ k = 4 ∨ k = 5 ∨ k = 6 ∨ k = 7 ∨ k = 8 ∨ k = 9 by omega) with rfl | rfl | rfl | rfl | rfl | rfl | rfl | rfl | rfl | rfl
  · refine ax_tableIn (off := 48) (tgt := 80) dX10_told_32 (by decide) (by decide) rfl (by decide) ?_
    refine ax_aload_n dX10_told_80 rfl ?_
    refine ax_getK (f := 12) 94 dX10_told_81 acl_10 wd_1612 (by decide) rfl (lo_s hok 90 rfl) (lo_r hok 83 rfl) ?_
    refine ax_iload_n dX10_told_84 rfl ?_
    refine ax_ialdN (0) dX10_told_85 (lo_s hok 94 rfl) (by decide) (by first | with_reducible rfl | assumption | exact ax_nix (by simp only [nx_0, nx_1, nx_2, nx_3, nx_4, nx_10, nx_20, nx_21, nx_100, nI_add, pk_mul] <;> rfl) (by omega) | decide) (by omega) ?_
    refine ax_iret dX10_told_86 rfl ?_
    exact e _ (hr0.1 0 (by decide))
  · refine ax_tableIn (off := 48) (tgt := 80) dX10_told_32 (by decide) (by decide) rfl (by decide) ?_
    refine ax_aload_n dX10_told_80 rfl ?_
    refine ax_getK (f := 12) 94 dX10_told_81 acl_10 wd_1612 (by decide) rfl (lo_s hok 90 rfl) (lo_r hok 83 rfl) ?_
    refine ax_iload_n dX10_told_84 rfl ?_
    refine ax_ialdN (1) dX10_told_85 (lo_s hok 94 rfl) (by decide) (by first | with_reducible rfl | assumption | exact ax_nix (by simp only [nx_0, nx_1, nx_2, nx_3, nx_4, nx_10, nx_20, nx_21, nx_100, nI_add, pk_mul] <;> rfl) (by omega) | decide) (by omega) ?_
    refine ax_iret dX10_told_86 rfl ?_
    exact e _ (hr0.1 1 (by decide))
  · refine ax_tableIn (off := 48) (tgt := 80) dX10_told_32 (by decide) (by decide) rfl (by decide) ?_
    refine ax_aload_n dX10_told_80 rfl ?_
    refine ax_getK (f := 12) 94 dX10_told_81 acl_10 wd_1612 (by decide) rfl (lo_s hok 90 rfl) (lo_r hok 83 rfl) ?_
    refine ax_iload_n dX10_told_84 rfl ?_
    refine ax_ialdN (2) dX10_told_85 (lo_s hok 94 rfl) (by decide) (by first | with_reducible rfl | assumption | exact ax_nix (by simp only [nx_0, nx_1, nx_2, nx_3, nx_4, nx_10, nx_20, nx_21, nx_100, nI_add, pk_mul] <;> rfl) (by omega) | decide) (by omega) ?_
    refine ax_iret dX10_told_86 rfl ?_
    exact e _ (hr0.1 2 (by decide))
  · refine ax_tableIn (off := 55) (tgt := 87) dX10_told_32 (by decide) (by decide) rfl (by decide) ?_
    refine ax_iconst (v := 0) dX10_told_87 (by decide) ?_
    refine ax_istore_n dX10_told_88 (by decide) rfl ?_
    refine ax_iconst (v := 0) dX10_told_89 (by decide) ?_
    refine ax_istore_n dX10_told_90 (by decide) rfl ?_
    exact loop _ (Or.inl rfl) (fun t => (if_pos rfl).symm)
  · refine ax_tableIn (off := 55) (tgt := 87) dX10_told_32 (by decide) (by decide) rfl (by decide) ?_
    refine ax_iconst (v := 0) dX10_told_87 (by decide) ?_
    refine ax_istore_n dX10_told_88 (by decide) rfl ?_
    refine ax_iconst (v := 0) dX10_told_89 (by decide) ?_
    refine ax_istore_n dX10_told_90 (by decide) rfl ?_
    exact loop _ (Or.inr rfl) (fun t => (if_neg (by decide)).symm)
  · refine ax_tableIn (off := 114) (tgt := 146) dX10_told_32 (by decide) (by decide) rfl (by decide) ?_
    refine ax_aload_n dX10_told_146 rfl ?_
    refine ax_getK (f := 18) 100 dX10_told_147 acl_10 wd_1618 (by decide) rfl (lo_s hok 90 rfl) (lo_r hok 89 rfl) ?_
    refine ax_bipush (v := 24) dX10_told_150 (by decide) ?_
    refine ax_ialdN (24) dX10_told_152 (lo_s hok 100 rfl) (by decide) (by decide) (by decide) ?_
    refine ax_iret dX10_told_153 rfl ?_
    exact e _ (hr0.2.1 24 (by decide))
  · refine ax_tableIn (off := 122) (tgt := 154) dX10_told_32 (by decide) (by decide) rfl (by decide) ?_
    refine ax_aload_n dX10_told_154 rfl ?_
    refine ax_getK (f := 18) 100 dX10_told_155 acl_10 wd_1618 (by decide) rfl (lo_s hok 90 rfl) (lo_r hok 89 rfl) ?_
    refine ax_bipush (v := 25) dX10_told_158 (by decide) ?_
    refine ax_ialdN (25) dX10_told_160 (lo_s hok 100 rfl) (by decide) (by decide) (by decide) ?_
    refine ax_iret dX10_told_161 rfl ?_
    exact e _ (hr0.2.1 25 (by decide))
  · refine ax_tableIn (off := 130) (tgt := 162) dX10_told_32 (by decide) (by decide) rfl (by decide) ?_
    refine ax_aload_n dX10_told_162 rfl ?_
    refine ax_getI (f := 32) dX10_told_163 acl_10 wd_1632 (by decide) rfl (lo_s hok 90 rfl) ?_
    refine ax_iret dX10_told_166 rfl ?_
    exact e _ (by rw [hM0, ax_pn (by decide)]; rfl)
  · refine ax_tableOut (tgt := 167) dX10_told_32 (by decide) (by decide) ?_
    refine ax_aload_n dX10_told_167 rfl ?_
    refine ax_getK (f := 12) 94 dX10_told_168 acl_10 wd_1612 (by decide) rfl (lo_s hok 90 rfl) (lo_r hok 83 rfl) ?_
    refine ax_iload_n dX10_told_171 rfl ?_
    refine ax_iconst (v := 3) dX10_told_172 (by decide) ?_
    refine ax_isub dX10_told_173 ?_
    refine ax_ialdN (8 - 3) dX10_told_174 (lo_s hok 94 rfl) (by decide) (by first | with_reducible rfl | assumption | exact ax_nix (by simp only [nx_0, nx_1, nx_2, nx_3, nx_4, nx_10, nx_20, nx_21, nx_100, nI_add, pk_mul] <;> rfl) (by omega) | decide) (by omega) ?_
    refine ax_iret dX10_told_175 rfl ?_
    exact e _ (hr0.1 (8 - 3) (by decide))
  · refine ax_tableOut (tgt := 167) dX10_told_32 (by decide) (by decide) ?_
    refine ax_aload_n dX10_told_167 rfl ?_
    refine ax_getK (f := 12) 94 dX10_told_168 acl_10 wd_1612 (by decide) rfl (lo_s hok 90 rfl) (lo_r hok 83 rfl) ?_
    refine ax_iload_n dX10_told_171 rfl ?_
    refine ax_iconst (v := 3) dX10_told_172 (by decide) ?_
    refine ax_isub dX10_told_173 ?_
    refine ax_ialdN (9 - 3) dX10_told_174 (lo_s hok 94 rfl) (by decide) (by first | with_reducible rfl | assumption | exact ax_nix (by simp only [nx_0, nx_1, nx_2, nx_3, nx_4, nx_10, nx_20, nx_21, nx_100, nI_add, pk_mul] <;> rfl) (by omega) | decide) (by omega) ?_
    refine ax_iret dX10_told_175 rfl ?_
    exact e _ (hr0.1 (9 - 3) (by decide))
theorem c_car (hok : lo_ok M.2) (hr : rr M r) (ho : rd_ok r) (x y : Int32) : ax_Met l G kX10_car 2 0 0 M [av_r 90, av_i x, av_i y] (fun o M2 => rq M M2 o (qa_car r x y)) := by
  have h9 := ho.1
  refine ax_body (by decide) (Nat.le_of_ble_eq_true rfl) ?_
  refine ax_aload_n dX10_car_0 rfl ?_
  refine ax_iconst (v := 0) dX10_car_1 (by decide) ?_
  refine ax_putI (f := 0) dX10_car_2 acl_10 wd_1600 (by decide) rfl rfl (ax_nfI rfl) (lo_s hok 90 rfl) ?_
  refine ax_gen (fun M0 hM0 => ?_)
  have hok : lo_ok M0.2 := by rw [hM0]; exact hok
  have hr0 : rr M0 r := by rw [hM0]; exact rr_fr hr (fun n i q => ax_pn (by omega))
  have h00 : M0.1 90 0 = 0 := by rw [hM0, ax_pa]
  refine ax_aload_n dX10_car_5 rfl ?_
  refine ax_join0 (¬ (0 ≤ x ∧ x ≤ iI (r 1) - 1)) 19 (1) (0) ?_ (fun ja jb => ?_)
  rotate_left
  · refine ax_aload_n dX10_car_6 rfl ?_
    refine ax_iload_n dX10_car_7 rfl ?_
    refine ax_callV (As := _) (d2 := _) (c1 := 0) (n1 := 0) (c_rIsCar (M := M0) hok hr0 _) dX10_car_8 mX10_isCar wd_1919 acl_10 (lo_s hok 90 rfl) rfl (by omega) (by omega) (by omega) rfl rfl (fun _ _ h => by cases h.1) ?_
    rintro r M9 ⟨h1, h9⟩; cases h1; rw [h9]; clear h9 M9
    refine ax_ifB_ne (tgt := 18) dX10_car_11 (by decide) (fun h11 => ?_) (fun h11 => ?_)
    · refine ax_iconst (v := 0) dX10_car_18 (by decide) ?_
      first | (refine ja ?_; simp only [h11, and_self, and_true, true_and, not_true_eq_false, not_false_eq_true, or_true, true_or, or_false, false_or, or_self]; done) | (refine jb ?_; simp only [h11, and_self, and_true, true_and, not_true_eq_false, not_false_eq_true, or_true, true_or, or_false, false_or, or_self]; done) | exact ja h11 | exact jb (fun z => z h11) | exact ja (Or.inr h11) | exact ja (Or.inl h11)
    · refine ax_iconst (v := 1) dX10_car_14 (by decide) ?_
      refine ax_goto (tgt := 19) dX10_car_15 (by decide) ?_
      first | (refine ja ?_; simp only [h11, and_self, and_true, true_and, not_true_eq_false, not_false_eq_true, or_true, true_or, or_false, false_or, or_self]; done) | (refine jb ?_; simp only [h11, and_self, and_true, true_and, not_true_eq_false, not_false_eq_true, or_true, true_or, or_false, false_or, or_self]; done) | exact ja h11 | exact jb (fun z => z h11) | exact ja (Or.inr h11) | exact ja (Or.inl h11)
  refine ax_iconst (v := 1) dX10_car_19 (by decide) ?_
  refine ax_iconst (v := 0) dX10_car_20 (by decide) ?_
  refine ax_callV (As := _) (d2 := _) (c1 := 0) (n1 := 0) (c_badP (d := 0) (M := M0) (p := ¬ (0 ≤ x ∧ x ≤ iI (r 1) - 1)) hok h00 (w := 1) (k := 0) (by decide) (by decide) (by decide) rfl rfl) dX10_car_21 mX10_bad wd_1775 acl_10 (lo_s hok 90 rfl) rfl (by omega) (by omega) (by omega) rfl rfl (fun _ _ h => by rcases h with ⟨_, h, _⟩ | ⟨_, h, _⟩ <;> cases h) ?_
  rintro o9 M9 (⟨g1, h1, h2⟩ | ⟨g1, h1, h2⟩) <;> cases h1 <;> rw [h2] <;> clear h2 M9
  · refine ax_if_ne (tgt := 50) dX10_car_24 (by decide) (fun hc => ?_) (fun hc => ?_)
    · refine ax_iconst (v := 0) dX10_car_50 (by decide) ?_
      refine ax_iret dX10_car_51 rfl ?_
      exact rq_bad hM0 (w := 1) (k := 0) rfl (by unfold qa_car; rw [if_pos g1])
    · exact absurd hc (by decide)
  refine ax_if_ne (tgt := 50) dX10_car_24 (by decide) (fun hc => ?_) (fun hc => ?_)
  · exact absurd rfl hc
  refine ax_aload_n dX10_car_27 rfl ?_
  refine ax_join0 (¬ (0 ≤ y ∧ y ≤ 3)) 42 (1) (0) ?_ (fun ja jb => ?_)
  rotate_left
  · refine ax_iload_n dX10_car_28 rfl ?_
    refine ax_iconst (v := 0) dX10_car_29 (by decide) ?_
    refine ax_iconst (v := 3) dX10_car_30 (by decide) ?_
    refine ax_callS (As := _) (c1 := 0) (n1 := 0) (c_X10_in (d := 0) (M := M0) _ _ _) dX10_car_31 mX10_in wd_1772 rfl (by omega) (by omega) (by omega) rfl rfl (fun _ _ h => by cases h.1) ?_
    rintro r M9 ⟨h1, h9⟩; cases h1; rw [h9]; clear h9 M9
    refine ax_ifB_ne (tgt := 41) dX10_car_34 (by decide) (fun h34 => ?_) (fun h34 => ?_)
    · refine ax_iconst (v := 0) dX10_car_41 (by decide) ?_
      first | (refine ja ?_; simp only [h34, and_self, and_true, true_and, not_true_eq_false, not_false_eq_true, or_true, true_or, or_false, false_or, or_self]; done) | (refine jb ?_; simp only [h34, and_self, and_true, true_and, not_true_eq_false, not_false_eq_true, or_true, true_or, or_false, false_or, or_self]; done) | exact ja h34 | exact jb (fun z => z h34) | exact ja (Or.inr h34) | exact ja (Or.inl h34)
    · refine ax_iconst (v := 1) dX10_car_37 (by decide) ?_
      refine ax_goto (tgt := 42) dX10_car_38 (by decide) ?_
      first | (refine ja ?_; simp only [h34, and_self, and_true, true_and, not_true_eq_false, not_false_eq_true, or_true, true_or, or_false, false_or, or_self]; done) | (refine jb ?_; simp only [h34, and_self, and_true, true_and, not_true_eq_false, not_false_eq_true, or_true, true_or, or_false, false_or, or_self]; done) | exact ja h34 | exact jb (fun z => z h34) | exact ja (Or.inr h34) | exact ja (Or.inl h34)
  refine ax_iconst (v := 2) dX10_car_42 (by decide) ?_
  refine ax_iconst (v := 1) dX10_car_43 (by decide) ?_
  refine ax_callV (As := _) (d2 := _) (c1 := 0) (n1 := 0) (c_badP (d := 0) (M := M0) (p := ¬ (0 ≤ y ∧ y ≤ 3)) hok h00 (w := 2) (k := 1) (by decide) (by decide) (by decide) rfl rfl) dX10_car_44 mX10_bad wd_1775 acl_10 (lo_s hok 90 rfl) rfl (by omega) (by omega) (by omega) rfl rfl (fun _ _ h => by rcases h with ⟨_, h, _⟩ | ⟨_, h, _⟩ <;> cases h) ?_
  rintro o9 M9 (⟨g2, h1, h2⟩ | ⟨g2, h1, h2⟩) <;> cases h1 <;> rw [h2] <;> clear h2 M9
  · refine ax_if_eq (tgt := 52) dX10_car_47 (by decide) (fun hc => ?_) (fun hc => ?_)
    · exact absurd hc (by decide)
    · refine ax_iconst (v := 0) dX10_car_50 (by decide) ?_
      refine ax_iret dX10_car_51 rfl ?_
      exact rq_bad hM0 (w := 2) (k := 1) rfl (by unfold qa_car; rw [if_neg g1, if_pos g2])
  refine ax_if_eq (tgt := 52) dX10_car_47 (by decide) (fun hc => ?_) (fun hc => ?_)
  rotate_left
  · exact absurd rfl hc
  obtain ⟨c, hc2, rfl⟩ := in_car (dn g1) (by omega) (by omega)
  have e : ∀ v, v = (if y = 0 then iI (r (40 + c)) else if y = 1 then iI (r (10 + 2 * c)) else if y = 2 then iI (r (11 + 2 * c)) else if nI c = 0 then 0 else iI (r 0 - 1)) → rq M M0 (.inl (some (av_i v))) (qa_car r (nI c) y) := fun v hv => rq_sf hM0 (sf_0 _) (by unfold qa_car; rw [if_neg g1, if_neg g2, nI_clamp (by omega), hv])
  refine ax_iload_n dX10_car_52 rfl ?_
  refine ax_if_ne (tgt := 65) dX10_car_53 (by decide) (fun hc => ?_) (fun hc => ?_)
  · refine ax_iload_n dX10_car_65 rfl ?_
    refine ax_iconst (v := 1) dX10_car_66 (by decide) ?_
    refine ax_icmp_ne (tgt := 78) dX10_car_67 (by decide) (fun hc => ?_) (fun hc => ?_)
    · refine ax_iload_n dX10_car_78 rfl ?_
      refine ax_iconst (v := 2) dX10_car_79 (by decide) ?_
      refine ax_icmp_ne (tgt := 91) dX10_car_80 (by decide) (fun hc => ?_) (fun hc => ?_)
      · rename_i q0 q1
        refine ax_iload_n dX10_car_91 rfl ?_
        refine ax_if_ne (tgt := 99) dX10_car_92 (by decide) (fun hc => ?_) (fun hc => ?_)
        · refine ax_aload_n dX10_car_99 rfl ?_
          refine ax_getK (f := 12) 94 dX10_car_100 acl_10 wd_1612 (by decide) rfl (lo_s hok 90 rfl) (lo_r hok 83 rfl) ?_
          refine ax_iconst (v := 0) dX10_car_103 (by decide) ?_
          refine ax_ialdN (0) dX10_car_104 (lo_s hok 94 rfl) (by decide) (by decide) (by decide) ?_
          refine ax_iconst (v := 1) dX10_car_105 (by decide) ?_
          refine ax_isub dX10_car_106 ?_
          refine ax_iret dX10_car_107 rfl ?_
          refine e _ ?_
          rw [if_neg q0, if_neg q1, if_neg ‹_›, if_neg hc, hr0.1 0 (by decide), show (1 : Int32) = iI 1 from rfl, iI_sub]
        · refine ax_iconst (v := 0) dX10_car_95 (by decide) ?_
          refine ax_goto (tgt := 107) dX10_car_96 (by decide) ?_
          refine ax_iret dX10_car_107 rfl ?_
          refine e _ ?_
          rw [if_neg q0, if_neg q1, if_neg ‹_›, if_pos hc]
      · rename_i q0 q1
        refine ax_aload_n dX10_car_83 rfl ?_
        refine ax_iload_n dX10_car_84 rfl ?_
        refine ax_callV (As := _) (d2 := _) (c1 := 0) (n1 := 0) (c_rTilt (d := 0) (M := M0) hok hr0 (c := c) (by omega) rfl) dX10_car_85 mX10_tiltOf wd_1927 acl_10 (lo_s hok 90 rfl) rfl (by omega) (by omega) (by omega) rfl rfl (fun _ _ h => by cases h.1) ?_
        rintro r M9 ⟨h1, h9⟩; cases h1; rw [h9]; clear h9 M9
        refine ax_goto (tgt := 107) dX10_car_88 (by decide) ?_
        refine ax_iret dX10_car_107 rfl ?_
        refine e _ ?_
        rw [if_neg q0, if_neg q1, if_pos hc]
    · rename_i q0
      refine ax_aload_n dX10_car_70 rfl ?_
      refine ax_iload_n dX10_car_71 rfl ?_
      refine ax_callV (As := _) (d2 := _) (c1 := 0) (n1 := 0) (c_rPace (d := 0) (M := M0) hok hr0 (c := c) (by omega) rfl) dX10_car_72 mX10_paceOf wd_1923 acl_10 (lo_s hok 90 rfl) rfl (by omega) (by omega) (by omega) rfl rfl (fun _ _ h => by cases h.1) ?_
      rintro r M9 ⟨h1, h9⟩; cases h1; rw [h9]; clear h9 M9
      refine ax_goto (tgt := 107) dX10_car_75 (by decide) ?_
      refine ax_iret dX10_car_107 rfl ?_
      refine e _ ?_
      rw [if_neg q0, if_pos hc]
  · refine ax_aload_n dX10_car_56 rfl ?_
    refine ax_getK (f := 14) 96 dX10_car_57 acl_10 wd_1614 (by decide) rfl (lo_s hok 90 rfl) (lo_r hok 85 rfl) ?_
    refine ax_iload_n dX10_car_60 rfl ?_
    refine ax_ialdN (c) dX10_car_61 (lo_s hok 96 rfl) (by decide) (by first | with_reducible rfl | assumption | exact ax_nix (by simp only [nx_0, nx_1, nx_2, nx_3, nx_4, nx_10, nx_20, nx_21, nx_100, nI_add, pk_mul] <;> rfl) (by omega) | decide) (by omega) ?_
    refine ax_goto (tgt := 107) dX10_car_62 (by decide) ?_
    refine ax_iret dX10_car_107 rfl ?_
    refine e _ ?_
    rw [if_pos hc]; exact hr0.2.2.1 c (by omega)
theorem c_coat (hok : lo_ok M.2) (hr : rr M r) (ho : rd_ok r) (x y : Int32) : ax_Met l G kX10_coat 2 0 0 M [av_r 90, av_i x, av_i y] (fun o M2 => rq M M2 o (qa_coat r x y)) := by
  have h9 := ho.1
  refine ax_body (by decide) (Nat.le_of_ble_eq_true rfl) ?_
  refine ax_aload_n dX10_coat_0 rfl ?_
  refine ax_iconst (v := 0) dX10_coat_1 (by decide) ?_
  refine ax_putI (f := 0) dX10_coat_2 acl_10 wd_1600 (by decide) rfl rfl (ax_nfI rfl) (lo_s hok 90 rfl) ?_
  refine ax_gen (fun M0 hM0 => ?_)
  have hok : lo_ok M0.2 := by rw [hM0]; exact hok
  have hr0 : rr M0 r := by rw [hM0]; exact rr_fr hr (fun n i q => ax_pn (by omega))
  have h00 : M0.1 90 0 = 0 := by rw [hM0, ax_pa]
  refine ax_aload_n dX10_coat_5 rfl ?_
  refine ax_join0 (¬ (0 ≤ x ∧ x ≤ iI (r 2) - 1)) 19 (1) (0) ?_ (fun ja jb => ?_)
  rotate_left
  · refine ax_aload_n dX10_coat_6 rfl ?_
    refine ax_iload_n dX10_coat_7 rfl ?_
    refine ax_callV (As := _) (d2 := _) (c1 := 0) (n1 := 0) (c_rIsCoat (M := M0) hok hr0 _) dX10_coat_8 mX10_isCoat wd_1935 acl_10 (lo_s hok 90 rfl) rfl (by omega) (by omega) (by omega) rfl rfl (fun _ _ h => by cases h.1) ?_
    rintro r M9 ⟨h1, h9⟩; cases h1; rw [h9]; clear h9 M9
    refine ax_ifB_ne (tgt := 18) dX10_coat_11 (by decide) (fun h11 => ?_) (fun h11 => ?_)
    · refine ax_iconst (v := 0) dX10_coat_18 (by decide) ?_
      first | (refine ja ?_; simp only [h11, and_self, and_true, true_and, not_true_eq_false, not_false_eq_true, or_true, true_or, or_false, false_or, or_self]; done) | (refine jb ?_; simp only [h11, and_self, and_true, true_and, not_true_eq_false, not_false_eq_true, or_true, true_or, or_false, false_or, or_self]; done) | exact ja h11 | exact jb (fun z => z h11) | exact ja (Or.inr h11) | exact ja (Or.inl h11)
    · refine ax_iconst (v := 1) dX10_coat_14 (by decide) ?_
      refine ax_goto (tgt := 19) dX10_coat_15 (by decide) ?_
      first | (refine ja ?_; simp only [h11, and_self, and_true, true_and, not_true_eq_false, not_false_eq_true, or_true, true_or, or_false, false_or, or_self]; done) | (refine jb ?_; simp only [h11, and_self, and_true, true_and, not_true_eq_false, not_false_eq_true, or_true, true_or, or_false, false_or, or_self]; done) | exact ja h11 | exact jb (fun z => z h11) | exact ja (Or.inr h11) | exact ja (Or.inl h11)
  refine ax_iconst (v := 1) dX10_coat_19 (by decide) ?_
  refine ax_iconst (v := 0) dX10_coat_20 (by decide) ?_
  refine ax_callV (As := _) (d2 := _) (c1 := 0) (n1 := 0) (c_badP (d := 0) (M := M0) (p := ¬ (0 ≤ x ∧ x ≤ iI (r 2) - 1)) hok h00 (w := 1) (k := 0) (by decide) (by decide) (by decide) rfl rfl) dX10_coat_21 mX10_bad wd_1775 acl_10 (lo_s hok 90 rfl) rfl (by omega) (by omega) (by omega) rfl rfl (fun _ _ h => by rcases h with ⟨_, h, _⟩ | ⟨_, h, _⟩ <;> cases h) ?_
  rintro o9 M9 (⟨g1, h1, h2⟩ | ⟨g1, h1, h2⟩) <;> cases h1 <;> rw [h2] <;> clear h2 M9
  · refine ax_if_ne (tgt := 50) dX10_coat_24 (by decide) (fun hc => ?_) (fun hc => ?_)
    · refine ax_iconst (v := 0) dX10_coat_50 (by decide) ?_
      refine ax_iret dX10_coat_51 rfl ?_
      exact rq_bad hM0 (w := 1) (k := 0) rfl (by unfold qa_coat; rw [if_pos g1])
    · exact absurd hc (by decide)
  refine ax_if_ne (tgt := 50) dX10_coat_24 (by decide) (fun hc => ?_) (fun hc => ?_)
  · exact absurd rfl hc
  refine ax_aload_n dX10_coat_27 rfl ?_
  refine ax_join0 (¬ (0 ≤ y ∧ y ≤ 1)) 42 (1) (0) ?_ (fun ja jb => ?_)
  rotate_left
  · refine ax_iload_n dX10_coat_28 rfl ?_
    refine ax_iconst (v := 0) dX10_coat_29 (by decide) ?_
    refine ax_iconst (v := 1) dX10_coat_30 (by decide) ?_
    refine ax_callS (As := _) (c1 := 0) (n1 := 0) (c_X10_in (d := 0) (M := M0) _ _ _) dX10_coat_31 mX10_in wd_1772 rfl (by omega) (by omega) (by omega) rfl rfl (fun _ _ h => by cases h.1) ?_
    rintro r M9 ⟨h1, h9⟩; cases h1; rw [h9]; clear h9 M9
    refine ax_ifB_ne (tgt := 41) dX10_coat_34 (by decide) (fun h34 => ?_) (fun h34 => ?_)
    · refine ax_iconst (v := 0) dX10_coat_41 (by decide) ?_
      first | (refine ja ?_; simp only [h34, and_self, and_true, true_and, not_true_eq_false, not_false_eq_true, or_true, true_or, or_false, false_or, or_self]; done) | (refine jb ?_; simp only [h34, and_self, and_true, true_and, not_true_eq_false, not_false_eq_true, or_true, true_or, or_false, false_or, or_self]; done) | exact ja h34 | exact jb (fun z => z h34) | exact ja (Or.inr h34) | exact ja (Or.inl h34)
    · refine ax_iconst (v := 1) dX10_coat_37 (by decide) ?_
      refine ax_goto (tgt := 42) dX10_coat_38 (by decide) ?_
      first | (refine ja ?_; simp only [h34, and_self, and_true, true_and, not_true_eq_false, not_false_eq_true, or_true, true_or, or_false, false_or, or_self]; done) | (refine jb ?_; simp only [h34, and_self, and_true, true_and, not_true_eq_false, not_false_eq_true, or_true, true_or, or_false, false_or, or_self]; done) | exact ja h34 | exact jb (fun z => z h34) | exact ja (Or.inr h34) | exact ja (Or.inl h34)
  refine ax_iconst (v := 2) dX10_coat_42 (by decide) ?_
  refine ax_iconst (v := 1) dX10_coat_43 (by decide) ?_
  refine ax_callV (As := _) (d2 := _) (c1 := 0) (n1 := 0) (c_badP (d := 0) (M := M0) (p := ¬ (0 ≤ y ∧ y ≤ 1)) hok h00 (w := 2) (k := 1) (by decide) (by decide) (by decide) rfl rfl) dX10_coat_44 mX10_bad wd_1775 acl_10 (lo_s hok 90 rfl) rfl (by omega) (by omega) (by omega) rfl rfl (fun _ _ h => by rcases h with ⟨_, h, _⟩ | ⟨_, h, _⟩ <;> cases h) ?_
  rintro o9 M9 (⟨g2, h1, h2⟩ | ⟨g2, h1, h2⟩) <;> cases h1 <;> rw [h2] <;> clear h2 M9
  · refine ax_if_eq (tgt := 52) dX10_coat_47 (by decide) (fun hc => ?_) (fun hc => ?_)
    · exact absurd hc (by decide)
    · refine ax_iconst (v := 0) dX10_coat_50 (by decide) ?_
      refine ax_iret dX10_coat_51 rfl ?_
      exact rq_bad hM0 (w := 2) (k := 1) rfl (by unfold qa_coat; rw [if_neg g1, if_pos g2])
  refine ax_if_eq (tgt := 52) dX10_coat_47 (by decide) (fun hc => ?_) (fun hc => ?_)
  rotate_left
  · exact absurd rfl hc
  obtain ⟨c, hc2, rfl⟩ := in_car (dn g1) (by omega) (by omega)
  obtain ⟨k, hk, rfl⟩ := in_nat (dn g2) (n := 1) rfl (by decide)
  refine ax_aload_n dX10_coat_52 rfl ?_
  refine ax_getK (f := 18) 100 dX10_coat_53 acl_10 wd_1618 (by decide) rfl (lo_s hok 90 rfl) (lo_r hok 89 rfl) ?_
  refine ax_iconst (v := 4) dX10_coat_56 (by decide) ?_
  refine ax_iconst (v := 2) dX10_coat_57 (by decide) ?_
  refine ax_iload_n dX10_coat_58 rfl ?_
  refine ax_imul dX10_coat_59 ?_
  refine ax_iadd dX10_coat_60 ?_
  refine ax_iload_n dX10_coat_61 rfl ?_
  refine ax_iadd dX10_coat_62 ?_
  refine ax_ialdN (4 + 2 * c + k) dX10_coat_63 (lo_s hok 100 rfl) (by decide) (by first | with_reducible rfl | assumption | exact ax_nix (by simp only [nx_0, nx_1, nx_2, nx_3, nx_4, nx_10, nx_20, nx_21, nx_100, nI_add, pk_mul] <;> rfl) (by omega) | decide) (by omega) ?_
  refine ax_iret dX10_coat_64 rfl ?_
  refine rq_sf hM0 (sf_0 _) ?_
  unfold qa_coat
  rw [if_neg g1, if_neg g2, nI_clamp (by omega), nI_clamp (by omega), hr0.2.1 _ (by omega), show 10 + (4 + 2 * c + k) = 14 + 2 * c + k by omega]
theorem c_tenths (hok : lo_ok M.2) (hr : rr M r) (ho : rd_ok r) (hl : ∀ w, w < 3 → ml_law M w (lw w)) : ax_Met l G kX10_tenths 8 0 0 M [av_r 90] (fun o M2 => rq M M2 o (.inl (av_i (nI (mt_T r))))) := by
  refine ax_body (by decide) (Nat.le_of_ble_eq_true rfl) ?_
  refine ax_aload_n dX10_tenths_0 rfl ?_
  refine ax_iconst (v := 0) dX10_tenths_1 (by decide) ?_
  refine ax_putI (f := 0) dX10_tenths_2 acl_10 wd_1600 (by decide) rfl rfl (ax_nfI rfl) (lo_s hok 90 rfl) ?_
  refine ax_gen (fun M0 hM0 => ?_)
  have hok : lo_ok M0.2 := by rw [hM0]; exact hok
  have hr0 : rr M0 r := by rw [hM0]; exact rr_fr hr (fun n i q => ax_pn (by omega))
  have h00 : M0.1 90 0 = 0 := by rw [hM0, ax_pa]
  refine ax_aload_n dX10_tenths_5 rfl ?_
  refine ax_callV (As := _) (d2 := _) (c1 := 0) (n1 := 0) (c_X10_asTold (lw := lw) (M := M0) hok hr0 ho (fun w hw => by rw [hM0]; exact sf_law0 hw (hl w hw))) dX10_tenths_6 mX10_asTold wd_1943 acl_10 (lo_s hok 90 rfl) rfl (by omega) (by omega) (by omega) rfl rfl (fun _ _ h => by cases h.1) ?_
  rintro o9 M1 ⟨h1, f1, f2⟩; cases h1
  have hok : lo_ok M1.2 := by rw [f1.1]; exact hok
  refine ax_aload_n dX10_tenths_9 rfl ?_
  refine ax_getI (f := 46) dX10_tenths_10 acl_10 wd_1646 (by decide) rfl (lo_s hok 90 rfl) ?_
  rw [f2.2.1]
  refine ax_iret dX10_tenths_13 rfl ?_
  exact rq_sf hM0 (sf_mt f1) rfl
theorem c_passes (hok : lo_ok M.2) (hr : rr M r) (ho : rd_ok r) (hl : ∀ w, w < 3 → ml_law M w (lw w)) : ax_Met l G kX10_passes 8 0 0 M [av_r 90] (fun o M2 => rq M M2 o (.inl (av_i (mt_sb (mt_ps r (mt_T r)))))) := by
  refine ax_body (by decide) (Nat.le_of_ble_eq_true rfl) ?_
  refine ax_aload_n dX10_passes_0 rfl ?_
  refine ax_iconst (v := 0) dX10_passes_1 (by decide) ?_
  refine ax_putI (f := 0) dX10_passes_2 acl_10 wd_1600 (by decide) rfl rfl (ax_nfI rfl) (lo_s hok 90 rfl) ?_
  refine ax_gen (fun M0 hM0 => ?_)
  have hok : lo_ok M0.2 := by rw [hM0]; exact hok
  have hr0 : rr M0 r := by rw [hM0]; exact rr_fr hr (fun n i q => ax_pn (by omega))
  have h00 : M0.1 90 0 = 0 := by rw [hM0, ax_pa]
  refine ax_aload_n dX10_passes_5 rfl ?_
  refine ax_callV (As := _) (d2 := _) (c1 := 0) (n1 := 0) (c_X10_asTold (lw := lw) (M := M0) hok hr0 ho (fun w hw => by rw [hM0]; exact sf_law0 hw (hl w hw))) dX10_passes_6 mX10_asTold wd_1943 acl_10 (lo_s hok 90 rfl) rfl (by omega) (by omega) (by omega) rfl rfl (fun _ _ h => by cases h.1) ?_
  rintro o9 M1 ⟨h1, f1, f2⟩; cases h1
  have hok : lo_ok M1.2 := by rw [f1.1]; exact hok
  refine ax_aload_n dX10_passes_9 rfl ?_
  refine ax_getI (f := 47) dX10_passes_10 acl_10 wd_1647 (by decide) rfl (lo_s hok 90 rfl) ?_
  rw [f2.2.2]
  refine ax_iret dX10_passes_13 rfl ?_
  exact rq_sf hM0 (sf_mt f1) rfl
theorem c_hits (hok : lo_ok M.2) (hr : rr M r) (ho : rd_ok r) (hl : ∀ w, w < 3 → ml_law M w (lw w)) (x : Int32) : ax_Met l G kX10_hits 8 0 0 M [av_r 90, av_i x] (fun o M2 => rq M M2 o (qa_hits r lw x)) := by
  have h9 := ho.1
  refine ax_body (by decide) (Nat.le_of_ble_eq_true rfl) ?_
  refine ax_aload_n dX10_hits_0 rfl ?_
  refine ax_iconst (v := 0) dX10_hits_1 (by decide) ?_
  refine ax_putI (f := 0) dX10_hits_2 acl_10 wd_1600 (by decide) rfl rfl (ax_nfI rfl) (lo_s hok 90 rfl) ?_
  refine ax_gen (fun M0 hM0 => ?_)
  have hok : lo_ok M0.2 := by rw [hM0]; exact hok
  have hr0 : rr M0 r := by rw [hM0]; exact rr_fr hr (fun n i q => ax_pn (by omega))
  have h00 : M0.1 90 0 = 0 := by rw [hM0, ax_pa]
  refine ax_aload_n dX10_hits_5 rfl ?_
  refine ax_join0 (¬ (0 ≤ x ∧ x ≤ iI (r 1) - 1)) 19 (1) (0) ?_ (fun ja jb => ?_)
  rotate_left
  · refine ax_aload_n dX10_hits_6 rfl ?_
    refine ax_iload_n dX10_hits_7 rfl ?_
    refine ax_callV (As := _) (d2 := _) (c1 := 0) (n1 := 0) (c_rIsCar (M := M0) hok hr0 _) dX10_hits_8 mX10_isCar wd_1919 acl_10 (lo_s hok 90 rfl) rfl (by omega) (by omega) (by omega) rfl rfl (fun _ _ h => by cases h.1) ?_
    rintro r M9 ⟨h1, h9⟩; cases h1; rw [h9]; clear h9 M9
    refine ax_ifB_ne (tgt := 18) dX10_hits_11 (by decide) (fun h11 => ?_) (fun h11 => ?_)
    · refine ax_iconst (v := 0) dX10_hits_18 (by decide) ?_
      first | (refine ja ?_; simp only [h11, and_self, and_true, true_and, not_true_eq_false, not_false_eq_true, or_true, true_or, or_false, false_or, or_self]; done) | (refine jb ?_; simp only [h11, and_self, and_true, true_and, not_true_eq_false, not_false_eq_true, or_true, true_or, or_false, false_or, or_self]; done) | exact ja h11 | exact jb (fun z => z h11) | exact ja (Or.inr h11) | exact ja (Or.inl h11)
    · refine ax_iconst (v := 1) dX10_hits_14 (by decide) ?_
      refine ax_goto (tgt := 19) dX10_hits_15 (by decide) ?_
      first | (refine ja ?_; simp only [h11, and_self, and_true, true_and, not_true_eq_false, not_false_eq_true, or_true, true_or, or_false, false_or, or_self]; done) | (refine jb ?_; simp only [h11, and_self, and_true, true_and, not_true_eq_false, not_false_eq_true, or_true, true_or, or_false, false_or, or_self]; done) | exact ja h11 | exact jb (fun z => z h11) | exact ja (Or.inr h11) | exact ja (Or.inl h11)
  refine ax_iconst (v := 1) dX10_hits_19 (by decide) ?_
  refine ax_iconst (v := 0) dX10_hits_20 (by decide) ?_
  refine ax_callV (As := _) (d2 := _) (c1 := 0) (n1 := 0) (c_badP (d := 0) (M := M0) (p := ¬ (0 ≤ x ∧ x ≤ iI (r 1) - 1)) hok h00 (w := 1) (k := 0) (by decide) (by decide) (by decide) rfl rfl) dX10_hits_21 mX10_bad wd_1775 acl_10 (lo_s hok 90 rfl) rfl (by omega) (by omega) (by omega) rfl rfl (fun _ _ h => by rcases h with ⟨_, h, _⟩ | ⟨_, h, _⟩ <;> cases h) ?_
  rintro o9 M9 (⟨g1, h1, h2⟩ | ⟨g1, h1, h2⟩) <;> cases h1 <;> rw [h2] <;> clear h2 M9
  · refine ax_if_eq (tgt := 29) dX10_hits_24 (by decide) (fun hc => ?_) (fun hc => ?_)
    · exact absurd hc (by decide)
    · refine ax_iconst (v := 0) dX10_hits_27 (by decide) ?_
      refine ax_iret dX10_hits_28 rfl ?_
      exact rq_bad hM0 (w := 1) (k := 0) rfl (by unfold qa_hits; rw [if_pos g1])
  refine ax_if_eq (tgt := 29) dX10_hits_24 (by decide) (fun hc => ?_) (fun hc => ?_)
  rotate_left
  · exact absurd rfl hc
  obtain ⟨c, hc2, rfl⟩ := in_car (dn g1) (by omega) (by omega)
  refine ax_aload_n dX10_hits_29 rfl ?_
  refine ax_callV (As := _) (d2 := _) (c1 := 0) (n1 := 0) (c_X10_asTold (lw := lw) (M := M0) hok hr0 ho (fun w hw => by rw [hM0]; exact sf_law0 hw (hl w hw))) dX10_hits_30 mX10_asTold wd_1943 acl_10 (lo_s hok 90 rfl) rfl (by omega) (by omega) (by omega) rfl rfl (fun _ _ h => by cases h.1) ?_
  rintro o9 M1 ⟨h1, f1, f2⟩; cases h1
  have hok : lo_ok M1.2 := by rw [f1.1]; exact hok
  refine ax_aload_n dX10_hits_33 rfl ?_
  refine ax_getK (f := 39) 377 dX10_hits_34 acl_10 wd_1639 (by decide) rfl (lo_s hok 90 rfl) (lo_r hok 104 rfl) ?_
  refine ax_iload_n dX10_hits_37 rfl ?_
  refine ax_ialdN (c) dX10_hits_38 (lo_s hok 377 rfl) (by decide) (by first | with_reducible rfl | assumption | exact ax_nix (by simp only [nx_0, nx_1, nx_2, nx_3, nx_4, nx_10, nx_20, nx_21, nx_100, nI_add, pk_mul] <;> rfl) (by omega) | decide) (by omega) ?_
  refine ax_iret dX10_hits_39 rfl ?_
  refine rq_sf hM0 (sf_mt f1) ?_
  unfold qa_hits
  rw [if_neg g1, nI_clamp (by omega), (f2.1 c (by omega)).2.2.2.2.1]
  rfl
theorem c_sees (hok : lo_ok M.2) (hr : rr M r) (ho : rd_ok r) (hl : ∀ w, w < 3 → ml_law M w (lw w)) (x y : Int32) : ax_Met l G kX10_sees 8 0 0 M [av_r 90, av_i x, av_i y] (fun o M2 => rq M M2 o (qa_sees r lw x y)) := by
  have h9 := ho.1
  refine ax_body (by decide) (Nat.le_of_ble_eq_true rfl) ?_
  refine ax_aload_n dX10_sees_0 rfl ?_
  refine ax_iconst (v := 0) dX10_sees_1 (by decide) ?_
  refine ax_putI (f := 0) dX10_sees_2 acl_10 wd_1600 (by decide) rfl rfl (ax_nfI rfl) (lo_s hok 90 rfl) ?_
  refine ax_gen (fun M0 hM0 => ?_)
  have hok : lo_ok M0.2 := by rw [hM0]; exact hok
  have hr0 : rr M0 r := by rw [hM0]; exact rr_fr hr (fun n i q => ax_pn (by omega))
  have h00 : M0.1 90 0 = 0 := by rw [hM0, ax_pa]
  refine ax_aload_n dX10_sees_5 rfl ?_
  refine ax_join0 (¬ (0 ≤ x ∧ x ≤ iI (r 1) - 1) ∨ ¬ (0 ≤ y ∧ y ≤ iI (r 2) - 1)) 27 (1) (0) ?_ (fun ja jb => ?_)
  rotate_left
  · refine ax_aload_n dX10_sees_6 rfl ?_
    refine ax_iload_n dX10_sees_7 rfl ?_
    refine ax_callV (As := _) (d2 := _) (c1 := 0) (n1 := 0) (c_rIsCar (M := M0) hok hr0 _) dX10_sees_8 mX10_isCar wd_1919 acl_10 (lo_s hok 90 rfl) rfl (by omega) (by omega) (by omega) rfl rfl (fun _ _ h => by cases h.1) ?_
    rintro r M9 ⟨h1, h9⟩; cases h1; rw [h9]; clear h9 M9
    refine ax_ifB_eq (tgt := 22) dX10_sees_11 (by decide) (fun h11 => ?_) (fun h11 => ?_)
    · refine ax_iconst (v := 1) dX10_sees_22 (by decide) ?_
      refine ax_goto (tgt := 27) dX10_sees_23 (by decide) ?_
      first | (refine ja ?_; simp only [h11, and_self, and_true, true_and, not_true_eq_false, not_false_eq_true, or_true, true_or, or_false, false_or, or_self]; done) | (refine jb ?_; simp only [h11, and_self, and_true, true_and, not_true_eq_false, not_false_eq_true, or_true, true_or, or_false, false_or, or_self]; done) | exact ja h11 | exact jb (fun z => z h11) | exact ja (Or.inr h11) | exact ja (Or.inl h11)
    · refine ax_aload_n dX10_sees_14 rfl ?_
      refine ax_iload_n dX10_sees_15 rfl ?_
      refine ax_callV (As := _) (d2 := _) (c1 := 0) (n1 := 0) (c_rIsCoat (M := M0) hok hr0 _) dX10_sees_16 mX10_isCoat wd_1935 acl_10 (lo_s hok 90 rfl) rfl (by omega) (by omega) (by omega) rfl rfl (fun _ _ h => by cases h.1) ?_
      rintro r M9 ⟨h1, h9⟩; cases h1; rw [h9]; clear h9 M9
      refine ax_ifB_ne (tgt := 26) dX10_sees_19 (by decide) (fun h19 => ?_) (fun h19 => ?_)
      · refine ax_iconst (v := 0) dX10_sees_26 (by decide) ?_
        first | (refine ja ?_; simp only [h11, h19, and_self, and_true, true_and, not_true_eq_false, not_false_eq_true, or_true, true_or, or_false, false_or, or_self]; done) | (refine jb ?_; simp only [h11, h19, and_self, and_true, true_and, not_true_eq_false, not_false_eq_true, or_true, true_or, or_false, false_or, or_self]; done) | exact ja h19 | exact jb (fun z => z h19) | exact ja (Or.inr h19) | exact ja (Or.inl h19)
      · refine ax_iconst (v := 1) dX10_sees_22 (by decide) ?_
        refine ax_goto (tgt := 27) dX10_sees_23 (by decide) ?_
        first | (refine ja ?_; simp only [h11, h19, and_self, and_true, true_and, not_true_eq_false, not_false_eq_true, or_true, true_or, or_false, false_or, or_self]; done) | (refine jb ?_; simp only [h11, h19, and_self, and_true, true_and, not_true_eq_false, not_false_eq_true, or_true, true_or, or_false, false_or, or_self]; done) | exact ja h19 | exact jb (fun z => z h19) | exact ja (Or.inr h19) | exact ja (Or.inl h19)
  refine ax_iconst (v := 1) dX10_sees_27 (by decide) ?_
  refine ax_iconst (v := 0) dX10_sees_28 (by decide) ?_
  refine ax_callV (As := _) (d2 := _) (c1 := 0) (n1 := 0) (c_badP (d := 0) (M := M0) (p := ¬ (0 ≤ x ∧ x ≤ iI (r 1) - 1) ∨ ¬ (0 ≤ y ∧ y ≤ iI (r 2) - 1)) hok h00 (w := 1) (k := 0) (by decide) (by decide) (by decide) rfl rfl) dX10_sees_29 mX10_bad wd_1775 acl_10 (lo_s hok 90 rfl) rfl (by omega) (by omega) (by omega) rfl rfl (fun _ _ h => by rcases h with ⟨_, h, _⟩ | ⟨_, h, _⟩ <;> cases h) ?_
  rintro o9 M9 (⟨g1, h1, h2⟩ | ⟨g1, h1, h2⟩) <;> cases h1 <;> rw [h2] <;> clear h2 M9
  · refine ax_if_eq (tgt := 37) dX10_sees_32 (by decide) (fun hc => ?_) (fun hc => ?_)
    · exact absurd hc (by decide)
    · refine ax_iconst (v := 0) dX10_sees_35 (by decide) ?_
      refine ax_iret dX10_sees_36 rfl ?_
      exact rq_bad hM0 (w := 1) (k := 0) rfl (by unfold qa_sees; rw [if_pos g1])
  refine ax_if_eq (tgt := 37) dX10_sees_32 (by decide) (fun hc => ?_) (fun hc => ?_)
  rotate_left
  · exact absurd rfl hc
  obtain ⟨c, hc2, rfl⟩ := in_car (dn (fun z => g1 (Or.inl z))) (by omega) (by omega)
  obtain ⟨k, hk2, rfl⟩ := in_car (dn (fun z => g1 (Or.inr z))) (by omega) (by omega)
  refine ax_aload_n dX10_sees_37 rfl ?_
  refine ax_callV (As := _) (d2 := _) (c1 := 0) (n1 := 0) (c_X10_asTold (lw := lw) (M := M0) hok hr0 ho (fun w hw => by rw [hM0]; exact sf_law0 hw (hl w hw))) dX10_sees_38 mX10_asTold wd_1943 acl_10 (lo_s hok 90 rfl) rfl (by omega) (by omega) (by omega) rfl rfl (fun _ _ h => by cases h.1) ?_
  rintro o9 M1 ⟨h1, f1, f2⟩; cases h1
  have hok : lo_ok M1.2 := by rw [f1.1]; exact hok
  refine ax_aload_n dX10_sees_41 rfl ?_
  refine ax_getK (f := 37) 371 dX10_sees_42 acl_10 wd_1637 (by decide) rfl (lo_s hok 90 rfl) (lo_r hok 102 rfl) ?_
  refine ax_iload_n dX10_sees_45 rfl ?_
  refine ax_aaldN2 (372 + (c)) (c) dX10_sees_46 (lo_s hok 371 rfl) (by decide) (by first | with_reducible rfl | assumption | exact ax_nix (by simp only [nx_0, nx_1, nx_2, nx_3, nx_4, nx_10, nx_20, nx_21, nx_100, nI_add, pk_mul] <;> rfl) (by omega) | decide) (by omega) (lo_w_m_seenAt hok (by omega)) ?_
  refine ax_iload_n dX10_sees_47 rfl ?_
  refine ax_ialdN (k) dX10_sees_48 (by first | assumption | exact lo_tz hok (by omega) (by omega) | exact lo_z_m_wet hok (by omega) | exact lo_z_m_readWet hok (by omega) | exact lo_z_m_law hok (by omega) | exact lo_z_m_book hok (by omega) | exact lo_z_m_readBook hok (by omega) | exact lo_z_m_before hok (by omega) | exact lo_z_m_kept hok (by omega) | exact lo_z_m_seenAt hok (by omega) | exact lo_z_m_seenIn hok (by omega) | exact lo_z_m_t0 hok (by omega) | exact lo_z_m_t1 hok (by omega) | exact lo_z_m_c0 hok (by omega) | exact lo_z_m_c1 hok (by omega) | exact lo_z_x_kept hok (by omega)) (by decide) (by first | with_reducible rfl | assumption | exact ax_nix (by simp only [nx_0, nx_1, nx_2, nx_3, nx_4, nx_10, nx_20, nx_21, nx_100, nI_add, pk_mul] <;> rfl) (by omega) | decide) (by omega) ?_
  refine ax_iret dX10_sees_49 rfl ?_
  refine rq_sf hM0 (sf_mt f1) ?_
  unfold qa_sees
  rw [if_neg g1, nI_clamp (by omega), nI_clamp (by omega), ((f2.1 c (by omega)).2.2.2.1 k (by omega)).1, if_neg (by omega)]
  rfl
theorem c_at (hok : lo_ok M.2) (hr : rr M r) (ho : rd_ok r) (hl : ∀ w, w < 3 → ml_law M w (lw w)) (x y z : Int32) : ax_Met l G kX10_at 8 0 0 M [av_r 90, av_i x, av_i y, av_i z] (fun o M2 => rq M M2 o (qa_at r lw x y z)) := by
  have h9 := ho.1
  have hTT := mt_T_le r
  refine ax_body (by decide) (Nat.le_of_ble_eq_true rfl) ?_
  refine ax_aload_n dX10_at_0 rfl ?_
  refine ax_iconst (v := 0) dX10_at_1 (by decide) ?_
  refine ax_putI (f := 0) dX10_at_2 acl_10 wd_1600 (by decide) rfl rfl (ax_nfI rfl) (lo_s hok 90 rfl) ?_
  refine ax_gen (fun M0 hM0 => ?_)
  have hok : lo_ok M0.2 := by rw [hM0]; exact hok
  have hr0 : rr M0 r := by rw [hM0]; exact rr_fr hr (fun n i q => ax_pn (by omega))
  have h00 : M0.1 90 0 = 0 := by rw [hM0, ax_pa]
  refine ax_aload_n dX10_at_5 rfl ?_
  refine ax_join0 (¬ (0 ≤ x ∧ x ≤ iI (r 1) - 1)) 19 (1) (0) ?_ (fun ja jb => ?_)
  rotate_left
  · refine ax_aload_n dX10_at_6 rfl ?_
    refine ax_iload_n dX10_at_7 rfl ?_
    refine ax_callV (As := _) (d2 := _) (c1 := 0) (n1 := 0) (c_rIsCar (M := M0) hok hr0 _) dX10_at_8 mX10_isCar wd_1919 acl_10 (lo_s hok 90 rfl) rfl (by omega) (by omega) (by omega) rfl rfl (fun _ _ h => by cases h.1) ?_
    rintro r M9 ⟨h1, h9⟩; cases h1; rw [h9]; clear h9 M9
    refine ax_ifB_ne (tgt := 18) dX10_at_11 (by decide) (fun h11 => ?_) (fun h11 => ?_)
    · refine ax_iconst (v := 0) dX10_at_18 (by decide) ?_
      first | (refine ja ?_; simp only [h11, and_self, and_true, true_and, not_true_eq_false, not_false_eq_true, or_true, true_or, or_false, false_or, or_self]; done) | (refine jb ?_; simp only [h11, and_self, and_true, true_and, not_true_eq_false, not_false_eq_true, or_true, true_or, or_false, false_or, or_self]; done) | exact ja h11 | exact jb (fun z => z h11) | exact ja (Or.inr h11) | exact ja (Or.inl h11)
    · refine ax_iconst (v := 1) dX10_at_14 (by decide) ?_
      refine ax_goto (tgt := 19) dX10_at_15 (by decide) ?_
      first | (refine ja ?_; simp only [h11, and_self, and_true, true_and, not_true_eq_false, not_false_eq_true, or_true, true_or, or_false, false_or, or_self]; done) | (refine jb ?_; simp only [h11, and_self, and_true, true_and, not_true_eq_false, not_false_eq_true, or_true, true_or, or_false, false_or, or_self]; done) | exact ja h11 | exact jb (fun z => z h11) | exact ja (Or.inr h11) | exact ja (Or.inl h11)
  refine ax_iconst (v := 1) dX10_at_19 (by decide) ?_
  refine ax_iconst (v := 0) dX10_at_20 (by decide) ?_
  refine ax_callV (As := _) (d2 := _) (c1 := 0) (n1 := 0) (c_badP (d := 0) (M := M0) (p := ¬ (0 ≤ x ∧ x ≤ iI (r 1) - 1)) hok h00 (w := 1) (k := 0) (by decide) (by decide) (by decide) rfl rfl) dX10_at_21 mX10_bad wd_1775 acl_10 (lo_s hok 90 rfl) rfl (by omega) (by omega) (by omega) rfl rfl (fun _ _ h => by rcases h with ⟨_, h, _⟩ | ⟨_, h, _⟩ <;> cases h) ?_
  rintro o9 M9 (⟨g1, h1, h2⟩ | ⟨g1, h1, h2⟩) <;> cases h1 <;> rw [h2] <;> clear h2 M9
  · refine ax_if_ne (tgt := 60) dX10_at_24 (by decide) (fun hc => ?_) (fun hc => ?_)
    · refine ax_iconst (v := 0) dX10_at_60 (by decide) ?_
      refine ax_iret dX10_at_61 rfl ?_
      exact rq_bad hM0 (w := 1) (k := 0) rfl (by unfold qa_at; rw [if_pos g1])
    · exact absurd hc (by decide)
  refine ax_if_ne (tgt := 60) dX10_at_24 (by decide) (fun hc => ?_) (fun hc => ?_)
  · exact absurd rfl hc
  refine ax_aload_n dX10_at_27 rfl ?_
  refine ax_join0 (¬ (0 ≤ y ∧ y ≤ 98) ∨ ¬ (0 ≤ z ∧ z ≤ 5)) 52 (1) (0) ?_ (fun ja jb => ?_)
  rotate_left
  · refine ax_iload_n dX10_at_28 rfl ?_
    refine ax_iconst (v := 0) dX10_at_29 (by decide) ?_
    refine ax_bipush (v := 98) dX10_at_30 (by decide) ?_
    refine ax_callS (As := _) (c1 := 0) (n1 := 0) (c_X10_in (d := 0) (M := M0) _ _ _) dX10_at_32 mX10_in wd_1772 rfl (by omega) (by omega) (by omega) rfl rfl (fun _ _ h => by cases h.1) ?_
    rintro r M9 ⟨h1, h9⟩; cases h1; rw [h9]; clear h9 M9
    refine ax_ifB_eq (tgt := 47) dX10_at_35 (by decide) (fun h35 => ?_) (fun h35 => ?_)
    · refine ax_iconst (v := 1) dX10_at_47 (by decide) ?_
      refine ax_goto (tgt := 52) dX10_at_48 (by decide) ?_
      first | (refine ja ?_; simp only [h35, and_self, and_true, true_and, not_true_eq_false, not_false_eq_true, or_true, true_or, or_false, false_or, or_self]; done) | (refine jb ?_; simp only [h35, and_self, and_true, true_and, not_true_eq_false, not_false_eq_true, or_true, true_or, or_false, false_or, or_self]; done) | exact ja h35 | exact jb (fun z => z h35) | exact ja (Or.inr h35) | exact ja (Or.inl h35)
    · refine ax_iload_n dX10_at_38 rfl ?_
      refine ax_iconst (v := 0) dX10_at_39 (by decide) ?_
      refine ax_iconst (v := 5) dX10_at_40 (by decide) ?_
      refine ax_callS (As := _) (c1 := 0) (n1 := 0) (c_X10_in (d := 0) (M := M0) _ _ _) dX10_at_41 mX10_in wd_1772 rfl (by omega) (by omega) (by omega) rfl rfl (fun _ _ h => by cases h.1) ?_
      rintro r M9 ⟨h1, h9⟩; cases h1; rw [h9]; clear h9 M9
      refine ax_ifB_ne (tgt := 51) dX10_at_44 (by decide) (fun h44 => ?_) (fun h44 => ?_)
      · refine ax_iconst (v := 0) dX10_at_51 (by decide) ?_
        first | (refine ja ?_; simp only [h35, h44, and_self, and_true, true_and, not_true_eq_false, not_false_eq_true, or_true, true_or, or_false, false_or, or_self]; done) | (refine jb ?_; simp only [h35, h44, and_self, and_true, true_and, not_true_eq_false, not_false_eq_true, or_true, true_or, or_false, false_or, or_self]; done) | exact ja h44 | exact jb (fun z => z h44) | exact ja (Or.inr h44) | exact ja (Or.inl h44)
      · refine ax_iconst (v := 1) dX10_at_47 (by decide) ?_
        refine ax_goto (tgt := 52) dX10_at_48 (by decide) ?_
        first | (refine ja ?_; simp only [h35, h44, and_self, and_true, true_and, not_true_eq_false, not_false_eq_true, or_true, true_or, or_false, false_or, or_self]; done) | (refine jb ?_; simp only [h35, h44, and_self, and_true, true_and, not_true_eq_false, not_false_eq_true, or_true, true_or, or_false, false_or, or_self]; done) | exact ja h44 | exact jb (fun z => z h44) | exact ja (Or.inr h44) | exact ja (Or.inl h44)
  refine ax_iconst (v := 2) dX10_at_52 (by decide) ?_
  refine ax_iconst (v := 1) dX10_at_53 (by decide) ?_
  refine ax_callV (As := _) (d2 := _) (c1 := 0) (n1 := 0) (c_badP (d := 0) (M := M0) (p := ¬ (0 ≤ y ∧ y ≤ 98) ∨ ¬ (0 ≤ z ∧ z ≤ 5)) hok h00 (w := 2) (k := 1) (by decide) (by decide) (by decide) rfl rfl) dX10_at_54 mX10_bad wd_1775 acl_10 (lo_s hok 90 rfl) rfl (by omega) (by omega) (by omega) rfl rfl (fun _ _ h => by rcases h with ⟨_, h, _⟩ | ⟨_, h, _⟩ <;> cases h) ?_
  rintro o9 M9 (⟨g2, h1, h2⟩ | ⟨g2, h1, h2⟩) <;> cases h1 <;> rw [h2] <;> clear h2 M9
  · refine ax_if_eq (tgt := 62) dX10_at_57 (by decide) (fun hc => ?_) (fun hc => ?_)
    · exact absurd hc (by decide)
    · refine ax_iconst (v := 0) dX10_at_60 (by decide) ?_
      refine ax_iret dX10_at_61 rfl ?_
      exact rq_bad hM0 (w := 2) (k := 1) rfl (by unfold qa_at; rw [if_neg g1, if_pos g2])
  refine ax_if_eq (tgt := 62) dX10_at_57 (by decide) (fun hc => ?_) (fun hc => ?_)
  rotate_left
  · exact absurd rfl hc
  obtain ⟨c, hc2, rfl⟩ := in_car (dn g1) (by omega) (by omega)
  obtain ⟨t, ht, rfl⟩ := in_nat (dn (fun z => g2 (Or.inl z))) (n := 98) rfl (by decide)
  obtain ⟨k, hk, rfl⟩ := in_nat (dn (fun z => g2 (Or.inr z))) (n := 5) rfl (by decide)
  refine ax_aload_n dX10_at_62 rfl ?_
  refine ax_callV (As := _) (d2 := _) (c1 := 0) (n1 := 0) (c_X10_asTold (lw := lw) (M := M0) hok hr0 ho (fun w hw => by rw [hM0]; exact sf_law0 hw (hl w hw))) dX10_at_63 mX10_asTold wd_1943 acl_10 (lo_s hok 90 rfl) rfl (by omega) (by omega) (by omega) rfl rfl (fun _ _ h => by cases h.1) ?_
  rintro o9 M1 ⟨h1, f1, f2⟩; cases h1
  have hok : lo_ok M1.2 := by rw [f1.1]; exact hok
  have e : ∀ v, v = qv_at r lw c t k → rq M M1 (.inl (some (av_i v))) (qa_at r lw (nI c) (nI t) (nI k)) := fun v hv => rq_sf hM0 (sf_mt f1) (by unfold qa_at; rw [if_neg g1, if_neg g2, nI_clamp (by omega), nI_clamp (by omega), nI_clamp (by omega), hv])
  refine ax_iload_n dX10_at_66 rfl ?_
  refine ax_aload_n dX10_at_67 rfl ?_
  refine ax_getI (f := 46) dX10_at_68 acl_10 wd_1646 (by decide) rfl (lo_s hok 90 rfl) ?_
  rw [f2.2.1]
  refine ax_icmp_ge (tgt := 88) dX10_at_71 (by decide) (fun hc => ?_) (fun hc => ?_)
  · refine ax_iconst (v := (-1)) dX10_at_88 (by decide) ?_
    refine ax_goto (tgt := 102) dX10_at_89 (by decide) ?_
    refine ax_iret dX10_at_102 rfl ?_
    refine e _ ?_
    unfold qv_at
    rw [if_pos (Or.inl ((nI_leI (by omega) (by omega)).mp hc))]
  · have htT : t < mt_T r := by
      rcases Nat.lt_or_ge t (mt_T r) with q | q
      · exact q
      · exact absurd ((nI_leI (by omega) (by omega)).mpr q) hc
    have hrw := (f2.1 c (by omega)).2.2.2.2.2.2.2 t htT
    refine ax_aload_n dX10_at_74 rfl ?_
    refine ax_getK (f := 36) 170 dX10_at_75 acl_10 wd_1636 (by decide) rfl (lo_s hok 90 rfl) (lo_r hok 101 rfl) ?_
    refine ax_iload_n dX10_at_78 rfl ?_
    refine ax_aaldN3 (171 + 100 * (c)) (c) dX10_at_79 (lo_s hok 170 rfl) (by decide) (by first | with_reducible rfl | assumption | exact ax_nix (by simp only [nx_0, nx_1, nx_2, nx_3, nx_4, nx_10, nx_20, nx_21, nx_100, nI_add, pk_mul] <;> rfl) (by omega) | decide) (by omega) (lo_tt hok (by omega)) ?_
    refine ax_iload_n dX10_at_80 rfl ?_
    refine ax_aaldN2 (172 + 100 * (c) + (t)) (t) dX10_at_81 (lo_ts hok (by omega)) (by decide) (by first | with_reducible rfl | assumption | exact ax_nix (by simp only [nx_0, nx_1, nx_2, nx_3, nx_4, nx_10, nx_20, nx_21, nx_100, nI_add, pk_mul] <;> rfl) (by omega) | decide) (by omega) (lo_tr hok (by omega) (by omega)) ?_
    refine ax_iconst (v := 0) dX10_at_82 (by decide) ?_
    refine ax_ialdN (0) dX10_at_83 (by first | assumption | exact lo_tz hok (by omega) (by omega) | exact lo_z_m_wet hok (by omega) | exact lo_z_m_readWet hok (by omega) | exact lo_z_m_law hok (by omega) | exact lo_z_m_book hok (by omega) | exact lo_z_m_readBook hok (by omega) | exact lo_z_m_before hok (by omega) | exact lo_z_m_kept hok (by omega) | exact lo_z_m_seenAt hok (by omega) | exact lo_z_m_seenIn hok (by omega) | exact lo_z_m_t0 hok (by omega) | exact lo_z_m_t1 hok (by omega) | exact lo_z_m_c0 hok (by omega) | exact lo_z_m_c1 hok (by omega) | exact lo_z_x_kept hok (by omega)) (by decide) (by decide) (by decide) ?_
    refine ax_iconst (v := (-1)) dX10_at_84 (by decide) ?_
    refine ax_icmp_ne (tgt := 92) dX10_at_85 (by decide) (fun hc => ?_) (fun hc => ?_)
    · have hon : mt_on r c t = true := Decidable.byContradiction (fun q => hc ((mt_rw_on ho (by omega) (by omega) hrw).mpr (mt_nf q)))
      refine ax_aload_n dX10_at_92 rfl ?_
      refine ax_getK (f := 36) 170 dX10_at_93 acl_10 wd_1636 (by decide) rfl (lo_s hok 90 rfl) (lo_r hok 101 rfl) ?_
      refine ax_iload_n dX10_at_96 rfl ?_
      refine ax_aaldN3 (171 + 100 * (c)) (c) dX10_at_97 (lo_s hok 170 rfl) (by decide) (by first | with_reducible rfl | assumption | exact ax_nix (by simp only [nx_0, nx_1, nx_2, nx_3, nx_4, nx_10, nx_20, nx_21, nx_100, nI_add, pk_mul] <;> rfl) (by omega) | decide) (by omega) (lo_tt hok (by omega)) ?_
      refine ax_iload_n dX10_at_98 rfl ?_
      refine ax_aaldN2 (172 + 100 * (c) + (t)) (t) dX10_at_99 (lo_ts hok (by omega)) (by decide) (by first | with_reducible rfl | assumption | exact ax_nix (by simp only [nx_0, nx_1, nx_2, nx_3, nx_4, nx_10, nx_20, nx_21, nx_100, nI_add, pk_mul] <;> rfl) (by omega) | decide) (by omega) (lo_tr hok (by omega) (by omega)) ?_
      refine ax_iload_n dX10_at_100 rfl ?_
      refine ax_ialdN (k) dX10_at_101 (by first | assumption | exact lo_tz hok (by omega) (by omega) | exact lo_z_m_wet hok (by omega) | exact lo_z_m_readWet hok (by omega) | exact lo_z_m_law hok (by omega) | exact lo_z_m_book hok (by omega) | exact lo_z_m_readBook hok (by omega) | exact lo_z_m_before hok (by omega) | exact lo_z_m_kept hok (by omega) | exact lo_z_m_seenAt hok (by omega) | exact lo_z_m_seenIn hok (by omega) | exact lo_z_m_t0 hok (by omega) | exact lo_z_m_t1 hok (by omega) | exact lo_z_m_c0 hok (by omega) | exact lo_z_m_c1 hok (by omega) | exact lo_z_x_kept hok (by omega)) (by decide) (by first | with_reducible rfl | assumption | exact ax_nix (by simp only [nx_0, nx_1, nx_2, nx_3, nx_4, nx_10, nx_20, nx_21, nx_100, nI_add, pk_mul] <;> rfl) (by omega) | decide) (by omega) ?_
      refine ax_iret dX10_at_102 rfl ?_
      refine e _ ?_
      unfold qv_at
      rw [if_neg (by rintro (q | q); omega; rw [hon] at q; cases q), lk_row_at (hrw.1 hon) (by omega)]
      rfl
    · refine ax_iconst (v := (-1)) dX10_at_88 (by decide) ?_
      refine ax_goto (tgt := 102) dX10_at_89 (by decide) ?_
      refine ax_iret dX10_at_102 rfl ?_
      refine e _ ?_
      unfold qv_at
      rw [if_pos (Or.inr ((mt_rw_on ho (by omega) (by omega) hrw).mp hc))]
end QB

