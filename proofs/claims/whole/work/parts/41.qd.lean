/-! ===== habits, safe paces, ages: the reference ===== -/
theorem mt_cnt_pos (p : Nat → Bool) (t : Nat) : 0 < mt_cnt p (t + 1) ↔ 0 < mt_cnt p t ∨ p t = true := by
  show 0 < mt_cnt p t + _ ↔ _
  by_cases q : p t = true
  · simp [q]
  · simp [q]
theorem mt_cnt_ex {p : Nat → Bool} {k : Nat} (hp : p k = true) : ∀ {m : Nat}, k < m → 0 < mt_cnt p m
  | 0, h => by omega
  | m + 1, h => (mt_cnt_pos p m).mpr (by
    by_cases q : k = m
    · subst q; exact Or.inr hp
    · exact Or.inl (mt_cnt_ex hp (by omega)))
theorem mt_cnt_cong {p q : Nat → Bool} : ∀ {m : Nat}, (∀ k, k < m → p k = q k) → mt_cnt p m = mt_cnt q m
  | 0, _ => rfl
  | m + 1, h => by
    show mt_cnt p m + _ = mt_cnt q m + _
    rw [mt_cnt_cong (m := m) (fun k hk => h k (by omega)), h m (by omega)]
theorem mt_cnt_del {p q : Nat → Bool} {j : Nat} (hp : p j = true) (hq : q j = false) (hpq : ∀ k, k ≠ j → q k = p k) : ∀ {m : Nat}, j < m → mt_cnt q m + 1 = mt_cnt p m
  | 0, h => by omega
  | m + 1, h => by
    show mt_cnt q m + _ + 1 = mt_cnt p m + _
    by_cases e : j = m
    · subst e
      rw [mt_cnt_cong (p := q) (q := p) (m := j) (fun k hk => hpq k (by omega)), if_pos hp, if_neg (by rw [hq]; decide)]
    · have := mt_cnt_del hp hq hpq (m := m) (by omega)
      rw [hpq m (fun z => e z.symm)]
      omega
/-- d behind a meeting -/
def hb_g (r : Nat → Int) (lw : mt_L) (d : Nat) : Nat := if 0 < mt_bc r lw (mt_d (nI d) (-1)) 0 (mt_T r) then min 20 (d + 1) else d - 1
theorem hb_g_lt (r : Nat → Int) (lw : mt_L) {d : Nat} (h : d < 21) : hb_g r lw d < 21 := by
  unfold hb_g; split <;> omega
def hb (g : Nat → Nat) : Nat → (Nat → Int32) → Nat → Nat → (Nat → Int32) × Nat × Nat
  | 0, v, now, n => (v, now, n)
  | f + 1, v, now, n => if v now = -1 then hb g f (fun k => if k = now then nI n else v k) (g now) (n + 1) else (v, now, n)
def hlo (v : Nat → Int32) (till : Int32) (now : Nat) : Nat → Nat
  | 0 => now
  | k + 1 => if v k < till then hlo v till now k else min (hlo v till now k) k
def hhi (v : Nat → Int32) (till : Int32) (now : Nat) : Nat → Nat
  | 0 => now
  | k + 1 => if v k < till then hhi v till now k else max (hhi v till now k) k
theorem hlo_lt (v : Nat → Int32) (till : Int32) {now : Nat} (h : now < 21) : ∀ k, hlo v till now k < 21
  | 0 => h
  | k + 1 => by
    have := hlo_lt v till h k
    unfold hlo
    split <;> omega
theorem hhi_lt (v : Nat → Int32) (till : Int32) {now : Nat} (h : now < 21) : ∀ k, k ≤ 21 → hhi v till now k < 21
  | 0, _ => h
  | k + 1, hk => by
    have := hhi_lt v till h k (by omega)
    unfold hhi
    split <;> omega
def hb_R (r : Nat → Int) (lw : mt_L) (d : Nat) : (Nat → Int32) × Nat × Nat := hb (hb_g r lw) 21 (fun _ => -1) d 0
def qv_hb (R : (Nat → Int32) × Nat × Nat) (k : Nat) : Int32 := if k = 0 then R.1 R.2.1 else if k = 1 then nI R.2.2 - R.1 R.2.1 else if k = 2 then nI (hlo R.1 (R.1 R.2.1) R.2.1 21) else nI (hhi R.1 (R.1 R.2.1) R.2.1 21)
def qa_habit (r : Nat → Int) (lw : mt_L) (x y : Int32) : ax_V ⊕ (Nat × Nat) := if ¬ (0 ≤ x ∧ x ≤ 20) ∨ ¬ (0 ≤ y ∧ y ≤ 3) then .inr (1, 1) else if r 1 < 2 then .inr (2, 2) else .inl (av_i (qv_hb (hb_R r lw x.toNatClampNeg) y.toNatClampNeg))
theorem hb_ls {d : Nat} (h : d < 21) : (if (20 : Int32) < nI d + 1 then 20 else nI d + 1) = nI (min 20 (d + 1)) := (show ∀ d, d < 21 → (if (20 : Int32) < nI d + 1 then 20 else nI d + 1) = nI (min 20 (d + 1)) by decide) d h
theorem hb_mr {d : Nat} (h : d < 21) : (if nI d - 1 < (0 : Int32) then 0 else nI d - 1) = nI (d - 1) := (show ∀ d, d < 21 → (if nI d - 1 < (0 : Int32) then 0 else nI d - 1) = nI (d - 1) by decide) d h
def sf_kn (r : Nat → Int) (c : Nat) (f : Int32) (p k : Nat) : Int32 := if k = 0 then iI (if f = 1 then r 5 else r 6) else if k = 1 then iI (r 34) else if k = 3 then iI (r (40 + c)) else if k = 5 then iI (r (11 + 2 * c)) else if k = 6 then nI p else if k = 8 then 99 else if k = 11 then f else 0
def sf_b (s : Nat → Int32) : Nat → Nat
  | 0 => 0
  | p + 1 => if 1 ≤ p ∧ ((2 * p : Nat) : Int) ≤ (s p).toInt then p else sf_b s p
def qa_safe (r : Nat → Int) (lw : mt_L) (x f : Int32) : ax_V ⊕ (Nat × Nat) := if ¬ (0 ≤ x ∧ x ≤ iI (r 1) - 1) then .inr (1, 0) else if ¬ (0 ≤ f ∧ f ≤ 1) then .inr (2, 1) else .inl (av_i (nI (sf_b (fun p => ev_sight (lw 0) (sf_kn r x.toNatClampNeg f p)) 10)))
def qa_blinds (r : Nat → Int) (y : Int32) : ax_V ⊕ (Nat × Nat) := if ¬ (17 ≤ y ∧ y ≤ 99) then .inr (1, 1) else .inl (av_i (iI (r 35 + y.toInt / 20)))
def qa_old (r : Nat → Int) (n : Int32) : ax_V ⊕ (Nat × Nat) := if ¬ (0 ≤ n ∧ n ≤ 20) then .inr (1, 1) else .inl (av_i (mt_sb (mt_first (fun y => decide (17 ≤ y) && decide (n.toInt < r 35 + (y : Int) / 20)) 100)))
def qa_between (r : Nat → Int) (y t : Int32) : ax_V ⊕ (Nat × Nat) := if ¬ (17 ≤ y ∧ y ≤ 99) ∨ ¬ (0 ≤ t ∧ t ≤ 60) then .inr (1, 1) else .inl (av_i (if t - iI (r 35 + y.toInt / 20) - 3 < 2 then 0 else 1))
def gby (a b : Int32) : Int32 := 3 * a - (if b - a < 0 then 0 else b - a) * (if b - a < 0 then 0 else b - a) - (a + b) / 2
def qa_gets (a b : Int32) : ax_V ⊕ (Nat × Nat) := if ¬ (1 ≤ a ∧ a ≤ 40) ∨ ¬ (1 ≤ b ∧ b ≤ 40) then .inr (1, 1) else .inl (av_i (gby a b))
theorem iv_in {x a b : Int32} (h : a ≤ x ∧ x ≤ b) : a.toInt ≤ x.toInt ∧ x.toInt ≤ b.toInt := ⟨iv_le.mp h.1, iv_le.mp h.2⟩
section QD
variable {l : Launch} {G : ax_G} {M : ax_M} {r : Nat → Int} {lw : mt_L}
theorem c_habitBehind (hok : lo_ok M.2) (hr : rr M r) (ho : rd_ok r) (hl : ∀ w, w < 3 → ml_law M w (lw w)) {d : Nat} (hd : d < 21) {x : Int32} (hx : x = nI d) : ax_Met l G kX10_habitBehind 7 0 0 M [av_r 90, av_i x] (fun o M2 => o = .inl (some (av_i (nI (hb_g r lw d)))) ∧ mt_fr M M2) := by
  subst hx
  have hTT := mt_T_le r
  refine ax_body (by decide) (Nat.le_of_ble_eq_true rfl) ?_
  refine ax_aload_n dX10_habitBehind_0 rfl ?_
  refine ax_iload_n dX10_habitBehind_1 rfl ?_
  refine ax_iconst (v := (-1)) dX10_habitBehind_2 (by decide) ?_
  refine ax_callV (As := _) (d2 := _) (c1 := 0) (n1 := 0) (c_X10_meets (M := M) (lw := lw) hok hr ho hl _ _) dX10_habitBehind_3 mX10_meets wd_1947 acl_10 (lo_s hok 90 rfl) rfl (by omega) (by omega) (by omega) rfl rfl (fun _ _ h => by cases h.1) ?_
  rintro o9 M1 ⟨h1, f1, f2⟩; cases h1
  have hok : lo_ok M1.2 := by rw [f1.1]; exact hok
  refine ax_iconst (v := 0) dX10_habitBehind_6 (by decide) ?_
  refine ax_istore_n dX10_habitBehind_7 (by decide) rfl ?_
  refine ax_iconst (v := 0) dX10_habitBehind_8 (by decide) ?_
  refine ax_istore_n dX10_habitBehind_9 (by decide) rfl ?_
  refine ax_for (mt_T r) (fun t N L => N = M1 ∧ L = [some (av_r 90), some (av_i (nI d)), some (av_i (if 0 < mt_bc r lw (mt_d (nI d) (-1)) 0 t then 1 else 0)), some (av_i (nI t))]) 10 ?_ ?_ (i := 0) (by omega) ⟨rfl, rfl⟩
  · rintro t N L ht ⟨rfl, rfl⟩ next
    have hrw := (f2.1 0 (by omega)).2.2.2.2.2.2.2 t ht
    have hbb := mt_b_b ho lw (mt_d (nI d) (-1)) (c := 0) (by omega) t
    have hp := mt_cnt_pos (fun t => mt_on r 0 t && decide (0 < mt_b r lw (mt_d (nI d) (-1)) 0 t)) t
    refine ax_iload_n dX10_habitBehind_10 rfl ?_
    refine ax_aload_n dX10_habitBehind_11 rfl ?_
    refine ax_getI (f := 46) dX10_habitBehind_12 acl_10 wd_1646 (by decide) rfl (lo_s hok 90 rfl) ?_
    rw [f2.2.1]
    refine ax_icmp_ge (tgt := 61) dX10_habitBehind_15 (by decide) (fun hc => absurd ((nI_leI (by omega) (by omega)).mp hc) (by omega)) (fun hc => ?_)
    refine ax_iload_n dX10_habitBehind_18 rfl ?_
    have hz : N.1 (172 + t) 0 = -1 ↔ mt_on r 0 t = false := by have := mt_rw_on ho (c := 0) (by omega) (by omega) hrw; simpa using this
    have hb2 : mt_on r 0 t = true → N.1 (172 + t) 2 = iI (mt_b r lw (mt_d (nI d) (-1)) 0 t) := fun q => by have := (hrw.1 q).2.2.1; simpa using this
    refine ax_join1 (0 < mt_bc r lw (mt_d (nI d) (-1)) 0 (t + 1)) 54 (1) (0) ?_ (fun ja jb => ?_)
    rotate_left
    · refine ax_ifB_ne (tgt := 49) dX10_habitBehind_19 (by decide) (fun h19 => ?_) (fun h19 => ?_)
      · refine ax_iconst (v := 1) dX10_habitBehind_49 (by decide) ?_
        refine ax_goto (tgt := 54) dX10_habitBehind_50 (by decide) ?_
        first | exact ja (hp.mpr (Or.inl h19)) | (refine jb (fun z => ?_); rcases hp.mp z with z | z; exact h19 z; simp only [Bool.and_eq_true, decide_eq_true_eq] at z; rw [hz.mp h33] at z; exact absurd z.1 (by decide)) | (have hon : mt_on r 0 t = true := Decidable.byContradiction (fun q => h33 (hz.mpr (mt_nf q))); rw [hb2 hon] at h46; refine jb (fun z => ?_); rcases hp.mp z with z | z; exact h19 z; simp only [Bool.and_eq_true, decide_eq_true_eq] at z; have := (iI_le0 (by unfold iI_b; omega)).mp h46; omega) | (have hon : mt_on r 0 t = true := Decidable.byContradiction (fun q => h33 (hz.mpr (mt_nf q))); rw [hb2 hon] at h46; refine ja (hp.mpr (Or.inr ?_)); simp only [Bool.and_eq_true, decide_eq_true_eq]; exact ⟨hon, Int.not_le.mp (fun z => h46 ((iI_le0 (by unfold iI_b; omega)).mpr z))⟩)
      · refine ax_aload_n dX10_habitBehind_22 rfl ?_
        refine ax_getK (f := 36) 170 dX10_habitBehind_23 acl_10 wd_1636 (by decide) rfl (lo_s hok 90 rfl) (lo_r hok 101 rfl) ?_
        refine ax_iconst (v := 0) dX10_habitBehind_26 (by decide) ?_
        refine ax_aaldN3 171 0 dX10_habitBehind_27 (lo_s hok 170 rfl) (by decide) (by decide) (by decide) (lo_r hok 173 rfl) ?_
        refine ax_iload_n dX10_habitBehind_28 rfl ?_
        refine ax_aaldN2 (172 + (t)) (t) dX10_habitBehind_29 (lo_s hok 171 rfl) (by decide) (by first | with_reducible rfl | assumption | exact ax_nix (by simp only [nx_0, nx_1, nx_2, nx_3, nx_4, nx_10, nx_20, nx_21, nx_100, nI_add, pk_mul] <;> rfl) (by omega) | decide) (by omega) (lo_w_m_t0 hok (by omega)) ?_
        refine ax_iconst (v := 0) dX10_habitBehind_30 (by decide) ?_
        refine ax_ialdN (0) dX10_habitBehind_31 (by first | assumption | exact lo_tz hok (by omega) (by omega) | exact lo_z_m_wet hok (by omega) | exact lo_z_m_readWet hok (by omega) | exact lo_z_m_law hok (by omega) | exact lo_z_m_book hok (by omega) | exact lo_z_m_readBook hok (by omega) | exact lo_z_m_before hok (by omega) | exact lo_z_m_kept hok (by omega) | exact lo_z_m_seenAt hok (by omega) | exact lo_z_m_seenIn hok (by omega) | exact lo_z_m_t0 hok (by omega) | exact lo_z_m_t1 hok (by omega) | exact lo_z_m_c0 hok (by omega) | exact lo_z_m_c1 hok (by omega) | exact lo_z_x_kept hok (by omega)) (by decide) (by decide) (by decide) ?_
        refine ax_iconst (v := (-1)) dX10_habitBehind_32 (by decide) ?_
        refine ax_icmp_eq (tgt := 53) dX10_habitBehind_33 (by decide) (fun h33 => ?_) (fun h33 => ?_)
        · refine ax_iconst (v := 0) dX10_habitBehind_53 (by decide) ?_
          first | exact ja (hp.mpr (Or.inl h19)) | (refine jb (fun z => ?_); rcases hp.mp z with z | z; exact h19 z; simp only [Bool.and_eq_true, decide_eq_true_eq] at z; rw [hz.mp h33] at z; exact absurd z.1 (by decide)) | (have hon : mt_on r 0 t = true := Decidable.byContradiction (fun q => h33 (hz.mpr (mt_nf q))); rw [hb2 hon] at h46; refine jb (fun z => ?_); rcases hp.mp z with z | z; exact h19 z; simp only [Bool.and_eq_true, decide_eq_true_eq] at z; have := (iI_le0 (by unfold iI_b; omega)).mp h46; omega) | (have hon : mt_on r 0 t = true := Decidable.byContradiction (fun q => h33 (hz.mpr (mt_nf q))); rw [hb2 hon] at h46; refine ja (hp.mpr (Or.inr ?_)); simp only [Bool.and_eq_true, decide_eq_true_eq]; exact ⟨hon, Int.not_le.mp (fun z => h46 ((iI_le0 (by unfold iI_b; omega)).mpr z))⟩)
        · refine ax_aload_n dX10_habitBehind_36 rfl ?_
          refine ax_getK (f := 36) 170 dX10_habitBehind_37 acl_10 wd_1636 (by decide) rfl (lo_s hok 90 rfl) (lo_r hok 101 rfl) ?_
          refine ax_iconst (v := 0) dX10_habitBehind_40 (by decide) ?_
          refine ax_aaldN3 171 0 dX10_habitBehind_41 (lo_s hok 170 rfl) (by decide) (by decide) (by decide) (lo_r hok 173 rfl) ?_
          refine ax_iload_n dX10_habitBehind_42 rfl ?_
          refine ax_aaldN2 (172 + (t)) (t) dX10_habitBehind_43 (lo_s hok 171 rfl) (by decide) (by first | with_reducible rfl | assumption | exact ax_nix (by simp only [nx_0, nx_1, nx_2, nx_3, nx_4, nx_10, nx_20, nx_21, nx_100, nI_add, pk_mul] <;> rfl) (by omega) | decide) (by omega) (lo_w_m_t0 hok (by omega)) ?_
          refine ax_iconst (v := 2) dX10_habitBehind_44 (by decide) ?_
          refine ax_ialdN (2) dX10_habitBehind_45 (by first | assumption | exact lo_tz hok (by omega) (by omega) | exact lo_z_m_wet hok (by omega) | exact lo_z_m_readWet hok (by omega) | exact lo_z_m_law hok (by omega) | exact lo_z_m_book hok (by omega) | exact lo_z_m_readBook hok (by omega) | exact lo_z_m_before hok (by omega) | exact lo_z_m_kept hok (by omega) | exact lo_z_m_seenAt hok (by omega) | exact lo_z_m_seenIn hok (by omega) | exact lo_z_m_t0 hok (by omega) | exact lo_z_m_t1 hok (by omega) | exact lo_z_m_c0 hok (by omega) | exact lo_z_m_c1 hok (by omega) | exact lo_z_x_kept hok (by omega)) (by decide) (by decide) (by decide) ?_
          refine ax_if_le (tgt := 53) dX10_habitBehind_46 (by decide) (fun h46 => ?_) (fun h46 => ?_)
          · refine ax_iconst (v := 0) dX10_habitBehind_53 (by decide) ?_
            first | exact ja (hp.mpr (Or.inl h19)) | (refine jb (fun z => ?_); rcases hp.mp z with z | z; exact h19 z; simp only [Bool.and_eq_true, decide_eq_true_eq] at z; rw [hz.mp h33] at z; exact absurd z.1 (by decide)) | (have hon : mt_on r 0 t = true := Decidable.byContradiction (fun q => h33 (hz.mpr (mt_nf q))); rw [hb2 hon] at h46; refine jb (fun z => ?_); rcases hp.mp z with z | z; exact h19 z; simp only [Bool.and_eq_true, decide_eq_true_eq] at z; have := (iI_le0 (by unfold iI_b; omega)).mp h46; omega) | (have hon : mt_on r 0 t = true := Decidable.byContradiction (fun q => h33 (hz.mpr (mt_nf q))); rw [hb2 hon] at h46; refine ja (hp.mpr (Or.inr ?_)); simp only [Bool.and_eq_true, decide_eq_true_eq]; exact ⟨hon, Int.not_le.mp (fun z => h46 ((iI_le0 (by unfold iI_b; omega)).mpr z))⟩)
          · refine ax_iconst (v := 1) dX10_habitBehind_49 (by decide) ?_
            refine ax_goto (tgt := 54) dX10_habitBehind_50 (by decide) ?_
            first | exact ja (hp.mpr (Or.inl h19)) | (refine jb (fun z => ?_); rcases hp.mp z with z | z; exact h19 z; simp only [Bool.and_eq_true, decide_eq_true_eq] at z; rw [hz.mp h33] at z; exact absurd z.1 (by decide)) | (have hon : mt_on r 0 t = true := Decidable.byContradiction (fun q => h33 (hz.mpr (mt_nf q))); rw [hb2 hon] at h46; refine jb (fun z => ?_); rcases hp.mp z with z | z; exact h19 z; simp only [Bool.and_eq_true, decide_eq_true_eq] at z; have := (iI_le0 (by unfold iI_b; omega)).mp h46; omega) | (have hon : mt_on r 0 t = true := Decidable.byContradiction (fun q => h33 (hz.mpr (mt_nf q))); rw [hb2 hon] at h46; refine ja (hp.mpr (Or.inr ?_)); simp only [Bool.and_eq_true, decide_eq_true_eq]; exact ⟨hon, Int.not_le.mp (fun z => h46 ((iI_le0 (by unfold iI_b; omega)).mpr z))⟩)
    refine ax_istore_n dX10_habitBehind_54 (by decide) rfl ?_
    refine ax_iinc (v := 1) dX10_habitBehind_55 rfl (by decide) (by decide) rfl ?_
    refine ax_goto (tgt := 10) dX10_habitBehind_58 (by decide) ?_
    exact next _ _ ⟨rfl, by rw [nI_1]; rfl⟩
  · rintro N L ⟨rfl, rfl⟩
    refine ax_iload_n dX10_habitBehind_10 rfl ?_
    refine ax_aload_n dX10_habitBehind_11 rfl ?_
    refine ax_getI (f := 46) dX10_habitBehind_12 acl_10 wd_1646 (by decide) rfl (lo_s hok 90 rfl) ?_
    rw [f2.2.1]
    refine ax_icmp_ge (tgt := 61) dX10_habitBehind_15 (by decide) (fun hc => ?_) (fun hc => absurd ((nI_leI (by omega) (by omega)).mpr (by omega)) hc)
    refine ax_iload_n dX10_habitBehind_61 rfl ?_
    refine ax_ifB_eq (tgt := 76) dX10_habitBehind_62 (by decide) (fun hc => ?_) (fun hc => ?_)
    · refine ax_iconst (v := 0) dX10_habitBehind_76 (by decide) ?_
      refine ax_iload_n dX10_habitBehind_77 rfl ?_
      refine ax_iconst (v := 1) dX10_habitBehind_78 (by decide) ?_
      refine ax_isub dX10_habitBehind_79 ?_
      refine ax_callS (As := _) (c1 := 0) (n1 := 0) (c_X10_more (d := 0) (M := N) _ _) dX10_habitBehind_80 mX10_more wd_1908 rfl (by omega) (by omega) (by omega) rfl rfl (fun _ _ h => by cases h.1) ?_
      rintro r M9 ⟨h1, h9⟩; cases h1; rw [h9]; clear h9 M9
      rw [hb_mr hd]
      refine ax_iret dX10_habitBehind_83 rfl ?_
      refine ⟨?_, f1⟩
      unfold hb_g; rw [if_neg hc]
    · refine ax_bipush (v := 20) dX10_habitBehind_65 (by decide) ?_
      refine ax_iload_n dX10_habitBehind_67 rfl ?_
      refine ax_iconst (v := 1) dX10_habitBehind_68 (by decide) ?_
      refine ax_iadd dX10_habitBehind_69 ?_
      refine ax_callS (As := _) (c1 := 0) (n1 := 0) (c_X10_less (d := 0) (M := N) _ _) dX10_habitBehind_70 mX10_less wd_1905 rfl (by omega) (by omega) (by omega) rfl rfl (fun _ _ h => by cases h.1) ?_
      rintro r M9 ⟨h1, h9⟩; cases h1; rw [h9]; clear h9 M9
      rw [hb_ls hd]
      refine ax_goto (tgt := 83) dX10_habitBehind_73 (by decide) ?_
      refine ax_iret dX10_habitBehind_83 rfl ?_
      refine ⟨?_, f1⟩
      unfold hb_g; rw [if_pos hc]
theorem c_habit (hok : lo_ok M.2) (hr : rr M r) (ho : rd_ok r) (hl : ∀ w, w < 3 → ml_law M w (lw w)) (x y : Int32) : ax_Met l G kX10_habit 8 0 0 M [av_r 90, av_i x, av_i y] (fun o M2 => rq M M2 o (qa_habit r lw x y)) := by
  have h9 := ho.1
  refine ax_body (by decide) (Nat.le_of_ble_eq_true rfl) ?_
  refine ax_aload_n dX10_habit_0 rfl ?_
  refine ax_iconst (v := 0) dX10_habit_1 (by decide) ?_
  refine ax_putI (f := 0) dX10_habit_2 acl_10 wd_1600 (by decide) rfl rfl (ax_nfI rfl) (lo_s hok 90 rfl) ?_
  refine ax_gen (fun M0 hM0 => ?_)
  have hok : lo_ok M0.2 := by rw [hM0]; exact hok
  have hr0 : rr M0 r := by rw [hM0]; exact rr_fr hr (fun n i q => ax_pn (by omega))
  have h00 : M0.1 90 0 = 0 := by rw [hM0, ax_pa]
  refine ax_aload_n dX10_habit_5 rfl ?_
  refine ax_join0 (¬ (0 ≤ x ∧ x ≤ 20) ∨ ¬ (0 ≤ y ∧ y ≤ 3)) 30 (1) (0) ?_ (fun ja jb => ?_)
  rotate_left
  · refine ax_iload_n dX10_habit_6 rfl ?_
    refine ax_iconst (v := 0) dX10_habit_7 (by decide) ?_
    refine ax_bipush (v := 20) dX10_habit_8 (by decide) ?_
    refine ax_callS (As := _) (c1 := 0) (n1 := 0) (c_X10_in (d := 0) (M := M0) _ _ _) dX10_habit_10 mX10_in wd_1772 rfl (by omega) (by omega) (by omega) rfl rfl (fun _ _ h => by cases h.1) ?_
    rintro r M9 ⟨h1, h9⟩; cases h1; rw [h9]; clear h9 M9
    refine ax_ifB_eq (tgt := 25) dX10_habit_13 (by decide) (fun h13 => ?_) (fun h13 => ?_)
    · refine ax_iconst (v := 1) dX10_habit_25 (by decide) ?_
      refine ax_goto (tgt := 30) dX10_habit_26 (by decide) ?_
      first | (refine ja ?_; simp only [h13, and_self, and_true, true_and, not_true_eq_false, not_false_eq_true, or_true, true_or, or_false, false_or, or_self]; done) | (refine jb ?_; simp only [h13, and_self, and_true, true_and, not_true_eq_false, not_false_eq_true, or_true, true_or, or_false, false_or, or_self]; done) | exact ja h13 | exact jb (fun z => z h13) | exact ja (Or.inr h13) | exact ja (Or.inl h13)
    · refine ax_iload_n dX10_habit_16 rfl ?_
      refine ax_iconst (v := 0) dX10_habit_17 (by decide) ?_
      refine ax_iconst (v := 3) dX10_habit_18 (by decide) ?_
      refine ax_callS (As := _) (c1 := 0) (n1 := 0) (c_X10_in (d := 0) (M := M0) _ _ _) dX10_habit_19 mX10_in wd_1772 rfl (by omega) (by omega) (by omega) rfl rfl (fun _ _ h => by cases h.1) ?_
      rintro r M9 ⟨h1, h9⟩; cases h1; rw [h9]; clear h9 M9
      refine ax_ifB_ne (tgt := 29) dX10_habit_22 (by decide) (fun h22 => ?_) (fun h22 => ?_)
      · refine ax_iconst (v := 0) dX10_habit_29 (by decide) ?_
        first | (refine ja ?_; simp only [h13, h22, and_self, and_true, true_and, not_true_eq_false, not_false_eq_true, or_true, true_or, or_false, false_or, or_self]; done) | (refine jb ?_; simp only [h13, h22, and_self, and_true, true_and, not_true_eq_false, not_false_eq_true, or_true, true_or, or_false, false_or, or_self]; done) | exact ja h22 | exact jb (fun z => z h22) | exact ja (Or.inr h22) | exact ja (Or.inl h22)
      · refine ax_iconst (v := 1) dX10_habit_25 (by decide) ?_
        refine ax_goto (tgt := 30) dX10_habit_26 (by decide) ?_
        first | (refine ja ?_; simp only [h13, h22, and_self, and_true, true_and, not_true_eq_false, not_false_eq_true, or_true, true_or, or_false, false_or, or_self]; done) | (refine jb ?_; simp only [h13, h22, and_self, and_true, true_and, not_true_eq_false, not_false_eq_true, or_true, true_or, or_false, false_or, or_self]; done) | exact ja h22 | exact jb (fun z => z h22) | exact ja (Or.inr h22) | exact ja (Or.inl h22)
  refine ax_iconst (v := 1) dX10_habit_30 (by decide) ?_
  refine ax_iconst (v := 1) dX10_habit_31 (by decide) ?_
  refine ax_callV (As := _) (d2 := _) (c1 := 0) (n1 := 0) (c_badP (d := 0) (M := M0) (p := ¬ (0 ≤ x ∧ x ≤ 20) ∨ ¬ (0 ≤ y ∧ y ≤ 3)) hok h00 (w := 1) (k := 1) (by decide) (by decide) (by decide) rfl rfl) dX10_habit_32 mX10_bad wd_1775 acl_10 (lo_s hok 90 rfl) rfl (by omega) (by omega) (by omega) rfl rfl (fun _ _ h => by rcases h with ⟨_, h, _⟩ | ⟨_, h, _⟩ <;> cases h) ?_
  rintro o9 M9 (⟨g1, h1, h2⟩ | ⟨g1, h1, h2⟩) <;> cases h1 <;> rw [h2] <;> clear h2 M9
  · refine ax_if_ne (tgt := 46) dX10_habit_35 (by decide) (fun hc => ?_) (fun hc => ?_)
    · refine ax_iconst (v := 0) dX10_habit_46 (by decide) ?_
      refine ax_iret dX10_habit_47 rfl ?_
      exact rq_bad hM0 (w := 1) (k := 1) rfl (by unfold qa_habit; rw [if_pos g1])
    · exact absurd hc (by decide)
  refine ax_if_ne (tgt := 46) dX10_habit_35 (by decide) (fun hc => ?_) (fun hc => ?_)
  · exact absurd rfl hc
  refine ax_aload_n dX10_habit_38 rfl ?_
  refine ax_iconst (v := 2) dX10_habit_39 (by decide) ?_
  refine ax_callV (As := _) (d2 := _) (c1 := 0) (n1 := 0) (c_notTwo (M := M0) hok hr0 ho h00 (w := 2) (by decide) rfl) dX10_habit_40 mX10_notTwo wd_2029 acl_10 (lo_s hok 90 rfl) rfl (by omega) (by omega) (by omega) rfl rfl (fun _ _ h => by rcases h with ⟨_, h, _⟩ | ⟨_, h, _⟩ <;> cases h) ?_
  rintro o9 M9 (⟨g2, h1, h2⟩ | ⟨g2, h1, h2⟩) <;> cases h1 <;> rw [h2] <;> clear h2 M9
  · refine ax_if_eq (tgt := 48) dX10_habit_43 (by decide) (fun hc => ?_) (fun hc => ?_)
    · exact absurd hc (by decide)
    · refine ax_iconst (v := 0) dX10_habit_46 (by decide) ?_
      refine ax_iret dX10_habit_47 rfl ?_
      exact rq_bad hM0 (w := 2) (k := 2) rfl (by unfold qa_habit; rw [if_neg g1, if_pos g2])
  refine ax_if_eq (tgt := 48) dX10_habit_43 (by decide) (fun hc => ?_) (fun hc => ?_)
  rotate_left
  · exact absurd rfl hc
  obtain ⟨d, hd, rfl⟩ := in_nat (dn (fun z => g1 (Or.inl z))) (n := 20) rfl (by decide)
  obtain ⟨k, hk, rfl⟩ := in_nat (dn (fun z => g1 (Or.inr z))) (n := 3) rfl (by decide)
  have hl0 : ∀ w, w < 3 → ml_law M0 w (lw w) := fun w hw => by rw [hM0]; exact sf_law0 hw (hl w hw)
  obtain ⟨R, hR⟩ : ∃ R, R = hb_R r lw d := ⟨_, rfl⟩
  have e : ∀ (N : ax_M) v, sf M0 N → v = qv_hb R k → rq M N (.inl (some (av_i v))) (qa_habit r lw (nI d) (nI k)) := fun N v hs hv => rq_sf hM0 hs (by unfold qa_habit; rw [if_neg g1, if_neg g2, nI_clamp (by omega), nI_clamp (by omega), hv, hR])
  -- behind the meetings
  have tail : ∀ (N : ax_M) (y5 y6 y7 y8 : Option ax_V), sf M0 N → R.2.1 < 21 → (∀ j, j < 21 → N.1 429 j = R.1 j) → ax_W l G kX10_habit (ax_FQ G (fun o M2 => rq M M2 o (qa_habit r lw (nI d) (nI k)))) 8 0 0 N 104 [some (av_r 90), some (av_i (nI d)), some (av_i (nI k)), some (av_i (nI R.2.1)), some (av_i (nI R.2.2)), y5, y6, y7, y8] [] := by
    intro N y5 y6 y7 y8 hs hnow hv
    have hok : lo_ok N.2 := by rw [hs.1]; exact hok
    refine ax_aload_n dX10_habit_104 rfl ?_
    refine ax_getK (f := 49) 429 dX10_habit_105 acl_10 wd_1649 (by decide) rfl (lo_s hok 90 rfl) (lo_r hok 112 rfl) ?_
    refine ax_iload_n dX10_habit_108 rfl ?_
    refine ax_ialdN (R.2.1) dX10_habit_109 (lo_s hok 429 rfl) (by decide) (by first | with_reducible rfl | assumption | exact ax_nix (by simp only [nx_0, nx_1, nx_2, nx_3, nx_4, nx_10, nx_20, nx_21, nx_100, nI_add, pk_mul] <;> rfl) (by omega) | decide) (by omega) ?_
    rw [hv _ hnow]
    refine ax_istore dX10_habit_110 (by decide) rfl ?_
    refine ax_iload_n dX10_habit_112 rfl ?_
    refine ax_istore dX10_habit_113 (by decide) rfl ?_
    refine ax_iload_n dX10_habit_115 rfl ?_
    refine ax_istore dX10_habit_116 (by decide) rfl ?_
    refine ax_iconst (v := 0) dX10_habit_118 (by decide) ?_
    refine ax_istore dX10_habit_119 (by decide) rfl ?_
    refine ax_for 21 (fun j N2 L => N2 = N ∧ L = [some (av_r 90), some (av_i (nI d)), some (av_i (nI k)), some (av_i (nI R.2.1)), some (av_i (nI R.2.2)), some (av_i (R.1 R.2.1)), some (av_i (nI (hlo R.1 (R.1 R.2.1) R.2.1 j))), some (av_i (nI (hhi R.1 (R.1 R.2.1) R.2.1 j))), some (av_i (nI j))]) 121 ?_ ?_ (i := 0) (by omega) ⟨rfl, rfl⟩
    · rintro j N2 L hj ⟨rfl, rfl⟩ next
      have l1 := hlo_lt R.1 (R.1 R.2.1) hnow j
      have l2 := hhi_lt R.1 (R.1 R.2.1) hnow j (by omega)
      refine ax_iload dX10_habit_121 rfl ?_
      refine ax_bipush (v := 21) dX10_habit_123 (by decide) ?_
      refine ax_icmp_ge (tgt := 167) dX10_habit_125 (by decide) (fun hc => absurd ((nI_leI (a := 21) (by omega) (by omega)).mp hc) (by omega)) (fun hc => ?_)
      refine ax_aload_n dX10_habit_128 rfl ?_
      refine ax_getK (f := 49) 429 dX10_habit_129 acl_10 wd_1649 (by decide) rfl (lo_s hok 90 rfl) (lo_r hok 112 rfl) ?_
      refine ax_iload dX10_habit_132 rfl ?_
      refine ax_ialdN (j) dX10_habit_134 (lo_s hok 429 rfl) (by decide) (by first | with_reducible rfl | assumption | exact ax_nix (by simp only [nx_0, nx_1, nx_2, nx_3, nx_4, nx_10, nx_20, nx_21, nx_100, nI_add, pk_mul] <;> rfl) (by omega) | decide) (by omega) ?_
      rw [hv _ hj]
      refine ax_iload dX10_habit_135 rfl ?_
      refine ax_icmp_ge (tgt := 143) dX10_habit_137 (by decide) (fun hc => ?_) (fun hc => ?_)
      · have hn : ¬ R.1 j < R.1 R.2.1 := Int32.not_lt.mpr hc
        have e1 : hlo R.1 (R.1 R.2.1) R.2.1 (j + 1) = min (hlo R.1 (R.1 R.2.1) R.2.1 j) j := if_neg hn
        have e2 : hhi R.1 (R.1 R.2.1) R.2.1 (j + 1) = max (hhi R.1 (R.1 R.2.1) R.2.1 j) j := if_neg hn
        refine ax_iload dX10_habit_143 rfl ?_
        refine ax_iload dX10_habit_145 rfl ?_
        refine ax_callS (As := _) (c1 := 0) (n1 := 0) (c_X10_less (d := 0) (M := N2) _ _) dX10_habit_147 mX10_less wd_1905 rfl (by omega) (by omega) (by omega) rfl rfl (fun _ _ h => by cases h.1) ?_
        rintro r M9 ⟨h1, h9⟩; cases h1; rw [h9]; clear h9 M9
        refine ax_istore dX10_habit_150 (by decide) rfl ?_
        refine ax_iload dX10_habit_152 rfl ?_
        refine ax_iload dX10_habit_154 rfl ?_
        refine ax_callS (As := _) (c1 := 0) (n1 := 0) (c_X10_more (d := 0) (M := N2) _ _) dX10_habit_156 mX10_more wd_1908 rfl (by omega) (by omega) (by omega) rfl rfl (fun _ _ h => by cases h.1) ?_
        rintro r M9 ⟨h1, h9⟩; cases h1; rw [h9]; clear h9 M9
        refine ax_istore dX10_habit_159 (by decide) rfl ?_
        refine ax_iinc (v := 1) dX10_habit_161 rfl (by decide) (by decide) rfl ?_
        refine ax_goto (tgt := 121) dX10_habit_164 (by decide) ?_
        refine next _ _ ⟨rfl, ?_⟩
        have q1 : (if nI (hlo R.1 (R.1 R.2.1) R.2.1 j) < nI j then nI (hlo R.1 (R.1 R.2.1) R.2.1 j) else nI j) = nI (hlo R.1 (R.1 R.2.1) R.2.1 (j + 1)) := by
          rw [e1]
          by_cases q : hlo R.1 (R.1 R.2.1) R.2.1 j < j
          · rw [if_pos ((nI_ltI (by omega) (by omega)).mpr q)]; congr 1; omega
          · rw [if_neg (fun z => q ((nI_ltI (by omega) (by omega)).mp z))]; congr 1; omega
        have q2 : (if nI j < nI (hhi R.1 (R.1 R.2.1) R.2.1 j) then nI (hhi R.1 (R.1 R.2.1) R.2.1 j) else nI j) = nI (hhi R.1 (R.1 R.2.1) R.2.1 (j + 1)) := by
          rw [e2]
          by_cases q : j < hhi R.1 (R.1 R.2.1) R.2.1 j
          · rw [if_pos ((nI_ltI (by omega) (by omega)).mpr q)]; congr 1; omega
          · rw [if_neg (fun z => q ((nI_ltI (by omega) (by omega)).mp z))]; congr 1; omega
        rw [q1, q2, nI_1]; rfl
      · have hn : R.1 j < R.1 R.2.1 := Int32.not_le.mp hc
        have e1 : hlo R.1 (R.1 R.2.1) R.2.1 (j + 1) = hlo R.1 (R.1 R.2.1) R.2.1 j := if_pos hn
        have e2 : hhi R.1 (R.1 R.2.1) R.2.1 (j + 1) = hhi R.1 (R.1 R.2.1) R.2.1 j := if_pos hn
        refine ax_goto (tgt := 161) dX10_habit_140 (by decide) ?_
        refine ax_iinc (v := 1) dX10_habit_161 rfl (by decide) (by decide) rfl ?_
        refine ax_goto (tgt := 121) dX10_habit_164 (by decide) ?_
        exact next _ _ ⟨rfl, by rw [e1, e2, nI_1]; rfl⟩
    · rintro N2 L ⟨rfl, rfl⟩
      refine ax_iload dX10_habit_121 rfl ?_
      refine ax_bipush (v := 21) dX10_habit_123 (by decide) ?_
      refine ax_icmp_ge (tgt := 167) dX10_habit_125 (by decide) (fun hc => ?_) (fun hc => absurd ((nI_leI (a := 21) (by omega) (by omega)).mpr (by omega)) hc)
      rcases (show k = 0 ∨ k = 1 ∨ k = 2 ∨ k = 3 by omega) with rfl | rfl | rfl | rfl
      · refine ax_iload_n dX10_habit_167 rfl ?_
        refine ax_if_ne (tgt := 176) dX10_habit_168 (by decide) (fun h168 => ?_) (fun h168 => ?_)
        · exact absurd rfl h168
        · refine ax_iload dX10_habit_171 rfl ?_
          refine ax_goto (tgt := 201) dX10_habit_173 (by decide) ?_
          refine ax_iret dX10_habit_201 rfl ?_
          exact e _ _ hs rfl
      · refine ax_iload_n dX10_habit_167 rfl ?_
        refine ax_if_ne (tgt := 176) dX10_habit_168 (by decide) (fun h168 => ?_) (fun h168 => ?_)
        · refine ax_iload_n dX10_habit_176 rfl ?_
          refine ax_iconst (v := 1) dX10_habit_177 (by decide) ?_
          refine ax_icmp_ne (tgt := 189) dX10_habit_178 (by decide) (fun h178 => ?_) (fun h178 => ?_)
          · exact absurd rfl h178
          · refine ax_iload dX10_habit_181 rfl ?_
            refine ax_iload dX10_habit_183 rfl ?_
            refine ax_isub dX10_habit_185 ?_
            refine ax_goto (tgt := 201) dX10_habit_186 (by decide) ?_
            refine ax_iret dX10_habit_201 rfl ?_
            exact e _ _ hs rfl
        · exact absurd h168 (by decide)
      · refine ax_iload_n dX10_habit_167 rfl ?_
        refine ax_if_ne (tgt := 176) dX10_habit_168 (by decide) (fun h168 => ?_) (fun h168 => ?_)
        · refine ax_iload_n dX10_habit_176 rfl ?_
          refine ax_iconst (v := 1) dX10_habit_177 (by decide) ?_
          refine ax_icmp_ne (tgt := 189) dX10_habit_178 (by decide) (fun h178 => ?_) (fun h178 => ?_)
          · refine ax_iload_n dX10_habit_189 rfl ?_
            refine ax_iconst (v := 2) dX10_habit_190 (by decide) ?_
            refine ax_icmp_ne (tgt := 199) dX10_habit_191 (by decide) (fun h191 => ?_) (fun h191 => ?_)
            · exact absurd rfl h191
            · refine ax_iload dX10_habit_194 rfl ?_
              refine ax_goto (tgt := 201) dX10_habit_196 (by decide) ?_
              refine ax_iret dX10_habit_201 rfl ?_
              exact e _ _ hs rfl
          · exact absurd h178 (by decide)
        · exact absurd h168 (by decide)
      · refine ax_iload_n dX10_habit_167 rfl ?_
        refine ax_if_ne (tgt := 176) dX10_habit_168 (by decide) (fun h168 => ?_) (fun h168 => ?_)
        · refine ax_iload_n dX10_habit_176 rfl ?_
          refine ax_iconst (v := 1) dX10_habit_177 (by decide) ?_
          refine ax_icmp_ne (tgt := 189) dX10_habit_178 (by decide) (fun h178 => ?_) (fun h178 => ?_)
          · refine ax_iload_n dX10_habit_189 rfl ?_
            refine ax_iconst (v := 2) dX10_habit_190 (by decide) ?_
            refine ax_icmp_ne (tgt := 199) dX10_habit_191 (by decide) (fun h191 => ?_) (fun h191 => ?_)
            · refine ax_iload dX10_habit_199 rfl ?_
              refine ax_iret dX10_habit_201 rfl ?_
              exact e _ _ hs rfl
            · exact absurd h191 (by decide)
          · exact absurd h178 (by decide)
        · exact absurd h168 (by decide)
  have loop : ∀ (f : Nat) (v : Nat → Int32) (now n : Nat) (N : ax_M) (y5 y6 y7 y8 : Option ax_V), hb (hb_g r lw) f v now n = R → mt_cnt (fun j => decide (v j = -1)) 21 ≤ f → n + f = 21 → now < 21 → sf M0 N → (∀ j, j < 21 → N.1 429 j = v j) → ax_W l G kX10_habit (ax_FQ G (fun o M2 => rq M M2 o (qa_habit r lw (nI d) (nI k)))) 8 0 0 N 74 [some (av_r 90), some (av_i (nI d)), some (av_i (nI k)), some (av_i (nI now)), some (av_i (nI n)), y5, y6, y7, y8] [] := by
    intro f
    induction f with
    | zero =>
      intro v now n N y5 y6 y7 y8 hbR hcnt hnf hnow hs hv
      have hok : lo_ok N.2 := by rw [hs.1]; exact hok
      have hb0 : (v, now, n) = R := hbR
      have hne : ¬ v now = -1 := fun z => by
        have := mt_cnt_ex (p := fun j => decide (v j = -1)) (k := now) (by simpa using z) (m := 21) hnow
        omega
      refine ax_aload_n dX10_habit_74 rfl ?_
      refine ax_getK (f := 49) 429 dX10_habit_75 acl_10 wd_1649 (by decide) rfl (lo_s hok 90 rfl) (lo_r hok 112 rfl) ?_
      refine ax_iload_n dX10_habit_78 rfl ?_
      refine ax_ialdN (now) dX10_habit_79 (lo_s hok 429 rfl) (by decide) (by first | with_reducible rfl | assumption | exact ax_nix (by simp only [nx_0, nx_1, nx_2, nx_3, nx_4, nx_10, nx_20, nx_21, nx_100, nI_add, pk_mul] <;> rfl) (by omega) | decide) (by omega) ?_
      refine ax_iconst (v := (-1)) dX10_habit_80 (by decide) ?_
      rw [hv _ hnow]
      refine ax_icmp_ne (tgt := 104) dX10_habit_81 (by decide) (fun hc => ?_) (fun hc => ?_)
      · subst hb0
        exact tail N y5 y6 y7 y8 hs hnow hv
      · exact absurd hc hne
    | succ f ih =>
      intro v now n N y5 y6 y7 y8 hbR hcnt hnf hnow hs hv
      have hok : lo_ok N.2 := by rw [hs.1]; exact hok
      refine ax_aload_n dX10_habit_74 rfl ?_
      refine ax_getK (f := 49) 429 dX10_habit_75 acl_10 wd_1649 (by decide) rfl (lo_s hok 90 rfl) (lo_r hok 112 rfl) ?_
      refine ax_iload_n dX10_habit_78 rfl ?_
      refine ax_ialdN (now) dX10_habit_79 (lo_s hok 429 rfl) (by decide) (by first | with_reducible rfl | assumption | exact ax_nix (by simp only [nx_0, nx_1, nx_2, nx_3, nx_4, nx_10, nx_20, nx_21, nx_100, nI_add, pk_mul] <;> rfl) (by omega) | decide) (by omega) ?_
      refine ax_iconst (v := (-1)) dX10_habit_80 (by decide) ?_
      rw [hv _ hnow]
      refine ax_icmp_ne (tgt := 104) dX10_habit_81 (by decide) (fun hc => ?_) (fun hc => ?_)
      · have hb0 : (v, now, n) = R := by rw [← hbR]; exact (if_neg hc).symm
        subst hb0
        exact tail N y5 y6 y7 y8 hs hnow hv
      · have hb1 : hb (hb_g r lw) f (fun k => if k = now then nI n else v k) (hb_g r lw now) (n + 1) = R := by rw [← hbR]; exact (if_pos hc).symm
        refine ax_aload_n dX10_habit_84 rfl ?_
        refine ax_getK (f := 49) 429 dX10_habit_85 acl_10 wd_1649 (by decide) rfl (lo_s hok 90 rfl) (lo_r hok 112 rfl) ?_
        refine ax_iload_n dX10_habit_88 rfl ?_
        refine ax_iload dX10_habit_89 rfl ?_
        refine ax_iastN (now) dX10_habit_91 (lo_s hok 429 rfl) (by decide) (by first | with_reducible rfl | assumption | exact ax_nix (by simp only [nx_0, nx_1, nx_2, nx_3, nx_4, nx_10, nx_20, nx_21, nx_100, nI_add, pk_mul] <;> rfl) (by omega) | decide) (by omega) ?_
        refine ax_gen (fun N2 hN2 => ?_)
        have hok : lo_ok N2.2 := by rw [hN2]; exact hok
        have hs2 : sf M0 N2 := sf_tr hs (by rw [hN2]; exact sf_p (by unfold rs; omega))
        refine ax_aload_n dX10_habit_92 rfl ?_
        refine ax_iload_n dX10_habit_93 rfl ?_
        refine ax_callV (As := _) (d2 := _) (c1 := 0) (n1 := 0) (c_habitBehind (M := N2) (lw := lw) hok (sf_rr hs2 hr0) ho (fun w hw => sf_law hs2 hw (hl0 w hw)) hnow rfl) dX10_habit_94 mX10_habitBehind wd_2060 acl_10 (lo_s hok 90 rfl) rfl (by omega) (by omega) (by omega) rfl rfl (fun _ _ h => by cases h.1) ?_
        rintro o9 N3 ⟨h1, f1⟩; cases h1
        refine ax_istore_n dX10_habit_97 (by decide) rfl ?_
        refine ax_iinc (v := 1) dX10_habit_98 rfl (by decide) (by decide) rfl ?_
        refine ax_goto (tgt := 74) dX10_habit_101 (by decide) ?_
        rw [nI_1]
        refine ih _ _ _ N3 y5 y6 y7 y8 hb1 ?_ (by omega) (hb_g_lt r lw hnow) (sf_tr hs2 (sf_mt f1)) (fun j hj => ?_)
        · have := mt_cnt_del (p := fun j => decide (v j = -1)) (q := fun j => decide ((if j = now then nI n else v j) = -1)) (j := now) (by simpa using hc) (by simp only [if_true, decide_eq_false_iff_not]; exact nI_m1 (by omega)) (fun j hj => by simp only [if_neg hj]) (m := 21) hnow
          omega
        · rw [f1.2 429 j (by omega) (by omega) (by omega) (by omega), hN2]
          by_cases q : j = now
          · subst q; rw [ax_pa, if_pos rfl]
          · rw [ax_pn (by omega), if_neg q]; exact hv j hj
  refine ax_iconst (v := 0) dX10_habit_48 (by decide) ?_
  refine ax_istore_n dX10_habit_49 (by decide) rfl ?_
  refine ax_for 21 (fun j N L => L = [some (av_r 90), some (av_i (nI d)), some (av_i (nI k)), some (av_i (nI j)), none, none, none, none, none] ∧ sf M0 N ∧ ∀ q, q < j → N.1 429 q = -1) 50 ?_ ?_ (i := 0) (by omega) ⟨rfl, sf_0 _, fun q z => by omega⟩
  · rintro j N L hj ⟨rfl, hs, hv⟩ next
    have hok : lo_ok N.2 := by rw [hs.1]; exact hok
    refine ax_iload_n dX10_habit_50 rfl ?_
    refine ax_bipush (v := 21) dX10_habit_51 (by decide) ?_
    refine ax_icmp_ge (tgt := 69) dX10_habit_53 (by decide) (fun hc => absurd ((nI_leI (a := 21) (by omega) (by omega)).mp hc) (by omega)) (fun hc => ?_)
    refine ax_aload_n dX10_habit_56 rfl ?_
    refine ax_getK (f := 49) 429 dX10_habit_57 acl_10 wd_1649 (by decide) rfl (lo_s hok 90 rfl) (lo_r hok 112 rfl) ?_
    refine ax_iload_n dX10_habit_60 rfl ?_
    refine ax_iconst (v := (-1)) dX10_habit_61 (by decide) ?_
    refine ax_iastN (j) dX10_habit_62 (lo_s hok 429 rfl) (by decide) (by first | with_reducible rfl | assumption | exact ax_nix (by simp only [nx_0, nx_1, nx_2, nx_3, nx_4, nx_10, nx_20, nx_21, nx_100, nI_add, pk_mul] <;> rfl) (by omega) | decide) (by omega) ?_
    refine ax_gen (fun N2 hN2 => ?_)
    have hok : lo_ok N2.2 := by rw [hN2]; exact hok
    refine ax_iinc (v := 1) dX10_habit_63 rfl (by decide) (by decide) rfl ?_
    refine ax_goto (tgt := 50) dX10_habit_66 (by decide) ?_
    refine next _ _ ⟨by rw [nI_1]; rfl, sf_tr hs (by rw [hN2]; exact sf_p (by unfold rs; omega)), fun q hq => ?_⟩
    rw [hN2]
    by_cases z : q = j
    · subst z; exact ax_pa _ _ _ _
    · rw [ax_pn (by omega)]; exact hv q (by omega)
  · rintro N L ⟨rfl, hs, hv⟩
    refine ax_iload_n dX10_habit_50 rfl ?_
    refine ax_bipush (v := 21) dX10_habit_51 (by decide) ?_
    refine ax_icmp_ge (tgt := 69) dX10_habit_53 (by decide) (fun hc => ?_) (fun hc => absurd ((nI_leI (a := 21) (by omega) (by omega)).mpr (by omega)) hc)
    refine ax_iload_n dX10_habit_69 rfl ?_
    refine ax_istore_n dX10_habit_70 (by decide) rfl ?_
    refine ax_iconst (v := 0) dX10_habit_71 (by decide) ?_
    refine ax_istore dX10_habit_72 (by decide) rfl ?_
    exact loop 21 (fun _ => -1) d 0 N _ _ _ _ hR.symm (by decide) rfl (by omega) hs hv
theorem c_safe (hok : lo_ok M.2) (hr : rr M r) (ho : rd_ok r) (hl : ∀ w, w < 3 → ml_law M w (lw w)) (x f : Int32) : ax_Met l G kX10_safe 4 0 0 M [av_r 90, av_i x, av_i f] (fun o M2 => rq M M2 o (qa_safe r lw x f)) := by
  have h9 := ho.1
  refine ax_body (by decide) (Nat.le_of_ble_eq_true rfl) ?_
  refine ax_aload_n dX10_safe_0 rfl ?_
  refine ax_iconst (v := 0) dX10_safe_1 (by decide) ?_
  refine ax_putI (f := 0) dX10_safe_2 acl_10 wd_1600 (by decide) rfl rfl (ax_nfI rfl) (lo_s hok 90 rfl) ?_
  refine ax_gen (fun M0 hM0 => ?_)
  have hok : lo_ok M0.2 := by rw [hM0]; exact hok
  have hr0 : rr M0 r := by rw [hM0]; exact rr_fr hr (fun n i q => ax_pn (by omega))
  have h00 : M0.1 90 0 = 0 := by rw [hM0, ax_pa]
  refine ax_aload_n dX10_safe_5 rfl ?_
  refine ax_join0 (¬ (0 ≤ x ∧ x ≤ iI (r 1) - 1)) 19 (1) (0) ?_ (fun ja jb => ?_)
  rotate_left
  · refine ax_aload_n dX10_safe_6 rfl ?_
    refine ax_iload_n dX10_safe_7 rfl ?_
    refine ax_callV (As := _) (d2 := _) (c1 := 0) (n1 := 0) (c_rIsCar (M := M0) hok hr0 _) dX10_safe_8 mX10_isCar wd_1919 acl_10 (lo_s hok 90 rfl) rfl (by omega) (by omega) (by omega) rfl rfl (fun _ _ h => by cases h.1) ?_
    rintro r M9 ⟨h1, h9⟩; cases h1; rw [h9]; clear h9 M9
    refine ax_ifB_ne (tgt := 18) dX10_safe_11 (by decide) (fun h11 => ?_) (fun h11 => ?_)
    · refine ax_iconst (v := 0) dX10_safe_18 (by decide) ?_
      first | (refine ja ?_; simp only [h11, and_self, and_true, true_and, not_true_eq_false, not_false_eq_true, or_true, true_or, or_false, false_or, or_self]; done) | (refine jb ?_; simp only [h11, and_self, and_true, true_and, not_true_eq_false, not_false_eq_true, or_true, true_or, or_false, false_or, or_self]; done) | exact ja h11 | exact jb (fun z => z h11) | exact ja (Or.inr h11) | exact ja (Or.inl h11)
    · refine ax_iconst (v := 1) dX10_safe_14 (by decide) ?_
      refine ax_goto (tgt := 19) dX10_safe_15 (by decide) ?_
      first | (refine ja ?_; simp only [h11, and_self, and_true, true_and, not_true_eq_false, not_false_eq_true, or_true, true_or, or_false, false_or, or_self]; done) | (refine jb ?_; simp only [h11, and_self, and_true, true_and, not_true_eq_false, not_false_eq_true, or_true, true_or, or_false, false_or, or_self]; done) | exact ja h11 | exact jb (fun z => z h11) | exact ja (Or.inr h11) | exact ja (Or.inl h11)
  refine ax_iconst (v := 1) dX10_safe_19 (by decide) ?_
  refine ax_iconst (v := 0) dX10_safe_20 (by decide) ?_
  refine ax_callV (As := _) (d2 := _) (c1 := 0) (n1 := 0) (c_badP (d := 0) (M := M0) (p := ¬ (0 ≤ x ∧ x ≤ iI (r 1) - 1)) hok h00 (w := 1) (k := 0) (by decide) (by decide) (by decide) rfl rfl) dX10_safe_21 mX10_bad wd_1775 acl_10 (lo_s hok 90 rfl) rfl (by omega) (by omega) (by omega) rfl rfl (fun _ _ h => by rcases h with ⟨_, h, _⟩ | ⟨_, h, _⟩ <;> cases h) ?_
  rintro o9 M9 (⟨g1, h1, h2⟩ | ⟨g1, h1, h2⟩) <;> cases h1 <;> rw [h2] <;> clear h2 M9
  · refine ax_if_ne (tgt := 50) dX10_safe_24 (by decide) (fun hc => ?_) (fun hc => ?_)
    · refine ax_iconst (v := 0) dX10_safe_50 (by decide) ?_
      refine ax_iret dX10_safe_51 rfl ?_
      exact rq_bad hM0 (w := 1) (k := 0) rfl (by unfold qa_safe; rw [if_pos g1])
    · exact absurd hc (by decide)
  refine ax_if_ne (tgt := 50) dX10_safe_24 (by decide) (fun hc => ?_) (fun hc => ?_)
  · exact absurd rfl hc
  refine ax_aload_n dX10_safe_27 rfl ?_
  refine ax_join0 (¬ (0 ≤ f ∧ f ≤ 1)) 42 (1) (0) ?_ (fun ja jb => ?_)
  rotate_left
  · refine ax_iload_n dX10_safe_28 rfl ?_
    refine ax_iconst (v := 0) dX10_safe_29 (by decide) ?_
    refine ax_iconst (v := 1) dX10_safe_30 (by decide) ?_
    refine ax_callS (As := _) (c1 := 0) (n1 := 0) (c_X10_in (d := 0) (M := M0) _ _ _) dX10_safe_31 mX10_in wd_1772 rfl (by omega) (by omega) (by omega) rfl rfl (fun _ _ h => by cases h.1) ?_
    rintro r M9 ⟨h1, h9⟩; cases h1; rw [h9]; clear h9 M9
    refine ax_ifB_ne (tgt := 41) dX10_safe_34 (by decide) (fun h34 => ?_) (fun h34 => ?_)
    · refine ax_iconst (v := 0) dX10_safe_41 (by decide) ?_
      first | (refine ja ?_; simp only [h34, and_self, and_true, true_and, not_true_eq_false, not_false_eq_true, or_true, true_or, or_false, false_or, or_self]; done) | (refine jb ?_; simp only [h34, and_self, and_true, true_and, not_true_eq_false, not_false_eq_true, or_true, true_or, or_false, false_or, or_self]; done) | exact ja h34 | exact jb (fun z => z h34) | exact ja (Or.inr h34) | exact ja (Or.inl h34)
    · refine ax_iconst (v := 1) dX10_safe_37 (by decide) ?_
      refine ax_goto (tgt := 42) dX10_safe_38 (by decide) ?_
      first | (refine ja ?_; simp only [h34, and_self, and_true, true_and, not_true_eq_false, not_false_eq_true, or_true, true_or, or_false, false_or, or_self]; done) | (refine jb ?_; simp only [h34, and_self, and_true, true_and, not_true_eq_false, not_false_eq_true, or_true, true_or, or_false, false_or, or_self]; done) | exact ja h34 | exact jb (fun z => z h34) | exact ja (Or.inr h34) | exact ja (Or.inl h34)
  refine ax_iconst (v := 2) dX10_safe_42 (by decide) ?_
  refine ax_iconst (v := 1) dX10_safe_43 (by decide) ?_
  refine ax_callV (As := _) (d2 := _) (c1 := 0) (n1 := 0) (c_badP (d := 0) (M := M0) (p := ¬ (0 ≤ f ∧ f ≤ 1)) hok h00 (w := 2) (k := 1) (by decide) (by decide) (by decide) rfl rfl) dX10_safe_44 mX10_bad wd_1775 acl_10 (lo_s hok 90 rfl) rfl (by omega) (by omega) (by omega) rfl rfl (fun _ _ h => by rcases h with ⟨_, h, _⟩ | ⟨_, h, _⟩ <;> cases h) ?_
  rintro o9 M9 (⟨g2, h1, h2⟩ | ⟨g2, h1, h2⟩) <;> cases h1 <;> rw [h2] <;> clear h2 M9
  · refine ax_if_eq (tgt := 52) dX10_safe_47 (by decide) (fun hc => ?_) (fun hc => ?_)
    · exact absurd hc (by decide)
    · refine ax_iconst (v := 0) dX10_safe_50 (by decide) ?_
      refine ax_iret dX10_safe_51 rfl ?_
      exact rq_bad hM0 (w := 2) (k := 1) rfl (by unfold qa_safe; rw [if_neg g1, if_pos g2])
  refine ax_if_eq (tgt := 52) dX10_safe_47 (by decide) (fun hc => ?_) (fun hc => ?_)
  rotate_left
  · exact absurd rfl hc
  obtain ⟨c, hc2, rfl⟩ := in_car (dn g1) (by omega) (by omega)
  have hl0 : ∀ w, w < 3 → ml_law M0 w (lw w) := fun w hw => by rw [hM0]; exact sf_law0 hw (hl w hw)
  obtain ⟨s, hs⟩ : ∃ s, s = fun p => ev_sight (lw 0) (sf_kn r c f p) := ⟨_, rfl⟩
  refine ax_iconst (v := 0) dX10_safe_52 (by decide) ?_
  refine ax_istore_n dX10_safe_53 (by decide) rfl ?_
  refine ax_iconst (v := 1) dX10_safe_54 (by decide) ?_
  refine ax_istore dX10_safe_55 (by decide) rfl ?_
  refine ax_for 10 (fun p N L => ∃ y5, L = [some (av_r 90), some (av_i (nI c)), some (av_i f), some (av_i (nI (sf_b s p))), some (av_i (nI p)), y5] ∧ sf M0 N ∧ 1 ≤ p) 57 ?_ ?_ (i := 1) (by omega) ⟨_, rfl, sf_0 _, by omega⟩
  · rintro p N0 L hp ⟨y5, rfl, fr, hp1⟩ next
    have hok : lo_ok N0.2 := by rw [fr.1]; exact hok
    refine ax_iload dX10_safe_57 rfl ?_
    refine ax_bipush (v := 10) dX10_safe_59 (by decide) ?_
    refine ax_icmp_ge (tgt := 196) dX10_safe_61 (by decide) (fun hc => absurd ((nI_leI (a := 10) (by omega) (by omega)).mp hc) (by omega)) (fun hc => ?_)
    refine ax_iconst (v := 0) dX10_safe_64 (by decide) ?_
    refine ax_istore dX10_safe_65 (by decide) rfl ?_
    refine ax_for 12 (fun j N L => L = [some (av_r 90), some (av_i (nI c)), some (av_i f), some (av_i (nI (sf_b s p))), some (av_i (nI p)), some (av_i (nI j))] ∧ kI N0 N j (fun _ => 0)) 67 ?_ ?_ (i := 0) (by omega) ⟨rfl, kI_0 _ _⟩
    · rintro j N L hj ⟨rfl, g⟩ next2
      have hok : lo_ok N.2 := by rw [g.1]; exact hok
      refine ax_iload dX10_safe_67 rfl ?_
      refine ax_bipush (v := 12) dX10_safe_69 (by decide) ?_
      refine ax_icmp_ge (tgt := 88) dX10_safe_71 (by decide) (fun hc => absurd ((nI_leI (a := 12) (by omega) (by omega)).mp hc) (by omega)) (fun hc => ?_)
      refine ax_aload_n dX10_safe_74 rfl ?_
      refine ax_getK (f := 27) 118 dX10_safe_75 acl_10 wd_1627 (by decide) rfl (lo_s hok 90 rfl) (lo_r hok 96 rfl) ?_
      refine ax_iload dX10_safe_78 rfl ?_
      refine ax_iconst (v := 0) dX10_safe_80 (by decide) ?_
      refine ax_iastN (j) dX10_safe_81 (lo_s hok 118 rfl) (by decide) (by first | with_reducible rfl | assumption | exact ax_nix (by simp only [nx_0, nx_1, nx_2, nx_3, nx_4, nx_10, nx_20, nx_21, nx_100, nI_add, pk_mul] <;> rfl) (by omega) | decide) (by omega) ?_
      refine ax_gen (fun N2 hN2 => ?_)
      have hok : lo_ok N2.2 := by rw [hN2]; exact hok
      refine ax_iinc (v := 1) dX10_safe_82 rfl (by decide) (by decide) rfl ?_
      refine ax_goto (tgt := 67) dX10_safe_85 (by decide) ?_
      exact next2 _ _ ⟨by rw [nI_1]; rfl, kI_s g hN2 rfl⟩
    · rintro N L ⟨rfl, g⟩
      have hok : lo_ok N.2 := by rw [g.1]; exact hok
      have hrN := kI_rr g (sf_rr fr hr0)
      have sN : sf M0 N := sf_tr fr ⟨g.1, fun n i q => g.2.1 n i (fun z => q (by unfold rs; omega))⟩
      refine ax_iload dX10_safe_67 rfl ?_
      refine ax_bipush (v := 12) dX10_safe_69 (by decide) ?_
      refine ax_icmp_ge (tgt := 88) dX10_safe_71 (by decide) (fun hc => ?_) (fun hc => absurd ((nI_leI (a := 12) (by omega) (by omega)).mpr (by omega)) hc)
      refine ax_aload_n dX10_safe_88 rfl ?_
      refine ax_getK (f := 27) 118 dX10_safe_89 acl_10 wd_1627 (by decide) rfl (lo_s hok 90 rfl) (lo_r hok 96 rfl) ?_
      refine ax_iconst (v := 0) dX10_safe_92 (by decide) ?_
      refine ax_aload_n dX10_safe_93 rfl ?_
      refine ax_getK (f := 12) 94 dX10_safe_94 acl_10 wd_1612 (by decide) rfl (lo_s hok 90 rfl) (lo_r hok 83 rfl) ?_
      refine ax_iload_n dX10_safe_97 rfl ?_
      refine ax_iconst (v := 1) dX10_safe_98 (by decide) ?_
      refine ax_join2 (f = 1) 108 (5) (6) ?_ (fun ja jb => ?_)
      rotate_left
      · refine ax_icmp_ne (tgt := 106) dX10_safe_99 (by decide) (fun h99 => ?_) (fun h99 => ?_)
        · refine ax_bipush (v := 6) dX10_safe_106 (by decide) ?_
          first | exact ja h99 | exact jb h99
        · refine ax_iconst (v := 5) dX10_safe_102 (by decide) ?_
          refine ax_goto (tgt := 108) dX10_safe_103 (by decide) ?_
          first | exact ja h99 | exact jb h99
      refine ax_ialdN (if f = 1 then 5 else 6) dX10_safe_108 (lo_s hok 94 rfl) (by decide) (by split <;> rfl) (by split <;> decide) ?_
      have e0 : N.1 94 (if f = 1 then 5 else 6) = iI (if f = 1 then r 5 else r 6) := by split <;> exact hrN.1 _ (by decide)
      rw [e0]
      refine ax_iastN (0) dX10_safe_109 (lo_s hok 118 rfl) (by decide) (by decide) (by decide) ?_
      refine ax_aload_n dX10_safe_110 rfl ?_
      refine ax_getK (f := 27) 118 dX10_safe_111 acl_10 wd_1627 (by decide) rfl (lo_s hok 90 rfl) (lo_r hok 96 rfl) ?_
      refine ax_iconst (v := 1) dX10_safe_114 (by decide) ?_
      refine ax_aload_n dX10_safe_115 rfl ?_
      refine ax_getK (f := 18) 100 dX10_safe_116 acl_10 wd_1618 (by decide) rfl (lo_s hok 90 rfl) (lo_r hok 89 rfl) ?_
      refine ax_bipush (v := 24) dX10_safe_119 (by decide) ?_
      refine ax_ialdN (24) dX10_safe_121 (lo_s hok 100 rfl) (by decide) (by decide) (by decide) ?_
      refine ax_iastN (1) dX10_safe_122 (lo_s hok 118 rfl) (by decide) (by decide) (by decide) ?_
      refine ax_aload_n dX10_safe_123 rfl ?_
      refine ax_getK (f := 27) 118 dX10_safe_124 acl_10 wd_1627 (by decide) rfl (lo_s hok 90 rfl) (lo_r hok 96 rfl) ?_
      refine ax_iconst (v := 3) dX10_safe_127 (by decide) ?_
      refine ax_aload_n dX10_safe_128 rfl ?_
      refine ax_getK (f := 14) 96 dX10_safe_129 acl_10 wd_1614 (by decide) rfl (lo_s hok 90 rfl) (lo_r hok 85 rfl) ?_
      refine ax_iload_n dX10_safe_132 rfl ?_
      refine ax_ialdN (c) dX10_safe_133 (lo_s hok 96 rfl) (by decide) (by first | with_reducible rfl | assumption | exact ax_nix (by simp only [nx_0, nx_1, nx_2, nx_3, nx_4, nx_10, nx_20, nx_21, nx_100, nI_add, pk_mul] <;> rfl) (by omega) | decide) (by omega) ?_
      refine ax_iastN (3) dX10_safe_134 (lo_s hok 118 rfl) (by decide) (by decide) (by decide) ?_
      refine ax_aload_n dX10_safe_135 rfl ?_
      refine ax_getK (f := 27) 118 dX10_safe_136 acl_10 wd_1627 (by decide) rfl (lo_s hok 90 rfl) (lo_r hok 96 rfl) ?_
      refine ax_iconst (v := 5) dX10_safe_139 (by decide) ?_
      refine ax_aload_n dX10_safe_140 rfl ?_
      refine ax_iload_n dX10_safe_141 rfl ?_
      refine ax_gen (fun N2 hN2 => ?_)
      have hok : lo_ok N2.2 := by rw [hN2]; exact hok
      have hr2 : rr N2 r := by rw [hN2]; exact rr_fr hrN (fun n i q => by rw [ax_pn (by omega), ax_pn (by omega), ax_pn (by omega)])
      refine ax_callV (As := _) (d2 := _) (c1 := 0) (n1 := 0) (c_rTilt (d := 0) (M := N2) hok hr2 (c := c) (by omega) rfl) dX10_safe_142 mX10_tiltOf wd_1927 acl_10 (lo_s hok 90 rfl) rfl (by omega) (by omega) (by omega) rfl rfl (fun _ _ h => by cases h.1) ?_
      rintro r M9 ⟨h1, h9⟩; cases h1; rw [h9]; clear h9 M9
      refine ax_iastN (5) dX10_safe_145 (lo_s hok 118 rfl) (by decide) (by decide) (by decide) ?_
      refine ax_aload_n dX10_safe_146 rfl ?_
      refine ax_getK (f := 27) 118 dX10_safe_147 acl_10 wd_1627 (by decide) rfl (lo_s hok 90 rfl) (lo_r hok 96 rfl) ?_
      refine ax_bipush (v := 6) dX10_safe_150 (by decide) ?_
      refine ax_iload dX10_safe_152 rfl ?_
      refine ax_iastN (6) dX10_safe_154 (lo_s hok 118 rfl) (by decide) (by decide) (by decide) ?_
      refine ax_aload_n dX10_safe_155 rfl ?_
      refine ax_getK (f := 27) 118 dX10_safe_156 acl_10 wd_1627 (by decide) rfl (lo_s hok 90 rfl) (lo_r hok 96 rfl) ?_
      refine ax_bipush (v := 8) dX10_safe_159 (by decide) ?_
      refine ax_bipush (v := 99) dX10_safe_161 (by decide) ?_
      refine ax_iastN (8) dX10_safe_163 (lo_s hok 118 rfl) (by decide) (by decide) (by decide) ?_
      refine ax_aload_n dX10_safe_164 rfl ?_
      refine ax_getK (f := 27) 118 dX10_safe_165 acl_10 wd_1627 (by decide) rfl (lo_s hok 90 rfl) (lo_r hok 96 rfl) ?_
      refine ax_bipush (v := 11) dX10_safe_168 (by decide) ?_
      refine ax_iload_n dX10_safe_170 rfl ?_
      refine ax_iastN (11) dX10_safe_171 (lo_s hok 118 rfl) (by decide) (by decide) (by decide) ?_
      refine ax_gen (fun N3 hN3 => ?_)
      have hok : lo_ok N3.2 := by rw [hN3]; exact hok
      have hk : ∀ k, k < 12 → N3.1 118 k = sf_kn r c f p k := by
        intro k hk
        have h0 := g.2.2 k hk
        have hfog : N.1 100 24 = iI (r 34) := hrN.2.1 24 (by decide)
        have hage : N.1 96 c = iI (r (40 + c)) := hrN.2.2.1 c (by omega)
        rw [hN3, hN2]
        simp only [ax_pI, ax_u2]
        rcases (show k = 0 ∨ k = 1 ∨ k = 2 ∨ k = 3 ∨ k = 4 ∨ k = 5 ∨ k = 6 ∨ k = 7 ∨ k = 8 ∨ k = 9 ∨ k = 10 ∨ k = 11 by omega) with rfl | rfl | rfl | rfl | rfl | rfl | rfl | rfl | rfl | rfl | rfl | rfl <;> simp [sf_kn, h0, hfog, hage]
      have hs3 : sf M0 N3 := sf_tr sN ⟨by rw [hN3, hN2]; rfl, fun n i q => by
        have hn : n ≠ 118 := fun z => q (by unfold rs; omega)
        rw [hN3, ax_pn (by omega), ax_pn (by omega), ax_pn (by omega), ax_pn (by omega), hN2, ax_pn (by omega), ax_pn (by omega), ax_pn (by omega)]⟩
      have hl3 : ml_law N3 0 (lw 0) := sf_law hs3 (by decide) (hl0 0 (by decide))
      refine ax_iconst (v := 2) dX10_safe_172 (by decide) ?_
      refine ax_iload dX10_safe_173 rfl ?_
      refine ax_imul dX10_safe_175 ?_
      refine ax_aload_n dX10_safe_176 rfl ?_
      refine ax_callV (As := _) (d2 := _) (c1 := 0) (n1 := 0) (c_X10_sightBy (M := N3) hok hl3 (by rw [hk 2 (by decide), show sf_kn r c f p 2 = 0 from rfl]; decide)) dX10_safe_177 mX10_sightBy wd_1985 acl_10 (lo_s hok 90 rfl) rfl (by omega) (by omega) (by omega) rfl rfl (fun _ _ h => by cases h.1) ?_
      rintro o9 N4 ⟨h1, f1⟩; cases h1
      have hok : lo_ok N4.2 := by rw [f1.1]; exact hok
      rw [ev_sight_cong hk (ml_law_ev hl3), nx_2, pk_mul]
      have esp : ev_sight (lw 0) (sf_kn r c f p) = s p := by rw [hs]
      rw [esp]
      have hsb : 0 ≤ (s p).toInt ∧ (s p).toInt ≤ 60 := by rw [hs]; exact ev_clamp_b _
      have hlt : s p < nI (2 * p) ↔ (s p).toInt < ((2 * p : Nat) : Int) := by rw [iv_lt, nI_toInt (by omega)]
      refine ax_join2 (((2 * p : Nat) : Int) ≤ (s p).toInt) 189 (nI p) (nI (sf_b s p)) ?_ (fun ja jb => ?_)
      rotate_left
      · refine ax_icmp_gt (tgt := 188) dX10_safe_180 (by decide) (fun h180 => ?_) (fun h180 => ?_)
        · refine ax_iload_n dX10_safe_188 rfl ?_
          first | exact jb (by have := hlt.mp h180; omega) | exact ja (Int.not_lt.mp (fun z => h180 (hlt.mpr z)))
        · refine ax_iload dX10_safe_183 rfl ?_
          refine ax_goto (tgt := 189) dX10_safe_185 (by decide) ?_
          first | exact jb (by have := hlt.mp h180; omega) | exact ja (Int.not_lt.mp (fun z => h180 (hlt.mpr z)))
      refine ax_istore_n dX10_safe_189 (by decide) rfl ?_
      refine ax_iinc (v := 1) dX10_safe_190 rfl (by decide) (by decide) rfl ?_
      refine ax_goto (tgt := 57) dX10_safe_193 (by decide) ?_
      refine next _ _ ⟨some (av_i (nI 12)), ?_, sf_tr hs3 (sf_ev f1), by omega⟩
      have eb : (if ((2 * p : Nat) : Int) ≤ (s p).toInt then nI p else nI (sf_b s p)) = nI (sf_b s (p + 1)) := by
        show _ = nI (if _ then _ else _)
        by_cases q : ((2 * p : Nat) : Int) ≤ (s p).toInt
        · rw [if_pos q, if_pos ⟨by omega, q⟩]
        · rw [if_neg q, if_neg (fun z => q z.2)]
      rw [eb, nI_1]; rfl
  · rintro N L ⟨y5, rfl, fr, _⟩
    refine ax_iload dX10_safe_57 rfl ?_
    refine ax_bipush (v := 10) dX10_safe_59 (by decide) ?_
    refine ax_icmp_ge (tgt := 196) dX10_safe_61 (by decide) (fun hc => ?_) (fun hc => absurd ((nI_leI (a := 10) (by omega) (by omega)).mpr (by omega)) hc)
    refine ax_iload_n dX10_safe_196 rfl ?_
    refine ax_iret dX10_safe_197 rfl ?_
    refine rq_sf hM0 fr ?_
    unfold qa_safe
    rw [if_neg g1, if_neg g2, nI_clamp (by omega), hs]
theorem c_blinds (hok : lo_ok M.2) (hr : rr M r) (ho : rd_ok r) (y : Int32) : ax_Met l G kX10_blinds 2 0 0 M [av_r 90, av_i y] (fun o M2 => rq M M2 o (qa_blinds r y)) := by
  refine ax_body (by decide) (Nat.le_of_ble_eq_true rfl) ?_
  refine ax_aload_n dX10_blinds_0 rfl ?_
  refine ax_iconst (v := 0) dX10_blinds_1 (by decide) ?_
  refine ax_putI (f := 0) dX10_blinds_2 acl_10 wd_1600 (by decide) rfl rfl (ax_nfI rfl) (lo_s hok 90 rfl) ?_
  refine ax_gen (fun M0 hM0 => ?_)
  have hok : lo_ok M0.2 := by rw [hM0]; exact hok
  have hr0 : rr M0 r := by rw [hM0]; exact rr_fr hr (fun n i q => ax_pn (by omega))
  have h00 : M0.1 90 0 = 0 := by rw [hM0, ax_pa]
  refine ax_aload_n dX10_blinds_5 rfl ?_
  refine ax_join0 (¬ (17 ≤ y ∧ y ≤ 99)) 22 (1) (0) ?_ (fun ja jb => ?_)
  rotate_left
  · refine ax_iload_n dX10_blinds_6 rfl ?_
    refine ax_bipush (v := 17) dX10_blinds_7 (by decide) ?_
    refine ax_bipush (v := 99) dX10_blinds_9 (by decide) ?_
    refine ax_callS (As := _) (c1 := 0) (n1 := 0) (c_X10_in (d := 0) (M := M0) _ _ _) dX10_blinds_11 mX10_in wd_1772 rfl (by omega) (by omega) (by omega) rfl rfl (fun _ _ h => by cases h.1) ?_
    rintro r M9 ⟨h1, h9⟩; cases h1; rw [h9]; clear h9 M9
    refine ax_ifB_ne (tgt := 21) dX10_blinds_14 (by decide) (fun h14 => ?_) (fun h14 => ?_)
    · refine ax_iconst (v := 0) dX10_blinds_21 (by decide) ?_
      first | (refine ja ?_; simp only [h14, and_self, and_true, true_and, not_true_eq_false, not_false_eq_true, or_true, true_or, or_false, false_or, or_self]; done) | (refine jb ?_; simp only [h14, and_self, and_true, true_and, not_true_eq_false, not_false_eq_true, or_true, true_or, or_false, false_or, or_self]; done) | exact ja h14 | exact jb (fun z => z h14) | exact ja (Or.inr h14) | exact ja (Or.inl h14)
    · refine ax_iconst (v := 1) dX10_blinds_17 (by decide) ?_
      refine ax_goto (tgt := 22) dX10_blinds_18 (by decide) ?_
      first | (refine ja ?_; simp only [h14, and_self, and_true, true_and, not_true_eq_false, not_false_eq_true, or_true, true_or, or_false, false_or, or_self]; done) | (refine jb ?_; simp only [h14, and_self, and_true, true_and, not_true_eq_false, not_false_eq_true, or_true, true_or, or_false, false_or, or_self]; done) | exact ja h14 | exact jb (fun z => z h14) | exact ja (Or.inr h14) | exact ja (Or.inl h14)
  refine ax_iconst (v := 1) dX10_blinds_22 (by decide) ?_
  refine ax_iconst (v := 1) dX10_blinds_23 (by decide) ?_
  refine ax_callV (As := _) (d2 := _) (c1 := 0) (n1 := 0) (c_badP (d := 0) (M := M0) (p := ¬ (17 ≤ y ∧ y ≤ 99)) hok h00 (w := 1) (k := 1) (by decide) (by decide) (by decide) rfl rfl) dX10_blinds_24 mX10_bad wd_1775 acl_10 (lo_s hok 90 rfl) rfl (by omega) (by omega) (by omega) rfl rfl (fun _ _ h => by rcases h with ⟨_, h, _⟩ | ⟨_, h, _⟩ <;> cases h) ?_
  rintro o9 M9 (⟨g1, h1, h2⟩ | ⟨g1, h1, h2⟩) <;> cases h1 <;> rw [h2] <;> clear h2 M9
  · refine ax_if_eq (tgt := 32) dX10_blinds_27 (by decide) (fun hc => ?_) (fun hc => ?_)
    · exact absurd hc (by decide)
    · refine ax_iconst (v := 0) dX10_blinds_30 (by decide) ?_
      refine ax_iret dX10_blinds_31 rfl ?_
      exact rq_bad hM0 (w := 1) (k := 1) rfl (by unfold qa_blinds; rw [if_pos g1])
  refine ax_if_eq (tgt := 32) dX10_blinds_27 (by decide) (fun hc => ?_) (fun hc => ?_)
  rotate_left
  · exact absurd rfl hc
  have hy := iv_in (dn g1)
  have h17 : (17 : Int32).toInt = 17 := rfl
  have h99 : (99 : Int32).toInt = 99 := rfl
  refine ax_aload_n dX10_blinds_32 rfl ?_
  refine ax_iload_n dX10_blinds_33 rfl ?_
  refine ax_callV (As := _) (d2 := _) (c1 := 0) (n1 := 0) (c_rBlinds (d := 0) (M := M0) hok hr0 ho y.toInt (by omega) (by omega) (iI_of y).symm) dX10_blinds_34 mX10_blindsFor wd_1977 acl_10 (lo_s hok 90 rfl) rfl (by omega) (by omega) (by omega) rfl rfl (fun _ _ h => by cases h.1) ?_
  rintro r M9 ⟨h1, h9⟩; cases h1; rw [h9]; clear h9 M9
  refine ax_iret dX10_blinds_37 rfl ?_
  exact rq_sf hM0 (sf_0 _) (by unfold qa_blinds; rw [if_neg g1])
theorem c_old (hok : lo_ok M.2) (hr : rr M r) (ho : rd_ok r) (n : Int32) : ax_Met l G kX10_old 2 0 0 M [av_r 90, av_i n] (fun o M2 => rq M M2 o (qa_old r n)) := by
  have h9 := ho.1
  refine ax_body (by decide) (Nat.le_of_ble_eq_true rfl) ?_
  refine ax_aload_n dX10_old_0 rfl ?_
  refine ax_iconst (v := 0) dX10_old_1 (by decide) ?_
  refine ax_putI (f := 0) dX10_old_2 acl_10 wd_1600 (by decide) rfl rfl (ax_nfI rfl) (lo_s hok 90 rfl) ?_
  refine ax_gen (fun M0 hM0 => ?_)
  have hok : lo_ok M0.2 := by rw [hM0]; exact hok
  have hr0 : rr M0 r := by rw [hM0]; exact rr_fr hr (fun n i q => ax_pn (by omega))
  have h00 : M0.1 90 0 = 0 := by rw [hM0, ax_pa]
  refine ax_aload_n dX10_old_5 rfl ?_
  refine ax_join0 (¬ (0 ≤ n ∧ n ≤ 20)) 21 (1) (0) ?_ (fun ja jb => ?_)
  rotate_left
  · refine ax_iload_n dX10_old_6 rfl ?_
    refine ax_iconst (v := 0) dX10_old_7 (by decide) ?_
    refine ax_bipush (v := 20) dX10_old_8 (by decide) ?_
    refine ax_callS (As := _) (c1 := 0) (n1 := 0) (c_X10_in (d := 0) (M := M0) _ _ _) dX10_old_10 mX10_in wd_1772 rfl (by omega) (by omega) (by omega) rfl rfl (fun _ _ h => by cases h.1) ?_
    rintro r M9 ⟨h1, h9⟩; cases h1; rw [h9]; clear h9 M9
    refine ax_ifB_ne (tgt := 20) dX10_old_13 (by decide) (fun h13 => ?_) (fun h13 => ?_)
    · refine ax_iconst (v := 0) dX10_old_20 (by decide) ?_
      first | (refine ja ?_; simp only [h13, and_self, and_true, true_and, not_true_eq_false, not_false_eq_true, or_true, true_or, or_false, false_or, or_self]; done) | (refine jb ?_; simp only [h13, and_self, and_true, true_and, not_true_eq_false, not_false_eq_true, or_true, true_or, or_false, false_or, or_self]; done) | exact ja h13 | exact jb (fun z => z h13) | exact ja (Or.inr h13) | exact ja (Or.inl h13)
    · refine ax_iconst (v := 1) dX10_old_16 (by decide) ?_
      refine ax_goto (tgt := 21) dX10_old_17 (by decide) ?_
      first | (refine ja ?_; simp only [h13, and_self, and_true, true_and, not_true_eq_false, not_false_eq_true, or_true, true_or, or_false, false_or, or_self]; done) | (refine jb ?_; simp only [h13, and_self, and_true, true_and, not_true_eq_false, not_false_eq_true, or_true, true_or, or_false, false_or, or_self]; done) | exact ja h13 | exact jb (fun z => z h13) | exact ja (Or.inr h13) | exact ja (Or.inl h13)
  refine ax_iconst (v := 1) dX10_old_21 (by decide) ?_
  refine ax_iconst (v := 1) dX10_old_22 (by decide) ?_
  refine ax_callV (As := _) (d2 := _) (c1 := 0) (n1 := 0) (c_badP (d := 0) (M := M0) (p := ¬ (0 ≤ n ∧ n ≤ 20)) hok h00 (w := 1) (k := 1) (by decide) (by decide) (by decide) rfl rfl) dX10_old_23 mX10_bad wd_1775 acl_10 (lo_s hok 90 rfl) rfl (by omega) (by omega) (by omega) rfl rfl (fun _ _ h => by rcases h with ⟨_, h, _⟩ | ⟨_, h, _⟩ <;> cases h) ?_
  rintro o9 M9 (⟨g1, h1, h2⟩ | ⟨g1, h1, h2⟩) <;> cases h1 <;> rw [h2] <;> clear h2 M9
  · refine ax_if_eq (tgt := 31) dX10_old_26 (by decide) (fun hc => ?_) (fun hc => ?_)
    · exact absurd hc (by decide)
    · refine ax_iconst (v := 0) dX10_old_29 (by decide) ?_
      refine ax_iret dX10_old_30 rfl ?_
      exact rq_bad hM0 (w := 1) (k := 1) rfl (by unfold qa_old; rw [if_pos g1])
  refine ax_if_eq (tgt := 31) dX10_old_26 (by decide) (fun hc => ?_) (fun hc => ?_)
  rotate_left
  · exact absurd rfl hc
  obtain ⟨m, hm, rfl⟩ := in_nat (dn g1) (n := 20) rfl (by decide)
  have hmi : (nI m).toInt = (m : Int) := nI_toInt (by omega)
  refine ax_bipush (v := 17) dX10_old_31 (by decide) ?_
  refine ax_istore_n dX10_old_33 (by decide) rfl ?_
  refine ax_for 100 (fun y N L => N = M0 ∧ L = [some (av_r 90), some (av_i (nI m)), some (av_i (nI y))] ∧ 17 ≤ y ∧ ∀ q, q < y → (decide (17 ≤ q) && decide ((nI m).toInt < r 35 + (q : Int) / 20)) = false) 34 ?_ ?_ (i := 17) (by omega) ⟨rfl, rfl, by omega, fun q z => by simp; omega⟩
  · rintro y N L hy ⟨rfl, rfl, h17, hq⟩ next
    refine ax_iload_n dX10_old_34 rfl ?_
    refine ax_bipush (v := 100) dX10_old_35 (by decide) ?_
    refine ax_icmp_ge (tgt := 57) dX10_old_37 (by decide) (fun hc => absurd ((nI_leI (a := 100) (by omega) (by omega)).mp hc) (by omega)) (fun hc => ?_)
    refine ax_aload_n dX10_old_40 rfl ?_
    refine ax_iload_n dX10_old_41 rfl ?_
    refine ax_callV (As := _) (d2 := _) (c1 := 0) (n1 := 0) (c_rBlinds (d := 0) (M := N) hok hr0 ho (y : Int) (by omega) (by omega) (iI_nI y)) dX10_old_42 mX10_blindsFor wd_1977 acl_10 (lo_s hok 90 rfl) rfl (by omega) (by omega) (by omega) rfl rfl (fun _ _ h => by cases h.1) ?_
    rintro r M9 ⟨h1, h9⟩; cases h1; rw [h9]; clear h9 M9
    have hle : iI (r 35 + (y : Int) / 20) ≤ nI m ↔ r 35 + (y : Int) / 20 ≤ (m : Int) := by rw [iI_nI m]; exact iI_le (by unfold iI_b; omega) (by unfold iI_b; omega)
    refine ax_iload_n dX10_old_45 rfl ?_
    refine ax_icmp_le (tgt := 51) dX10_old_46 (by decide) (fun hc => ?_) (fun hc => ?_)
    · have := hle.mp hc
      refine ax_iinc (v := 1) dX10_old_51 rfl (by decide) (by decide) rfl ?_
      refine ax_goto (tgt := 34) dX10_old_54 (by decide) ?_
      refine next _ _ ⟨rfl, by rw [nI_1]; rfl, by omega, fun q z => ?_⟩
      by_cases e : q = y
      · subst e; simp only [hmi, Bool.and_eq_false_iff, decide_eq_false_iff_not]; omega
      · exact hq q (by omega)
    · have : ¬ r 35 + (y : Int) / 20 ≤ (m : Int) := fun z => hc (hle.mpr z)
      refine ax_iload_n dX10_old_49 rfl ?_
      refine ax_iret dX10_old_50 rfl ?_
      refine rq_sf hM0 (sf_0 _) ?_
      unfold qa_old
      rw [if_neg g1, mt_first_of (p := fun y => decide (17 ≤ y) && decide ((nI m).toInt < r 35 + (y : Int) / 20)) (u := y) (by simp only [hmi, Bool.and_eq_true, decide_eq_true_eq]; omega) hq hy]
      rfl
  · rintro N L ⟨rfl, rfl, h17, hq⟩
    refine ax_iload_n dX10_old_34 rfl ?_
    refine ax_bipush (v := 100) dX10_old_35 (by decide) ?_
    refine ax_icmp_ge (tgt := 57) dX10_old_37 (by decide) (fun hc => ?_) (fun hc => absurd ((nI_leI (a := 100) (by omega) (by omega)).mpr (by omega)) hc)
    refine ax_iconst (v := (-1)) dX10_old_57 (by decide) ?_
    refine ax_iret dX10_old_58 rfl ?_
    refine rq_sf hM0 (sf_0 _) ?_
    unfold qa_old
    rw [if_neg g1, mt_first_no hq]
    rfl
theorem c_between (hok : lo_ok M.2) (hr : rr M r) (ho : rd_ok r) (y t : Int32) : ax_Met l G kX10_between 2 0 0 M [av_r 90, av_i y, av_i t] (fun o M2 => rq M M2 o (qa_between r y t)) := by
  refine ax_body (by decide) (Nat.le_of_ble_eq_true rfl) ?_
  refine ax_aload_n dX10_between_0 rfl ?_
  refine ax_iconst (v := 0) dX10_between_1 (by decide) ?_
  refine ax_putI (f := 0) dX10_between_2 acl_10 wd_1600 (by decide) rfl rfl (ax_nfI rfl) (lo_s hok 90 rfl) ?_
  refine ax_gen (fun M0 hM0 => ?_)
  have hok : lo_ok M0.2 := by rw [hM0]; exact hok
  have hr0 : rr M0 r := by rw [hM0]; exact rr_fr hr (fun n i q => ax_pn (by omega))
  have h00 : M0.1 90 0 = 0 := by rw [hM0, ax_pa]
  refine ax_aload_n dX10_between_5 rfl ?_
  refine ax_join0 (¬ (17 ≤ y ∧ y ≤ 99) ∨ ¬ (0 ≤ t ∧ t ≤ 60)) 32 (1) (0) ?_ (fun ja jb => ?_)
  rotate_left
  · refine ax_iload_n dX10_between_6 rfl ?_
    refine ax_bipush (v := 17) dX10_between_7 (by decide) ?_
    refine ax_bipush (v := 99) dX10_between_9 (by decide) ?_
    refine ax_callS (As := _) (c1 := 0) (n1 := 0) (c_X10_in (d := 0) (M := M0) _ _ _) dX10_between_11 mX10_in wd_1772 rfl (by omega) (by omega) (by omega) rfl rfl (fun _ _ h => by cases h.1) ?_
    rintro r M9 ⟨h1, h9⟩; cases h1; rw [h9]; clear h9 M9
    refine ax_ifB_eq (tgt := 27) dX10_between_14 (by decide) (fun h14 => ?_) (fun h14 => ?_)
    · refine ax_iconst (v := 1) dX10_between_27 (by decide) ?_
      refine ax_goto (tgt := 32) dX10_between_28 (by decide) ?_
      first | (refine ja ?_; simp only [h14, and_self, and_true, true_and, not_true_eq_false, not_false_eq_true, or_true, true_or, or_false, false_or, or_self]; done) | (refine jb ?_; simp only [h14, and_self, and_true, true_and, not_true_eq_false, not_false_eq_true, or_true, true_or, or_false, false_or, or_self]; done) | exact ja h14 | exact jb (fun z => z h14) | exact ja (Or.inr h14) | exact ja (Or.inl h14)
    · refine ax_iload_n dX10_between_17 rfl ?_
      refine ax_iconst (v := 0) dX10_between_18 (by decide) ?_
      refine ax_bipush (v := 60) dX10_between_19 (by decide) ?_
      refine ax_callS (As := _) (c1 := 0) (n1 := 0) (c_X10_in (d := 0) (M := M0) _ _ _) dX10_between_21 mX10_in wd_1772 rfl (by omega) (by omega) (by omega) rfl rfl (fun _ _ h => by cases h.1) ?_
      rintro r M9 ⟨h1, h9⟩; cases h1; rw [h9]; clear h9 M9
      refine ax_ifB_ne (tgt := 31) dX10_between_24 (by decide) (fun h24 => ?_) (fun h24 => ?_)
      · refine ax_iconst (v := 0) dX10_between_31 (by decide) ?_
        first | (refine ja ?_; simp only [h14, h24, and_self, and_true, true_and, not_true_eq_false, not_false_eq_true, or_true, true_or, or_false, false_or, or_self]; done) | (refine jb ?_; simp only [h14, h24, and_self, and_true, true_and, not_true_eq_false, not_false_eq_true, or_true, true_or, or_false, false_or, or_self]; done) | exact ja h24 | exact jb (fun z => z h24) | exact ja (Or.inr h24) | exact ja (Or.inl h24)
      · refine ax_iconst (v := 1) dX10_between_27 (by decide) ?_
        refine ax_goto (tgt := 32) dX10_between_28 (by decide) ?_
        first | (refine ja ?_; simp only [h14, h24, and_self, and_true, true_and, not_true_eq_false, not_false_eq_true, or_true, true_or, or_false, false_or, or_self]; done) | (refine jb ?_; simp only [h14, h24, and_self, and_true, true_and, not_true_eq_false, not_false_eq_true, or_true, true_or, or_false, false_or, or_self]; done) | exact ja h24 | exact jb (fun z => z h24) | exact ja (Or.inr h24) | exact ja (Or.inl h24)
  refine ax_iconst (v := 1) dX10_between_32 (by decide) ?_
  refine ax_iconst (v := 1) dX10_between_33 (by decide) ?_
  refine ax_callV (As := _) (d2 := _) (c1 := 0) (n1 := 0) (c_badP (d := 0) (M := M0) (p := ¬ (17 ≤ y ∧ y ≤ 99) ∨ ¬ (0 ≤ t ∧ t ≤ 60)) hok h00 (w := 1) (k := 1) (by decide) (by decide) (by decide) rfl rfl) dX10_between_34 mX10_bad wd_1775 acl_10 (lo_s hok 90 rfl) rfl (by omega) (by omega) (by omega) rfl rfl (fun _ _ h => by rcases h with ⟨_, h, _⟩ | ⟨_, h, _⟩ <;> cases h) ?_
  rintro o9 M9 (⟨g1, h1, h2⟩ | ⟨g1, h1, h2⟩) <;> cases h1 <;> rw [h2] <;> clear h2 M9
  · refine ax_if_eq (tgt := 42) dX10_between_37 (by decide) (fun hc => ?_) (fun hc => ?_)
    · exact absurd hc (by decide)
    · refine ax_iconst (v := 0) dX10_between_40 (by decide) ?_
      refine ax_zret dX10_between_41 rfl ?_ ?_
      · first | exact Or.inl rfl | exact Or.inr rfl
      · exact rq_bad hM0 (w := 1) (k := 1) rfl (by unfold qa_between; rw [if_pos g1])
  refine ax_if_eq (tgt := 42) dX10_between_37 (by decide) (fun hc => ?_) (fun hc => ?_)
  rotate_left
  · exact absurd rfl hc
  have hy := iv_in (dn (fun z => g1 (Or.inl z)))
  have h17 : (17 : Int32).toInt = 17 := rfl
  have h99 : (99 : Int32).toInt = 99 := rfl
  refine ax_iload_n dX10_between_42 rfl ?_
  refine ax_aload_n dX10_between_43 rfl ?_
  refine ax_iload_n dX10_between_44 rfl ?_
  refine ax_callV (As := _) (d2 := _) (c1 := 0) (n1 := 0) (c_rBlinds (d := 0) (M := M0) hok hr0 ho y.toInt (by omega) (by omega) (iI_of y).symm) dX10_between_45 mX10_blindsFor wd_1977 acl_10 (lo_s hok 90 rfl) rfl (by omega) (by omega) (by omega) rfl rfl (fun _ _ h => by cases h.1) ?_
  rintro r M9 ⟨h1, h9⟩; cases h1; rw [h9]; clear h9 M9
  refine ax_isub dX10_between_48 ?_
  refine ax_iconst (v := 3) dX10_between_49 (by decide) ?_
  refine ax_isub dX10_between_50 ?_
  refine ax_iconst (v := 2) dX10_between_51 (by decide) ?_
  refine ax_join2 (t - iI (r 35 + y.toInt / 20) - 3 < 2) 60 (0) (1) ?_ (fun ja jb => ?_)
  rotate_left
  · refine ax_icmp_lt (tgt := 59) dX10_between_52 (by decide) (fun h52 => ?_) (fun h52 => ?_)
    · refine ax_iconst (v := 0) dX10_between_59 (by decide) ?_
      first | exact ja h52 | exact jb h52
    · refine ax_iconst (v := 1) dX10_between_55 (by decide) ?_
      refine ax_goto (tgt := 60) dX10_between_56 (by decide) ?_
      first | exact ja h52 | exact jb h52
  refine ax_zret dX10_between_60 rfl ?_ ?_
  · split
    · exact Or.inl rfl
    · exact Or.inr rfl
  · exact rq_sf hM0 (sf_0 _) (by unfold qa_between; rw [if_neg g1])
theorem c_gets (hok : lo_ok M.2) (hr : rr M r) (a b : Int32) : ax_Met l G kX10_gets 2 0 0 M [av_r 90, av_i a, av_i b] (fun o M2 => rq M M2 o (qa_gets a b)) := by
  refine ax_body (by decide) (Nat.le_of_ble_eq_true rfl) ?_
  refine ax_aload_n dX10_gets_0 rfl ?_
  refine ax_iconst (v := 0) dX10_gets_1 (by decide) ?_
  refine ax_putI (f := 0) dX10_gets_2 acl_10 wd_1600 (by decide) rfl rfl (ax_nfI rfl) (lo_s hok 90 rfl) ?_
  refine ax_gen (fun M0 hM0 => ?_)
  have hok : lo_ok M0.2 := by rw [hM0]; exact hok
  have hr0 : rr M0 r := by rw [hM0]; exact rr_fr hr (fun n i q => ax_pn (by omega))
  have h00 : M0.1 90 0 = 0 := by rw [hM0, ax_pa]
  refine ax_aload_n dX10_gets_5 rfl ?_
  refine ax_join0 (¬ (1 ≤ a ∧ a ≤ 40) ∨ ¬ (1 ≤ b ∧ b ≤ 40)) 31 (1) (0) ?_ (fun ja jb => ?_)
  rotate_left
  · refine ax_iload_n dX10_gets_6 rfl ?_
    refine ax_iconst (v := 1) dX10_gets_7 (by decide) ?_
    refine ax_bipush (v := 40) dX10_gets_8 (by decide) ?_
    refine ax_callS (As := _) (c1 := 0) (n1 := 0) (c_X10_in (d := 0) (M := M0) _ _ _) dX10_gets_10 mX10_in wd_1772 rfl (by omega) (by omega) (by omega) rfl rfl (fun _ _ h => by cases h.1) ?_
    rintro r M9 ⟨h1, h9⟩; cases h1; rw [h9]; clear h9 M9
    refine ax_ifB_eq (tgt := 26) dX10_gets_13 (by decide) (fun h13 => ?_) (fun h13 => ?_)
    · refine ax_iconst (v := 1) dX10_gets_26 (by decide) ?_
      refine ax_goto (tgt := 31) dX10_gets_27 (by decide) ?_
      first | (refine ja ?_; simp only [h13, and_self, and_true, true_and, not_true_eq_false, not_false_eq_true, or_true, true_or, or_false, false_or, or_self]; done) | (refine jb ?_; simp only [h13, and_self, and_true, true_and, not_true_eq_false, not_false_eq_true, or_true, true_or, or_false, false_or, or_self]; done) | exact ja h13 | exact jb (fun z => z h13) | exact ja (Or.inr h13) | exact ja (Or.inl h13)
    · refine ax_iload_n dX10_gets_16 rfl ?_
      refine ax_iconst (v := 1) dX10_gets_17 (by decide) ?_
      refine ax_bipush (v := 40) dX10_gets_18 (by decide) ?_
      refine ax_callS (As := _) (c1 := 0) (n1 := 0) (c_X10_in (d := 0) (M := M0) _ _ _) dX10_gets_20 mX10_in wd_1772 rfl (by omega) (by omega) (by omega) rfl rfl (fun _ _ h => by cases h.1) ?_
      rintro r M9 ⟨h1, h9⟩; cases h1; rw [h9]; clear h9 M9
      refine ax_ifB_ne (tgt := 30) dX10_gets_23 (by decide) (fun h23 => ?_) (fun h23 => ?_)
      · refine ax_iconst (v := 0) dX10_gets_30 (by decide) ?_
        first | (refine ja ?_; simp only [h13, h23, and_self, and_true, true_and, not_true_eq_false, not_false_eq_true, or_true, true_or, or_false, false_or, or_self]; done) | (refine jb ?_; simp only [h13, h23, and_self, and_true, true_and, not_true_eq_false, not_false_eq_true, or_true, true_or, or_false, false_or, or_self]; done) | exact ja h23 | exact jb (fun z => z h23) | exact ja (Or.inr h23) | exact ja (Or.inl h23)
      · refine ax_iconst (v := 1) dX10_gets_26 (by decide) ?_
        refine ax_goto (tgt := 31) dX10_gets_27 (by decide) ?_
        first | (refine ja ?_; simp only [h13, h23, and_self, and_true, true_and, not_true_eq_false, not_false_eq_true, or_true, true_or, or_false, false_or, or_self]; done) | (refine jb ?_; simp only [h13, h23, and_self, and_true, true_and, not_true_eq_false, not_false_eq_true, or_true, true_or, or_false, false_or, or_self]; done) | exact ja h23 | exact jb (fun z => z h23) | exact ja (Or.inr h23) | exact ja (Or.inl h23)
  refine ax_iconst (v := 1) dX10_gets_31 (by decide) ?_
  refine ax_iconst (v := 1) dX10_gets_32 (by decide) ?_
  refine ax_callV (As := _) (d2 := _) (c1 := 0) (n1 := 0) (c_badP (d := 0) (M := M0) (p := ¬ (1 ≤ a ∧ a ≤ 40) ∨ ¬ (1 ≤ b ∧ b ≤ 40)) hok h00 (w := 1) (k := 1) (by decide) (by decide) (by decide) rfl rfl) dX10_gets_33 mX10_bad wd_1775 acl_10 (lo_s hok 90 rfl) rfl (by omega) (by omega) (by omega) rfl rfl (fun _ _ h => by rcases h with ⟨_, h, _⟩ | ⟨_, h, _⟩ <;> cases h) ?_
  rintro o9 M9 (⟨g1, h1, h2⟩ | ⟨g1, h1, h2⟩) <;> cases h1 <;> rw [h2] <;> clear h2 M9
  · refine ax_if_eq (tgt := 41) dX10_gets_36 (by decide) (fun hc => ?_) (fun hc => ?_)
    · exact absurd hc (by decide)
    · refine ax_iconst (v := 0) dX10_gets_39 (by decide) ?_
      refine ax_iret dX10_gets_40 rfl ?_
      exact rq_bad hM0 (w := 1) (k := 1) rfl (by unfold qa_gets; rw [if_pos g1])
  refine ax_if_eq (tgt := 41) dX10_gets_36 (by decide) (fun hc => ?_) (fun hc => ?_)
  rotate_left
  · exact absurd rfl hc
  refine ax_iload_n dX10_gets_41 rfl ?_
  refine ax_iload_n dX10_gets_42 rfl ?_
  refine ax_callS (As := _) (c1 := 0) (n1 := 0) (c_X10_getsBy (M := M0) _ _) dX10_gets_43 mX10_getsBy wd_2095 rfl (by omega) (by omega) (by omega) rfl rfl (fun _ _ h => by cases h.1) ?_
  rintro r M9 ⟨h1, h9⟩; cases h1; rw [h9]; clear h9 M9
  refine ax_iret dX10_gets_46 rfl ?_
  exact rq_sf hM0 (sf_0 _) (by unfold qa_gets; rw [if_neg g1]; rfl)
end QD

