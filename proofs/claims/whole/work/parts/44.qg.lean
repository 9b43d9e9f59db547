/-! ===== the book: the reference ===== -/
abbrev bk_T : Type := Nat → Nat × Int32
def mb (M : ax_M) (n : Nat) (bk : bk_T) : Prop := M.1 90 32 = nI n ∧ n ≤ 12 ∧ ∀ k, k < n → M.1 (120 + k) 0 = nI (bk k).1 ∧ (bk k).1 ≤ 99 ∧ M.1 (120 + k) 1 = (bk k).2
theorem mb_fr {M M2 : ax_M} {n : Nat} {bk : bk_T} (h : mb M n bk) (e : ∀ m i, (m = 90 ∧ i = 32) ∨ (120 ≤ m ∧ m ≤ 131) → M2.1 m i = M.1 m i) : mb M2 n bk :=
  ⟨(e 90 32 (by omega)).trans h.1, h.2.1, fun k hk => by have := h.2.1; rw [e (120 + k) 0 (by omega), e (120 + k) 1 (by omega)]; exact h.2.2 k hk⟩
theorem mb_sf {M M2 : ax_M} {n : Nat} {bk : bk_T} (h : mb M n bk) (hs : sf M M2) : mb M2 n bk := mb_fr h (fun m i q => hs.2 m i (by unfold rs; omega))
theorem mb_mt {M M2 : ax_M} {n : Nat} {bk : bk_T} (h : mb M n bk) (hs : mt_fr M M2) : mb M2 n bk := mb_sf h (sf_mt hs)
/-- line k is right -/
def ln (r : Nat → Int) (lw : mt_L) (d : Nat → Int32) (bk : bk_T) (k : Nat) : Bool := decide ((bk k).1 < mt_T r) && (mt_on r 1 (bk k).1 && decide (mt_f r lw d 1 (bk k).1 = (bk k).2))
def rl (r : Nat → Int) (lw : mt_L) (d : Nat → Int32) (n : Nat) (bk : bk_T) : Option Nat := mt_first (fun k => !ln r lw d bk k) n
def qa_right (r : Nat → Int) (lw : mt_L) (n : Nat) (bk : bk_T) : ax_V ⊕ (Nat × Nat) := if r 1 < 2 then .inr (1, 2) else .inl (av_i (nI ((rl r lw mt_n n bk).getD n)))
def fit (r : Nat → Int) (lw : mt_L) (n : Nat) (bk : bk_T) (d : Nat) : Bool := (rl r lw (mt_d (-1) (nI d)) n bk).isNone
def db (p : Nat → Bool) : Nat → Int64
  | 0 => 0
  | d + 1 => db p d ||| (if p d = true then 1 <<< ((nI d).toInt64 &&& 63) else 0)
def qa_distances (r : Nat → Int) (lw : mt_L) (n : Nat) (bk : bk_T) : ax_V ⊕ (Nat × Nat) := if r 1 < 2 then .inr (1, 2) else .inl (av_l (db (fit r lw n bk) 41))
def inb (n : Nat) (bk : bk_T) (t : Nat) : Bool := (mt_first (fun k => decide ((bk k).1 = t)) n).isSome
/-- bit d -/
def bt (bits : Int64) (d : Nat) : Bool := !decide (bits >>> ((nI d).toInt64 &&& 63) &&& 1 = 0)
def lk_p (r : Nat → Int) (lw : mt_L) (bits : Int64) (t d : Nat) : Bool := bt bits d && (mt_on r 1 t && decide (mt_f r lw (mt_d (-1) (nI d)) 1 t = 1))
def lk_w (r : Nat → Int) (lw : mt_L) (bits : Int64) (t : Nat) : Nat := max (mt_cnt (lk_p r lw bits t) 41) (mt_cnt (bt bits) 41 - mt_cnt (lk_p r lw bits t) 41)
/-- of the candidates the first with the least w -/
def lkb (cand : Nat → Bool) (w : Nat → Nat) : Nat → Option Nat
  | 0 => none
  | t + 1 => if cand t = true ∧ (∀ u, lkb cand w t = some u → w t < w u) then some t else lkb cand w t
def lk_c (r : Nat → Int) (n : Nat) (bk : bk_T) (t : Nat) : Bool := mt_on r 1 t && !inb n bk t
def qv_look (r : Nat → Int) (lw : mt_L) (n : Nat) (bk : bk_T) (k : Nat) : Int32 := match lkb (lk_c r n bk) (lk_w r lw (db (fit r lw n bk) 41)) (mt_T r) with
  | none => -1
  | some u => if k = 0 then nI u else nI (lk_w r lw (db (fit r lw n bk) 41) u)
def qa_look (r : Nat → Int) (lw : mt_L) (n : Nat) (bk : bk_T) (x : Int32) : ax_V ⊕ (Nat × Nat) := if ¬ (0 ≤ x ∧ x ≤ 1) then .inr (1, 1) else if r 1 < 2 then .inr (2, 2) else .inl (av_i (qv_look r lw n bk x.toNatClampNeg))
theorem mt_cnt_sub {p q : Nat → Bool} (h : ∀ k, p k = true → q k = true) : ∀ n, mt_cnt p n ≤ mt_cnt q n
  | 0 => Nat.le_refl _
  | n + 1 => by
    have := mt_cnt_sub h n
    show mt_cnt p n + _ ≤ mt_cnt q n + _
    by_cases a : p n = true
    · rw [if_pos a, if_pos (h n a)]; omega
    · rw [if_neg a]; omega
section QG
variable {l : Launch} {G : ax_G} {M : ax_M} {r : Nat → Int} {lw : mt_L} {dd : Nat → Int32} {n : Nat} {bk : bk_T}
theorem c_isLine {d : Nat} (hok : lo_ok M.2) (ho : rd_ok r) (hR : mt_R M r lw dd) (hb : mb M n bk) {k : Nat} (hk : k < n) {x : Int32} (hx : x = nI k) : ax_Met l G kX10_isLine d 0 0 M [av_r 90, av_i x] (ax_p (av_i (if ln r lw dd bk k = true then 1 else 0)) M) := by
  subst hx
  have hTT := mt_T_le r
  have hn := hb.2.1
  obtain ⟨b1, b2, b3⟩ := hb.2.2 k hk
  refine ax_body (by decide) (Nat.le_of_ble_eq_true rfl) ?_
  refine ax_aload_n dX10_isLine_0 rfl ?_
  refine ax_getK (f := 28) 119 dX10_isLine_1 acl_10 wd_1628 (by decide) rfl (lo_s hok 90 rfl) (lo_r hok 97 rfl) ?_
  refine ax_iload_n dX10_isLine_4 rfl ?_
  refine ax_aaldN2 (120 + (k)) (k) dX10_isLine_5 (lo_s hok 119 rfl) (by decide) (by first | with_reducible rfl | assumption | exact ax_nix (by simp only [nx_0, nx_1, nx_2, nx_3, nx_4, nx_10, nx_20, nx_21, nx_100, nI_add, pk_mul] <;> rfl) (by omega) | decide) (by omega) (lo_w_m_book hok (by omega)) ?_
  refine ax_iconst (v := 0) dX10_isLine_6 (by decide) ?_
  refine ax_ialdN (0) dX10_isLine_7 (by first | assumption | exact lo_tz hok (by omega) (by omega) | exact lo_z_m_wet hok (by omega) | exact lo_z_m_readWet hok (by omega) | exact lo_z_m_law hok (by omega) | exact lo_z_m_book hok (by omega) | exact lo_z_m_readBook hok (by omega) | exact lo_z_m_before hok (by omega) | exact lo_z_m_kept hok (by omega) | exact lo_z_m_seenAt hok (by omega) | exact lo_z_m_seenIn hok (by omega) | exact lo_z_m_t0 hok (by omega) | exact lo_z_m_t1 hok (by omega) | exact lo_z_m_c0 hok (by omega) | exact lo_z_m_c1 hok (by omega) | exact lo_z_x_kept hok (by omega)) (by decide) (by decide) (by decide) ?_
  rw [b1]
  refine ax_istore_n dX10_isLine_8 (by decide) rfl ?_
  refine ax_iload_n dX10_isLine_9 rfl ?_
  refine ax_aload_n dX10_isLine_10 rfl ?_
  refine ax_getI (f := 46) dX10_isLine_11 acl_10 wd_1646 (by decide) rfl (lo_s hok 90 rfl) ?_
  rw [hR.2.1]
  refine ax_icmp_ge (tgt := 56) dX10_isLine_14 (by decide) (fun hc => ?_) (fun hc => ?_)
  · have := (nI_leI (by omega) (by omega)).mp hc
    refine ax_iconst (v := 0) dX10_isLine_56 (by decide) ?_
    refine ax_zret dX10_isLine_57 rfl ?_ ?_
    · exact Or.inl rfl
    · rw [if_neg (by unfold ln; simp; omega)]; exact ⟨rfl, rfl⟩
  · have htT : (bk k).1 < mt_T r := by
      rcases Nat.lt_or_ge (bk k).1 (mt_T r) with q | q
      · exact q
      · exact absurd ((nI_leI (by omega) (by omega)).mpr q) hc
    have hrw := (hR.1 1 (by decide)).2.2.2.2.2.2.2 _ htT
    have hz : M.1 (272 + (bk k).1) 0 = -1 ↔ mt_on r 1 (bk k).1 = false := by have := mt_rw_on ho (c := 1) (by omega) (by omega) hrw; simpa using this
    have hf : mt_on r 1 (bk k).1 = true → M.1 (272 + (bk k).1) 1 = mt_f r lw dd 1 (bk k).1 := fun q => by have := (hrw.1 q).2.1; simpa using this
    refine ax_aload_n dX10_isLine_17 rfl ?_
    refine ax_getK (f := 36) 170 dX10_isLine_18 acl_10 wd_1636 (by decide) rfl (lo_s hok 90 rfl) (lo_r hok 101 rfl) ?_
    refine ax_iconst (v := 1) dX10_isLine_21 (by decide) ?_
    refine ax_aaldN3 271 1 dX10_isLine_22 (lo_s hok 170 rfl) (by decide) (by decide) (by decide) (lo_r hok 174 rfl) ?_
    refine ax_iload_n dX10_isLine_23 rfl ?_
    refine ax_aaldN2 (272 + ((bk k).1)) ((bk k).1) dX10_isLine_24 (lo_s hok 271 rfl) (by decide) (by first | with_reducible rfl | assumption | exact ax_nix (by simp only [nx_0, nx_1, nx_2, nx_3, nx_4, nx_10, nx_20, nx_21, nx_100, nI_add, pk_mul] <;> rfl) (by omega) | decide) (by omega) (lo_w_m_t1 hok (by omega)) ?_
    refine ax_iconst (v := 0) dX10_isLine_25 (by decide) ?_
    refine ax_ialdN (0) dX10_isLine_26 (by first | assumption | exact lo_tz hok (by omega) (by omega) | exact lo_z_m_wet hok (by omega) | exact lo_z_m_readWet hok (by omega) | exact lo_z_m_law hok (by omega) | exact lo_z_m_book hok (by omega) | exact lo_z_m_readBook hok (by omega) | exact lo_z_m_before hok (by omega) | exact lo_z_m_kept hok (by omega) | exact lo_z_m_seenAt hok (by omega) | exact lo_z_m_seenIn hok (by omega) | exact lo_z_m_t0 hok (by omega) | exact lo_z_m_t1 hok (by omega) | exact lo_z_m_c0 hok (by omega) | exact lo_z_m_c1 hok (by omega) | exact lo_z_x_kept hok (by omega)) (by decide) (by decide) (by decide) ?_
    refine ax_iconst (v := (-1)) dX10_isLine_27 (by decide) ?_
    refine ax_icmp_eq (tgt := 56) dX10_isLine_28 (by decide) (fun hc => ?_) (fun hc => ?_)
    · refine ax_iconst (v := 0) dX10_isLine_56 (by decide) ?_
      refine ax_zret dX10_isLine_57 rfl ?_ ?_
      · exact Or.inl rfl
      · rw [if_neg (by unfold ln; simp [hz.mp hc])]; exact ⟨rfl, rfl⟩
    · have hon : mt_on r 1 (bk k).1 = true := Decidable.byContradiction (fun q => hc (hz.mpr (mt_nf q)))
      refine ax_aload_n dX10_isLine_31 rfl ?_
      refine ax_getK (f := 36) 170 dX10_isLine_32 acl_10 wd_1636 (by decide) rfl (lo_s hok 90 rfl) (lo_r hok 101 rfl) ?_
      refine ax_iconst (v := 1) dX10_isLine_35 (by decide) ?_
      refine ax_aaldN3 271 1 dX10_isLine_36 (lo_s hok 170 rfl) (by decide) (by decide) (by decide) (lo_r hok 174 rfl) ?_
      refine ax_iload_n dX10_isLine_37 rfl ?_
      refine ax_aaldN2 (272 + ((bk k).1)) ((bk k).1) dX10_isLine_38 (lo_s hok 271 rfl) (by decide) (by first | with_reducible rfl | assumption | exact ax_nix (by simp only [nx_0, nx_1, nx_2, nx_3, nx_4, nx_10, nx_20, nx_21, nx_100, nI_add, pk_mul] <;> rfl) (by omega) | decide) (by omega) (lo_w_m_t1 hok (by omega)) ?_
      refine ax_iconst (v := 1) dX10_isLine_39 (by decide) ?_
      refine ax_ialdN (1) dX10_isLine_40 (by first | assumption | exact lo_tz hok (by omega) (by omega) | exact lo_z_m_wet hok (by omega) | exact lo_z_m_readWet hok (by omega) | exact lo_z_m_law hok (by omega) | exact lo_z_m_book hok (by omega) | exact lo_z_m_readBook hok (by omega) | exact lo_z_m_before hok (by omega) | exact lo_z_m_kept hok (by omega) | exact lo_z_m_seenAt hok (by omega) | exact lo_z_m_seenIn hok (by omega) | exact lo_z_m_t0 hok (by omega) | exact lo_z_m_t1 hok (by omega) | exact lo_z_m_c0 hok (by omega) | exact lo_z_m_c1 hok (by omega) | exact lo_z_x_kept hok (by omega)) (by decide) (by decide) (by decide) ?_
      refine ax_aload_n dX10_isLine_41 rfl ?_
      refine ax_getK (f := 28) 119 dX10_isLine_42 acl_10 wd_1628 (by decide) rfl (lo_s hok 90 rfl) (lo_r hok 97 rfl) ?_
      refine ax_iload_n dX10_isLine_45 rfl ?_
      refine ax_aaldN2 (120 + (k)) (k) dX10_isLine_46 (lo_s hok 119 rfl) (by decide) (by first | with_reducible rfl | assumption | exact ax_nix (by simp only [nx_0, nx_1, nx_2, nx_3, nx_4, nx_10, nx_20, nx_21, nx_100, nI_add, pk_mul] <;> rfl) (by omega) | decide) (by omega) (lo_w_m_book hok (by omega)) ?_
      refine ax_iconst (v := 1) dX10_isLine_47 (by decide) ?_
      refine ax_ialdN (1) dX10_isLine_48 (by first | assumption | exact lo_tz hok (by omega) (by omega) | exact lo_z_m_wet hok (by omega) | exact lo_z_m_readWet hok (by omega) | exact lo_z_m_law hok (by omega) | exact lo_z_m_book hok (by omega) | exact lo_z_m_readBook hok (by omega) | exact lo_z_m_before hok (by omega) | exact lo_z_m_kept hok (by omega) | exact lo_z_m_seenAt hok (by omega) | exact lo_z_m_seenIn hok (by omega) | exact lo_z_m_t0 hok (by omega) | exact lo_z_m_t1 hok (by omega) | exact lo_z_m_c0 hok (by omega) | exact lo_z_m_c1 hok (by omega) | exact lo_z_x_kept hok (by omega)) (by decide) (by decide) (by decide) ?_
      rw [hf hon, b3]
      refine ax_icmp_ne (tgt := 56) dX10_isLine_49 (by decide) (fun hc => ?_) (fun hc => ?_)
      · refine ax_iconst (v := 0) dX10_isLine_56 (by decide) ?_
        refine ax_zret dX10_isLine_57 rfl ?_ ?_
        · exact Or.inl rfl
        · rw [if_neg (by unfold ln; simp [hc])]; exact ⟨rfl, rfl⟩
      · refine ax_iconst (v := 1) dX10_isLine_52 (by decide) ?_
        refine ax_goto (tgt := 57) dX10_isLine_53 (by decide) ?_
        refine ax_zret dX10_isLine_57 rfl ?_ ?_
        · exact Or.inr rfl
        · rw [if_pos (by unfold ln; simp [hc, hon, htT])]; exact ⟨rfl, rfl⟩
theorem c_rightLines (hok : lo_ok M.2) (ho : rd_ok r) (hR : mt_R M r lw dd) (hb : mb M n bk) : ax_Met l G kX10_rightLines 1 0 0 M [av_r 90] (ax_p (av_i (nI ((rl r lw dd n bk).getD n))) M) := by
  have hn := hb.2.1
  refine ax_body (by decide) (Nat.le_of_ble_eq_true rfl) ?_
  refine ax_iconst (v := 0) dX10_rightLines_0 (by decide) ?_
  refine ax_istore_n dX10_rightLines_1 (by decide) rfl ?_
  refine ax_for n (fun k N L => N = M ∧ L = [some (av_r 90), some (av_i (nI k))] ∧ ∀ q, q < k → (!ln r lw dd bk q) = false) 2 ?_ ?_ (i := 0) (by omega) ⟨rfl, rfl, fun q z => by omega⟩
  · rintro k N L hk ⟨rfl, rfl, hq⟩ next
    refine ax_iload_n dX10_rightLines_2 rfl ?_
    refine ax_aload_n dX10_rightLines_3 rfl ?_
    refine ax_getI (f := 32) dX10_rightLines_4 acl_10 wd_1632 (by decide) rfl (lo_s hok 90 rfl) ?_
    rw [hb.1]
    refine ax_icmp_ge (tgt := 24) dX10_rightLines_7 (by decide) (fun hc => absurd ((nI_leI (by omega) (by omega)).mp hc) (by omega)) (fun hc => ?_)
    refine ax_aload_n dX10_rightLines_10 rfl ?_
    refine ax_iload_n dX10_rightLines_11 rfl ?_
    refine ax_callV (As := _) (d2 := _) (c1 := 0) (n1 := 0) (c_isLine (d := 0) (M := N) hok ho hR hb hk rfl) dX10_rightLines_12 mX10_isLine wd_2117 acl_10 (lo_s hok 90 rfl) rfl (by omega) (by omega) (by omega) rfl rfl (fun _ _ h => by cases h.1) ?_
    rintro r M9 ⟨h1, h9⟩; cases h1; rw [h9]; clear h9 M9
    refine ax_ifB_eq (tgt := 24) dX10_rightLines_15 (by decide) (fun hc => ?_) (fun hc => ?_)
    · refine ax_iload_n dX10_rightLines_24 rfl ?_
      refine ax_iret dX10_rightLines_25 rfl ?_
      refine ⟨?_, rfl⟩
      unfold rl
      rw [mt_first_of (u := k) (by rw [mt_nf hc]; rfl) hq hk]
      rfl
    · refine ax_iinc (v := 1) dX10_rightLines_18 rfl (by decide) (by decide) rfl ?_
      refine ax_goto (tgt := 2) dX10_rightLines_21 (by decide) ?_
      refine next _ _ ⟨rfl, by rw [nI_1]; rfl, fun q z => ?_⟩
      by_cases e : q = k
      · subst e; rw [hc]; rfl
      · exact hq q (by omega)
  · rintro N L ⟨rfl, rfl, hq⟩
    refine ax_iload_n dX10_rightLines_2 rfl ?_
    refine ax_aload_n dX10_rightLines_3 rfl ?_
    refine ax_getI (f := 32) dX10_rightLines_4 acl_10 wd_1632 (by decide) rfl (lo_s hok 90 rfl) ?_
    rw [hb.1]
    refine ax_icmp_ge (tgt := 24) dX10_rightLines_7 (by decide) (fun hc => ?_) (fun hc => absurd ((nI_leI (by omega) (by omega)).mpr (by omega)) hc)
    refine ax_iload_n dX10_rightLines_24 rfl ?_
    refine ax_iret dX10_rightLines_25 rfl ?_
    refine ⟨?_, rfl⟩
    unfold rl
    rw [mt_first_no hq]
    rfl
theorem c_distancesNow (hok : lo_ok M.2) (hr : rr M r) (ho : rd_ok r) (hl : ∀ w, w < 3 → ml_law M w (lw w)) (hb : mb M n bk) : ax_Met l G kX10_distancesNow 7 0 0 M [av_r 90] (fun o M2 => o = .inl (some (av_l (db (fit r lw n bk) 41))) ∧ mt_fr M M2) := by
  have hn := hb.2.1
  refine ax_body (by decide) (Nat.le_of_ble_eq_true rfl) ?_
  refine ax_lconst (v := 0) dX10_distancesNow_0 (by decide) ?_
  refine ax_lstore_n dX10_distancesNow_1 (by decide) rfl ?_
  refine ax_iconst (v := 0) dX10_distancesNow_2 (by decide) ?_
  refine ax_istore_n dX10_distancesNow_3 (by decide) rfl ?_
  refine ax_for 41 (fun d N L => L = [some (av_r 90), some (av_l (db (fit r lw n bk) d)), none, some (av_i (nI d))] ∧ mt_fr M N) 4 ?_ ?_ (i := 0) (by omega) ⟨rfl, mt_fr_0 _⟩
  · rintro d N L hd ⟨rfl, fr⟩ next
    have hok : lo_ok N.2 := by rw [fr.1]; exact hok
    refine ax_iload_n dX10_distancesNow_4 rfl ?_
    refine ax_bipush (v := 40) dX10_distancesNow_5 (by decide) ?_
    refine ax_icmp_gt (tgt := 43) dX10_distancesNow_7 (by decide) (fun hc => absurd ((nI_ltI (a := 40) (by omega) (by omega)).mp hc) (by omega)) (fun hc => ?_)
    refine ax_aload_n dX10_distancesNow_10 rfl ?_
    refine ax_iconst (v := (-1)) dX10_distancesNow_11 (by decide) ?_
    refine ax_iload_n dX10_distancesNow_12 rfl ?_
    refine ax_callV (As := _) (d2 := _) (c1 := 0) (n1 := 0) (c_X10_meets (M := N) (lw := lw) hok (mt_fr_rr fr hr) ho (fun w hw => mt_fr_law fr hw (hl w hw)) _ _) dX10_distancesNow_13 mX10_meets wd_1947 acl_10 (lo_s hok 90 rfl) rfl (by omega) (by omega) (by omega) rfl rfl (fun _ _ h => by cases h.1) ?_
    rintro o9 N2 ⟨h1, f1, f2⟩; cases h1
    have hok : lo_ok N2.2 := by rw [f1.1]; exact hok
    have fr2 := mt_fr_tr fr f1
    have hb2 := mb_mt hb fr2
    refine ax_lload_n dX10_distancesNow_16 rfl ?_
    refine ax_aload_n dX10_distancesNow_17 rfl ?_
    refine ax_callV (As := _) (d2 := _) (c1 := 0) (n1 := 0) (c_rightLines (M := N2) hok ho f2 hb2) dX10_distancesNow_18 mX10_rightLines wd_2113 acl_10 (lo_s hok 90 rfl) rfl (by omega) (by omega) (by omega) rfl rfl (fun _ _ h => by cases h.1) ?_
    rintro r M9 ⟨h1, h9⟩; cases h1; rw [h9]; clear h9 M9
    refine ax_aload_n dX10_distancesNow_21 rfl ?_
    refine ax_getI (f := 32) dX10_distancesNow_22 acl_10 wd_1632 (by decide) rfl (lo_s hok 90 rfl) ?_
    rw [hb2.1]
    have hfit : nI ((rl r lw (mt_d (-1) (nI d)) n bk).getD n) = nI n ↔ fit r lw n bk d = true := by
      unfold fit
      cases e : rl r lw (mt_d (-1) (nI d)) n bk with
      | none => simp
      | some u =>
        have := (mt_first_some e).1
        have e2 := nI_eq (a := u) (b := n) (by omega) (by omega)
        show nI u = nI n ↔ (some u).isNone = true
        rw [e2]
        simp; omega
    have fin : ∀ v : Int64, v = (if fit r lw n bk d = true then 1 <<< ((nI d).toInt64 &&& 63) else 0) → ax_W l G kX10_distancesNow (ax_FQ G (fun o M2 => o = .inl (some (av_l (db (fit r lw n bk) 41))) ∧ mt_fr M M2)) 7 0 0 N2 35 [some (av_r 90), some (av_l (db (fit r lw n bk) d)), none, some (av_i (nI d))] [av_l v, av_l (db (fit r lw n bk) d)] := by
      intro v hv
      refine ax_lor dX10_distancesNow_35 ?_
      refine ax_lstore_n dX10_distancesNow_36 (by decide) rfl ?_
      refine ax_iinc (v := 1) dX10_distancesNow_37 rfl (by decide) (by decide) rfl ?_
      refine ax_goto (tgt := 4) dX10_distancesNow_40 (by decide) ?_
      exact next _ _ ⟨by rw [nI_1, hv]; rfl, fr2⟩
    refine ax_icmp_ne (tgt := 34) dX10_distancesNow_25 (by decide) (fun hc => ?_) (fun hc => ?_)
    · refine ax_lconst (v := 0) dX10_distancesNow_34 (by decide) ?_
      exact fin _ (by rw [if_neg (fun z => hc (hfit.mpr z))])
    · refine ax_lconst (v := 1) dX10_distancesNow_28 (by decide) ?_
      refine ax_iload_n dX10_distancesNow_29 rfl ?_
      refine ax_lshl dX10_distancesNow_30 ?_
      refine ax_goto (tgt := 35) dX10_distancesNow_31 (by decide) ?_
      exact fin _ (by rw [if_pos (hfit.mp hc)])
  · rintro N L ⟨rfl, fr⟩
    refine ax_iload_n dX10_distancesNow_4 rfl ?_
    refine ax_bipush (v := 40) dX10_distancesNow_5 (by decide) ?_
    refine ax_icmp_gt (tgt := 43) dX10_distancesNow_7 (by decide) (fun hc => ?_) (fun hc => absurd ((nI_ltI (a := 40) (by omega) (by omega)).mpr (by omega)) hc)
    refine ax_lload_n dX10_distancesNow_43 rfl ?_
    refine ax_lret dX10_distancesNow_44 rfl ?_
    exact ⟨rfl, fr⟩
theorem c_distances (hok : lo_ok M.2) (hr : rr M r) (ho : rd_ok r) (hl : ∀ w, w < 3 → ml_law M w (lw w)) (hb : mb M n bk) : ax_Met l G kX10_distances 8 0 0 M [av_r 90] (fun o M2 => rql M M2 o (qa_distances r lw n bk)) := by
  refine ax_body (by decide) (Nat.le_of_ble_eq_true rfl) ?_
  refine ax_aload_n dX10_distances_0 rfl ?_
  refine ax_iconst (v := 0) dX10_distances_1 (by decide) ?_
  refine ax_putI (f := 0) dX10_distances_2 acl_10 wd_1600 (by decide) rfl rfl (ax_nfI rfl) (lo_s hok 90 rfl) ?_
  refine ax_gen (fun M0 hM0 => ?_)
  have hok : lo_ok M0.2 := by rw [hM0]; exact hok
  have hr0 : rr M0 r := by rw [hM0]; exact rr_fr hr (fun n i q => ax_pn (by omega))
  have h00 : M0.1 90 0 = 0 := by rw [hM0, ax_pa]
  refine ax_aload_n dX10_distances_5 rfl ?_
  refine ax_iconst (v := 1) dX10_distances_6 (by decide) ?_
  refine ax_callV (As := _) (d2 := _) (c1 := 0) (n1 := 0) (c_notTwo (M := M0) hok hr0 ho h00 (w := 1) (by decide) rfl) dX10_distances_7 mX10_notTwo wd_2029 acl_10 (lo_s hok 90 rfl) rfl (by omega) (by omega) (by omega) rfl rfl (fun _ _ h => by rcases h with ⟨_, h, _⟩ | ⟨_, h, _⟩ <;> cases h) ?_
  rintro o9 M9 (⟨g1, h1, h2⟩ | ⟨g1, h1, h2⟩) <;> cases h1 <;> rw [h2] <;> clear h2 M9
  · refine ax_if_eq (tgt := 15) dX10_distances_10 (by decide) (fun hc => ?_) (fun hc => ?_)
    · exact absurd hc (by decide)
    · refine ax_lconst (v := 0) dX10_distances_13 (by decide) ?_
      refine ax_lret dX10_distances_14 rfl ?_
      exact rql_bad hM0 (w := 1) (k := 2) rfl (by unfold qa_distances; rw [if_pos g1])
  refine ax_if_eq (tgt := 15) dX10_distances_10 (by decide) (fun hc => ?_) (fun hc => ?_)
  rotate_left
  · exact absurd rfl hc
  refine ax_aload_n dX10_distances_15 rfl ?_
  refine ax_callV (As := _) (d2 := _) (c1 := 0) (n1 := 0) (c_distancesNow (lw := lw) (M := M0) hok hr0 ho (fun w hw => by rw [hM0]; exact sf_law0 hw (hl w hw)) (mb_fr hb (fun m i q => by rw [hM0, ax_pn (by omega)]))) dX10_distances_16 mX10_distancesNow wd_2109 acl_10 (lo_s hok 90 rfl) rfl (by omega) (by omega) (by omega) rfl rfl (fun _ _ h => by cases h.1) ?_
  rintro o9 M1 ⟨h1, f1⟩; cases h1
  refine ax_lret dX10_distances_19 rfl ?_
  refine rql_sf hM0 (sf_mt f1) ?_
  unfold qa_distances
  rw [if_neg g1]
theorem c_right (hok : lo_ok M.2) (hr : rr M r) (ho : rd_ok r) (hl : ∀ w, w < 3 → ml_law M w (lw w)) (hb : mb M n bk) : ax_Met l G kX10_right 8 0 0 M [av_r 90] (fun o M2 => rq M M2 o (qa_right r lw n bk)) := by
  refine ax_body (by decide) (Nat.le_of_ble_eq_true rfl) ?_
  refine ax_aload_n dX10_right_0 rfl ?_
  refine ax_iconst (v := 0) dX10_right_1 (by decide) ?_
  refine ax_putI (f := 0) dX10_right_2 acl_10 wd_1600 (by decide) rfl rfl (ax_nfI rfl) (lo_s hok 90 rfl) ?_
  refine ax_gen (fun M0 hM0 => ?_)
  have hok : lo_ok M0.2 := by rw [hM0]; exact hok
  have hr0 : rr M0 r := by rw [hM0]; exact rr_fr hr (fun n i q => ax_pn (by omega))
  have h00 : M0.1 90 0 = 0 := by rw [hM0, ax_pa]
  refine ax_aload_n dX10_right_5 rfl ?_
  refine ax_iconst (v := 1) dX10_right_6 (by decide) ?_
  refine ax_callV (As := _) (d2 := _) (c1 := 0) (n1 := 0) (c_notTwo (M := M0) hok hr0 ho h00 (w := 1) (by decide) rfl) dX10_right_7 mX10_notTwo wd_2029 acl_10 (lo_s hok 90 rfl) rfl (by omega) (by omega) (by omega) rfl rfl (fun _ _ h => by rcases h with ⟨_, h, _⟩ | ⟨_, h, _⟩ <;> cases h) ?_
  rintro o9 M9 (⟨g1, h1, h2⟩ | ⟨g1, h1, h2⟩) <;> cases h1 <;> rw [h2] <;> clear h2 M9
  · refine ax_if_eq (tgt := 15) dX10_right_10 (by decide) (fun hc => ?_) (fun hc => ?_)
    · exact absurd hc (by decide)
    · refine ax_iconst (v := 0) dX10_right_13 (by decide) ?_
      refine ax_iret dX10_right_14 rfl ?_
      exact rq_bad hM0 (w := 1) (k := 2) rfl (by unfold qa_right; rw [if_pos g1])
  refine ax_if_eq (tgt := 15) dX10_right_10 (by decide) (fun hc => ?_) (fun hc => ?_)
  rotate_left
  · exact absurd rfl hc
  refine ax_aload_n dX10_right_15 rfl ?_
  refine ax_callV (As := _) (d2 := _) (c1 := 0) (n1 := 0) (c_X10_asTold (lw := lw) (M := M0) hok hr0 ho (fun w hw => by rw [hM0]; exact sf_law0 hw (hl w hw))) dX10_right_16 mX10_asTold wd_1943 acl_10 (lo_s hok 90 rfl) rfl (by omega) (by omega) (by omega) rfl rfl (fun _ _ h => by cases h.1) ?_
  rintro o9 M1 ⟨h1, f1, f2⟩; cases h1
  have hok : lo_ok M1.2 := by rw [f1.1]; exact hok
  refine ax_aload_n dX10_right_19 rfl ?_
  refine ax_callV (As := _) (d2 := _) (c1 := 0) (n1 := 0) (c_rightLines (M := M1) hok ho f2 (mb_mt (mb_fr hb (fun m i q => by rw [hM0, ax_pn (by omega)])) f1)) dX10_right_20 mX10_rightLines wd_2113 acl_10 (lo_s hok 90 rfl) rfl (by omega) (by omega) (by omega) rfl rfl (fun _ _ h => by cases h.1) ?_
  rintro r M9 ⟨h1, h9⟩; cases h1; rw [h9]; clear h9 M9
  refine ax_iret dX10_right_23 rfl ?_
  refine rq_sf hM0 (sf_mt f1) ?_
  unfold qa_right
  rw [if_neg g1]
  rfl
theorem c_isInBook {d : Nat} (hok : lo_ok M.2) (hb : mb M n bk) {t : Nat} (ht : t ≤ 99) {x : Int32} (hx : x = nI t) : ax_Met l G kX10_isInBook d 0 0 M [av_r 90, av_i x] (ax_p (av_i (if inb n bk t = true then 1 else 0)) M) := by
  subst hx
  have hn := hb.2.1
  refine ax_body (by decide) (Nat.le_of_ble_eq_true rfl) ?_
  refine ax_iconst (v := 0) dX10_isInBook_0 (by decide) ?_
  refine ax_istore_n dX10_isInBook_1 (by decide) rfl ?_
  refine ax_for n (fun k N L => N = M ∧ L = [some (av_r 90), some (av_i (nI t)), some (av_i (nI k))] ∧ ∀ q, q < k → decide ((bk q).1 = t) = false) 2 ?_ ?_ (i := 0) (by omega) ⟨rfl, rfl, fun q z => by omega⟩
  · rintro k N L hk ⟨rfl, rfl, hq⟩ next
    obtain ⟨b1, b2, b3⟩ := hb.2.2 k hk
    refine ax_iload_n dX10_isInBook_2 rfl ?_
    refine ax_aload_n dX10_isInBook_3 rfl ?_
    refine ax_getI (f := 32) dX10_isInBook_4 acl_10 wd_1632 (by decide) rfl (lo_s hok 90 rfl) ?_
    rw [hb.1]
    refine ax_icmp_ge (tgt := 30) dX10_isInBook_7 (by decide) (fun hc => absurd ((nI_leI (by omega) (by omega)).mp hc) (by omega)) (fun hc => ?_)
    refine ax_aload_n dX10_isInBook_10 rfl ?_
    refine ax_getK (f := 28) 119 dX10_isInBook_11 acl_10 wd_1628 (by decide) rfl (lo_s hok 90 rfl) (lo_r hok 97 rfl) ?_
    refine ax_iload_n dX10_isInBook_14 rfl ?_
    refine ax_aaldN2 (120 + (k)) (k) dX10_isInBook_15 (lo_s hok 119 rfl) (by decide) (by first | with_reducible rfl | assumption | exact ax_nix (by simp only [nx_0, nx_1, nx_2, nx_3, nx_4, nx_10, nx_20, nx_21, nx_100, nI_add, pk_mul] <;> rfl) (by omega) | decide) (by omega) (lo_w_m_book hok (by omega)) ?_
    refine ax_iconst (v := 0) dX10_isInBook_16 (by decide) ?_
    refine ax_ialdN (0) dX10_isInBook_17 (by first | assumption | exact lo_tz hok (by omega) (by omega) | exact lo_z_m_wet hok (by omega) | exact lo_z_m_readWet hok (by omega) | exact lo_z_m_law hok (by omega) | exact lo_z_m_book hok (by omega) | exact lo_z_m_readBook hok (by omega) | exact lo_z_m_before hok (by omega) | exact lo_z_m_kept hok (by omega) | exact lo_z_m_seenAt hok (by omega) | exact lo_z_m_seenIn hok (by omega) | exact lo_z_m_t0 hok (by omega) | exact lo_z_m_t1 hok (by omega) | exact lo_z_m_c0 hok (by omega) | exact lo_z_m_c1 hok (by omega) | exact lo_z_x_kept hok (by omega)) (by decide) (by decide) (by decide) ?_
    rw [b1]
    refine ax_iload_n dX10_isInBook_18 rfl ?_
    refine ax_icmp_ne (tgt := 24) dX10_isInBook_19 (by decide) (fun hc => ?_) (fun hc => ?_)
    · refine ax_iinc (v := 1) dX10_isInBook_24 rfl (by decide) (by decide) rfl ?_
      refine ax_goto (tgt := 2) dX10_isInBook_27 (by decide) ?_
      refine next _ _ ⟨rfl, by rw [nI_1]; rfl, fun q z => ?_⟩
      by_cases e : q = k
      · subst e; simp only [decide_eq_false_iff_not]; intro z; rw [z] at hc; exact hc rfl
      · exact hq q (by omega)
    · have := (nI_eq (by omega) (by omega)).mp hc
      refine ax_iconst (v := 1) dX10_isInBook_22 (by decide) ?_
      refine ax_zret dX10_isInBook_23 rfl ?_ ?_
      · exact Or.inr rfl
      · unfold inb
        rw [mt_first_of (p := fun k => decide ((bk k).1 = t)) (u := k) (by simpa using this) hq hk]
        exact ⟨rfl, rfl⟩
  · rintro N L ⟨rfl, rfl, hq⟩
    refine ax_iload_n dX10_isInBook_2 rfl ?_
    refine ax_aload_n dX10_isInBook_3 rfl ?_
    refine ax_getI (f := 32) dX10_isInBook_4 acl_10 wd_1632 (by decide) rfl (lo_s hok 90 rfl) ?_
    rw [hb.1]
    refine ax_icmp_ge (tgt := 30) dX10_isInBook_7 (by decide) (fun hc => ?_) (fun hc => absurd ((nI_leI (by omega) (by omega)).mpr (by omega)) hc)
    refine ax_iconst (v := 0) dX10_isInBook_30 (by decide) ?_
    refine ax_zret dX10_isInBook_31 rfl ?_ ?_
    · exact Or.inl rfl
    · unfold inb
      rw [mt_first_no hq]
      exact ⟨rfl, rfl⟩
set_option maxHeartbeats 1000000 in
theorem c_look (hok : lo_ok M.2) (hr : rr M r) (ho : rd_ok r) (hl : ∀ w, w < 3 → ml_law M w (lw w)) (hb : mb M n bk) (x : Int32) : ax_Met l G kX10_look 8 0 0 M [av_r 90, av_i x] (fun o M2 => rq M M2 o (qa_look r lw n bk x)) := by
  have hTT := mt_T_le r
  refine ax_body (by decide) (Nat.le_of_ble_eq_true rfl) ?_
  refine ax_aload_n dX10_look_0 rfl ?_
  refine ax_iconst (v := 0) dX10_look_1 (by decide) ?_
  refine ax_putI (f := 0) dX10_look_2 acl_10 wd_1600 (by decide) rfl rfl (ax_nfI rfl) (lo_s hok 90 rfl) ?_
  refine ax_gen (fun M0 hM0 => ?_)
  have hok : lo_ok M0.2 := by rw [hM0]; exact hok
  have hr0 : rr M0 r := by rw [hM0]; exact rr_fr hr (fun n i q => ax_pn (by omega))
  have h00 : M0.1 90 0 = 0 := by rw [hM0, ax_pa]
  refine ax_aload_n dX10_look_5 rfl ?_
  refine ax_join0 (¬ (0 ≤ x ∧ x ≤ 1)) 20 (1) (0) ?_ (fun ja jb => ?_)
  rotate_left
  · refine ax_iload_n dX10_look_6 rfl ?_
    refine ax_iconst (v := 0) dX10_look_7 (by decide) ?_
    refine ax_iconst (v := 1) dX10_look_8 (by decide) ?_
    refine ax_callS (As := _) (c1 := 0) (n1 := 0) (c_X10_in (d := 0) (M := M0) _ _ _) dX10_look_9 mX10_in wd_1772 rfl (by omega) (by omega) (by omega) rfl rfl (fun _ _ h => by cases h.1) ?_
    rintro r M9 ⟨h1, h9⟩; cases h1; rw [h9]; clear h9 M9
    refine ax_ifB_ne (tgt := 19) dX10_look_12 (by decide) (fun h12 => ?_) (fun h12 => ?_)
    · refine ax_iconst (v := 0) dX10_look_19 (by decide) ?_
      first | (refine ja ?_; simp only [h12, and_self, and_true, true_and, not_true_eq_false, not_false_eq_true, or_true, true_or, or_false, false_or, or_self]; done) | (refine jb ?_; simp only [h12, and_self, and_true, true_and, not_true_eq_false, not_false_eq_true, or_true, true_or, or_false, false_or, or_self]; done) | exact ja h12 | exact jb (fun z => z h12) | exact ja (Or.inr h12) | exact ja (Or.inl h12)
    · refine ax_iconst (v := 1) dX10_look_15 (by decide) ?_
      refine ax_goto (tgt := 20) dX10_look_16 (by decide) ?_
      first | (refine ja ?_; simp only [h12, and_self, and_true, true_and, not_true_eq_false, not_false_eq_true, or_true, true_or, or_false, false_or, or_self]; done) | (refine jb ?_; simp only [h12, and_self, and_true, true_and, not_true_eq_false, not_false_eq_true, or_true, true_or, or_false, false_or, or_self]; done) | exact ja h12 | exact jb (fun z => z h12) | exact ja (Or.inr h12) | exact ja (Or.inl h12)
  refine ax_iconst (v := 1) dX10_look_20 (by decide) ?_
  refine ax_iconst (v := 1) dX10_look_21 (by decide) ?_
  refine ax_callV (As := _) (d2 := _) (c1 := 0) (n1 := 0) (c_badP (d := 0) (M := M0) (p := ¬ (0 ≤ x ∧ x ≤ 1)) hok h00 (w := 1) (k := 1) (by decide) (by decide) (by decide) rfl rfl) dX10_look_22 mX10_bad wd_1775 acl_10 (lo_s hok 90 rfl) rfl (by omega) (by omega) (by omega) rfl rfl (fun _ _ h => by rcases h with ⟨_, h, _⟩ | ⟨_, h, _⟩ <;> cases h) ?_
  rintro o9 M9 (⟨g1, h1, h2⟩ | ⟨g1, h1, h2⟩) <;> cases h1 <;> rw [h2] <;> clear h2 M9
  · refine ax_if_ne (tgt := 36) dX10_look_25 (by decide) (fun hc => ?_) (fun hc => ?_)
    · refine ax_iconst (v := 0) dX10_look_36 (by decide) ?_
      refine ax_iret dX10_look_37 rfl ?_
      exact rq_bad hM0 (w := 1) (k := 1) rfl (by unfold qa_look; rw [if_pos g1])
    · exact absurd hc (by decide)
  refine ax_if_ne (tgt := 36) dX10_look_25 (by decide) (fun hc => ?_) (fun hc => ?_)
  · exact absurd rfl hc
  refine ax_aload_n dX10_look_28 rfl ?_
  refine ax_iconst (v := 2) dX10_look_29 (by decide) ?_
  refine ax_callV (As := _) (d2 := _) (c1 := 0) (n1 := 0) (c_notTwo (M := M0) hok hr0 ho h00 (w := 2) (by decide) rfl) dX10_look_30 mX10_notTwo wd_2029 acl_10 (lo_s hok 90 rfl) rfl (by omega) (by omega) (by omega) rfl rfl (fun _ _ h => by rcases h with ⟨_, h, _⟩ | ⟨_, h, _⟩ <;> cases h) ?_
  rintro o9 M9 (⟨g2, h1, h2⟩ | ⟨g2, h1, h2⟩) <;> cases h1 <;> rw [h2] <;> clear h2 M9
  · refine ax_if_eq (tgt := 38) dX10_look_33 (by decide) (fun hc => ?_) (fun hc => ?_)
    · exact absurd hc (by decide)
    · refine ax_iconst (v := 0) dX10_look_36 (by decide) ?_
      refine ax_iret dX10_look_37 rfl ?_
      exact rq_bad hM0 (w := 2) (k := 2) rfl (by unfold qa_look; rw [if_neg g1, if_pos g2])
  refine ax_if_eq (tgt := 38) dX10_look_33 (by decide) (fun hc => ?_) (fun hc => ?_)
  rotate_left
  · exact absurd rfl hc
  obtain ⟨k, hk, rfl⟩ := in_nat (dn g1) (n := 1) rfl (by decide)
  have hl0 : ∀ w, w < 3 → ml_law M0 w (lw w) := fun w hw => by rw [hM0]; exact sf_law0 hw (hl w hw)
  have hb0 : mb M0 n bk := mb_fr hb (fun m i q => by rw [hM0, ax_pn (by omega)])
  have e : ∀ (N : ax_M) v, sf M0 N → v = qv_look r lw n bk k → rq M N (.inl (some (av_i v))) (qa_look r lw n bk (nI k)) := fun N v hs hv => rq_sf hM0 hs (by unfold qa_look; rw [if_neg g1, if_neg g2, nI_clamp (by omega), hv])
  refine ax_aload_n dX10_look_38 rfl ?_
  refine ax_callV (As := _) (d2 := _) (c1 := 0) (n1 := 0) (c_distancesNow (lw := lw) (M := M0) hok hr0 ho hl0 hb0) dX10_look_39 mX10_distancesNow wd_2109 acl_10 (lo_s hok 90 rfl) rfl (by omega) (by omega) (by omega) rfl rfl (fun _ _ h => by cases h.1) ?_
  rintro o9 M1 ⟨h1, f1⟩; cases h1
  obtain ⟨bits, hbits⟩ : ∃ b, b = db (fit r lw n bk) 41 := ⟨_, rfl⟩
  rw [← hbits]
  have hs1 := sf_mt f1
  have hok : lo_ok M1.2 := by rw [f1.1]; exact hok
  -- the last loop
  have tail : ∀ (N : ax_M) (y7 y8 : Option ax_V), sf M0 N → (∀ t, t < mt_T r → N.1 430 t = nI (mt_cnt (lk_p r lw bits t) 41)) → ax_W l G kX10_look (ax_FQ G (fun o M2 => rq M M2 o (qa_look r lw n bk (nI k)))) 8 0 0 N 174 [some (av_r 90), some (av_i (nI k)), some (av_l bits), none, some (av_i (nI (mt_cnt (bt bits) 41))), some (av_i (-1)), some (av_i (-1)), y7, y8] [] := by
    intro N y7 y8 hs hv
    have hok : lo_ok N.2 := by rw [hs.1]; exact ‹lo_ok M0.2›
    have hall := mt_cnt_le (bt bits) 41
    refine ax_aload_n dX10_look_174 rfl ?_
    refine ax_callV (As := _) (d2 := _) (c1 := 0) (n1 := 0) (c_X10_asTold (lw := lw) (M := N) hok (sf_rr hs hr0) ho (fun w hw => sf_law hs hw (hl0 w hw))) dX10_look_175 mX10_asTold wd_1943 acl_10 (lo_s hok 90 rfl) rfl (by omega) (by omega) (by omega) rfl rfl (fun _ _ h => by cases h.1) ?_
    rintro o9 N1 ⟨h1, f3, f4⟩; cases h1
    have hok : lo_ok N1.2 := by rw [f3.1]; exact hok
    have hs3 := sf_tr hs (sf_mt f3)
    have hb3 := mb_sf hb0 hs3
    have hv3 : ∀ t, t < mt_T r → N1.1 430 t = nI (mt_cnt (lk_p r lw bits t) 41) := fun t ht => by rw [f3.2 430 t (by omega) (by omega) (by omega) (by omega)]; exact hv t ht
    obtain ⟨w, hw⟩ : ∃ w, w = lk_w r lw bits := ⟨_, rfl⟩
    obtain ⟨cd, hcd⟩ : ∃ c, c = lk_c r n bk := ⟨_, rfl⟩
    have hwl : ∀ t, w t ≤ 41 := fun t => by
      have h1 := mt_cnt_le (lk_p r lw bits t) 41
      rw [hw]; unfold lk_w; omega
    refine ax_iconst (v := 0) dX10_look_178 (by decide) ?_
    refine ax_istore dX10_look_179 (by decide) rfl ?_
    refine ax_for (mt_T r) (fun t N L => ∃ bs ls y8, N = N1 ∧ L = [some (av_r 90), some (av_i (nI k)), some (av_l bits), none, some (av_i (nI (mt_cnt (bt bits) 41))), some (av_i bs), some (av_i ls), some (av_i (nI t)), y8] ∧ bs = mt_sb (lkb cd w t) ∧ (∀ u, lkb cd w t = some u → u < t ∧ ls = nI (w u)) ∧ (lkb cd w t = none → ls = -1)) 181 ?_ ?_ (i := 0) (by omega) ⟨-1, -1, _, rfl, rfl, rfl, (fun u z => by cases z), fun _ => rfl⟩
    · rintro t N L ht ⟨bs, ls, y8, rfl, rfl, i1, i2, i3⟩ next
      have hc1 := mt_cnt_le (lk_p r lw bits t) 41
      have hc2 : mt_cnt (lk_p r lw bits t) 41 ≤ mt_cnt (bt bits) 41 := mt_cnt_sub (fun q hq => by simp only [lk_p, Bool.and_eq_true] at hq; exact hq.1) 41
      have hrw := (f4.1 1 (by decide)).2.2.2.2.2.2.2 _ ht
      have hz : N.1 (272 + t) 0 = -1 ↔ mt_on r 1 t = false := by have := mt_rw_on ho (c := 1) (by omega) (by omega) hrw; simpa using this
      have skip : ∀ (v : Option ax_V), (cd t = false ∨ ∃ u, lkb cd w t = some u ∧ ¬ w t < w u) → ax_W l G kX10_look (ax_FQ G (fun o M2 => rq M M2 o (qa_look r lw n bk (nI k)))) 8 0 0 N 260 [some (av_r 90), some (av_i (nI k)), some (av_l bits), none, some (av_i (nI (mt_cnt (bt bits) 41))), some (av_i bs), some (av_i ls), some (av_i (nI t)), v] [] := by
        intro v hh
        have el : lkb cd w (t + 1) = lkb cd w t := if_neg (fun z => by
          rcases hh with hh | ⟨u, q1, q2⟩
          · rw [hh] at z; exact absurd z.1 (by decide)
          · exact q2 (z.2 u q1))
        refine ax_iinc (v := 1) dX10_look_260 rfl (by decide) (by decide) rfl ?_
        refine ax_goto (tgt := 181) dX10_look_263 (by decide) ?_
        refine next _ _ ⟨_, _, _, rfl, by rw [nI_1]; rfl, ?_, ?_, ?_⟩
        · rw [el]; exact i1
        · rw [el]; intro u hu; exact ⟨by have := (i2 u hu).1; omega, (i2 u hu).2⟩
        · rw [el]; exact i3
      have sett : cd t = true → (∀ u, lkb cd w t = some u → w t < w u) → ax_W l G kX10_look (ax_FQ G (fun o M2 => rq M M2 o (qa_look r lw n bk (nI k)))) 8 0 0 N 252 [some (av_r 90), some (av_i (nI k)), some (av_l bits), none, some (av_i (nI (mt_cnt (bt bits) 41))), some (av_i bs), some (av_i ls), some (av_i (nI t)), some (av_i (nI (w t)))] [] := by
        intro q1 q2
        have el : lkb cd w (t + 1) = some t := if_pos ⟨q1, q2⟩
        refine ax_iload dX10_look_252 rfl ?_
        refine ax_istore dX10_look_254 (by decide) rfl ?_
        refine ax_iload dX10_look_256 rfl ?_
        refine ax_istore dX10_look_258 (by decide) rfl ?_
        refine ax_iinc (v := 1) dX10_look_260 rfl (by decide) (by decide) rfl ?_
        refine ax_goto (tgt := 181) dX10_look_263 (by decide) ?_
        refine next _ _ ⟨_, _, _, rfl, by rw [nI_1]; rfl, ?_, ?_, ?_⟩
        · rw [el]; rfl
        · rw [el]; intro u hu; cases hu; exact ⟨by omega, rfl⟩
        · rw [el]; intro z; cases z
      refine ax_iload dX10_look_181 rfl ?_
      refine ax_aload_n dX10_look_183 rfl ?_
      refine ax_getI (f := 46) dX10_look_184 acl_10 wd_1646 (by decide) rfl (lo_s hok 90 rfl) ?_
      rw [f4.2.1]
      refine ax_icmp_ge (tgt := 266) dX10_look_187 (by decide) (fun hc => absurd ((nI_leI (by omega) (by omega)).mp hc) (by omega)) (fun hc => ?_)
      refine ax_aload_n dX10_look_190 rfl ?_
      refine ax_getK (f := 50) 430 dX10_look_191 acl_10 wd_1650 (by decide) rfl (lo_s hok 90 rfl) (lo_r hok 113 rfl) ?_
      refine ax_iload dX10_look_194 rfl ?_
      refine ax_ialdN (t) dX10_look_196 (lo_s hok 430 rfl) (by decide) (by first | with_reducible rfl | assumption | exact ax_nix (by simp only [nx_0, nx_1, nx_2, nx_3, nx_4, nx_10, nx_20, nx_21, nx_100, nI_add, pk_mul] <;> rfl) (by omega) | decide) (by omega) ?_
      refine ax_iload dX10_look_197 rfl ?_
      refine ax_aload_n dX10_look_199 rfl ?_
      refine ax_getK (f := 50) 430 dX10_look_200 acl_10 wd_1650 (by decide) rfl (lo_s hok 90 rfl) (lo_r hok 113 rfl) ?_
      refine ax_iload dX10_look_203 rfl ?_
      refine ax_ialdN (t) dX10_look_205 (lo_s hok 430 rfl) (by decide) (by first | with_reducible rfl | assumption | exact ax_nix (by simp only [nx_0, nx_1, nx_2, nx_3, nx_4, nx_10, nx_20, nx_21, nx_100, nI_add, pk_mul] <;> rfl) (by omega) | decide) (by omega) ?_
      rw [hv3 t ht]
      refine ax_isub dX10_look_206 ?_
      rw [pk_sub hc2]
      refine ax_callS (As := _) (c1 := 0) (n1 := 0) (c_X10_more (d := 0) (M := N) _ _) dX10_look_207 mX10_more wd_1908 rfl (by omega) (by omega) (by omega) rfl rfl (fun _ _ h => by cases h.1) ?_
      rintro r M9 ⟨h1, h9⟩; cases h1; rw [h9]; clear h9 M9
      have ew : (if nI (mt_cnt (bt bits) 41 - mt_cnt (lk_p r lw bits t) 41) < nI (mt_cnt (lk_p r lw bits t) 41) then nI (mt_cnt (lk_p r lw bits t) 41) else nI (mt_cnt (bt bits) 41 - mt_cnt (lk_p r lw bits t) 41)) = nI (w t) := by
        rw [hw]; unfold lk_w
        by_cases q : mt_cnt (bt bits) 41 - mt_cnt (lk_p r lw bits t) 41 < mt_cnt (lk_p r lw bits t) 41
        · rw [if_pos ((nI_ltI (by omega) (by omega)).mpr q)]; congr 1; omega
        · rw [if_neg (fun z => q ((nI_ltI (by omega) (by omega)).mp z))]; congr 1; omega
      rw [ew]
      have hwt := hwl t
      refine ax_istore dX10_look_210 (by decide) rfl ?_
      refine ax_aload_n dX10_look_212 rfl ?_
      refine ax_getK (f := 36) 170 dX10_look_213 acl_10 wd_1636 (by decide) rfl (lo_s hok 90 rfl) (lo_r hok 101 rfl) ?_
      refine ax_iconst (v := 1) dX10_look_216 (by decide) ?_
      refine ax_aaldN3 271 1 dX10_look_217 (lo_s hok 170 rfl) (by decide) (by decide) (by decide) (lo_r hok 174 rfl) ?_
      refine ax_iload dX10_look_218 rfl ?_
      refine ax_aaldN2 (272 + (t)) (t) dX10_look_220 (lo_s hok 271 rfl) (by decide) (by first | with_reducible rfl | assumption | exact ax_nix (by simp only [nx_0, nx_1, nx_2, nx_3, nx_4, nx_10, nx_20, nx_21, nx_100, nI_add, pk_mul] <;> rfl) (by omega) | decide) (by omega) (lo_w_m_t1 hok (by omega)) ?_
      refine ax_iconst (v := 0) dX10_look_221 (by decide) ?_
      refine ax_ialdN (0) dX10_look_222 (by first | assumption | exact lo_tz hok (by omega) (by omega) | exact lo_z_m_wet hok (by omega) | exact lo_z_m_readWet hok (by omega) | exact lo_z_m_law hok (by omega) | exact lo_z_m_book hok (by omega) | exact lo_z_m_readBook hok (by omega) | exact lo_z_m_before hok (by omega) | exact lo_z_m_kept hok (by omega) | exact lo_z_m_seenAt hok (by omega) | exact lo_z_m_seenIn hok (by omega) | exact lo_z_m_t0 hok (by omega) | exact lo_z_m_t1 hok (by omega) | exact lo_z_m_c0 hok (by omega) | exact lo_z_m_c1 hok (by omega) | exact lo_z_x_kept hok (by omega)) (by decide) (by decide) (by decide) ?_
      refine ax_iconst (v := (-1)) dX10_look_223 (by decide) ?_
      refine ax_icmp_eq (tgt := 260) dX10_look_224 (by decide) (fun hc => ?_) (fun hc => ?_)
      · exact skip _ (Or.inl (by rw [hcd]; unfold lk_c; rw [hz.mp hc]; rfl))
      · have hon : mt_on r 1 t = true := Decidable.byContradiction (fun q => hc (hz.mpr (mt_nf q)))
        refine ax_aload_n dX10_look_227 rfl ?_
        refine ax_iload dX10_look_228 rfl ?_
        refine ax_callV (As := _) (d2 := _) (c1 := 0) (n1 := 0) (c_isInBook (d := 0) (M := N) hok hb3 (t := t) (by omega) rfl) dX10_look_230 mX10_isInBook wd_2125 acl_10 (lo_s hok 90 rfl) rfl (by omega) (by omega) (by omega) rfl rfl (fun _ _ h => by cases h.1) ?_
        rintro r M9 ⟨h1, h9⟩; cases h1; rw [h9]; clear h9 M9
        refine ax_ifB_ne (tgt := 260) dX10_look_233 (by decide) (fun hc => ?_) (fun hc => ?_)
        · exact skip _ (Or.inl (by rw [hcd]; unfold lk_c; rw [hc, hon]; rfl))
        · have hcand : cd t = true := by rw [hcd]; unfold lk_c; rw [mt_nf hc, hon]; rfl
          refine ax_iload dX10_look_236 rfl ?_
          refine ax_iconst (v := (-1)) dX10_look_238 (by decide) ?_
          refine ax_icmp_eq (tgt := 252) dX10_look_239 (by decide) (fun hc => ?_) (fun hc => ?_)
          · refine sett hcand (fun u hu => ?_)
            rw [i1, hu] at hc
            have := (i2 u hu).1
            exact absurd hc (nI_m1 (by omega))
          · cases el : lkb cd w t with
            | none => rw [i1, el] at hc; exact absurd rfl hc
            | some u =>
              have hls := (i2 u el).2
              have hwu := hwl u
              refine ax_iload dX10_look_242 rfl ?_
              refine ax_iload dX10_look_244 rfl ?_
              refine ax_icmp_lt (tgt := 252) dX10_look_246 (by decide) (fun hc => ?_) (fun hc => ?_)
              · refine sett hcand (fun u2 hu2 => ?_)
                rw [el] at hu2; cases hu2
                rw [hls] at hc
                exact (nI_ltI (by omega) (by omega)).mp hc
              · refine ax_goto (tgt := 260) dX10_look_249 (by decide) ?_
                exact skip _ (Or.inr ⟨u, el, fun z => hc (by rw [hls]; exact (nI_ltI (by omega) (by omega)).mpr z)⟩)
    · rintro N L ⟨bs, ls, y8, rfl, rfl, i1, i2, i3⟩
      refine ax_iload dX10_look_181 rfl ?_
      refine ax_aload_n dX10_look_183 rfl ?_
      refine ax_getI (f := 46) dX10_look_184 acl_10 wd_1646 (by decide) rfl (lo_s hok 90 rfl) ?_
      rw [f4.2.1]
      refine ax_icmp_ge (tgt := 266) dX10_look_187 (by decide) (fun hc => ?_) (fun hc => absurd ((nI_leI (by omega) (by omega)).mpr (by omega)) hc)
      have hq : ∀ v, v = (if k = 0 then bs else ls) → v = qv_look r lw n bk k := by
        intro v hv
        rw [hv]
        unfold qv_look
        rw [← hbits, ← hw, ← hcd]
        cases el : lkb cd w (mt_T r) with
        | none => rw [i1, i3 el, el]; split <;> rfl
        | some u => rw [i1, (i2 u el).2, el]; rfl
      rcases (show k = 0 ∨ k = 1 by omega) with rfl | rfl
      · refine ax_iload_n dX10_look_266 rfl ?_
        refine ax_if_ne (tgt := 275) dX10_look_267 (by decide) (fun h267 => ?_) (fun h267 => ?_)
        · exact absurd rfl h267
        · refine ax_iload dX10_look_270 rfl ?_
          refine ax_goto (tgt := 277) dX10_look_272 (by decide) ?_
          refine ax_iret dX10_look_277 rfl ?_
          exact e _ _ hs3 (hq _ rfl)
      · refine ax_iload_n dX10_look_266 rfl ?_
        refine ax_if_ne (tgt := 275) dX10_look_267 (by decide) (fun h267 => ?_) (fun h267 => ?_)
        · refine ax_iload dX10_look_275 rfl ?_
          refine ax_iret dX10_look_277 rfl ?_
          exact e _ _ hs3 (hq _ rfl)
        · exact absurd h267 (by decide)
  refine ax_lstore_n dX10_look_42 (by decide) rfl ?_
  refine ax_iconst (v := 0) dX10_look_43 (by decide) ?_
  refine ax_istore dX10_look_44 (by decide) rfl ?_
  refine ax_iconst (v := (-1)) dX10_look_46 (by decide) ?_
  refine ax_istore dX10_look_47 (by decide) rfl ?_
  refine ax_iconst (v := (-1)) dX10_look_49 (by decide) ?_
  refine ax_istore dX10_look_50 (by decide) rfl ?_
  refine ax_iconst (v := 0) dX10_look_52 (by decide) ?_
  refine ax_istore dX10_look_53 (by decide) rfl ?_
  refine ax_for 99 (fun j N L => L = [some (av_r 90), some (av_i (nI k)), some (av_l bits), none, some (av_i (nI 0)), some (av_i (-1)), some (av_i (-1)), some (av_i (nI j)), none] ∧ sf M0 N ∧ ∀ q, q < j → N.1 430 q = 0) 55 ?_ ?_ (i := 0) (by omega) ⟨rfl, hs1, fun q z => by omega⟩
  · rintro j N L hj ⟨rfl, hs, hv⟩ next
    have hok : lo_ok N.2 := by rw [hs.1]; exact ‹lo_ok M0.2›
    refine ax_iload dX10_look_55 rfl ?_
    refine ax_bipush (v := 99) dX10_look_57 (by decide) ?_
    refine ax_icmp_ge (tgt := 76) dX10_look_59 (by decide) (fun hc => absurd ((nI_leI (a := 99) (by omega) (by omega)).mp hc) (by omega)) (fun hc => ?_)
    refine ax_aload_n dX10_look_62 rfl ?_
    refine ax_getK (f := 50) 430 dX10_look_63 acl_10 wd_1650 (by decide) rfl (lo_s hok 90 rfl) (lo_r hok 113 rfl) ?_
    refine ax_iload dX10_look_66 rfl ?_
    refine ax_iconst (v := 0) dX10_look_68 (by decide) ?_
    refine ax_iastN (j) dX10_look_69 (lo_s hok 430 rfl) (by decide) (by first | with_reducible rfl | assumption | exact ax_nix (by simp only [nx_0, nx_1, nx_2, nx_3, nx_4, nx_10, nx_20, nx_21, nx_100, nI_add, pk_mul] <;> rfl) (by omega) | decide) (by omega) ?_
    refine ax_gen (fun N2 hN2 => ?_)
    have hok : lo_ok N2.2 := by rw [hN2]; exact hok
    refine ax_iinc (v := 1) dX10_look_70 rfl (by decide) (by decide) rfl ?_
    refine ax_goto (tgt := 55) dX10_look_73 (by decide) ?_
    refine next _ _ ⟨by rw [nI_1]; rfl, sf_tr hs (by rw [hN2]; exact sf_p (by unfold rs; omega)), fun q hq => ?_⟩
    rw [hN2]
    by_cases z : q = j
    · subst z; exact ax_pa _ _ _ _
    · rw [ax_pn (by omega)]; exact hv q (by omega)
  · rintro N L ⟨rfl, hs, hv⟩
    refine ax_iload dX10_look_55 rfl ?_
    refine ax_bipush (v := 99) dX10_look_57 (by decide) ?_
    refine ax_icmp_ge (tgt := 76) dX10_look_59 (by decide) (fun hc => ?_) (fun hc => absurd ((nI_leI (a := 99) (by omega) (by omega)).mpr (by omega)) hc)
    refine ax_iconst (v := 0) dX10_look_76 (by decide) ?_
    refine ax_istore dX10_look_77 (by decide) rfl ?_
    refine ax_for 41 (fun d N L => ∃ y8, L = [some (av_r 90), some (av_i (nI k)), some (av_l bits), none, some (av_i (nI (mt_cnt (bt bits) d))), some (av_i (-1)), some (av_i (-1)), some (av_i (nI d)), y8] ∧ sf M0 N ∧ ∀ t, t < mt_T r → N.1 430 t = nI (mt_cnt (lk_p r lw bits t) d)) 79 ?_ ?_ (i := 0) (by omega) ⟨_, rfl, hs, fun t ht => hv t (by omega)⟩
    · rintro d N L hd ⟨y8, rfl, hs, hv⟩ next
      have hok : lo_ok N.2 := by rw [hs.1]; exact ‹lo_ok M0.2›
      have hbt : bt bits d = true ↔ ¬ (bits >>> ((nI d).toInt64 &&& 63) &&& 1 = 0) := by unfold bt; simp
      refine ax_iload dX10_look_79 rfl ?_
      refine ax_bipush (v := 40) dX10_look_81 (by decide) ?_
      refine ax_icmp_gt (tgt := 174) dX10_look_83 (by decide) (fun hc => absurd ((nI_ltI (a := 40) (by omega) (by omega)).mp hc) (by omega)) (fun hc => ?_)
      refine ax_lload_n dX10_look_86 rfl ?_
      refine ax_iload dX10_look_87 rfl ?_
      refine ax_lshr dX10_look_89 ?_
      refine ax_lconst (v := 1) dX10_look_90 (by decide) ?_
      refine ax_land dX10_look_91 ?_
      refine ax_lconst (v := 0) dX10_look_92 (by decide) ?_
      refine ax_lcmp dX10_look_93 ?_
      refine ax_if_ne (tgt := 100) dX10_look_94 (by decide) (fun hc => ?_) (fun hc => ?_)
      · have hy : bt bits d = true := hbt.mpr (fun z => hc ((lg_cmp_eq _ _).mpr z))
        refine ax_iinc (v := 1) dX10_look_100 rfl (by decide) (by decide) rfl ?_
        refine ax_aload_n dX10_look_103 rfl ?_
        refine ax_iconst (v := (-1)) dX10_look_104 (by decide) ?_
        refine ax_iload dX10_look_105 rfl ?_
        refine ax_callV (As := _) (d2 := _) (c1 := 0) (n1 := 0) (c_X10_meets (M := N) (lw := lw) hok (sf_rr hs hr0) ho (fun w hw => sf_law hs hw (hl0 w hw)) _ _) dX10_look_107 mX10_meets wd_1947 acl_10 (lo_s hok 90 rfl) rfl (by omega) (by omega) (by omega) rfl rfl (fun _ _ h => by cases h.1) ?_
        rintro o9 N1 ⟨h1, f3, f4⟩; cases h1
        have hok : lo_ok N1.2 := by rw [f3.1]; exact hok
        have hs3 := sf_tr hs (sf_mt f3)
        have hv3 : ∀ t, t < mt_T r → N1.1 430 t = nI (mt_cnt (lk_p r lw bits t) d) := fun t ht => by rw [f3.2 430 t (by omega) (by omega) (by omega) (by omega)]; exact hv t ht
        have ec : nI (mt_cnt (bt bits) d) + 1 = nI (mt_cnt (bt bits) (d + 1)) := by rw [← nI_cnt, if_pos hy]
        refine ax_iconst (v := 0) dX10_look_110 (by decide) ?_
        refine ax_istore dX10_look_111 (by decide) rfl ?_
        rw [ec]
        refine ax_for (mt_T r) (fun j N L => L = [some (av_r 90), some (av_i (nI k)), some (av_l bits), none, some (av_i (nI (mt_cnt (bt bits) (d + 1)))), some (av_i (-1)), some (av_i (-1)), some (av_i (nI d)), some (av_i (nI j))] ∧ sf M0 N ∧ mt_R N r lw (mt_d (-1) (nI d)) ∧ ∀ t, t < mt_T r → N.1 430 t = nI (mt_cnt (lk_p r lw bits t) (if t < j then d + 1 else d))) 113 ?_ ?_ (i := 0) (by omega) ⟨rfl, hs3, f4, fun t ht => by rw [if_neg (by omega)]; exact hv3 t ht⟩
        · rintro j N L hj ⟨rfl, hs, hR, hv⟩ next2
          have hok : lo_ok N.2 := by rw [hs.1]; exact ‹lo_ok M0.2›
          have hrw := (hR.1 1 (by decide)).2.2.2.2.2.2.2 _ hj
          have hz : N.1 (272 + j) 0 = -1 ↔ mt_on r 1 j = false := by have := mt_rw_on ho (c := 1) (by omega) (by omega) hrw; simpa using this
          have hf : mt_on r 1 j = true → N.1 (272 + j) 1 = mt_f r lw (mt_d (-1) (nI d)) 1 j := fun q => by have := (hrw.1 q).2.1; simpa using this
          have hvj := hv j hj
          rw [if_neg (by omega)] at hvj
          refine ax_iload dX10_look_113 rfl ?_
          refine ax_aload_n dX10_look_115 rfl ?_
          refine ax_getI (f := 46) dX10_look_116 acl_10 wd_1646 (by decide) rfl (lo_s hok 90 rfl) ?_
          rw [hR.2.1]
          refine ax_icmp_ge (tgt := 168) dX10_look_119 (by decide) (fun hc => absurd ((nI_leI (by omega) (by omega)).mp hc) (by omega)) (fun hc => ?_)
          refine ax_aload_n dX10_look_122 rfl ?_
          refine ax_getK (f := 50) 430 dX10_look_123 acl_10 wd_1650 (by decide) rfl (lo_s hok 90 rfl) (lo_r hok 113 rfl) ?_
          refine ax_iload dX10_look_126 rfl ?_
          refine ax_dup2 dX10_look_128 (by first | rfl | exact ax_crf _) (by first | rfl | exact ax_crf _) ?_
          refine ax_ialdN (j) dX10_look_129 (lo_s hok 430 rfl) (by decide) (by first | with_reducible rfl | assumption | exact ax_nix (by simp only [nx_0, nx_1, nx_2, nx_3, nx_4, nx_10, nx_20, nx_21, nx_100, nI_add, pk_mul] <;> rfl) (by omega) | decide) (by omega) ?_
          rw [hvj]
          refine ax_aload_n dX10_look_130 rfl ?_
          refine ax_getK (f := 36) 170 dX10_look_131 acl_10 wd_1636 (by decide) rfl (lo_s hok 90 rfl) (lo_r hok 101 rfl) ?_
          refine ax_iconst (v := 1) dX10_look_134 (by decide) ?_
          refine ax_aaldN3 271 1 dX10_look_135 (lo_s hok 170 rfl) (by decide) (by decide) (by decide) (lo_r hok 174 rfl) ?_
          refine ax_iload dX10_look_136 rfl ?_
          refine ax_aaldN2 (272 + (j)) (j) dX10_look_138 (lo_s hok 271 rfl) (by decide) (by first | with_reducible rfl | assumption | exact ax_nix (by simp only [nx_0, nx_1, nx_2, nx_3, nx_4, nx_10, nx_20, nx_21, nx_100, nI_add, pk_mul] <;> rfl) (by omega) | decide) (by omega) (lo_w_m_t1 hok (by omega)) ?_
          refine ax_iconst (v := 0) dX10_look_139 (by decide) ?_
          refine ax_ialdN (0) dX10_look_140 (by first | assumption | exact lo_tz hok (by omega) (by omega) | exact lo_z_m_wet hok (by omega) | exact lo_z_m_readWet hok (by omega) | exact lo_z_m_law hok (by omega) | exact lo_z_m_book hok (by omega) | exact lo_z_m_readBook hok (by omega) | exact lo_z_m_before hok (by omega) | exact lo_z_m_kept hok (by omega) | exact lo_z_m_seenAt hok (by omega) | exact lo_z_m_seenIn hok (by omega) | exact lo_z_m_t0 hok (by omega) | exact lo_z_m_t1 hok (by omega) | exact lo_z_m_c0 hok (by omega) | exact lo_z_m_c1 hok (by omega) | exact lo_z_x_kept hok (by omega)) (by decide) (by decide) (by decide) ?_
          refine ax_iconst (v := (-1)) dX10_look_141 (by decide) ?_
          refine ax_join2 (lk_p r lw bits j d = true) 160 (1) (0) ?_ (fun ja jb => ?_)
          rotate_left
          · refine ax_icmp_eq (tgt := 159) dX10_look_142 (by decide) (fun h142 => ?_) (fun h142 => ?_)
            · refine ax_iconst (v := 0) dX10_look_159 (by decide) ?_
              first | (refine jb ?_; unfold lk_p; simp [hz.mp h142]; done) | (have hon : mt_on r 1 j = true := Decidable.byContradiction (fun q => h142 (hz.mpr (mt_nf q))); rw [hf hon]; rcases mt_f_01 r lw (mt_d (-1) (nI d)) 1 j with q | q <;> rw [q] <;> first | (refine jb ?_; unfold lk_p; simp [q]; done) | (refine ja ?_; unfold lk_p; simp [q, hon, hy]; done))
            · refine ax_aload_n dX10_look_145 rfl ?_
              refine ax_getK (f := 36) 170 dX10_look_146 acl_10 wd_1636 (by decide) rfl (lo_s hok 90 rfl) (lo_r hok 101 rfl) ?_
              refine ax_iconst (v := 1) dX10_look_149 (by decide) ?_
              refine ax_aaldN3 271 1 dX10_look_150 (lo_s hok 170 rfl) (by decide) (by decide) (by decide) (lo_r hok 174 rfl) ?_
              refine ax_iload dX10_look_151 rfl ?_
              refine ax_aaldN2 (272 + (j)) (j) dX10_look_153 (lo_s hok 271 rfl) (by decide) (by first | with_reducible rfl | assumption | exact ax_nix (by simp only [nx_0, nx_1, nx_2, nx_3, nx_4, nx_10, nx_20, nx_21, nx_100, nI_add, pk_mul] <;> rfl) (by omega) | decide) (by omega) (lo_w_m_t1 hok (by omega)) ?_
              refine ax_iconst (v := 1) dX10_look_154 (by decide) ?_
              refine ax_ialdN (1) dX10_look_155 (by first | assumption | exact lo_tz hok (by omega) (by omega) | exact lo_z_m_wet hok (by omega) | exact lo_z_m_readWet hok (by omega) | exact lo_z_m_law hok (by omega) | exact lo_z_m_book hok (by omega) | exact lo_z_m_readBook hok (by omega) | exact lo_z_m_before hok (by omega) | exact lo_z_m_kept hok (by omega) | exact lo_z_m_seenAt hok (by omega) | exact lo_z_m_seenIn hok (by omega) | exact lo_z_m_t0 hok (by omega) | exact lo_z_m_t1 hok (by omega) | exact lo_z_m_c0 hok (by omega) | exact lo_z_m_c1 hok (by omega) | exact lo_z_x_kept hok (by omega)) (by decide) (by decide) (by decide) ?_
              refine ax_goto (tgt := 160) dX10_look_156 (by decide) ?_
              first | (refine jb ?_; unfold lk_p; simp [hz.mp h142]; done) | (have hon : mt_on r 1 j = true := Decidable.byContradiction (fun q => h142 (hz.mpr (mt_nf q))); rw [hf hon]; rcases mt_f_01 r lw (mt_d (-1) (nI d)) 1 j with q | q <;> rw [q] <;> first | (refine jb ?_; unfold lk_p; simp [q]; done) | (refine ja ?_; unfold lk_p; simp [q, hon, hy]; done))
          refine ax_iadd dX10_look_160 ?_
          rw [nI_cnt]
          refine ax_iastN (j) dX10_look_161 (lo_s hok 430 rfl) (by decide) (by first | with_reducible rfl | assumption | exact ax_nix (by simp only [nx_0, nx_1, nx_2, nx_3, nx_4, nx_10, nx_20, nx_21, nx_100, nI_add, pk_mul] <;> rfl) (by omega) | decide) (by omega) ?_
          refine ax_gen (fun N2 hN2 => ?_)
          have hok : lo_ok N2.2 := by rw [hN2]; exact hok
          refine ax_iinc (v := 1) dX10_look_162 rfl (by decide) (by decide) rfl ?_
          refine ax_goto (tgt := 113) dX10_look_165 (by decide) ?_
          refine next2 _ _ ⟨by rw [nI_1]; rfl, sf_tr hs (by rw [hN2]; exact sf_p (by unfold rs; omega)), mt_R_fr hR (fun n i q => by rw [hN2, ax_pn (by omega)]), fun t ht => ?_⟩
          rw [hN2]
          by_cases z : t = j
          · subst z; rw [ax_pa, if_pos (by omega)]
          · rw [ax_pn (by omega), hv t ht]
            by_cases z2 : t < j
            · rw [if_pos z2, if_pos (by omega)]
            · rw [if_neg z2, if_neg (by omega)]
        · rintro N L ⟨rfl, hs, hR, hv⟩
          have hok : lo_ok N.2 := by rw [hs.1]; exact ‹lo_ok M0.2›
          refine ax_iload dX10_look_113 rfl ?_
          refine ax_aload_n dX10_look_115 rfl ?_
          refine ax_getI (f := 46) dX10_look_116 acl_10 wd_1646 (by decide) rfl (lo_s hok 90 rfl) ?_
          rw [hR.2.1]
          refine ax_icmp_ge (tgt := 168) dX10_look_119 (by decide) (fun hc => ?_) (fun hc => absurd ((nI_leI (by omega) (by omega)).mpr (by omega)) hc)
          refine ax_iinc (v := 1) dX10_look_168 rfl (by decide) (by decide) rfl ?_
          refine ax_goto (tgt := 79) dX10_look_171 (by decide) ?_
          refine next _ _ ⟨_, by rw [nI_1]; rfl, hs, fun t ht => ?_⟩
          have := hv t ht
          rw [if_pos ht] at this
          exact this
      · have hno : bt bits d = false := mt_nf (fun z => hbt.mp z ((lg_cmp_eq _ _).mp hc))
        refine ax_goto (tgt := 168) dX10_look_97 (by decide) ?_
        refine ax_iinc (v := 1) dX10_look_168 rfl (by decide) (by decide) rfl ?_
        refine ax_goto (tgt := 79) dX10_look_171 (by decide) ?_
        refine next _ _ ⟨_, by rw [nI_1, mt_cnt_off hno]; rfl, hs, fun t ht => ?_⟩
        rw [mt_cnt_off (by unfold lk_p; rw [hno]; rfl)]
        exact hv t ht
    · rintro N L ⟨y8, rfl, hs, hv⟩
      refine ax_iload dX10_look_79 rfl ?_
      refine ax_bipush (v := 40) dX10_look_81 (by decide) ?_
      refine ax_icmp_gt (tgt := 174) dX10_look_83 (by decide) (fun hc => ?_) (fun hc => absurd ((nI_ltI (a := 40) (by omega) (by omega)).mpr (by omega)) hc)
      exact tail N _ _ hs hv
end QG

