/-! ===== counting hits and tenths: the reference ===== -/
def mt_ones (x : Int32) : Nat → Int32
  | 0 => 0
  | k + 1 => mt_ones x k + (x >>> (nI k &&& 31) &&& 1)
theorem mt_ones_10 : ∀ b0 b1 b2 b3 b4 b5 b6 b7 b8 b9 : Bool, mt_ones (((((((((((0 : Int32) ||| (if b0 = true then mt_bit 0 else 0)) ||| (if b1 = true then mt_bit 1 else 0)) ||| (if b2 = true then mt_bit 2 else 0)) ||| (if b3 = true then mt_bit 3 else 0)) ||| (if b4 = true then mt_bit 4 else 0)) ||| (if b5 = true then mt_bit 5 else 0)) ||| (if b6 = true then mt_bit 6 else 0)) ||| (if b7 = true then mt_bit 7 else 0)) ||| (if b8 = true then mt_bit 8 else 0)) ||| (if b9 = true then mt_bit 9 else 0)) 10 = nI (0 + (if b0 = true then 1 else 0) + (if b1 = true then 1 else 0) + (if b2 = true then 1 else 0) + (if b3 = true then 1 else 0) + (if b4 = true then 1 else 0) + (if b5 = true then 1 else 0) + (if b6 = true then 1 else 0) + (if b7 = true then 1 else 0) + (if b8 = true then 1 else 0) + (if b9 = true then 1 else 0)) := by decide +kernel
theorem mt_ones_or (p : Nat → Bool) : mt_ones (mt_or p 10) 10 = nI (mt_cnt p 10) := mt_ones_10 (p 0) (p 1) (p 2) (p 3) (p 4) (p 5) (p 6) (p 7) (p 8) (p 9)
theorem mt_cnt_le (p : Nat → Bool) : ∀ n, mt_cnt p n ≤ n
  | 0 => Nat.le_refl _
  | n + 1 => by
    have := mt_cnt_le p n
    show mt_cnt p n + _ ≤ n + 1
    split <;> omega
theorem mt_rw_on {M : ax_M} {r : Nat → Int} {lw : mt_L} {d : Nat → Int32} (ho : rd_ok r) {c u : Nat} (hc : c < 2) (hu : u ≤ 99) (h : mt_rw M r lw d c u) : M.1 (172 + 100 * c + u) 0 = -1 ↔ mt_on r c u = false := by
  refine ⟨fun e => mt_nf (fun q => ?_), h.2⟩
  have h1 := (h.1 q).1
  rw [h1, show (-1 : Int32) = iI (-1) from rfl] at e
  have hp := mt_pos_b ho hc hu
  have := (iI_eq (by unfold iI_b; omega) (by unfold iI_b; omega)).mp e
  have := (mt_on_iff.mp q).2.1
  omega
def mt_un (r : Nat → Int) (lw : mt_L) (d : Nat → Int32) (c t : Nat) : Bool := mt_on r c t && decide (mt_si r lw d c t < mt_stop r c t)
def mt_us (r : Nat → Int) (lw : mt_L) (d : Nat → Int32) (c : Nat) : Nat := mt_cnt (mt_un r lw d c) (mt_T r)
def mt_hn (r : Nat → Int) (lw : mt_L) (d : Nat → Int32) (c : Nat) : Nat := mt_cnt (fun k => decide ((k : Int) < r 2) && mt_hits r lw d c (r (14 + 2 * k)) (r (15 + 2 * k)) (mt_T r)) 10
def mt_cost (r : Nat → Int) (lw : mt_L) (d : Nat → Int32) (c : Nat) : Nat := 10 * mt_hn r lw d c + mt_us r lw d c
theorem mt_cost_le (r : Nat → Int) (lw : mt_L) (d : Nat → Int32) (c : Nat) : mt_cost r lw d c ≤ 199 := by
  have h1 := mt_cnt_le (fun k => decide ((k : Int) < r 2) && mt_hits r lw d c (r (14 + 2 * k)) (r (15 + 2 * k)) (mt_T r)) 10
  have h2 := mt_cnt_le (mt_un r lw d c) (mt_T r)
  have h3 := mt_T_le r
  unfold mt_cost mt_hn mt_us; omega
section MU
variable {l : Launch} {G : ax_G} {M : ax_M} {r : Nat → Int} {lw : mt_L} {dd : Nat → Int32}
theorem c_X10_ones {d : Nat} (x : Int32) : ax_Met l G kX10_ones d 0 0 M [av_i x] (ax_p (av_i (mt_ones x 10)) M) := by
  refine ax_body (by decide) (Nat.le_of_ble_eq_true rfl) ?_
  refine ax_iconst (v := 0) dX10_ones_0 (by decide) ?_
  refine ax_istore_n dX10_ones_1 (by decide) rfl ?_
  refine ax_iconst (v := 0) dX10_ones_2 (by decide) ?_
  refine ax_istore_n dX10_ones_3 (by decide) rfl ?_
  refine ax_for 10 (fun k N L => N = M ∧ L = [some (av_i x), some (av_i (mt_ones x k)), some (av_i (nI k))]) 4 ?_ ?_ (i := 0) (by omega) ⟨rfl, rfl⟩
  · rintro k N L hk ⟨rfl, rfl⟩ next
    refine ax_iload_n dX10_ones_4 rfl ?_
    refine ax_bipush (v := 10) dX10_ones_5 (by decide) ?_
    refine ax_icmp_ge (tgt := 24) dX10_ones_7 (by decide) (fun hc => ?_) (fun hc => ?_)
    · exact absurd ((nI_leI (a := 10) (by omega) (by omega)).mp hc) (by omega)
    · refine ax_iload_n dX10_ones_10 rfl ?_
      refine ax_iload_n dX10_ones_11 rfl ?_
      refine ax_iload_n dX10_ones_12 rfl ?_
      refine ax_ishr dX10_ones_13 ?_
      refine ax_iconst (v := 1) dX10_ones_14 (by decide) ?_
      refine ax_iand dX10_ones_15 ?_
      refine ax_iadd dX10_ones_16 ?_
      refine ax_istore_n dX10_ones_17 (by decide) rfl ?_
      refine ax_iinc (v := 1) dX10_ones_18 rfl (by decide) (by decide) rfl ?_
      refine ax_goto (tgt := 4) dX10_ones_21 (by decide) ?_
      exact next _ _ ⟨rfl, by rw [nI_1]; rfl⟩
  · rintro N L ⟨rfl, rfl⟩
    refine ax_iload_n dX10_ones_4 rfl ?_
    refine ax_bipush (v := 10) dX10_ones_5 (by decide) ?_
    refine ax_icmp_ge (tgt := 24) dX10_ones_7 (by decide) (fun hc => ?_) (fun hc => ?_)
    · refine ax_iload_n dX10_ones_24 rfl ?_
      refine ax_iret dX10_ones_25 rfl ?_
      exact ⟨rfl, rfl⟩
    · exact absurd ((nI_leI (a := 10) (by omega) (by omega)).mpr (Nat.le_refl _)) hc
theorem c_X10_unsafeOf (hok : lo_ok M.2) (ho : rd_ok r) (hR : mt_R M r lw dd) {c : Nat} (hc2 : c < 2) {x : Int32} (hx : x = nI c) {d : Nat} : ax_Met l G kX10_unsafeOf d 0 0 M [av_r 90, av_i x] (ax_p (av_i (nI (mt_us r lw dd c))) M) := by
  subst hx
  have hTT := mt_T_le r
  refine ax_body (by decide) (Nat.le_of_ble_eq_true rfl) ?_
  refine ax_iconst (v := 0) dX10_unsafeOf_0 (by decide) ?_
  refine ax_istore_n dX10_unsafeOf_1 (by decide) rfl ?_
  refine ax_iconst (v := 0) dX10_unsafeOf_2 (by decide) ?_
  refine ax_istore_n dX10_unsafeOf_3 (by decide) rfl ?_
  refine ax_for (mt_T r) (fun t N L => N = M ∧ L = [some (av_r 90), some (av_i (nI c)), some (av_i (nI (mt_cnt (mt_un r lw dd c) t))), some (av_i (nI t))]) 4 ?_ ?_ (i := 0) (by omega) ⟨rfl, rfl⟩
  · rintro t N L ht ⟨rfl, rfl⟩ next
    have hrw := (hR.1 c hc2).2.2.2.2.2.2.2 t ht
    refine ax_iload_n dX10_unsafeOf_4 rfl ?_
    refine ax_aload_n dX10_unsafeOf_5 rfl ?_
    refine ax_getI (f := 46) dX10_unsafeOf_6 acl_10 wd_1646 (by decide) rfl (lo_s hok 90 rfl) ?_
    rw [hR.2.1]
    refine ax_icmp_ge (tgt := 54) dX10_unsafeOf_9 (by decide) (fun hc => ?_) (fun hc => ?_)
    · exact absurd ((nI_leI (by omega) (by omega)).mp hc) (by omega)
    · refine ax_iload_n dX10_unsafeOf_12 rfl ?_
      refine ax_aload_n dX10_unsafeOf_13 rfl ?_
      refine ax_getK (f := 36) 170 dX10_unsafeOf_14 acl_10 wd_1636 (by decide) rfl (lo_s hok 90 rfl) (lo_r hok 101 rfl) ?_
      refine ax_iload_n dX10_unsafeOf_17 rfl ?_
      refine ax_aaldN3 (171 + 100 * (c)) (c) dX10_unsafeOf_18 (lo_s hok 170 rfl) (by decide) (by first | with_reducible rfl | assumption | exact ax_nix (by simp only [nx_0, nx_1, nx_2, nx_3, nx_4, nx_10, nx_20, nx_21, nx_100, nI_add, pk_mul] <;> rfl) (by omega) | decide) (by omega) (lo_tt hok (by omega)) ?_
      refine ax_iload_n dX10_unsafeOf_19 rfl ?_
      refine ax_aaldN2 (172 + 100 * (c) + (t)) (t) dX10_unsafeOf_20 (lo_ts hok (by omega)) (by decide) (by first | with_reducible rfl | assumption | exact ax_nix (by simp only [nx_0, nx_1, nx_2, nx_3, nx_4, nx_10, nx_20, nx_21, nx_100, nI_add, pk_mul] <;> rfl) (by omega) | decide) (by omega) (lo_tr hok (by omega) (by omega)) ?_
      refine ax_iconst (v := 0) dX10_unsafeOf_21 (by decide) ?_
      refine ax_ialdN (0) dX10_unsafeOf_22 (by first | assumption | exact lo_tz hok (by omega) (by omega) | exact lo_z_m_wet hok (by omega) | exact lo_z_m_readWet hok (by omega) | exact lo_z_m_law hok (by omega) | exact lo_z_m_book hok (by omega) | exact lo_z_m_readBook hok (by omega) | exact lo_z_m_before hok (by omega) | exact lo_z_m_kept hok (by omega) | exact lo_z_m_seenAt hok (by omega) | exact lo_z_m_seenIn hok (by omega) | exact lo_z_m_t0 hok (by omega) | exact lo_z_m_t1 hok (by omega) | exact lo_z_m_c0 hok (by omega) | exact lo_z_m_c1 hok (by omega) | exact lo_z_x_kept hok (by omega)) (by decide) (by decide) (by decide) ?_
      refine ax_iconst (v := (-1)) dX10_unsafeOf_23 (by decide) ?_
      refine ax_join2 (mt_un r lw dd c t = true) 46 (1) (0) ?_ (fun ja jb => ?_)
      rotate_left
      · refine ax_icmp_eq (tgt := 45) dX10_unsafeOf_24 (by decide) (fun h24 => ?_) (fun h24 => ?_)
        · refine ax_iconst (v := 0) dX10_unsafeOf_45 (by decide) ?_
          first | (refine jb ?_; simp [mt_un, (mt_rw_on ho hc2 (by omega) hrw).mp h24]; done) | (refine jb ?_; intro z; simp only [mt_un, Bool.and_eq_true, decide_eq_true_eq] at z; have e := (hrw.1 z.1).2.2.2.2.1; rw [if_pos z.2] at e; exact h38 e) | (refine ja ?_; have hon : mt_on r c t = true := Decidable.byContradiction (fun z => h24 ((mt_rw_on ho hc2 (by omega) hrw).mpr (mt_nf z))); have e := (hrw.1 hon).2.2.2.2.1; simp only [mt_un, Bool.and_eq_true, decide_eq_true_eq]; refine ⟨hon, Decidable.byContradiction (fun z => ?_)⟩; rw [if_neg z, h38] at e; exact absurd e (by decide))
        · refine ax_aload_n dX10_unsafeOf_27 rfl ?_
          refine ax_getK (f := 36) 170 dX10_unsafeOf_28 acl_10 wd_1636 (by decide) rfl (lo_s hok 90 rfl) (lo_r hok 101 rfl) ?_
          refine ax_iload_n dX10_unsafeOf_31 rfl ?_
          refine ax_aaldN3 (171 + 100 * (c)) (c) dX10_unsafeOf_32 (lo_s hok 170 rfl) (by decide) (by first | with_reducible rfl | assumption | exact ax_nix (by simp only [nx_0, nx_1, nx_2, nx_3, nx_4, nx_10, nx_20, nx_21, nx_100, nI_add, pk_mul] <;> rfl) (by omega) | decide) (by omega) (lo_tt hok (by omega)) ?_
          refine ax_iload_n dX10_unsafeOf_33 rfl ?_
          refine ax_aaldN2 (172 + 100 * (c) + (t)) (t) dX10_unsafeOf_34 (lo_ts hok (by omega)) (by decide) (by first | with_reducible rfl | assumption | exact ax_nix (by simp only [nx_0, nx_1, nx_2, nx_3, nx_4, nx_10, nx_20, nx_21, nx_100, nI_add, pk_mul] <;> rfl) (by omega) | decide) (by omega) (lo_tr hok (by omega) (by omega)) ?_
          refine ax_iconst (v := 4) dX10_unsafeOf_35 (by decide) ?_
          refine ax_ialdN (4) dX10_unsafeOf_36 (by first | assumption | exact lo_tz hok (by omega) (by omega) | exact lo_z_m_wet hok (by omega) | exact lo_z_m_readWet hok (by omega) | exact lo_z_m_law hok (by omega) | exact lo_z_m_book hok (by omega) | exact lo_z_m_readBook hok (by omega) | exact lo_z_m_before hok (by omega) | exact lo_z_m_kept hok (by omega) | exact lo_z_m_seenAt hok (by omega) | exact lo_z_m_seenIn hok (by omega) | exact lo_z_m_t0 hok (by omega) | exact lo_z_m_t1 hok (by omega) | exact lo_z_m_c0 hok (by omega) | exact lo_z_m_c1 hok (by omega) | exact lo_z_x_kept hok (by omega)) (by decide) (by decide) (by decide) ?_
          refine ax_iconst (v := 1) dX10_unsafeOf_37 (by decide) ?_
          refine ax_icmp_ne (tgt := 45) dX10_unsafeOf_38 (by decide) (fun h38 => ?_) (fun h38 => ?_)
          · refine ax_iconst (v := 0) dX10_unsafeOf_45 (by decide) ?_
            first | (refine jb ?_; simp [mt_un, (mt_rw_on ho hc2 (by omega) hrw).mp h24]; done) | (refine jb ?_; intro z; simp only [mt_un, Bool.and_eq_true, decide_eq_true_eq] at z; have e := (hrw.1 z.1).2.2.2.2.1; rw [if_pos z.2] at e; exact h38 e) | (refine ja ?_; have hon : mt_on r c t = true := Decidable.byContradiction (fun z => h24 ((mt_rw_on ho hc2 (by omega) hrw).mpr (mt_nf z))); have e := (hrw.1 hon).2.2.2.2.1; simp only [mt_un, Bool.and_eq_true, decide_eq_true_eq]; refine ⟨hon, Decidable.byContradiction (fun z => ?_)⟩; rw [if_neg z, h38] at e; exact absurd e (by decide))
          · refine ax_iconst (v := 1) dX10_unsafeOf_41 (by decide) ?_
            refine ax_goto (tgt := 46) dX10_unsafeOf_42 (by decide) ?_
            first | (refine jb ?_; simp [mt_un, (mt_rw_on ho hc2 (by omega) hrw).mp h24]; done) | (refine jb ?_; intro z; simp only [mt_un, Bool.and_eq_true, decide_eq_true_eq] at z; have e := (hrw.1 z.1).2.2.2.2.1; rw [if_pos z.2] at e; exact h38 e) | (refine ja ?_; have hon : mt_on r c t = true := Decidable.byContradiction (fun z => h24 ((mt_rw_on ho hc2 (by omega) hrw).mpr (mt_nf z))); have e := (hrw.1 hon).2.2.2.2.1; simp only [mt_un, Bool.and_eq_true, decide_eq_true_eq]; refine ⟨hon, Decidable.byContradiction (fun z => ?_)⟩; rw [if_neg z, h38] at e; exact absurd e (by decide))
      refine ax_iadd dX10_unsafeOf_46 ?_
      refine ax_istore_n dX10_unsafeOf_47 (by decide) rfl ?_
      refine ax_iinc (v := 1) dX10_unsafeOf_48 rfl (by decide) (by decide) rfl ?_
      refine ax_goto (tgt := 4) dX10_unsafeOf_51 (by decide) ?_
      refine next _ _ ⟨rfl, ?_⟩
      have e : nI (mt_cnt (mt_un r lw dd c) t) + (if mt_un r lw dd c t = true then 1 else 0) = nI (mt_cnt (mt_un r lw dd c) (t + 1)) := by
        show _ = nI (mt_cnt (mt_un r lw dd c) t + _)
        rw [← nI_add]; congr 1; split <;> rfl
      rw [nI_1, e]; rfl
  · rintro N L ⟨rfl, rfl⟩
    refine ax_iload_n dX10_unsafeOf_4 rfl ?_
    refine ax_aload_n dX10_unsafeOf_5 rfl ?_
    refine ax_getI (f := 46) dX10_unsafeOf_6 acl_10 wd_1646 (by decide) rfl (lo_s hok 90 rfl) ?_
    rw [hR.2.1]
    refine ax_icmp_ge (tgt := 54) dX10_unsafeOf_9 (by decide) (fun hc => ?_) (fun hc => ?_)
    · refine ax_iload_n dX10_unsafeOf_54 rfl ?_
      refine ax_iret dX10_unsafeOf_55 rfl ?_
      exact ⟨rfl, rfl⟩
    · exact absurd ((nI_leI (by omega) (by omega)).mpr (Nat.le_refl _)) hc
theorem c_X10_costOf (hok : lo_ok M.2) (ho : rd_ok r) (hR : mt_R M r lw dd) {c : Nat} (hc2 : c < 2) {x : Int32} (hx : x = nI c) : ax_Met l G kX10_costOf 1 0 0 M [av_r 90, av_i x] (ax_p (av_i (nI (mt_cost r lw dd c))) M) := by
  subst hx
  refine ax_body (by decide) (Nat.le_of_ble_eq_true rfl) ?_
  refine ax_bipush (v := 10) dX10_costOf_0 (by decide) ?_
  refine ax_aload_n dX10_costOf_2 rfl ?_
  refine ax_getK (f := 39) 377 dX10_costOf_3 acl_10 wd_1639 (by decide) rfl (lo_s hok 90 rfl) (lo_r hok 104 rfl) ?_
  refine ax_iload_n dX10_costOf_6 rfl ?_
  refine ax_ialdN (c) dX10_costOf_7 (lo_s hok 377 rfl) (by decide) (by first | with_reducible rfl | assumption | exact ax_nix (by simp only [nx_0, nx_1, nx_2, nx_3, nx_4, nx_10, nx_20, nx_21, nx_100, nI_add, pk_mul] <;> rfl) (by omega) | decide) (by omega) ?_
  refine ax_callS (As := _) (c1 := 0) (n1 := 0) (c_X10_ones (d := 0) (M := M) _) dX10_costOf_8 mX10_ones wd_2041 rfl (by omega) (by omega) (by omega) rfl rfl (fun _ _ h => by cases h.1) ?_
  rintro r M9 ⟨h1, h9⟩; cases h1; rw [h9]; clear h9 M9
  rw [(hR.1 c hc2).2.2.2.2.1]
  unfold mt_hit
  rw [mt_ones_or]
  refine ax_imul dX10_costOf_11 ?_
  refine ax_aload_n dX10_costOf_12 rfl ?_
  refine ax_iload_n dX10_costOf_13 rfl ?_
  refine ax_callV (As := _) (d2 := _) (c1 := 0) (n1 := 0) (c_X10_unsafeOf (d := 0) (M := M) hok ho hR hc2 rfl) dX10_costOf_14 mX10_unsafeOf wd_2017 acl_10 (lo_s hok 90 rfl) rfl (by omega) (by omega) (by omega) rfl rfl (fun _ _ h => by cases h.1) ?_
  rintro r M9 ⟨h1, h9⟩; cases h1; rw [h9]; clear h9 M9
  refine ax_iadd dX10_costOf_17 ?_
  refine ax_iret dX10_costOf_18 rfl ?_
  rw [nx_10, pk_mul, nI_add]
  exact ⟨rfl, rfl⟩
end MU

