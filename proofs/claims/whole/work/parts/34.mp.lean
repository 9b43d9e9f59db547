/-! ===== a tenth gone through: the reference ===== -/
def mt_cl (r : Nat → Int) (c t : Nat) (z : Int32) : Prop := ∃ w : Int, z = iI w ∧ (mt_on r c t = true → w = mt_pos r c t) ∧ (mt_on r c t = false → (c : Int) < r 1 → (c = 0 → r 0 ≤ w ∧ w ≤ 70 ∧ r 0 ≤ mt_pos r 0 t) ∧ (c = 1 → w < 0 ∧ -10 ≤ w ∧ mt_pos r 1 t < 0))
theorem mt_cl_on {r : Nat → Int} {c t : Nat} {z : Int32} (h : mt_cl r c t z) (q : mt_on r c t = true) : z = iI (mt_pos r c t) := by
  obtain ⟨w, h1, h2, _⟩ := h; rw [h1, h2 q]
theorem mt_nf {b : Bool} (h : ¬ b = true) : b = false := Bool.eq_false_iff.mpr h
theorem mt_cl_iff {r : Nat → Int} (ho : rd_ok r) {c t : Nat} (hc : c < 2) {z : Int32} (h : mt_cl r c t z) (ht : t ≤ 99) : (nI c < iI (r 1) ∧ 0 ≤ z ∧ z ≤ iI (r 0) - 1) ↔ mt_on r c t = true := by
  have h9 := ho.1
  obtain ⟨w, h1, h2, h3⟩ := h
  subst h1
  rw [iI_nI, iI_lt (by unfold iI_b; omega) (by unfold iI_b; omega), show (0 : Int32) = iI 0 from rfl, show (1 : Int32) = iI 1 from rfl, iI_sub]
  by_cases q : mt_on r c t = true
  · have e := h2 q
    have hp := mt_pos_b ho hc ht
    have q2 := mt_on_iff.mp q
    rw [e, iI_le (by unfold iI_b; omega) (by unfold iI_b; omega), iI_le (by unfold iI_b; omega) (by unfold iI_b; omega)]
    exact ⟨fun _ => q, fun _ => ⟨q2.1, q2.2.1, by omega⟩⟩
  · refine ⟨fun z => ?_, fun z => absurd z q⟩
    have h4 := h3 (mt_nf q) z.1
    rcases (show c = 0 ∨ c = 1 by omega) with rfl | rfl
    · have h5 := h4.1 rfl
      rw [iI_le (by unfold iI_b; omega) (by unfold iI_b; omega), iI_le (by unfold iI_b; omega) (by unfold iI_b; omega)] at z
      omega
    · have h5 := h4.2 rfl
      rw [iI_le (by unfold iI_b; omega) (by unfold iI_b; omega), iI_le (by unfold iI_b; omega) (by unfold iI_b; omega)] at z
      omega
theorem mt_cl_s {r : Nat → Int} (ho : rd_ok r) {c t : Nat} (hc : c < 2) {z z2 : Int32} (h : mt_cl r c t z) (ht : t < 99) (h1 : mt_on r c t = true → z2 = iI (mt_pos r c (t + 1))) (h2 : mt_on r c t = false → z2 = z) : mt_cl r c (t + 1) z2 := by
  have h9 := ho.1
  have p0 := rd_p0 ho; have p1 := rd_p1 ho
  by_cases q : mt_on r c t = true
  · refine ⟨_, h1 q, fun _ => rfl, fun q2 q3 => ?_⟩
    have q4 := mt_on_iff.mp q
    have q5 : ¬ mt_on r c (t + 1) = true := by rw [q2]; decide
    rw [mt_on_iff] at q5
    rcases (show c = 0 ∨ c = 1 by omega) with rfl | rfl
    · rw [mt_pos_s0] at q5 ⊢
      exact ⟨fun _ => by omega, fun z => by omega⟩
    · rw [mt_pos_s1] at q5 ⊢
      exact ⟨fun z => by omega, fun _ => by omega⟩
  · have qf := mt_nf q
    rw [h2 qf]
    obtain ⟨w, e, h3, h4⟩ := h
    refine ⟨w, e, fun q2 => ?_, fun q2 q3 => ?_⟩
    · exfalso
      have q4 := mt_on_iff.mp q2
      have h5 := h4 qf q4.1
      rcases (show c = 0 ∨ c = 1 by omega) with rfl | rfl
      · have := h5.1 rfl; rw [mt_pos_s0] at q4; omega
      · have := h5.2 rfl; rw [mt_pos_s1] at q4; omega
    · have h5 := h4 qf q3
      refine ⟨fun e2 => ?_, fun e2 => ?_⟩
      · have := h5.1 e2; rw [mt_pos_s0]; omega
      · have := h5.2 e2; rw [mt_pos_s1]; omega
theorem lo_tt {M : ax_M} (h : lo_ok M.2) {c : Nat} (hc : c < 2) : M.2.1 170 c = 171 + 100 * c := by
  rcases (show c = 0 ∨ c = 1 by omega) with rfl | rfl
  · exact h.2 (170, 0, 171) (by decide +kernel)
  · exact h.2 (170, 1, 271) (by decide +kernel)
theorem lo_ts {M : ax_M} (h : lo_ok M.2) {c : Nat} (hc : c < 2) : M.2.2.2.1 (171 + 100 * c) = some (.inl (2, 99)) := by
  rcases (show c = 0 ∨ c = 1 by omega) with rfl | rfl
  · exact h.1 171 _ rfl
  · exact h.1 271 _ rfl
theorem lo_tr {M : ax_M} (h : lo_ok M.2) {c t : Nat} (hc : c < 2) (ht : t < 99) : M.2.1 (171 + 100 * c) t = 172 + 100 * c + t := by
  rcases (show c = 0 ∨ c = 1 by omega) with rfl | rfl
  · exact lo_w_m_t0 h ht
  · exact lo_w_m_t1 h ht
theorem lo_tz {M : ax_M} (h : lo_ok M.2) {c t : Nat} (hc : c < 2) (ht : t < 99) : M.2.2.2.1 (172 + 100 * c + t) = some (.inl (0, 6)) := by
  rcases (show c = 0 ∨ c = 1 by omega) with rfl | rfl
  · exact lo_z_m_t0 h ht
  · exact lo_z_m_t1 h ht
theorem nI_1m {c : Nat} (hc : c < 2) : (1 : Int32) - nI c = nI (1 - c) := by
  rcases (show c = 0 ∨ c = 1 by omega) with rfl | rfl <;> rfl
section MP
variable {l : Launch} {G : ax_G} {M : ax_M} {r : Nat → Int} {lw : mt_L} {dd : Nat → Int32}
theorem c_rOn (hok : lo_ok M.2) (hr : rr M r) (ho : rd_ok r) {c t : Nat} (hc : c < 2) (ht : t ≤ 99) (hcl : mt_cl r c t (M.1 379 c)) {x : Int32} (hx : x = nI c) : ax_Met l G kX10_isOn 1 0 0 M [av_r 90, av_i x] (ax_p (av_i (if mt_on r c t = true then 1 else 0)) M) := by
  have h := c_X10_isOn (l := l) (G := G) hok hc hx
  have e : (if nI c < M.1 94 1 ∧ 0 ≤ M.1 379 c ∧ M.1 379 c ≤ M.1 94 0 - 1 then (1 : Int32) else 0) = if mt_on r c t = true then 1 else 0 := by
    rw [hr.1 1 (by decide), hr.1 0 (by decide)]
    by_cases q : mt_on r c t = true
    · rw [if_pos q, if_pos ((mt_cl_iff ho hc hcl ht).mpr q)]
    · rw [if_neg q, if_neg (fun z => q ((mt_cl_iff ho hc hcl ht).mp z))]
  rw [e] at h
  exact h
theorem c_looks (hok : lo_ok M.2) (hr : rr M r) (ho : rd_ok r) (hl : ml_law M 0 (lw 0)) {c t : Nat} (hc : c < 2) (ht : t < 99) (hon : mt_on r c t = true) (hcell : M.1 379 c = iI (mt_pos r c t)) (hfull : ∀ q, q < 2 → M.1 381 q = mt_f r lw dd q t) (hbl : M.1 380 c = iI (mt_b r lw dd c t)) (hv : mt_view r t = true → M.1 379 0 = iI (mt_pos r 0 t) ∧ M.1 379 1 = iI (mt_pos r 1 t)) (hs : mt_sn M r lw dd c 0 t) (hh : M.1 377 c = mt_hit r lw dd c t) {x y v m : Int32} (hx : x = nI c) (hy : y = nI t) (hvv : v = if mt_view r t = true then 1 else 0) (hm : m = if mt_met r t = true then 1 else 0) : ax_Met l G kX10_looksOut 4 0 0 M [av_r 90, av_i x, av_i y, av_i v, av_i m] (fun o M2 => o = .inl none ∧ lk_o M M2 r lw dd c t) := by
  rcases (show c = 0 ∨ c = 1 by omega) with rfl | rfl
  · exact c_looks0 hok hr ho hl ht hon hcell hfull hbl hv hs hh hx hy hvv hm
  · exact c_looks1 hok hr ho hl ht hon hcell hfull hbl hv hs hh hx hy hvv hm
theorem c_X10_leaves (hok : lo_ok M.2) (hr : rr M r) (ho : rd_ok r) {t : Nat} (ht : t < 99) (hcl : ∀ c, c < 2 → mt_cl r c t (M.1 379 c)) : ax_Met l G kX10_leaves 2 0 0 M [av_r 90] (fun o M2 => o = .inl none ∧ M2.2 = M.2 ∧ (∀ n i, n ≠ 379 → M2.1 n i = M.1 n i) ∧ ∀ c, c < 2 → mt_cl r c (t + 1) (M2.1 379 c)) := by
  have h9 := ho.1
  refine ax_body (by decide) (Nat.le_of_ble_eq_true rfl) ?_
  refine ax_iconst (v := 0) dX10_leaves_0 (by decide) ?_
  refine ax_istore_n dX10_leaves_1 (by decide) rfl ?_
  refine ax_for (r 1).toNat (fun i N L => L = [some (av_r 90), some (av_i (nI i))] ∧ N.2 = M.2 ∧ (∀ n i, n ≠ 379 → N.1 n i = M.1 n i) ∧ ∀ c, c < 2 → mt_cl r c (if c < i then t + 1 else t) (N.1 379 c)) 2 ?_ ?_ (i := 0) (by omega) ⟨rfl, rfl, fun _ _ _ => rfl, fun c hc => by rw [if_neg (by omega)]; exact hcl c hc⟩
  · rintro i N L hi ⟨rfl, f1, f2, f3⟩ next
    have hok : lo_ok N.2 := by rw [f1]; exact hok
    have hrN : rr N r := rr_fr hr (fun n i q => f2 n i (by omega))
    have fi := f3 i (by omega)
    rw [if_neg (by omega)] at fi
    refine ax_iload_n dX10_leaves_2 rfl ?_
    refine ax_aload_n dX10_leaves_3 rfl ?_
    refine ax_getK (f := 12) 94 dX10_leaves_4 acl_10 wd_1612 (by decide) rfl (lo_s hok 90 rfl) (lo_r hok 83 rfl) ?_
    refine ax_iconst (v := 1) dX10_leaves_7 (by decide) ?_
    refine ax_ialdN (1) dX10_leaves_8 (lo_s hok 94 rfl) (by decide) (by decide) (by decide) ?_
    rw [f2 94 1 (by decide), hr.1 1 (by decide), iI_tn (by omega)]
    refine ax_icmp_ge (tgt := 50) dX10_leaves_9 (by decide) (fun hc => ?_) (fun hc => ?_)
    · exact absurd ((nI_leI (by omega) (by omega)).mp hc) (by omega)
    · refine ax_aload_n dX10_leaves_12 rfl ?_
      refine ax_iload_n dX10_leaves_13 rfl ?_
      refine ax_callV (As := _) (d2 := _) (c1 := 0) (n1 := 0) (c_rOn (M := N) hok hrN ho (c := i) (t := t) (by omega) (by omega) fi rfl) dX10_leaves_14 mX10_isOn wd_1951 acl_10 (lo_s hok 90 rfl) rfl (by omega) (by omega) (by omega) rfl rfl (fun _ _ h => by cases h.1) ?_
      rintro r M9 ⟨h1, h9⟩; cases h1; rw [h9]; clear h9 M9
      refine ax_ifB_eq (tgt := 44) dX10_leaves_17 (by decide) (fun hc => ?_) (fun hc => ?_)
      · refine ax_iinc (v := 1) dX10_leaves_44 rfl (by decide) (by decide) rfl ?_
        refine ax_goto (tgt := 2) dX10_leaves_47 (by decide) ?_
        refine next N _ ⟨by rw [nI_1]; rfl, f1, f2, fun c hc2 => ?_⟩
        by_cases q : c = i
        · subst q; rw [if_pos (by omega)]
          exact mt_cl_s ho hc2 fi ht (fun z => absurd z hc) (fun _ => rfl)
        · have := f3 c hc2
          by_cases q2 : c < i
          · rw [if_pos q2] at this; rw [if_pos (by omega)]; exact this
          · rw [if_neg q2] at this; rw [if_neg (by omega)]; exact this
      · have hon := hc
        refine ax_aload_n dX10_leaves_20 rfl ?_
        refine ax_getK (f := 41) 379 dX10_leaves_21 acl_10 wd_1641 (by decide) rfl (lo_s hok 90 rfl) (lo_r hok 106 rfl) ?_
        refine ax_iload_n dX10_leaves_24 rfl ?_
        refine ax_dup2 dX10_leaves_25 (by first | rfl | exact ax_crf _) (by first | rfl | exact ax_crf _) ?_
        refine ax_ialdN (i) dX10_leaves_26 (lo_s hok 379 rfl) (by decide) (by first | with_reducible rfl | assumption | exact ax_nix (by simp only [nx_0, nx_1, nx_2, nx_3, nx_4, nx_10, nx_20, nx_21, nx_100, nI_add, pk_mul] <;> rfl) (by omega) | decide) (by omega) ?_
        refine ax_iload_n dX10_leaves_27 rfl ?_
        rw [mt_cl_on fi hon]
        refine ax_join1 (i = 0) 36 (1) (-1) ?_ (fun ja jb => ?_)
        rotate_left
        · refine ax_if_ne (tgt := 35) dX10_leaves_28 (by decide) (fun h28 => ?_) (fun h28 => ?_)
          · refine ax_iconst (v := (-1)) dX10_leaves_35 (by decide) ?_
            first | exact ja (by have := (nI_eq (b := 0) (by omega) (by omega)).mp h28; omega) | exact jb (fun z => h28 (by rw [z]; rfl))
          · refine ax_iconst (v := 1) dX10_leaves_31 (by decide) ?_
            refine ax_goto (tgt := 36) dX10_leaves_32 (by decide) ?_
            first | exact ja (by have := (nI_eq (b := 0) (by omega) (by omega)).mp h28; omega) | exact jb (fun z => h28 (by rw [z]; rfl))
        refine ax_aload_n dX10_leaves_36 rfl ?_
        refine ax_iload_n dX10_leaves_37 rfl ?_
        refine ax_callV (As := _) (d2 := _) (c1 := 0) (n1 := 0) (c_rPace (d := 0) (M := N) hok hrN (c := i) (by omega) rfl) dX10_leaves_38 mX10_paceOf wd_1923 acl_10 (lo_s hok 90 rfl) rfl (by omega) (by omega) (by omega) rfl rfl (fun _ _ h => by cases h.1) ?_
        rintro r M9 ⟨h1, h9⟩; cases h1; rw [h9]; clear h9 M9
        refine ax_imul dX10_leaves_41 ?_
        refine ax_iadd dX10_leaves_42 ?_
        have e : iI (mt_pos r i t) + (if i = 0 then 1 else -1) * iI (r (10 + 2 * i)) = iI (mt_pos r i (t + 1)) := by
          rcases (show i = 0 ∨ i = 1 by omega) with rfl | rfl
          · rw [if_pos rfl, mt_pos_s0, show (1 : Int32) = iI 1 from rfl, iI_mul, iI_add]; congr 1; show _ + 1 * r 10 = _; omega
          · rw [if_neg (by decide), mt_pos_s1, show (-1 : Int32) = iI (-1) from rfl, iI_mul, iI_add]; congr 1; show _ + -1 * r 12 = _; omega
        rw [e]
        refine ax_iastN (i) dX10_leaves_43 (lo_s hok 379 rfl) (by decide) (by first | with_reducible rfl | assumption | exact ax_nix (by simp only [nx_0, nx_1, nx_2, nx_3, nx_4, nx_10, nx_20, nx_21, nx_100, nI_add, pk_mul] <;> rfl) (by omega) | decide) (by omega) ?_
        refine ax_gen (fun N2 hN2 => ?_)
        have hok : lo_ok N2.2 := by rw [hN2]; exact hok
        refine ax_iinc (v := 1) dX10_leaves_44 rfl (by decide) (by decide) rfl ?_
        refine ax_goto (tgt := 2) dX10_leaves_47 (by decide) ?_
        refine next N2 _ ⟨by rw [nI_1]; rfl, by rw [hN2]; exact f1, fun n j q => by rw [hN2, ax_pn (by omega)]; exact f2 n j q, fun c hc2 => ?_⟩
        by_cases q : c = i
        · subst q; rw [if_pos (by omega), hN2, ax_pa]
          exact mt_cl_s ho hc2 fi ht (fun _ => rfl) (fun z => by rw [hon] at z; cases z)
        · rw [hN2, ax_pn (by omega)]
          have := f3 c hc2
          by_cases q2 : c < i
          · rw [if_pos q2] at this; rw [if_pos (by omega)]; exact this
          · rw [if_neg q2] at this; rw [if_neg (by omega)]; exact this
  · rintro N L ⟨rfl, f1, f2, f3⟩
    have hok : lo_ok N.2 := by rw [f1]; exact hok
    refine ax_iload_n dX10_leaves_2 rfl ?_
    refine ax_aload_n dX10_leaves_3 rfl ?_
    refine ax_getK (f := 12) 94 dX10_leaves_4 acl_10 wd_1612 (by decide) rfl (lo_s hok 90 rfl) (lo_r hok 83 rfl) ?_
    refine ax_iconst (v := 1) dX10_leaves_7 (by decide) ?_
    refine ax_ialdN (1) dX10_leaves_8 (lo_s hok 94 rfl) (by decide) (by decide) (by decide) ?_
    rw [f2 94 1 (by decide), hr.1 1 (by decide), iI_tn (by omega)]
    refine ax_icmp_ge (tgt := 50) dX10_leaves_9 (by decide) (fun hc => ?_) (fun hc => ?_)
    · refine ax_vret dX10_leaves_50 rfl ?_
      refine ⟨rfl, f1, f2, fun c hc2 => ?_⟩
      have := f3 c hc2
      by_cases q : c < (r 1).toNat
      · rw [if_pos q] at this; exact this
      · have q3 : ∀ u, mt_on r c u = false := fun u => mt_nf (fun z => by have := (mt_on_iff.mp z).1; omega)
        refine ⟨_, (iI_of _).symm, fun z => ?_, fun _ z => by omega⟩
        rw [q3] at z; cases z
    · exact absurd ((nI_leI (by omega) (by omega)).mpr (Nat.le_refl _)) hc
end MP

