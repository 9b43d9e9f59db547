/-! ===== changes, images, the tape: the reference ===== -/
/-- an answer and the memory behind it, or a refusal -/
def rz (M M2 : ax_M) (o : ax_O) (x : (ax_V × ax_M) ⊕ (Nat × Nat)) : Prop := match x with
  | .inl q => o = .inl (some q.1) ∧ M2 = q.2
  | .inr q => (∃ u, o = .inl (some (av_i u))) ∧ M2 = mk_bad (ax_pI M 90 0 0) (nI q.1) q.2
theorem rz_bad {M M0 : ax_M} {u : Int32} {x : Int32} {w k : Nat} {y : (ax_V × ax_M) ⊕ (Nat × Nat)} (hM0 : M0 = ax_pI M 90 0 0) (hx : x = nI w) (e : y = .inr (w, k)) : rz M (mk_bad M0 x k) (.inl (some (av_i u))) y := by
  subst hM0 e hx
  exact ⟨⟨u, rfl⟩, rfl⟩
def mk_ch (M : ax_M) (n : Nat) : ax_M := ax_pI (ax_cp M (146 + n) 100 26) 90 33 (nI (n + 1))
def qz_drives (M : ax_M) (r : Nat → Int) (n : Nat) (x p t : Int32) : (ax_V × ax_M) ⊕ (Nat × Nat) := if ¬ (0 ≤ x ∧ x ≤ iI (r 1) - 1) then .inr (1, 0) else if ¬ (1 ≤ p ∧ p ≤ 3) ∨ ¬ (0 ≤ t ∧ t ≤ 9) then .inr (2, 1) else if n = 20 then .inl (av_i 0, ax_pI M 90 0 0) else .inl (av_i 1, ax_pI (ax_pI (mk_ch (ax_pI M 90 0 0) n) 100 (2 * x.toNatClampNeg) p) 100 (2 * x.toNatClampNeg + 1) t)
def qz_stands (M : ax_M) (r : Nat → Int) (n : Nat) (x p t : Int32) : (ax_V × ax_M) ⊕ (Nat × Nat) := if ¬ (0 ≤ x ∧ x ≤ iI (r 2) - 1) then .inr (1, 0) else if ¬ (0 ≤ p ∧ p ≤ iI (r 0) - 1) ∨ ¬ (0 ≤ t ∧ t ≤ 9) then .inr (2, 1) else if n = 20 then .inl (av_i 0, ax_pI M 90 0 0) else .inl (av_i 1, ax_pI (ax_pI (mk_ch (ax_pI M 90 0 0) n) 100 (4 + 2 * x.toNatClampNeg) p) 100 (5 + 2 * x.toNatClampNeg) t)
def qz_weather (M : ax_M) (n : Nat) (p t : Int32) : (ax_V × ax_M) ⊕ (Nat × Nat) := if ¬ (0 ≤ p ∧ p ≤ 9) ∨ ¬ (0 ≤ t ∧ t ≤ 9) then .inr (1, 1) else if n = 20 then .inl (av_i 0, ax_pI M 90 0 0) else .inl (av_i 1, ax_pI (ax_pI (mk_ch (ax_pI M 90 0 0) n) 100 24 p) 100 25 t)
def qz_undo (M : ax_M) (n : Nat) : (ax_V × ax_M) ⊕ (Nat × Nat) := if n = 0 then .inl (av_i (-1), ax_pI M 90 0 0) else .inl (av_i (nI (n - 1)), ax_cp (ax_pI (ax_pI M 90 0 0) 90 33 (nI (n - 1))) 100 (145 + n) 26)
/-- what an image keeps, in its order -/
def lv (M : ax_M) (j : Nat) : Int32 := if j = 0 then M.1 90 33 else if j < 27 then M.1 100 (j - 1) else M.1 (146 + (j - 27) / 26) ((j - 27) % 26)
def im_0 (M N : ax_M) (R J : Nat) : Prop := N.2 = M.2 ∧ N.1 90 35 = nI J ∧ (∀ n i, n ≠ R → ¬ (n = 90 ∧ i = 35) → N.1 n i = M.1 n i) ∧ ∀ j, j < J → N.1 R j = lv M j
def im_1 (M N : ax_M) (R J : Nat) : Prop := N.2 = M.2 ∧ N.1 90 35 = nI J ∧ (∀ n i, ¬ (n = 90 ∧ (i = 33 ∨ i = 35)) → ¬ (n = 100 ∧ i < 26) → ¬ (146 ≤ n ∧ n ≤ 165 ∧ i < 26) → N.1 n i = M.1 n i) ∧ ∀ j, j < J → lv N j = M.1 R j
def fb (a b c d e : Int32) (k : Nat) : Int32 := (if k < 4 then a else if k < 8 then b else if k < 12 then c else if k < 16 then d else e) >>> (nI (24 - 8 * (k % 4)) &&& 31) &&& 255
def fd_o (M N : ax_M) (t J : Nat) (f : Nat → Int32) : Prop := N.2 = M.2 ∧ N.1 90 1 = nI (t + J) ∧ (∀ k, k < J → N.1 91 (t + k) = f k) ∧ ∀ n i, ¬ (n = 90 ∧ i = 1) → ¬ (n = 91 ∧ t ≤ i ∧ i < t + J) → N.1 n i = M.1 n i
def qa_status (M : ax_M) (x : Int32) : Int32 := if 0 ≤ x ∧ x ≤ 2 then M.1 92 x.toNatClampNeg else -1
def qa_count (M : ax_M) (x : Int32) : Int32 := if x = 0 then M.1 90 34 else if x = 1 then M.1 90 1 else if x = 2 then M.1 90 33 else -1
theorem lv_s (M : ax_M) (k : Nat) (h : k < 26) : lv M (1 + k) = M.1 100 k := by
  unfold lv; rw [if_neg (by omega), if_pos (by omega), show 1 + k - 1 = k by omega]
theorem lv_b (M : ax_M) (w k : Nat) (h : k < 26) : lv M (27 + 26 * w + k) = M.1 (146 + w) k := by
  unfold lv; rw [if_neg (by omega), if_neg (by omega), show (27 + 26 * w + k - 27) / 26 = w by omega, show (27 + 26 * w + k - 27) % 26 = k by omega]
theorem ax_cp_n {M : ax_M} {t f n b j : Nat} (h : b ≠ t) : (ax_cp M t f n).1 b j = M.1 b j := if_neg (fun z => h z.1)
theorem ax_cp_y {M : ax_M} {t f n j : Nat} (h : j < n) : (ax_cp M t f n).1 t j = M.1 f j := if_pos ⟨rfl, h⟩
theorem lv_eq2 {N N2 : ax_M} {j : Nat} (h1 : N2.1 90 33 = N.1 90 33) (h2 : j ≠ 0 → j < 27 → N2.1 100 (j - 1) = N.1 100 (j - 1)) (h3 : 27 ≤ j → N2.1 (146 + (j - 27) / 26) ((j - 27) % 26) = N.1 (146 + (j - 27) / 26) ((j - 27) % 26)) : lv N2 j = lv N j := by
  unfold lv
  by_cases e : j = 0
  · rw [if_pos e, if_pos e]; exact h1
  · rw [if_neg e, if_neg e]
    by_cases e2 : j < 27
    · rw [if_pos e2, if_pos e2]; exact h2 e e2
    · rw [if_neg e2, if_neg e2]; exact h3 (by omega)
section QL
variable {l : Launch} {G : ax_G} {M : ax_M} {r : Nat → Int}
theorem c_changed (hok : lo_ok M.2) {n : Nat} (hn : M.1 90 33 = nI n) (hn2 : n ≤ 20) : ax_Met l G kX10_changed 1 0 0 M [av_r 90] (fun o M2 => (n = 20 ∧ o = .inl (some (av_i 0)) ∧ M2 = M) ∨ (¬ n = 20 ∧ o = .inl (some (av_i 1)) ∧ M2 = mk_ch M n)) := by
  refine ax_body (by decide) (Nat.le_of_ble_eq_true rfl) ?_
  refine ax_aload_n dX10_changed_0 rfl ?_
  refine ax_getI (f := 33) dX10_changed_1 acl_10 wd_1633 (by decide) rfl (lo_s hok 90 rfl) ?_
  refine ax_bipush (v := 20) dX10_changed_4 (by decide) ?_
  rw [hn]
  refine ax_icmp_ne (tgt := 11) dX10_changed_6 (by decide) (fun hc => ?_) (fun hc => ?_)
  · have hne : ¬ n = 20 := fun z => hc (by rw [z]; rfl)
    refine ax_aload_n dX10_changed_11 rfl ?_
    refine ax_getK (f := 18) 100 dX10_changed_12 acl_10 wd_1618 (by decide) rfl (lo_s hok 90 rfl) (lo_r hok 89 rfl) ?_
    refine ax_aload_n dX10_changed_15 rfl ?_
    refine ax_getK (f := 30) 145 dX10_changed_16 acl_10 wd_1630 (by decide) rfl (lo_s hok 90 rfl) (lo_r hok 99 rfl) ?_
    refine ax_aload_n dX10_changed_19 rfl ?_
    refine ax_getI (f := 33) dX10_changed_20 acl_10 wd_1633 (by decide) rfl (lo_s hok 90 rfl) ?_
    rw [hn]
    refine ax_aaldN2 (146 + (n)) (n) dX10_changed_23 (lo_s hok 145 rfl) (by decide) (by first | with_reducible rfl | assumption | exact ax_nix (by simp only [nx_0, nx_1, nx_2, nx_3, nx_4, nx_10, nx_20, nx_21, nx_100, nI_add, pk_mul] <;> rfl) (by omega) | decide) (by omega) (lo_w_m_before hok (by omega)) ?_
    refine ax_bipush (v := 26) dX10_changed_24 (by decide) ?_
    refine ax_callS (As := _) (c1 := 0) (n1 := 0) (c_X10_copies (d := 0) (M := M) (lf := 26) (lt := 26) (n := 26) (lo_s hok 100 rfl) (lo_z_m_before hok (by omega)) (by omega) (by omega) (by omega) (by omega) (by omega) rfl) dX10_changed_26 mX10_copies wd_1597 rfl (by omega) (by omega) (by omega) rfl rfl (fun _ _ h => by cases h.1) ?_
    rintro r1 M1 ⟨h1, hM1⟩; cases h1
    have hok : lo_ok M1.2 := by rw [hM1]; exact hok
    have e33 : M1.1 90 33 = nI n := by
      rw [hM1, ax_cp_n (by omega)]; exact hn
    refine ax_aload_n dX10_changed_29 rfl ?_
    refine ax_dup dX10_changed_30 (by first | rfl | exact ax_crf _) ?_
    refine ax_getI (f := 33) dX10_changed_31 acl_10 wd_1633 (by decide) rfl (lo_s hok 90 rfl) ?_
    rw [e33]
    refine ax_iconst (v := 1) dX10_changed_34 (by decide) ?_
    refine ax_iadd dX10_changed_35 ?_
    refine ax_putI (f := 33) dX10_changed_36 acl_10 wd_1633 (by decide) rfl rfl (ax_nfI rfl) (lo_s hok 90 rfl) ?_
    refine ax_iconst (v := 1) dX10_changed_39 (by decide) ?_
    refine ax_zret dX10_changed_40 rfl ?_ ?_
    · exact Or.inr rfl
    · exact Or.inr ⟨hne, rfl, by rw [hM1, nI_1]; rfl⟩
  · have := (nI_eq (b := 20) (by omega) (by omega)).mp hc
    refine ax_iconst (v := 0) dX10_changed_9 (by decide) ?_
    refine ax_zret dX10_changed_10 rfl ?_ ?_
    · exact Or.inl rfl
    · exact Or.inl ⟨this, rfl, rfl⟩
theorem c_drives (hok : lo_ok M.2) (hr : rr M r) (ho : rd_ok r) {n : Nat} (hn : M.1 90 33 = nI n) (hn2 : n ≤ 20) (x p t : Int32) : ax_Met l G kX10_drives 2 0 0 M [av_r 90, av_i x, av_i p, av_i t] (fun o M2 => rz M M2 o (qz_drives M r n x p t)) := by
  have h9 := ho.1
  refine ax_body (by decide) (Nat.le_of_ble_eq_true rfl) ?_
  refine ax_aload_n dX10_drives_0 rfl ?_
  refine ax_iconst (v := 0) dX10_drives_1 (by decide) ?_
  refine ax_putI (f := 0) dX10_drives_2 acl_10 wd_1600 (by decide) rfl rfl (ax_nfI rfl) (lo_s hok 90 rfl) ?_
  refine ax_gen (fun M0 hM0 => ?_)
  have hok : lo_ok M0.2 := by rw [hM0]; exact hok
  have hr0 : rr M0 r := by rw [hM0]; exact rr_fr hr (fun n i q => ax_pn (by omega))
  have h00 : M0.1 90 0 = 0 := by rw [hM0, ax_pa]
  refine ax_aload_n dX10_drives_5 rfl ?_
  refine ax_join0 (¬ (0 ≤ x ∧ x ≤ iI (r 1) - 1)) 19 (1) (0) ?_ (fun ja jb => ?_)
  rotate_left
  · refine ax_aload_n dX10_drives_6 rfl ?_
    refine ax_iload_n dX10_drives_7 rfl ?_
    refine ax_callV (As := _) (d2 := _) (c1 := 0) (n1 := 0) (c_rIsCar (M := M0) hok hr0 _) dX10_drives_8 mX10_isCar wd_1919 acl_10 (lo_s hok 90 rfl) rfl (by omega) (by omega) (by omega) rfl rfl (fun _ _ h => by cases h.1) ?_
    rintro r M9 ⟨h1, h9⟩; cases h1; rw [h9]; clear h9 M9
    refine ax_ifB_ne (tgt := 18) dX10_drives_11 (by decide) (fun h11 => ?_) (fun h11 => ?_)
    · refine ax_iconst (v := 0) dX10_drives_18 (by decide) ?_
      first | (refine ja ?_; simp only [h11, and_self, and_true, true_and, not_true_eq_false, not_false_eq_true, or_true, true_or, or_false, false_or, or_self]; done) | (refine jb ?_; simp only [h11, and_self, and_true, true_and, not_true_eq_false, not_false_eq_true, or_true, true_or, or_false, false_or, or_self]; done) | exact ja h11 | exact jb (fun z => z h11) | exact ja (Or.inr h11) | exact ja (Or.inl h11)
    · refine ax_iconst (v := 1) dX10_drives_14 (by decide) ?_
      refine ax_goto (tgt := 19) dX10_drives_15 (by decide) ?_
      first | (refine ja ?_; simp only [h11, and_self, and_true, true_and, not_true_eq_false, not_false_eq_true, or_true, true_or, or_false, false_or, or_self]; done) | (refine jb ?_; simp only [h11, and_self, and_true, true_and, not_true_eq_false, not_false_eq_true, or_true, true_or, or_false, false_or, or_self]; done) | exact ja h11 | exact jb (fun z => z h11) | exact ja (Or.inr h11) | exact ja (Or.inl h11)
  refine ax_iconst (v := 1) dX10_drives_19 (by decide) ?_
  refine ax_iconst (v := 0) dX10_drives_20 (by decide) ?_
  refine ax_callV (As := _) (d2 := _) (c1 := 0) (n1 := 0) (c_badP (d := 0) (M := M0) (p := ¬ (0 ≤ x ∧ x ≤ iI (r 1) - 1)) hok h00 (w := 1) (k := 0) (by decide) (by decide) (by decide) rfl rfl) dX10_drives_21 mX10_bad wd_1775 acl_10 (lo_s hok 90 rfl) rfl (by omega) (by omega) (by omega) rfl rfl (fun _ _ h => by rcases h with ⟨_, h, _⟩ | ⟨_, h, _⟩ <;> cases h) ?_
  rintro o9 M9 (⟨g1, h1, h2⟩ | ⟨g1, h1, h2⟩) <;> cases h1 <;> rw [h2] <;> clear h2 M9
  · refine ax_if_ne (tgt := 60) dX10_drives_24 (by decide) (fun hc => ?_) (fun hc => ?_)
    · refine ax_iconst (v := 0) dX10_drives_60 (by decide) ?_
      refine ax_iret dX10_drives_61 rfl ?_
      exact rz_bad hM0 (w := 1) (k := 0) rfl (by unfold qz_drives; rw [if_pos g1])
    · exact absurd hc (by decide)
  refine ax_if_ne (tgt := 60) dX10_drives_24 (by decide) (fun hc => ?_) (fun hc => ?_)
  · exact absurd rfl hc
  refine ax_aload_n dX10_drives_27 rfl ?_
  refine ax_join0 (¬ (1 ≤ p ∧ p ≤ 3) ∨ ¬ (0 ≤ t ∧ t ≤ 9)) 52 (1) (0) ?_ (fun ja jb => ?_)
  rotate_left
  · refine ax_iload_n dX10_drives_28 rfl ?_
    refine ax_iconst (v := 1) dX10_drives_29 (by decide) ?_
    refine ax_iconst (v := 3) dX10_drives_30 (by decide) ?_
    refine ax_callS (As := _) (c1 := 0) (n1 := 0) (c_X10_in (d := 0) (M := M0) _ _ _) dX10_drives_31 mX10_in wd_1772 rfl (by omega) (by omega) (by omega) rfl rfl (fun _ _ h => by cases h.1) ?_
    rintro r M9 ⟨h1, h9⟩; cases h1; rw [h9]; clear h9 M9
    refine ax_ifB_eq (tgt := 47) dX10_drives_34 (by decide) (fun h34 => ?_) (fun h34 => ?_)
    · refine ax_iconst (v := 1) dX10_drives_47 (by decide) ?_
      refine ax_goto (tgt := 52) dX10_drives_48 (by decide) ?_
      first | (refine ja ?_; simp only [h34, and_self, and_true, true_and, not_true_eq_false, not_false_eq_true, or_true, true_or, or_false, false_or, or_self]; done) | (refine jb ?_; simp only [h34, and_self, and_true, true_and, not_true_eq_false, not_false_eq_true, or_true, true_or, or_false, false_or, or_self]; done) | exact ja h34 | exact jb (fun z => z h34) | exact ja (Or.inr h34) | exact ja (Or.inl h34)
    · refine ax_iload_n dX10_drives_37 rfl ?_
      refine ax_iconst (v := 0) dX10_drives_38 (by decide) ?_
      refine ax_bipush (v := 9) dX10_drives_39 (by decide) ?_
      refine ax_callS (As := _) (c1 := 0) (n1 := 0) (c_X10_in (d := 0) (M := M0) _ _ _) dX10_drives_41 mX10_in wd_1772 rfl (by omega) (by omega) (by omega) rfl rfl (fun _ _ h => by cases h.1) ?_
      rintro r M9 ⟨h1, h9⟩; cases h1; rw [h9]; clear h9 M9
      refine ax_ifB_ne (tgt := 51) dX10_drives_44 (by decide) (fun h44 => ?_) (fun h44 => ?_)
      · refine ax_iconst (v := 0) dX10_drives_51 (by decide) ?_
        first | (refine ja ?_; simp only [h34, h44, and_self, and_true, true_and, not_true_eq_false, not_false_eq_true, or_true, true_or, or_false, false_or, or_self]; done) | (refine jb ?_; simp only [h34, h44, and_self, and_true, true_and, not_true_eq_false, not_false_eq_true, or_true, true_or, or_false, false_or, or_self]; done) | exact ja h44 | exact jb (fun z => z h44) | exact ja (Or.inr h44) | exact ja (Or.inl h44)
      · refine ax_iconst (v := 1) dX10_drives_47 (by decide) ?_
        refine ax_goto (tgt := 52) dX10_drives_48 (by decide) ?_
        first | (refine ja ?_; simp only [h34, h44, and_self, and_true, true_and, not_true_eq_false, not_false_eq_true, or_true, true_or, or_false, false_or, or_self]; done) | (refine jb ?_; simp only [h34, h44, and_self, and_true, true_and, not_true_eq_false, not_false_eq_true, or_true, true_or, or_false, false_or, or_self]; done) | exact ja h44 | exact jb (fun z => z h44) | exact ja (Or.inr h44) | exact ja (Or.inl h44)
  refine ax_iconst (v := 2) dX10_drives_52 (by decide) ?_
  refine ax_iconst (v := 1) dX10_drives_53 (by decide) ?_
  refine ax_callV (As := _) (d2 := _) (c1 := 0) (n1 := 0) (c_badP (d := 0) (M := M0) (p := ¬ (1 ≤ p ∧ p ≤ 3) ∨ ¬ (0 ≤ t ∧ t ≤ 9)) hok h00 (w := 2) (k := 1) (by decide) (by decide) (by decide) rfl rfl) dX10_drives_54 mX10_bad wd_1775 acl_10 (lo_s hok 90 rfl) rfl (by omega) (by omega) (by omega) rfl rfl (fun _ _ h => by rcases h with ⟨_, h, _⟩ | ⟨_, h, _⟩ <;> cases h) ?_
  rintro o9 M9 (⟨g2, h1, h2⟩ | ⟨g2, h1, h2⟩) <;> cases h1 <;> rw [h2] <;> clear h2 M9
  · refine ax_if_eq (tgt := 62) dX10_drives_57 (by decide) (fun hc => ?_) (fun hc => ?_)
    · exact absurd hc (by decide)
    · refine ax_iconst (v := 0) dX10_drives_60 (by decide) ?_
      refine ax_iret dX10_drives_61 rfl ?_
      exact rz_bad hM0 (w := 2) (k := 1) rfl (by unfold qz_drives; rw [if_neg g1, if_pos g2])
  refine ax_if_eq (tgt := 62) dX10_drives_57 (by decide) (fun hc => ?_) (fun hc => ?_)
  rotate_left
  · exact absurd rfl hc
  obtain ⟨c, hc2, rfl⟩ := in_car (dn g1) (by omega) (by omega)
  refine ax_aload_n dX10_drives_62 rfl ?_
  refine ax_callV (As := _) (d2 := _) (c1 := 0) (n1 := 0) (c_changed (M := M0) hok (n := n) (by rw [hM0, ax_pn (by omega)]; exact hn) hn2) dX10_drives_63 mX10_changed wd_2186 acl_10 (lo_s hok 90 rfl) rfl (by omega) (by omega) (by omega) rfl rfl (fun _ _ h => by rcases h with ⟨_, h, _⟩ | ⟨_, h, _⟩ <;> cases h) ?_
  rintro o9 M9 (⟨q1, h1, h2⟩ | ⟨q1, h1, h2⟩) <;> cases h1
  · refine ax_if_ne (tgt := 71) dX10_drives_66 (by decide) (fun hc => ?_) (fun hc => ?_)
    · exact absurd rfl hc
    · refine ax_iconst (v := 0) dX10_drives_69 (by decide) ?_
      refine ax_iret dX10_drives_70 rfl ?_
      unfold qz_drives; rw [if_neg g1, if_neg g2, if_pos q1]
      exact ⟨rfl, by rw [h2, hM0]⟩
  · have hok : lo_ok M9.2 := by rw [h2]; exact hok
    refine ax_if_ne (tgt := 71) dX10_drives_66 (by decide) (fun hc => ?_) (fun hc => ?_)
    · refine ax_aload_n dX10_drives_71 rfl ?_
      refine ax_getK (f := 18) 100 dX10_drives_72 acl_10 wd_1618 (by decide) rfl (lo_s hok 90 rfl) (lo_r hok 89 rfl) ?_
      refine ax_iconst (v := 0) dX10_drives_75 (by decide) ?_
      refine ax_iconst (v := 2) dX10_drives_76 (by decide) ?_
      refine ax_iload_n dX10_drives_77 rfl ?_
      refine ax_imul dX10_drives_78 ?_
      refine ax_iadd dX10_drives_79 ?_
      refine ax_iload_n dX10_drives_80 rfl ?_
      refine ax_iastN (2 * c) dX10_drives_81 (lo_s hok 100 rfl) (by decide) (by first | with_reducible rfl | assumption | exact ax_nix (by simp only [nx_0, nx_1, nx_2, nx_3, nx_4, nx_10, nx_20, nx_21, nx_100, nI_add, pk_mul] <;> rfl) (by omega) | decide) (by omega) ?_
      refine ax_aload_n dX10_drives_82 rfl ?_
      refine ax_getK (f := 18) 100 dX10_drives_83 acl_10 wd_1618 (by decide) rfl (lo_s hok 90 rfl) (lo_r hok 89 rfl) ?_
      refine ax_iconst (v := 0) dX10_drives_86 (by decide) ?_
      refine ax_iconst (v := 2) dX10_drives_87 (by decide) ?_
      refine ax_iload_n dX10_drives_88 rfl ?_
      refine ax_imul dX10_drives_89 ?_
      refine ax_iadd dX10_drives_90 ?_
      refine ax_iconst (v := 1) dX10_drives_91 (by decide) ?_
      refine ax_iadd dX10_drives_92 ?_
      refine ax_iload_n dX10_drives_93 rfl ?_
      refine ax_iastN (2 * c + 1) dX10_drives_94 (lo_s hok 100 rfl) (by decide) (by first | with_reducible rfl | assumption | exact ax_nix (by simp only [nx_0, nx_1, nx_2, nx_3, nx_4, nx_10, nx_20, nx_21, nx_100, nI_add, pk_mul] <;> rfl) (by omega) | decide) (by omega) ?_
      refine ax_iconst (v := 1) dX10_drives_95 (by decide) ?_
      refine ax_iret dX10_drives_96 rfl ?_
      unfold qz_drives; rw [if_neg g1, if_neg g2, if_neg q1, nI_clamp (by omega)]
      exact ⟨rfl, by rw [h2, hM0]⟩
    · exact absurd hc (by decide)
theorem c_stands (hok : lo_ok M.2) (hr : rr M r) (ho : rd_ok r) {n : Nat} (hn : M.1 90 33 = nI n) (hn2 : n ≤ 20) (x p t : Int32) : ax_Met l G kX10_stands 2 0 0 M [av_r 90, av_i x, av_i p, av_i t] (fun o M2 => rz M M2 o (qz_stands M r n x p t)) := by
  have h9 := ho.1
  refine ax_body (by decide) (Nat.le_of_ble_eq_true rfl) ?_
  refine ax_aload_n dX10_stands_0 rfl ?_
  refine ax_iconst (v := 0) dX10_stands_1 (by decide) ?_
  refine ax_putI (f := 0) dX10_stands_2 acl_10 wd_1600 (by decide) rfl rfl (ax_nfI rfl) (lo_s hok 90 rfl) ?_
  refine ax_gen (fun M0 hM0 => ?_)
  have hok : lo_ok M0.2 := by rw [hM0]; exact hok
  have hr0 : rr M0 r := by rw [hM0]; exact rr_fr hr (fun n i q => ax_pn (by omega))
  have h00 : M0.1 90 0 = 0 := by rw [hM0, ax_pa]
  refine ax_aload_n dX10_stands_5 rfl ?_
  refine ax_aload_n dX10_stands_6 rfl ?_
  refine ax_iload_n dX10_stands_7 rfl ?_
  refine ax_callV (As := _) (d2 := _) (c1 := 0) (n1 := 0) (c_rIsCoat (M := M0) hok hr0 _) dX10_stands_8 mX10_isCoat wd_1935 acl_10 (lo_s hok 90 rfl) rfl (by omega) (by omega) (by omega) rfl rfl (fun _ _ h => by cases h.1) ?_
  rintro r M9 ⟨h1, h9⟩; cases h1; rw [h9]; clear h9 M9
  refine ax_join1 (¬ (0 ≤ x ∧ x ≤ iI (r 2) - 1)) 19 (1) (0) ?_ (fun ja jb => ?_)
  rotate_left
  · refine ax_ifB_ne (tgt := 18) dX10_stands_11 (by decide) (fun h11 => ?_) (fun h11 => ?_)
    · refine ax_iconst (v := 0) dX10_stands_18 (by decide) ?_
      first | exact jb (fun z => z h11) | exact ja h11
    · refine ax_iconst (v := 1) dX10_stands_14 (by decide) ?_
      refine ax_goto (tgt := 19) dX10_stands_15 (by decide) ?_
      first | exact jb (fun z => z h11) | exact ja h11
  refine ax_iconst (v := 1) dX10_stands_19 (by decide) ?_
  refine ax_iconst (v := 0) dX10_stands_20 (by decide) ?_
  refine ax_callV (As := _) (d2 := _) (c1 := 0) (n1 := 0) (c_badP (d := 0) (M := M0) (p := ¬ (0 ≤ x ∧ x ≤ iI (r 2) - 1)) hok h00 (w := 1) (k := 0) (by decide) (by decide) (by decide) rfl rfl) dX10_stands_21 mX10_bad wd_1775 acl_10 (lo_s hok 90 rfl) rfl (by omega) (by omega) (by omega) rfl rfl (fun _ _ h => by rcases h with ⟨_, h, _⟩ | ⟨_, h, _⟩ <;> cases h) ?_
  rintro o9 M9 (⟨g1, h1, h2⟩ | ⟨g1, h1, h2⟩) <;> cases h1 <;> rw [h2] <;> clear h2 M9
  · refine ax_if_ne (tgt := 67) dX10_stands_24 (by decide) (fun hc => ?_) (fun hc => ?_)
    · refine ax_iconst (v := 0) dX10_stands_67 (by decide) ?_
      refine ax_iret dX10_stands_68 rfl ?_
      exact rz_bad hM0 (w := 1) (k := 0) rfl (by unfold qz_stands; rw [if_pos g1])
    · exact absurd hc (by decide)
  refine ax_if_ne (tgt := 67) dX10_stands_24 (by decide) (fun hc => ?_) (fun hc => ?_)
  · exact absurd rfl hc
  refine ax_aload_n dX10_stands_27 rfl ?_
  refine ax_iload_n dX10_stands_28 rfl ?_
  refine ax_iconst (v := 0) dX10_stands_29 (by decide) ?_
  refine ax_aload_n dX10_stands_30 rfl ?_
  refine ax_getK (f := 12) 94 dX10_stands_31 acl_10 wd_1612 (by decide) rfl (lo_s hok 90 rfl) (lo_r hok 83 rfl) ?_
  refine ax_iconst (v := 0) dX10_stands_34 (by decide) ?_
  refine ax_ialdN (0) dX10_stands_35 (lo_s hok 94 rfl) (by decide) (by decide) (by decide) ?_
  rw [hr0.1 0 (by decide)]
  refine ax_iconst (v := 1) dX10_stands_36 (by decide) ?_
  refine ax_isub dX10_stands_37 ?_
  refine ax_callS (As := _) (c1 := 0) (n1 := 0) (c_X10_in (d := 0) (M := M0) _ _ _) dX10_stands_38 mX10_in wd_1772 rfl (by omega) (by omega) (by omega) rfl rfl (fun _ _ h => by cases h.1) ?_
  rintro r M9 ⟨h1, h9⟩; cases h1; rw [h9]; clear h9 M9
  refine ax_join1 (¬ (0 ≤ p ∧ p ≤ iI (r 0) - 1) ∨ ¬ (0 ≤ t ∧ t ≤ 9)) 59 (1) (0) ?_ (fun ja jb => ?_)
  rotate_left
  · refine ax_ifB_eq (tgt := 54) dX10_stands_41 (by decide) (fun h41 => ?_) (fun h41 => ?_)
    · refine ax_iconst (v := 1) dX10_stands_54 (by decide) ?_
      refine ax_goto (tgt := 59) dX10_stands_55 (by decide) ?_
      first | exact ja (Or.inl h41) | exact jb (by rintro (z | z); exact z h41; exact z h51) | exact ja (Or.inr h51)
    · refine ax_iload_n dX10_stands_44 rfl ?_
      refine ax_iconst (v := 0) dX10_stands_45 (by decide) ?_
      refine ax_bipush (v := 9) dX10_stands_46 (by decide) ?_
      refine ax_callS (As := _) (c1 := 0) (n1 := 0) (c_X10_in (d := 0) (M := M0) _ _ _) dX10_stands_48 mX10_in wd_1772 rfl (by omega) (by omega) (by omega) rfl rfl (fun _ _ h => by cases h.1) ?_
      rintro r M9 ⟨h1, h9⟩; cases h1; rw [h9]; clear h9 M9
      refine ax_ifB_ne (tgt := 58) dX10_stands_51 (by decide) (fun h51 => ?_) (fun h51 => ?_)
      · refine ax_iconst (v := 0) dX10_stands_58 (by decide) ?_
        first | exact ja (Or.inl h41) | exact jb (by rintro (z | z); exact z h41; exact z h51) | exact ja (Or.inr h51)
      · refine ax_iconst (v := 1) dX10_stands_54 (by decide) ?_
        refine ax_goto (tgt := 59) dX10_stands_55 (by decide) ?_
        first | exact ja (Or.inl h41) | exact jb (by rintro (z | z); exact z h41; exact z h51) | exact ja (Or.inr h51)
  refine ax_iconst (v := 2) dX10_stands_59 (by decide) ?_
  refine ax_iconst (v := 1) dX10_stands_60 (by decide) ?_
  refine ax_callV (As := _) (d2 := _) (c1 := 0) (n1 := 0) (c_badP (d := 0) (M := M0) (p := ¬ (0 ≤ p ∧ p ≤ iI (r 0) - 1) ∨ ¬ (0 ≤ t ∧ t ≤ 9)) hok h00 (w := 2) (k := 1) (by decide) (by decide) (by decide) rfl rfl) dX10_stands_61 mX10_bad wd_1775 acl_10 (lo_s hok 90 rfl) rfl (by omega) (by omega) (by omega) rfl rfl (fun _ _ h => by rcases h with ⟨_, h, _⟩ | ⟨_, h, _⟩ <;> cases h) ?_
  rintro o9 M9 (⟨g2, h1, h2⟩ | ⟨g2, h1, h2⟩) <;> cases h1 <;> rw [h2] <;> clear h2 M9
  · refine ax_if_eq (tgt := 69) dX10_stands_64 (by decide) (fun hc => ?_) (fun hc => ?_)
    · exact absurd hc (by decide)
    · refine ax_iconst (v := 0) dX10_stands_67 (by decide) ?_
      refine ax_iret dX10_stands_68 rfl ?_
      exact rz_bad hM0 (w := 2) (k := 1) rfl (by unfold qz_stands; rw [if_neg g1, if_pos g2])
  refine ax_if_eq (tgt := 69) dX10_stands_64 (by decide) (fun hc => ?_) (fun hc => ?_)
  rotate_left
  · exact absurd rfl hc
  obtain ⟨c, hc2, rfl⟩ := in_car (dn g1) (by omega) (by omega)
  refine ax_aload_n dX10_stands_69 rfl ?_
  refine ax_callV (As := _) (d2 := _) (c1 := 0) (n1 := 0) (c_changed (M := M0) hok (n := n) (by rw [hM0, ax_pn (by omega)]; exact hn) hn2) dX10_stands_70 mX10_changed wd_2186 acl_10 (lo_s hok 90 rfl) rfl (by omega) (by omega) (by omega) rfl rfl (fun _ _ h => by rcases h with ⟨_, h, _⟩ | ⟨_, h, _⟩ <;> cases h) ?_
  rintro o9 M9 (⟨q1, h1, h2⟩ | ⟨q1, h1, h2⟩) <;> cases h1
  · refine ax_if_ne (tgt := 78) dX10_stands_73 (by decide) (fun hc => ?_) (fun hc => ?_)
    · exact absurd rfl hc
    · refine ax_iconst (v := 0) dX10_stands_76 (by decide) ?_
      refine ax_iret dX10_stands_77 rfl ?_
      unfold qz_stands; rw [if_neg g1, if_neg g2, if_pos q1]
      exact ⟨rfl, by rw [h2, hM0]⟩
  · have hok : lo_ok M9.2 := by rw [h2]; exact hok
    refine ax_if_ne (tgt := 78) dX10_stands_73 (by decide) (fun hc => ?_) (fun hc => ?_)
    · refine ax_aload_n dX10_stands_78 rfl ?_
      refine ax_getK (f := 18) 100 dX10_stands_79 acl_10 wd_1618 (by decide) rfl (lo_s hok 90 rfl) (lo_r hok 89 rfl) ?_
      refine ax_iconst (v := 4) dX10_stands_82 (by decide) ?_
      refine ax_iconst (v := 2) dX10_stands_83 (by decide) ?_
      refine ax_iload_n dX10_stands_84 rfl ?_
      refine ax_imul dX10_stands_85 ?_
      refine ax_iadd dX10_stands_86 ?_
      refine ax_iload_n dX10_stands_87 rfl ?_
      refine ax_iastN (4 + 2 * c) dX10_stands_88 (lo_s hok 100 rfl) (by decide) (by first | with_reducible rfl | assumption | exact ax_nix (by simp only [nx_0, nx_1, nx_2, nx_3, nx_4, nx_10, nx_20, nx_21, nx_100, nI_add, pk_mul] <;> rfl) (by omega) | decide) (by omega) ?_
      refine ax_aload_n dX10_stands_89 rfl ?_
      refine ax_getK (f := 18) 100 dX10_stands_90 acl_10 wd_1618 (by decide) rfl (lo_s hok 90 rfl) (lo_r hok 89 rfl) ?_
      refine ax_iconst (v := 4) dX10_stands_93 (by decide) ?_
      refine ax_iconst (v := 2) dX10_stands_94 (by decide) ?_
      refine ax_iload_n dX10_stands_95 rfl ?_
      refine ax_imul dX10_stands_96 ?_
      refine ax_iadd dX10_stands_97 ?_
      refine ax_iconst (v := 1) dX10_stands_98 (by decide) ?_
      refine ax_iadd dX10_stands_99 ?_
      refine ax_iload_n dX10_stands_100 rfl ?_
      refine ax_iastN (5 + 2 * c) dX10_stands_101 (lo_s hok 100 rfl) (by decide) (by first | with_reducible rfl | assumption | exact ax_nix (by simp only [nx_0, nx_1, nx_2, nx_3, nx_4, nx_10, nx_20, nx_21, nx_100, nI_add, pk_mul] <;> rfl) (by omega) | decide) (by omega) ?_
      refine ax_iconst (v := 1) dX10_stands_102 (by decide) ?_
      refine ax_iret dX10_stands_103 rfl ?_
      unfold qz_stands; rw [if_neg g1, if_neg g2, if_neg q1, nI_clamp (by omega)]
      exact ⟨rfl, by rw [h2, hM0]⟩
    · exact absurd hc (by decide)
theorem c_weather (hok : lo_ok M.2) (hr : rr M r) {n : Nat} (hn : M.1 90 33 = nI n) (hn2 : n ≤ 20) (p t : Int32) : ax_Met l G kX10_weather 2 0 0 M [av_r 90, av_i p, av_i t] (fun o M2 => rz M M2 o (qz_weather M n p t)) := by
  refine ax_body (by decide) (Nat.le_of_ble_eq_true rfl) ?_
  refine ax_aload_n dX10_weather_0 rfl ?_
  refine ax_iconst (v := 0) dX10_weather_1 (by decide) ?_
  refine ax_putI (f := 0) dX10_weather_2 acl_10 wd_1600 (by decide) rfl rfl (ax_nfI rfl) (lo_s hok 90 rfl) ?_
  refine ax_gen (fun M0 hM0 => ?_)
  have hok : lo_ok M0.2 := by rw [hM0]; exact hok
  have hr0 : rr M0 r := by rw [hM0]; exact rr_fr hr (fun n i q => ax_pn (by omega))
  have h00 : M0.1 90 0 = 0 := by rw [hM0, ax_pa]
  refine ax_aload_n dX10_weather_5 rfl ?_
  refine ax_join0 (¬ (0 ≤ p ∧ p ≤ 9) ∨ ¬ (0 ≤ t ∧ t ≤ 9)) 31 (1) (0) ?_ (fun ja jb => ?_)
  rotate_left
  · refine ax_iload_n dX10_weather_6 rfl ?_
    refine ax_iconst (v := 0) dX10_weather_7 (by decide) ?_
    refine ax_bipush (v := 9) dX10_weather_8 (by decide) ?_
    refine ax_callS (As := _) (c1 := 0) (n1 := 0) (c_X10_in (d := 0) (M := M0) _ _ _) dX10_weather_10 mX10_in wd_1772 rfl (by omega) (by omega) (by omega) rfl rfl (fun _ _ h => by cases h.1) ?_
    rintro r M9 ⟨h1, h9⟩; cases h1; rw [h9]; clear h9 M9
    refine ax_ifB_eq (tgt := 26) dX10_weather_13 (by decide) (fun h13 => ?_) (fun h13 => ?_)
    · refine ax_iconst (v := 1) dX10_weather_26 (by decide) ?_
      refine ax_goto (tgt := 31) dX10_weather_27 (by decide) ?_
      first | (refine ja ?_; simp only [h13, and_self, and_true, true_and, not_true_eq_false, not_false_eq_true, or_true, true_or, or_false, false_or, or_self]; done) | (refine jb ?_; simp only [h13, and_self, and_true, true_and, not_true_eq_false, not_false_eq_true, or_true, true_or, or_false, false_or, or_self]; done) | exact ja h13 | exact jb (fun z => z h13) | exact ja (Or.inr h13) | exact ja (Or.inl h13)
    · refine ax_iload_n dX10_weather_16 rfl ?_
      refine ax_iconst (v := 0) dX10_weather_17 (by decide) ?_
      refine ax_bipush (v := 9) dX10_weather_18 (by decide) ?_
      refine ax_callS (As := _) (c1 := 0) (n1 := 0) (c_X10_in (d := 0) (M := M0) _ _ _) dX10_weather_20 mX10_in wd_1772 rfl (by omega) (by omega) (by omega) rfl rfl (fun _ _ h => by cases h.1) ?_
      rintro r M9 ⟨h1, h9⟩; cases h1; rw [h9]; clear h9 M9
      refine ax_ifB_ne (tgt := 30) dX10_weather_23 (by decide) (fun h23 => ?_) (fun h23 => ?_)
      · refine ax_iconst (v := 0) dX10_weather_30 (by decide) ?_
        first | (refine ja ?_; simp only [h13, h23, and_self, and_true, true_and, not_true_eq_false, not_false_eq_true, or_true, true_or, or_false, false_or, or_self]; done) | (refine jb ?_; simp only [h13, h23, and_self, and_true, true_and, not_true_eq_false, not_false_eq_true, or_true, true_or, or_false, false_or, or_self]; done) | exact ja h23 | exact jb (fun z => z h23) | exact ja (Or.inr h23) | exact ja (Or.inl h23)
      · refine ax_iconst (v := 1) dX10_weather_26 (by decide) ?_
        refine ax_goto (tgt := 31) dX10_weather_27 (by decide) ?_
        first | (refine ja ?_; simp only [h13, h23, and_self, and_true, true_and, not_true_eq_false, not_false_eq_true, or_true, true_or, or_false, false_or, or_self]; done) | (refine jb ?_; simp only [h13, h23, and_self, and_true, true_and, not_true_eq_false, not_false_eq_true, or_true, true_or, or_false, false_or, or_self]; done) | exact ja h23 | exact jb (fun z => z h23) | exact ja (Or.inr h23) | exact ja (Or.inl h23)
  refine ax_iconst (v := 1) dX10_weather_31 (by decide) ?_
  refine ax_iconst (v := 1) dX10_weather_32 (by decide) ?_
  refine ax_callV (As := _) (d2 := _) (c1 := 0) (n1 := 0) (c_badP (d := 0) (M := M0) (p := ¬ (0 ≤ p ∧ p ≤ 9) ∨ ¬ (0 ≤ t ∧ t ≤ 9)) hok h00 (w := 1) (k := 1) (by decide) (by decide) (by decide) rfl rfl) dX10_weather_33 mX10_bad wd_1775 acl_10 (lo_s hok 90 rfl) rfl (by omega) (by omega) (by omega) rfl rfl (fun _ _ h => by rcases h with ⟨_, h, _⟩ | ⟨_, h, _⟩ <;> cases h) ?_
  rintro o9 M9 (⟨g1, h1, h2⟩ | ⟨g1, h1, h2⟩) <;> cases h1 <;> rw [h2] <;> clear h2 M9
  · refine ax_if_eq (tgt := 41) dX10_weather_36 (by decide) (fun hc => ?_) (fun hc => ?_)
    · exact absurd hc (by decide)
    · refine ax_iconst (v := 0) dX10_weather_39 (by decide) ?_
      refine ax_iret dX10_weather_40 rfl ?_
      exact rz_bad hM0 (w := 1) (k := 1) rfl (by unfold qz_weather; rw [if_pos g1])
  refine ax_if_eq (tgt := 41) dX10_weather_36 (by decide) (fun hc => ?_) (fun hc => ?_)
  rotate_left
  · exact absurd rfl hc
  refine ax_aload_n dX10_weather_41 rfl ?_
  refine ax_callV (As := _) (d2 := _) (c1 := 0) (n1 := 0) (c_changed (M := M0) hok (n := n) (by rw [hM0, ax_pn (by omega)]; exact hn) hn2) dX10_weather_42 mX10_changed wd_2186 acl_10 (lo_s hok 90 rfl) rfl (by omega) (by omega) (by omega) rfl rfl (fun _ _ h => by rcases h with ⟨_, h, _⟩ | ⟨_, h, _⟩ <;> cases h) ?_
  rintro o9 M9 (⟨q1, h1, h2⟩ | ⟨q1, h1, h2⟩) <;> cases h1
  · refine ax_if_ne (tgt := 50) dX10_weather_45 (by decide) (fun hc => ?_) (fun hc => ?_)
    · exact absurd rfl hc
    · refine ax_iconst (v := 0) dX10_weather_48 (by decide) ?_
      refine ax_iret dX10_weather_49 rfl ?_
      unfold qz_weather; rw [if_neg g1, if_pos q1]
      exact ⟨rfl, by rw [h2, hM0]⟩
  · have hok : lo_ok M9.2 := by rw [h2]; exact hok
    refine ax_if_ne (tgt := 50) dX10_weather_45 (by decide) (fun hc => ?_) (fun hc => ?_)
    · refine ax_aload_n dX10_weather_50 rfl ?_
      refine ax_getK (f := 18) 100 dX10_weather_51 acl_10 wd_1618 (by decide) rfl (lo_s hok 90 rfl) (lo_r hok 89 rfl) ?_
      refine ax_bipush (v := 24) dX10_weather_54 (by decide) ?_
      refine ax_iload_n dX10_weather_56 rfl ?_
      refine ax_iastN (24) dX10_weather_57 (lo_s hok 100 rfl) (by decide) (by decide) (by decide) ?_
      refine ax_aload_n dX10_weather_58 rfl ?_
      refine ax_getK (f := 18) 100 dX10_weather_59 acl_10 wd_1618 (by decide) rfl (lo_s hok 90 rfl) (lo_r hok 89 rfl) ?_
      refine ax_bipush (v := 25) dX10_weather_62 (by decide) ?_
      refine ax_iload_n dX10_weather_64 rfl ?_
      refine ax_iastN (25) dX10_weather_65 (lo_s hok 100 rfl) (by decide) (by decide) (by decide) ?_
      refine ax_iconst (v := 1) dX10_weather_66 (by decide) ?_
      refine ax_iret dX10_weather_67 rfl ?_
      unfold qz_weather; rw [if_neg g1, if_neg q1]
      exact ⟨rfl, by rw [h2, hM0]⟩
    · exact absurd hc (by decide)
theorem c_undo (hok : lo_ok M.2) {n : Nat} (hn : M.1 90 33 = nI n) (hn2 : n ≤ 20) : ax_Met l G kX10_undo 1 0 0 M [av_r 90] (fun o M2 => rz M M2 o (qz_undo M n)) := by
  refine ax_body (by decide) (Nat.le_of_ble_eq_true rfl) ?_
  refine ax_aload_n dX10_undo_0 rfl ?_
  refine ax_iconst (v := 0) dX10_undo_1 (by decide) ?_
  refine ax_putI (f := 0) dX10_undo_2 acl_10 wd_1600 (by decide) rfl rfl (ax_nfI rfl) (lo_s hok 90 rfl) ?_
  refine ax_gen (fun M0 hM0 => ?_)
  have hok : lo_ok M0.2 := by rw [hM0]; exact hok
  have hn0 : M0.1 90 33 = nI n := by rw [hM0, ax_pn (by omega)]; exact hn
  refine ax_aload_n dX10_undo_5 rfl ?_
  refine ax_getI (f := 33) dX10_undo_6 acl_10 wd_1633 (by decide) rfl (lo_s hok 90 rfl) ?_
  rw [hn0]
  refine ax_if_ne (tgt := 14) dX10_undo_9 (by decide) (fun hc => ?_) (fun hc => ?_)
  · have h0 : ¬ n = 0 := fun z => hc (by rw [z]; rfl)
    refine ax_aload_n dX10_undo_14 rfl ?_
    refine ax_dup dX10_undo_15 (by first | rfl | exact ax_crf _) ?_
    refine ax_getI (f := 33) dX10_undo_16 acl_10 wd_1633 (by decide) rfl (lo_s hok 90 rfl) ?_
    rw [hn0]
    refine ax_iconst (v := 1) dX10_undo_19 (by decide) ?_
    refine ax_isub dX10_undo_20 ?_
    rw [nx_1, pk_sub (by omega)]
    refine ax_putI (f := 33) dX10_undo_21 acl_10 wd_1633 (by decide) rfl rfl (ax_nfI rfl) (lo_s hok 90 rfl) ?_
    refine ax_gen (fun M1 hM1 => ?_)
    have hok : lo_ok M1.2 := by rw [hM1]; exact hok
    have e33 : M1.1 90 33 = nI (n - 1) := by rw [hM1, ax_pa]
    refine ax_aload_n dX10_undo_24 rfl ?_
    refine ax_getK (f := 30) 145 dX10_undo_25 acl_10 wd_1630 (by decide) rfl (lo_s hok 90 rfl) (lo_r hok 99 rfl) ?_
    refine ax_aload_n dX10_undo_28 rfl ?_
    refine ax_getI (f := 33) dX10_undo_29 acl_10 wd_1633 (by decide) rfl (lo_s hok 90 rfl) ?_
    rw [e33]
    refine ax_aaldN2 (146 + (n - 1)) (n - 1) dX10_undo_32 (lo_s hok 145 rfl) (by decide) (by first | with_reducible rfl | assumption | exact ax_nix (by simp only [nx_0, nx_1, nx_2, nx_3, nx_4, nx_10, nx_20, nx_21, nx_100, nI_add, pk_mul] <;> rfl) (by omega) | decide) (by omega) (lo_w_m_before hok (by omega)) ?_
    refine ax_aload_n dX10_undo_33 rfl ?_
    refine ax_getK (f := 18) 100 dX10_undo_34 acl_10 wd_1618 (by decide) rfl (lo_s hok 90 rfl) (lo_r hok 89 rfl) ?_
    refine ax_bipush (v := 26) dX10_undo_37 (by decide) ?_
    refine ax_callS (As := _) (c1 := 0) (n1 := 0) (c_X10_copies (d := 0) (M := M1) (lf := 26) (lt := 26) (n := 26) (lo_z_m_before hok (by omega)) (lo_s hok 100 rfl) (by omega) (by omega) (by omega) (by omega) (by omega) rfl) dX10_undo_39 mX10_copies wd_1597 rfl (by omega) (by omega) (by omega) rfl rfl (fun _ _ h => by cases h.1) ?_
    rintro r1 M2 ⟨h1, hM2⟩; cases h1
    have hok : lo_ok M2.2 := by rw [hM2]; exact hok
    have e332 : M2.1 90 33 = nI (n - 1) := by
      rw [hM2, ax_cp_n (by omega)]; exact e33
    refine ax_aload_n dX10_undo_42 rfl ?_
    refine ax_getI (f := 33) dX10_undo_43 acl_10 wd_1633 (by decide) rfl (lo_s hok 90 rfl) ?_
    rw [e332]
    refine ax_iret dX10_undo_46 rfl ?_
    unfold qz_undo; rw [if_neg h0]
    exact ⟨rfl, by rw [hM2, hM1, hM0, show 146 + (n - 1) = 145 + n by omega]⟩
  · have h0 := (nI_eq (b := 0) (by omega) (by omega)).mp hc
    refine ax_iconst (v := (-1)) dX10_undo_12 (by decide) ?_
    refine ax_iret dX10_undo_13 rfl ?_
    unfold qz_undo; rw [if_pos h0]
    exact ⟨rfl, hM0⟩
theorem c_spots0 {d : Nat} (hok : lo_ok M.2) {R J : Nat} (hR : M.2.2.2.1 R = some (.inl (0, 547))) (h90 : R ≠ 90) (hJ : J < 547) (hs : M.1 90 35 = nI J) (v : Int32) : ax_Met l G kX10_spots d 0 0 M [av_r 90, av_r R, av_i v, av_i 0] (ax_p (av_i v) (ax_pI (ax_pI M R J v) 90 35 (nI (J + 1)))) := by
  refine ax_body (by decide) (Nat.le_of_ble_eq_true rfl) ?_
  refine ax_iload_n dX10_spots_0 rfl ?_
  refine ax_if_ne (tgt := 11) dX10_spots_1 (by decide) (fun hc => ?_) (fun hc => ?_)
  · exact absurd rfl hc
  · refine ax_aload_n dX10_spots_4 rfl ?_
    refine ax_aload_n dX10_spots_5 rfl ?_
    refine ax_getI (f := 35) dX10_spots_6 acl_10 wd_1635 (by decide) rfl (lo_s hok 90 rfl) ?_
    rw [hs]
    refine ax_iload_n dX10_spots_9 rfl ?_
    refine ax_iastN (J) dX10_spots_10 (by first | assumption | exact lo_tz hok (by omega) (by omega) | exact lo_z_m_wet hok (by omega) | exact lo_z_m_readWet hok (by omega) | exact lo_z_m_law hok (by omega) | exact lo_z_m_book hok (by omega) | exact lo_z_m_readBook hok (by omega) | exact lo_z_m_before hok (by omega) | exact lo_z_m_kept hok (by omega) | exact lo_z_m_seenAt hok (by omega) | exact lo_z_m_seenIn hok (by omega) | exact lo_z_m_t0 hok (by omega) | exact lo_z_m_t1 hok (by omega) | exact lo_z_m_c0 hok (by omega) | exact lo_z_m_c1 hok (by omega) | exact lo_z_x_kept hok (by omega)) (by decide) (by first | with_reducible rfl | assumption | exact ax_nix (by simp only [nx_0, nx_1, nx_2, nx_3, nx_4, nx_10, nx_20, nx_21, nx_100, nI_add, pk_mul] <;> rfl) (by omega) | decide) (by omega) ?_
    refine ax_gen (fun M1 hM1 => ?_)
    have hok : lo_ok M1.2 := by rw [hM1]; exact hok
    have hR1 : M1.2.2.2.1 R = some (.inl (0, 547)) := by rw [hM1]; exact hR
    have hs1 : M1.1 90 35 = nI J := by rw [hM1, ax_pn (by omega)]; exact hs
    refine ax_aload_n dX10_spots_11 rfl ?_
    refine ax_dup dX10_spots_12 (by first | rfl | exact ax_crf _) ?_
    refine ax_getI (f := 35) dX10_spots_13 acl_10 wd_1635 (by decide) rfl (lo_s hok 90 rfl) ?_
    rw [hs1]
    refine ax_iconst (v := 1) dX10_spots_16 (by decide) ?_
    refine ax_iadd dX10_spots_17 ?_
    rw [nI_1]
    refine ax_putI (f := 35) dX10_spots_18 acl_10 wd_1635 (by decide) rfl rfl (ax_nfI rfl) (lo_s hok 90 rfl) ?_
    refine ax_gen (fun M2 hM2 => ?_)
    have hok : lo_ok M2.2 := by rw [hM2]; exact hok
    have hR2 : M2.2.2.2.1 R = some (.inl (0, 547)) := by rw [hM2]; exact hR1
    have hs2 : M2.1 90 35 = nI (J + 1) := by rw [hM2, ax_pa]
    refine ax_aload_n dX10_spots_21 rfl ?_
    refine ax_aload_n dX10_spots_22 rfl ?_
    refine ax_getI (f := 35) dX10_spots_23 acl_10 wd_1635 (by decide) rfl (lo_s hok 90 rfl) ?_
    rw [hs2]
    refine ax_iconst (v := 1) dX10_spots_26 (by decide) ?_
    refine ax_isub dX10_spots_27 ?_
    rw [nI_pred]
    refine ax_ialdN (J) dX10_spots_28 (by first | assumption | exact lo_tz hok (by omega) (by omega) | exact lo_z_m_wet hok (by omega) | exact lo_z_m_readWet hok (by omega) | exact lo_z_m_law hok (by omega) | exact lo_z_m_book hok (by omega) | exact lo_z_m_readBook hok (by omega) | exact lo_z_m_before hok (by omega) | exact lo_z_m_kept hok (by omega) | exact lo_z_m_seenAt hok (by omega) | exact lo_z_m_seenIn hok (by omega) | exact lo_z_m_t0 hok (by omega) | exact lo_z_m_t1 hok (by omega) | exact lo_z_m_c0 hok (by omega) | exact lo_z_m_c1 hok (by omega) | exact lo_z_x_kept hok (by omega)) (by decide) (by first | with_reducible rfl | assumption | exact ax_nix (by simp only [nx_0, nx_1, nx_2, nx_3, nx_4, nx_10, nx_20, nx_21, nx_100, nI_add, pk_mul] <;> rfl) (by omega) | decide) (by omega) ?_
    refine ax_iret dX10_spots_29 rfl ?_
    have e : M2.1 R J = v := by rw [hM2, ax_pn (by omega), hM1, ax_pa]
    exact ⟨by rw [e], by rw [hM2, hM1]⟩
theorem c_spots1 {d : Nat} (hok : lo_ok M.2) {R J : Nat} (hR : M.2.2.2.1 R = some (.inl (0, 547))) (h90 : R ≠ 90) (hJ : J < 547) (hs : M.1 90 35 = nI J) (v : Int32) : ax_Met l G kX10_spots d 0 0 M [av_r 90, av_r R, av_i v, av_i 1] (ax_p (av_i (M.1 R J)) (ax_pI M 90 35 (nI (J + 1)))) := by
  refine ax_body (by decide) (Nat.le_of_ble_eq_true rfl) ?_
  refine ax_iload_n dX10_spots_0 rfl ?_
  refine ax_if_ne (tgt := 11) dX10_spots_1 (by decide) (fun hc => ?_) (fun hc => ?_)
  · refine ax_aload_n dX10_spots_11 rfl ?_
    refine ax_dup dX10_spots_12 (by first | rfl | exact ax_crf _) ?_
    refine ax_getI (f := 35) dX10_spots_13 acl_10 wd_1635 (by decide) rfl (lo_s hok 90 rfl) ?_
    rw [hs]
    refine ax_iconst (v := 1) dX10_spots_16 (by decide) ?_
    refine ax_iadd dX10_spots_17 ?_
    rw [nI_1]
    refine ax_putI (f := 35) dX10_spots_18 acl_10 wd_1635 (by decide) rfl rfl (ax_nfI rfl) (lo_s hok 90 rfl) ?_
    refine ax_gen (fun M2 hM2 => ?_)
    have hok : lo_ok M2.2 := by rw [hM2]; exact hok
    have hR2 : M2.2.2.2.1 R = some (.inl (0, 547)) := by rw [hM2]; exact hR
    have hs2 : M2.1 90 35 = nI (J + 1) := by rw [hM2, ax_pa]
    refine ax_aload_n dX10_spots_21 rfl ?_
    refine ax_aload_n dX10_spots_22 rfl ?_
    refine ax_getI (f := 35) dX10_spots_23 acl_10 wd_1635 (by decide) rfl (lo_s hok 90 rfl) ?_
    rw [hs2]
    refine ax_iconst (v := 1) dX10_spots_26 (by decide) ?_
    refine ax_isub dX10_spots_27 ?_
    rw [nI_pred]
    refine ax_ialdN (J) dX10_spots_28 (by first | assumption | exact lo_tz hok (by omega) (by omega) | exact lo_z_m_wet hok (by omega) | exact lo_z_m_readWet hok (by omega) | exact lo_z_m_law hok (by omega) | exact lo_z_m_book hok (by omega) | exact lo_z_m_readBook hok (by omega) | exact lo_z_m_before hok (by omega) | exact lo_z_m_kept hok (by omega) | exact lo_z_m_seenAt hok (by omega) | exact lo_z_m_seenIn hok (by omega) | exact lo_z_m_t0 hok (by omega) | exact lo_z_m_t1 hok (by omega) | exact lo_z_m_c0 hok (by omega) | exact lo_z_m_c1 hok (by omega) | exact lo_z_x_kept hok (by omega)) (by decide) (by first | with_reducible rfl | assumption | exact ax_nix (by simp only [nx_0, nx_1, nx_2, nx_3, nx_4, nx_10, nx_20, nx_21, nx_100, nI_add, pk_mul] <;> rfl) (by omega) | decide) (by omega) ?_
    refine ax_iret dX10_spots_29 rfl ?_
    have e : M2.1 R J = M.1 R J := by rw [hM2, ax_pn (by omega)]
    exact ⟨by rw [e], hM2⟩
  · exact absurd hc (by decide)
theorem c_spotsAll0 (hok : lo_ok M.2) {R : Nat} (hR : M.2.2.2.1 R = some (.inl (0, 547))) (hR2 : 167 ≤ R ∧ R ≤ 169) : ax_Met l G kX10_spotsAll 1 0 0 M [av_r 90, av_r R, av_i 0] (fun o M2 => o = .inl none ∧ im_0 M M2 R 547) := by
  refine ax_body (by decide) (Nat.le_of_ble_eq_true rfl) ?_
  refine ax_aload_n dX10_spotsAll_0 rfl ?_
  refine ax_iconst (v := 0) dX10_spotsAll_1 (by decide) ?_
  refine ax_putI (f := 35) dX10_spotsAll_2 acl_10 wd_1635 (by decide) rfl rfl (ax_nfI rfl) (lo_s hok 90 rfl) ?_
  refine ax_gen (fun M1 hM1 => ?_)
  have hok : lo_ok M1.2 := by rw [hM1]; exact hok
  have hR1 : M1.2.2.2.1 R = some (.inl (0, 547)) := by rw [hM1]; exact hR
  refine ax_aload_n dX10_spotsAll_5 rfl ?_
  refine ax_aload_n dX10_spotsAll_6 rfl ?_
  refine ax_aload_n dX10_spotsAll_7 rfl ?_
  refine ax_aload_n dX10_spotsAll_8 rfl ?_
  refine ax_getI (f := 33) dX10_spotsAll_9 acl_10 wd_1633 (by decide) rfl (lo_s hok 90 rfl) ?_
  refine ax_iload_n dX10_spotsAll_12 rfl ?_
  refine ax_callV (As := _) (d2 := _) (c1 := 0) (n1 := 0) (c_spots0 (d := 0) (M := M1) hok hR1 (J := 0) (by omega) (by omega) (by rw [hM1, ax_pa]; rfl) _) dX10_spotsAll_13 mX10_spots wd_2210 acl_10 (lo_s hok 90 rfl) rfl (by omega) (by omega) (by omega) rfl rfl (fun _ _ h => by cases h.1) ?_
  rintro r1 M2 ⟨h1, hM2⟩; cases h1
  have hok : lo_ok M2.2 := by rw [hM2]; exact hok
  refine ax_putI (f := 33) dX10_spotsAll_16 acl_10 wd_1633 (by decide) rfl rfl (ax_nfI rfl) (lo_s hok 90 rfl) ?_
  refine ax_gen (fun M3 hM3 => ?_)
  have hok : lo_ok M3.2 := by rw [hM3]; exact hok
  have i3 : im_0 M M3 R 1 := by
    refine ⟨by rw [hM3, hM2, hM1]; rfl, by rw [hM3, ax_pn (by omega), hM2, ax_pa], fun n i q1 q2 => ?_, fun j hj => ?_⟩
    · rw [hM3]
      by_cases z : n = 90 ∧ i = 33
      · rw [z.1, z.2, ax_pa, hM1, ax_pn (by omega)]
      · rw [ax_pn (by omega), hM2, ax_pn (by omega), ax_pn (by omega), hM1, ax_pn (by omega)]
    · rw [show j = 0 by omega, hM3, ax_pn (by omega), hM2, ax_pn (by omega), ax_pa, hM1, ax_pn (by omega)]; rfl
  clear hM3 hM2 hM1
  refine ax_iconst (v := 0) dX10_spotsAll_19 (by decide) ?_
  refine ax_istore_n dX10_spotsAll_20 (by decide) rfl ?_
  refine ax_for 26 (fun k N L => ∃ y4, L = [some (av_r 90), some (av_r R), some (av_i 0), some (av_i (nI k)), y4] ∧ im_0 M N R (1 + k)) 21 ?_ ?_ (i := 0) (by omega) ⟨_, rfl, i3⟩
  · rintro k N L hk ⟨y4, rfl, hi⟩ next
    have hok : lo_ok N.2 := by rw [hi.1]; exact ‹lo_ok M.2›
    have hRN : N.2.2.2.1 R = some (.inl (0, 547)) := by rw [hi.1]; exact hR
    refine ax_iload_n dX10_spotsAll_21 rfl ?_
    refine ax_bipush (v := 26) dX10_spotsAll_22 (by decide) ?_
    refine ax_icmp_ge (tgt := 51) dX10_spotsAll_24 (by decide) (fun hc => absurd ((nI_leI (a := 26) (by omega) (by omega)).mp hc) (by omega)) (fun hc => ?_)
    refine ax_aload_n dX10_spotsAll_27 rfl ?_
    refine ax_getK (f := 18) 100 dX10_spotsAll_28 acl_10 wd_1618 (by decide) rfl (lo_s hok 90 rfl) (lo_r hok 89 rfl) ?_
    refine ax_iload_n dX10_spotsAll_31 rfl ?_
    refine ax_aload_n dX10_spotsAll_32 rfl ?_
    refine ax_aload_n dX10_spotsAll_33 rfl ?_
    refine ax_aload_n dX10_spotsAll_34 rfl ?_
    refine ax_getK (f := 18) 100 dX10_spotsAll_35 acl_10 wd_1618 (by decide) rfl (lo_s hok 90 rfl) (lo_r hok 89 rfl) ?_
    refine ax_iload_n dX10_spotsAll_38 rfl ?_
    refine ax_ialdN (k) dX10_spotsAll_39 (lo_s hok 100 rfl) (by decide) (by first | with_reducible rfl | assumption | exact ax_nix (by simp only [nx_0, nx_1, nx_2, nx_3, nx_4, nx_10, nx_20, nx_21, nx_100, nI_add, pk_mul] <;> rfl) (by omega) | decide) (by omega) ?_
    refine ax_iload_n dX10_spotsAll_40 rfl ?_
    refine ax_callV (As := _) (d2 := _) (c1 := 0) (n1 := 0) (c_spots0 (d := 0) (M := N) hok hRN (J := 1 + k) (by omega) (by omega) hi.2.1 _) dX10_spotsAll_41 mX10_spots wd_2210 acl_10 (lo_s hok 90 rfl) rfl (by omega) (by omega) (by omega) rfl rfl (fun _ _ h => by cases h.1) ?_
    rintro r1 N2 ⟨h1, hN2⟩; cases h1
    have hok : lo_ok N2.2 := by rw [hN2]; exact hok
    refine ax_iastN (k) dX10_spotsAll_44 (lo_s hok 100 rfl) (by decide) (by first | with_reducible rfl | assumption | exact ax_nix (by simp only [nx_0, nx_1, nx_2, nx_3, nx_4, nx_10, nx_20, nx_21, nx_100, nI_add, pk_mul] <;> rfl) (by omega) | decide) (by omega) ?_
    refine ax_gen (fun N3 hN3 => ?_)
    have hok : lo_ok N3.2 := by rw [hN3]; exact hok
    refine ax_iinc (v := 1) dX10_spotsAll_45 rfl (by decide) (by decide) rfl ?_
    refine ax_goto (tgt := 21) dX10_spotsAll_48 (by decide) ?_
    refine next _ _ ⟨_, by rw [nI_1]; rfl, ?_⟩
    have eN : N.1 100 k = M.1 100 k := hi.2.2.1 100 k (by omega) (by omega)
    refine ⟨by rw [hN3, hN2]; exact hi.1, by rw [hN3, ax_pn (by omega), hN2, ax_pa]; rfl, fun n i q1 q2 => ?_, fun j hj => ?_⟩
    · rw [hN3]
      by_cases z : n = 100 ∧ i = k
      · rw [z.1, z.2, ax_pa, eN]
      · rw [ax_pn (by omega), hN2, ax_pn (by omega), ax_pn (by omega)]; exact hi.2.2.1 n i q1 q2
    · rw [hN3, ax_pn (by omega), hN2, ax_pn (by omega)]
      by_cases z : j = 1 + k
      · rw [z, ax_pa, lv_s M k hk, eN]
      · rw [ax_pn (by omega)]; exact hi.2.2.2 j (by omega)
  · rintro N L ⟨y4, rfl, hi⟩
    refine ax_iload_n dX10_spotsAll_21 rfl ?_
    refine ax_bipush (v := 26) dX10_spotsAll_22 (by decide) ?_
    refine ax_icmp_ge (tgt := 51) dX10_spotsAll_24 (by decide) (fun hc => ?_) (fun hc => absurd ((nI_leI (a := 26) (by omega) (by omega)).mpr (by omega)) hc)
    refine ax_iconst (v := 0) dX10_spotsAll_51 (by decide) ?_
    refine ax_istore_n dX10_spotsAll_52 (by decide) rfl ?_
    refine ax_for 20 (fun w N L => ∃ y4, L = [some (av_r 90), some (av_r R), some (av_i 0), some (av_i (nI w)), y4] ∧ im_0 M N R (27 + 26 * w)) 53 ?_ ?_ (i := 0) (by omega) ⟨_, rfl, hi⟩
    · rintro w N L hw ⟨y4, rfl, hi⟩ next
      refine ax_iload_n dX10_spotsAll_53 rfl ?_
      refine ax_bipush (v := 20) dX10_spotsAll_54 (by decide) ?_
      refine ax_icmp_ge (tgt := 105) dX10_spotsAll_56 (by decide) (fun hc => absurd ((nI_leI (a := 20) (by omega) (by omega)).mp hc) (by omega)) (fun hc => ?_)
      refine ax_iconst (v := 0) dX10_spotsAll_59 (by decide) ?_
      refine ax_istore dX10_spotsAll_60 (by decide) rfl ?_
      refine ax_for 26 (fun k N L => L = [some (av_r 90), some (av_r R), some (av_i 0), some (av_i (nI w)), some (av_i (nI k))] ∧ im_0 M N R (27 + 26 * w + k)) 62 ?_ ?_ (i := 0) (by omega) ⟨rfl, hi⟩
      · rintro k N L hk ⟨rfl, hi⟩ next2
        have hok : lo_ok N.2 := by rw [hi.1]; exact ‹lo_ok M.2›
        have hRN : N.2.2.2.1 R = some (.inl (0, 547)) := by rw [hi.1]; exact hR
        refine ax_iload dX10_spotsAll_62 rfl ?_
        refine ax_bipush (v := 26) dX10_spotsAll_64 (by decide) ?_
        refine ax_icmp_ge (tgt := 99) dX10_spotsAll_66 (by decide) (fun hc => absurd ((nI_leI (a := 26) (by omega) (by omega)).mp hc) (by omega)) (fun hc => ?_)
        refine ax_aload_n dX10_spotsAll_69 rfl ?_
        refine ax_getK (f := 30) 145 dX10_spotsAll_70 acl_10 wd_1630 (by decide) rfl (lo_s hok 90 rfl) (lo_r hok 99 rfl) ?_
        refine ax_iload_n dX10_spotsAll_73 rfl ?_
        refine ax_aaldN2 (146 + (w)) (w) dX10_spotsAll_74 (lo_s hok 145 rfl) (by decide) (by first | with_reducible rfl | assumption | exact ax_nix (by simp only [nx_0, nx_1, nx_2, nx_3, nx_4, nx_10, nx_20, nx_21, nx_100, nI_add, pk_mul] <;> rfl) (by omega) | decide) (by omega) (lo_w_m_before hok (by omega)) ?_
        refine ax_iload dX10_spotsAll_75 rfl ?_
        refine ax_aload_n dX10_spotsAll_77 rfl ?_
        refine ax_aload_n dX10_spotsAll_78 rfl ?_
        refine ax_aload_n dX10_spotsAll_79 rfl ?_
        refine ax_getK (f := 30) 145 dX10_spotsAll_80 acl_10 wd_1630 (by decide) rfl (lo_s hok 90 rfl) (lo_r hok 99 rfl) ?_
        refine ax_iload_n dX10_spotsAll_83 rfl ?_
        refine ax_aaldN2 (146 + (w)) (w) dX10_spotsAll_84 (lo_s hok 145 rfl) (by decide) (by first | with_reducible rfl | assumption | exact ax_nix (by simp only [nx_0, nx_1, nx_2, nx_3, nx_4, nx_10, nx_20, nx_21, nx_100, nI_add, pk_mul] <;> rfl) (by omega) | decide) (by omega) (lo_w_m_before hok (by omega)) ?_
        refine ax_iload dX10_spotsAll_85 rfl ?_
        refine ax_ialdN (k) dX10_spotsAll_87 (by first | assumption | exact lo_tz hok (by omega) (by omega) | exact lo_z_m_wet hok (by omega) | exact lo_z_m_readWet hok (by omega) | exact lo_z_m_law hok (by omega) | exact lo_z_m_book hok (by omega) | exact lo_z_m_readBook hok (by omega) | exact lo_z_m_before hok (by omega) | exact lo_z_m_kept hok (by omega) | exact lo_z_m_seenAt hok (by omega) | exact lo_z_m_seenIn hok (by omega) | exact lo_z_m_t0 hok (by omega) | exact lo_z_m_t1 hok (by omega) | exact lo_z_m_c0 hok (by omega) | exact lo_z_m_c1 hok (by omega) | exact lo_z_x_kept hok (by omega)) (by decide) (by first | with_reducible rfl | assumption | exact ax_nix (by simp only [nx_0, nx_1, nx_2, nx_3, nx_4, nx_10, nx_20, nx_21, nx_100, nI_add, pk_mul] <;> rfl) (by omega) | decide) (by omega) ?_
        refine ax_iload_n dX10_spotsAll_88 rfl ?_
        refine ax_callV (As := _) (d2 := _) (c1 := 0) (n1 := 0) (c_spots0 (d := 0) (M := N) hok hRN (J := 27 + 26 * w + k) (by omega) (by omega) hi.2.1 _) dX10_spotsAll_89 mX10_spots wd_2210 acl_10 (lo_s hok 90 rfl) rfl (by omega) (by omega) (by omega) rfl rfl (fun _ _ h => by cases h.1) ?_
        rintro r1 N2 ⟨h1, hN2⟩; cases h1
        have hok : lo_ok N2.2 := by rw [hN2]; exact hok
        refine ax_iastN (k) dX10_spotsAll_92 (by first | assumption | exact lo_tz hok (by omega) (by omega) | exact lo_z_m_wet hok (by omega) | exact lo_z_m_readWet hok (by omega) | exact lo_z_m_law hok (by omega) | exact lo_z_m_book hok (by omega) | exact lo_z_m_readBook hok (by omega) | exact lo_z_m_before hok (by omega) | exact lo_z_m_kept hok (by omega) | exact lo_z_m_seenAt hok (by omega) | exact lo_z_m_seenIn hok (by omega) | exact lo_z_m_t0 hok (by omega) | exact lo_z_m_t1 hok (by omega) | exact lo_z_m_c0 hok (by omega) | exact lo_z_m_c1 hok (by omega) | exact lo_z_x_kept hok (by omega)) (by decide) (by first | with_reducible rfl | assumption | exact ax_nix (by simp only [nx_0, nx_1, nx_2, nx_3, nx_4, nx_10, nx_20, nx_21, nx_100, nI_add, pk_mul] <;> rfl) (by omega) | decide) (by omega) ?_
        refine ax_gen (fun N3 hN3 => ?_)
        have hok : lo_ok N3.2 := by rw [hN3]; exact hok
        refine ax_iinc (v := 1) dX10_spotsAll_93 rfl (by decide) (by decide) rfl ?_
        refine ax_goto (tgt := 62) dX10_spotsAll_96 (by decide) ?_
        refine next2 _ _ ⟨by rw [nI_1]; rfl, ?_⟩
        have eN : N.1 (146 + w) k = M.1 (146 + w) k := hi.2.2.1 (146 + w) k (by omega) (by omega)
        refine ⟨by rw [hN3, hN2]; exact hi.1, by rw [hN3, ax_pn (by omega), hN2, ax_pa]; rfl, fun n i q1 q2 => ?_, fun j hj => ?_⟩
        · rw [hN3]
          by_cases z : n = 146 + w ∧ i = k
          · rw [z.1, z.2, ax_pa, eN]
          · rw [ax_pn (by omega), hN2, ax_pn (by omega), ax_pn (by omega)]; exact hi.2.2.1 n i q1 q2
        · rw [hN3, ax_pn (by omega), hN2, ax_pn (by omega)]
          by_cases z : j = 27 + 26 * w + k
          · rw [z, ax_pa, lv_b M w k hk, eN]
          · rw [ax_pn (by omega)]; exact hi.2.2.2 j (by omega)
      · rintro N L ⟨rfl, hi⟩
        refine ax_iload dX10_spotsAll_62 rfl ?_
        refine ax_bipush (v := 26) dX10_spotsAll_64 (by decide) ?_
        refine ax_icmp_ge (tgt := 99) dX10_spotsAll_66 (by decide) (fun hc => ?_) (fun hc => absurd ((nI_leI (a := 26) (by omega) (by omega)).mpr (by omega)) hc)
        refine ax_iinc (v := 1) dX10_spotsAll_99 rfl (by decide) (by decide) rfl ?_
        refine ax_goto (tgt := 53) dX10_spotsAll_102 (by decide) ?_
        exact next _ _ ⟨_, by rw [nI_1]; rfl, by rw [show 27 + 26 * (w + 1) = 27 + 26 * w + 26 by omega]; exact hi⟩
    · rintro N L ⟨y4, rfl, hi⟩
      refine ax_iload_n dX10_spotsAll_53 rfl ?_
      refine ax_bipush (v := 20) dX10_spotsAll_54 (by decide) ?_
      refine ax_icmp_ge (tgt := 105) dX10_spotsAll_56 (by decide) (fun hc => ?_) (fun hc => absurd ((nI_leI (a := 20) (by omega) (by omega)).mpr (by omega)) hc)
      refine ax_vret dX10_spotsAll_105 rfl ?_
      exact ⟨rfl, hi⟩
theorem c_spotsAll1 (hok : lo_ok M.2) {R : Nat} (hR : M.2.2.2.1 R = some (.inl (0, 547))) (hR2 : 167 ≤ R ∧ R ≤ 169) : ax_Met l G kX10_spotsAll 1 0 0 M [av_r 90, av_r R, av_i 1] (fun o M2 => o = .inl none ∧ im_1 M M2 R 547) := by
  refine ax_body (by decide) (Nat.le_of_ble_eq_true rfl) ?_
  refine ax_aload_n dX10_spotsAll_0 rfl ?_
  refine ax_iconst (v := 0) dX10_spotsAll_1 (by decide) ?_
  refine ax_putI (f := 35) dX10_spotsAll_2 acl_10 wd_1635 (by decide) rfl rfl (ax_nfI rfl) (lo_s hok 90 rfl) ?_
  refine ax_gen (fun M1 hM1 => ?_)
  have hok : lo_ok M1.2 := by rw [hM1]; exact hok
  have hR1 : M1.2.2.2.1 R = some (.inl (0, 547)) := by rw [hM1]; exact hR
  refine ax_aload_n dX10_spotsAll_5 rfl ?_
  refine ax_aload_n dX10_spotsAll_6 rfl ?_
  refine ax_aload_n dX10_spotsAll_7 rfl ?_
  refine ax_aload_n dX10_spotsAll_8 rfl ?_
  refine ax_getI (f := 33) dX10_spotsAll_9 acl_10 wd_1633 (by decide) rfl (lo_s hok 90 rfl) ?_
  refine ax_iload_n dX10_spotsAll_12 rfl ?_
  refine ax_callV (As := _) (d2 := _) (c1 := 0) (n1 := 0) (c_spots1 (d := 0) (M := M1) hok hR1 (J := 0) (by omega) (by omega) (by rw [hM1, ax_pa]; rfl) _) dX10_spotsAll_13 mX10_spots wd_2210 acl_10 (lo_s hok 90 rfl) rfl (by omega) (by omega) (by omega) rfl rfl (fun _ _ h => by cases h.1) ?_
  rintro r1 M2 ⟨h1, hM2⟩; cases h1
  have hok : lo_ok M2.2 := by rw [hM2]; exact hok
  refine ax_putI (f := 33) dX10_spotsAll_16 acl_10 wd_1633 (by decide) rfl rfl (ax_nfI rfl) (lo_s hok 90 rfl) ?_
  refine ax_gen (fun M3 hM3 => ?_)
  have hok : lo_ok M3.2 := by rw [hM3]; exact hok
  have i3 : im_1 M M3 R 1 := by
    refine ⟨by rw [hM3, hM2, hM1]; rfl, by rw [hM3, ax_pn (by omega), hM2, ax_pa], fun n i q1 q2 q3 => ?_, fun j hj => ?_⟩
    · rw [hM3, ax_pn (by omega), hM2, ax_pn (by omega), hM1, ax_pn (by omega)]
    · rw [show j = 0 by omega]; show M3.1 90 33 = _; rw [hM3, ax_pa, hM1, ax_pn (by omega)]
  clear hM3 hM2 hM1
  refine ax_iconst (v := 0) dX10_spotsAll_19 (by decide) ?_
  refine ax_istore_n dX10_spotsAll_20 (by decide) rfl ?_
  refine ax_for 26 (fun k N L => ∃ y4, L = [some (av_r 90), some (av_r R), some (av_i 1), some (av_i (nI k)), y4] ∧ im_1 M N R (1 + k)) 21 ?_ ?_ (i := 0) (by omega) ⟨_, rfl, i3⟩
  · rintro k N L hk ⟨y4, rfl, hi⟩ next
    have hok : lo_ok N.2 := by rw [hi.1]; exact ‹lo_ok M.2›
    have hRN : N.2.2.2.1 R = some (.inl (0, 547)) := by rw [hi.1]; exact hR
    refine ax_iload_n dX10_spotsAll_21 rfl ?_
    refine ax_bipush (v := 26) dX10_spotsAll_22 (by decide) ?_
    refine ax_icmp_ge (tgt := 51) dX10_spotsAll_24 (by decide) (fun hc => absurd ((nI_leI (a := 26) (by omega) (by omega)).mp hc) (by omega)) (fun hc => ?_)
    refine ax_aload_n dX10_spotsAll_27 rfl ?_
    refine ax_getK (f := 18) 100 dX10_spotsAll_28 acl_10 wd_1618 (by decide) rfl (lo_s hok 90 rfl) (lo_r hok 89 rfl) ?_
    refine ax_iload_n dX10_spotsAll_31 rfl ?_
    refine ax_aload_n dX10_spotsAll_32 rfl ?_
    refine ax_aload_n dX10_spotsAll_33 rfl ?_
    refine ax_aload_n dX10_spotsAll_34 rfl ?_
    refine ax_getK (f := 18) 100 dX10_spotsAll_35 acl_10 wd_1618 (by decide) rfl (lo_s hok 90 rfl) (lo_r hok 89 rfl) ?_
    refine ax_iload_n dX10_spotsAll_38 rfl ?_
    refine ax_ialdN (k) dX10_spotsAll_39 (lo_s hok 100 rfl) (by decide) (by first | with_reducible rfl | assumption | exact ax_nix (by simp only [nx_0, nx_1, nx_2, nx_3, nx_4, nx_10, nx_20, nx_21, nx_100, nI_add, pk_mul] <;> rfl) (by omega) | decide) (by omega) ?_
    refine ax_iload_n dX10_spotsAll_40 rfl ?_
    refine ax_callV (As := _) (d2 := _) (c1 := 0) (n1 := 0) (c_spots1 (d := 0) (M := N) hok hRN (J := 1 + k) (by omega) (by omega) hi.2.1 _) dX10_spotsAll_41 mX10_spots wd_2210 acl_10 (lo_s hok 90 rfl) rfl (by omega) (by omega) (by omega) rfl rfl (fun _ _ h => by cases h.1) ?_
    rintro r1 N2 ⟨h1, hN2⟩; cases h1
    have hok : lo_ok N2.2 := by rw [hN2]; exact hok
    refine ax_iastN (k) dX10_spotsAll_44 (lo_s hok 100 rfl) (by decide) (by first | with_reducible rfl | assumption | exact ax_nix (by simp only [nx_0, nx_1, nx_2, nx_3, nx_4, nx_10, nx_20, nx_21, nx_100, nI_add, pk_mul] <;> rfl) (by omega) | decide) (by omega) ?_
    refine ax_gen (fun N3 hN3 => ?_)
    have hok : lo_ok N3.2 := by rw [hN3]; exact hok
    refine ax_iinc (v := 1) dX10_spotsAll_45 rfl (by decide) (by decide) rfl ?_
    refine ax_goto (tgt := 21) dX10_spotsAll_48 (by decide) ?_
    refine next _ _ ⟨_, by rw [nI_1]; rfl, ?_⟩
    have eR : ∀ i, N.1 R i = M.1 R i := fun i => hi.2.2.1 R i (by omega) (by omega) (by omega)
    refine ⟨by rw [hN3, hN2]; exact hi.1, by rw [hN3, ax_pn (by omega), hN2, ax_pa]; rfl, fun n i q1 q2 q3 => ?_, fun j hj => ?_⟩
    · rw [hN3, ax_pn (by omega), hN2, ax_pn (by omega)]; exact hi.2.2.1 n i q1 q2 q3
    · by_cases z : j = 1 + k
      · rw [z, lv_s N3 k hk, hN3, ax_pa, eR]
      · rw [← hi.2.2.2 j (by omega)]
        refine lv_eq2 ?_ (fun q1 q2 => ?_) (fun q1 => ?_) <;> rw [hN3, ax_pn (by omega), hN2, ax_pn (by omega)]
  · rintro N L ⟨y4, rfl, hi⟩
    refine ax_iload_n dX10_spotsAll_21 rfl ?_
    refine ax_bipush (v := 26) dX10_spotsAll_22 (by decide) ?_
    refine ax_icmp_ge (tgt := 51) dX10_spotsAll_24 (by decide) (fun hc => ?_) (fun hc => absurd ((nI_leI (a := 26) (by omega) (by omega)).mpr (by omega)) hc)
    refine ax_iconst (v := 0) dX10_spotsAll_51 (by decide) ?_
    refine ax_istore_n dX10_spotsAll_52 (by decide) rfl ?_
    refine ax_for 20 (fun w N L => ∃ y4, L = [some (av_r 90), some (av_r R), some (av_i 1), some (av_i (nI w)), y4] ∧ im_1 M N R (27 + 26 * w)) 53 ?_ ?_ (i := 0) (by omega) ⟨_, rfl, hi⟩
    · rintro w N L hw ⟨y4, rfl, hi⟩ next
      refine ax_iload_n dX10_spotsAll_53 rfl ?_
      refine ax_bipush (v := 20) dX10_spotsAll_54 (by decide) ?_
      refine ax_icmp_ge (tgt := 105) dX10_spotsAll_56 (by decide) (fun hc => absurd ((nI_leI (a := 20) (by omega) (by omega)).mp hc) (by omega)) (fun hc => ?_)
      refine ax_iconst (v := 0) dX10_spotsAll_59 (by decide) ?_
      refine ax_istore dX10_spotsAll_60 (by decide) rfl ?_
      refine ax_for 26 (fun k N L => L = [some (av_r 90), some (av_r R), some (av_i 1), some (av_i (nI w)), some (av_i (nI k))] ∧ im_1 M N R (27 + 26 * w + k)) 62 ?_ ?_ (i := 0) (by omega) ⟨rfl, hi⟩
      · rintro k N L hk ⟨rfl, hi⟩ next2
        have hok : lo_ok N.2 := by rw [hi.1]; exact ‹lo_ok M.2›
        have hRN : N.2.2.2.1 R = some (.inl (0, 547)) := by rw [hi.1]; exact hR
        refine ax_iload dX10_spotsAll_62 rfl ?_
        refine ax_bipush (v := 26) dX10_spotsAll_64 (by decide) ?_
        refine ax_icmp_ge (tgt := 99) dX10_spotsAll_66 (by decide) (fun hc => absurd ((nI_leI (a := 26) (by omega) (by omega)).mp hc) (by omega)) (fun hc => ?_)
        refine ax_aload_n dX10_spotsAll_69 rfl ?_
        refine ax_getK (f := 30) 145 dX10_spotsAll_70 acl_10 wd_1630 (by decide) rfl (lo_s hok 90 rfl) (lo_r hok 99 rfl) ?_
        refine ax_iload_n dX10_spotsAll_73 rfl ?_
        refine ax_aaldN2 (146 + (w)) (w) dX10_spotsAll_74 (lo_s hok 145 rfl) (by decide) (by first | with_reducible rfl | assumption | exact ax_nix (by simp only [nx_0, nx_1, nx_2, nx_3, nx_4, nx_10, nx_20, nx_21, nx_100, nI_add, pk_mul] <;> rfl) (by omega) | decide) (by omega) (lo_w_m_before hok (by omega)) ?_
        refine ax_iload dX10_spotsAll_75 rfl ?_
        refine ax_aload_n dX10_spotsAll_77 rfl ?_
        refine ax_aload_n dX10_spotsAll_78 rfl ?_
        refine ax_aload_n dX10_spotsAll_79 rfl ?_
        refine ax_getK (f := 30) 145 dX10_spotsAll_80 acl_10 wd_1630 (by decide) rfl (lo_s hok 90 rfl) (lo_r hok 99 rfl) ?_
        refine ax_iload_n dX10_spotsAll_83 rfl ?_
        refine ax_aaldN2 (146 + (w)) (w) dX10_spotsAll_84 (lo_s hok 145 rfl) (by decide) (by first | with_reducible rfl | assumption | exact ax_nix (by simp only [nx_0, nx_1, nx_2, nx_3, nx_4, nx_10, nx_20, nx_21, nx_100, nI_add, pk_mul] <;> rfl) (by omega) | decide) (by omega) (lo_w_m_before hok (by omega)) ?_
        refine ax_iload dX10_spotsAll_85 rfl ?_
        refine ax_ialdN (k) dX10_spotsAll_87 (by first | assumption | exact lo_tz hok (by omega) (by omega) | exact lo_z_m_wet hok (by omega) | exact lo_z_m_readWet hok (by omega) | exact lo_z_m_law hok (by omega) | exact lo_z_m_book hok (by omega) | exact lo_z_m_readBook hok (by omega) | exact lo_z_m_before hok (by omega) | exact lo_z_m_kept hok (by omega) | exact lo_z_m_seenAt hok (by omega) | exact lo_z_m_seenIn hok (by omega) | exact lo_z_m_t0 hok (by omega) | exact lo_z_m_t1 hok (by omega) | exact lo_z_m_c0 hok (by omega) | exact lo_z_m_c1 hok (by omega) | exact lo_z_x_kept hok (by omega)) (by decide) (by first | with_reducible rfl | assumption | exact ax_nix (by simp only [nx_0, nx_1, nx_2, nx_3, nx_4, nx_10, nx_20, nx_21, nx_100, nI_add, pk_mul] <;> rfl) (by omega) | decide) (by omega) ?_
        refine ax_iload_n dX10_spotsAll_88 rfl ?_
        refine ax_callV (As := _) (d2 := _) (c1 := 0) (n1 := 0) (c_spots1 (d := 0) (M := N) hok hRN (J := 27 + 26 * w + k) (by omega) (by omega) hi.2.1 _) dX10_spotsAll_89 mX10_spots wd_2210 acl_10 (lo_s hok 90 rfl) rfl (by omega) (by omega) (by omega) rfl rfl (fun _ _ h => by cases h.1) ?_
        rintro r1 N2 ⟨h1, hN2⟩; cases h1
        have hok : lo_ok N2.2 := by rw [hN2]; exact hok
        refine ax_iastN (k) dX10_spotsAll_92 (by first | assumption | exact lo_tz hok (by omega) (by omega) | exact lo_z_m_wet hok (by omega) | exact lo_z_m_readWet hok (by omega) | exact lo_z_m_law hok (by omega) | exact lo_z_m_book hok (by omega) | exact lo_z_m_readBook hok (by omega) | exact lo_z_m_before hok (by omega) | exact lo_z_m_kept hok (by omega) | exact lo_z_m_seenAt hok (by omega) | exact lo_z_m_seenIn hok (by omega) | exact lo_z_m_t0 hok (by omega) | exact lo_z_m_t1 hok (by omega) | exact lo_z_m_c0 hok (by omega) | exact lo_z_m_c1 hok (by omega) | exact lo_z_x_kept hok (by omega)) (by decide) (by first | with_reducible rfl | assumption | exact ax_nix (by simp only [nx_0, nx_1, nx_2, nx_3, nx_4, nx_10, nx_20, nx_21, nx_100, nI_add, pk_mul] <;> rfl) (by omega) | decide) (by omega) ?_
        refine ax_gen (fun N3 hN3 => ?_)
        have hok : lo_ok N3.2 := by rw [hN3]; exact hok
        refine ax_iinc (v := 1) dX10_spotsAll_93 rfl (by decide) (by decide) rfl ?_
        refine ax_goto (tgt := 62) dX10_spotsAll_96 (by decide) ?_
        refine next2 _ _ ⟨by rw [nI_1]; rfl, ?_⟩
        have eR : ∀ i, N.1 R i = M.1 R i := fun i => hi.2.2.1 R i (by omega) (by omega) (by omega)
        refine ⟨by rw [hN3, hN2]; exact hi.1, by rw [hN3, ax_pn (by omega), hN2, ax_pa]; rfl, fun n i q1 q2 q3 => ?_, fun j hj => ?_⟩
        · rw [hN3, ax_pn (by omega), hN2, ax_pn (by omega)]; exact hi.2.2.1 n i q1 q2 q3
        · by_cases z : j = 27 + 26 * w + k
          · rw [z, lv_b N3 w k hk, hN3, ax_pa, eR]
          · rw [← hi.2.2.2 j (by omega)]
            refine lv_eq2 ?_ (fun q1 q2 => ?_) (fun q1 => ?_) <;> rw [hN3, ax_pn (by omega), hN2, ax_pn (by omega)]
      · rintro N L ⟨rfl, hi⟩
        refine ax_iload dX10_spotsAll_62 rfl ?_
        refine ax_bipush (v := 26) dX10_spotsAll_64 (by decide) ?_
        refine ax_icmp_ge (tgt := 99) dX10_spotsAll_66 (by decide) (fun hc => ?_) (fun hc => absurd ((nI_leI (a := 26) (by omega) (by omega)).mpr (by omega)) hc)
        refine ax_iinc (v := 1) dX10_spotsAll_99 rfl (by decide) (by decide) rfl ?_
        refine ax_goto (tgt := 53) dX10_spotsAll_102 (by decide) ?_
        exact next _ _ ⟨_, by rw [nI_1]; rfl, by rw [show 27 + 26 * (w + 1) = 27 + 26 * w + 26 by omega]; exact hi⟩
    · rintro N L ⟨y4, rfl, hi⟩
      refine ax_iload_n dX10_spotsAll_53 rfl ?_
      refine ax_bipush (v := 20) dX10_spotsAll_54 (by decide) ?_
      refine ax_icmp_ge (tgt := 105) dX10_spotsAll_56 (by decide) (fun hc => ?_) (fun hc => absurd ((nI_leI (a := 20) (by omega) (by omega)).mpr (by omega)) hc)
      refine ax_vret dX10_spotsAll_105 rfl ?_
      exact ⟨rfl, hi⟩
theorem c_image (hok : lo_ok M.2) {n : Nat} (hn : M.1 90 34 = nI n) (hn2 : n ≤ 3) : ax_Met l G kX10_image 2 0 0 M [av_r 90] (fun o M2 => (n = 3 ∧ o = .inl (some (av_i (-1))) ∧ M2 = ax_pI M 90 0 0) ∨ (¬ n = 3 ∧ o = .inl (some (av_i (nI (n + 1)))) ∧ ∃ N, im_0 (ax_pI M 90 0 0) N (167 + n) 547 ∧ M2 = ax_pI N 90 34 (nI (n + 1)))) := by
  refine ax_body (by decide) (Nat.le_of_ble_eq_true rfl) ?_
  refine ax_aload_n dX10_image_0 rfl ?_
  refine ax_iconst (v := 0) dX10_image_1 (by decide) ?_
  refine ax_putI (f := 0) dX10_image_2 acl_10 wd_1600 (by decide) rfl rfl (ax_nfI rfl) (lo_s hok 90 rfl) ?_
  refine ax_gen (fun M0 hM0 => ?_)
  have hok : lo_ok M0.2 := by rw [hM0]; exact hok
  have hn0 : M0.1 90 34 = nI n := by rw [hM0, ax_pn (by omega)]; exact hn
  refine ax_aload_n dX10_image_5 rfl ?_
  refine ax_getI (f := 34) dX10_image_6 acl_10 wd_1634 (by decide) rfl (lo_s hok 90 rfl) ?_
  refine ax_iconst (v := 3) dX10_image_9 (by decide) ?_
  rw [hn0]
  refine ax_icmp_ne (tgt := 15) dX10_image_10 (by decide) (fun hc => ?_) (fun hc => ?_)
  · have h0 : ¬ n = 3 := fun z => hc (by rw [z]; rfl)
    refine ax_aload_n dX10_image_15 rfl ?_
    refine ax_aload_n dX10_image_16 rfl ?_
    refine ax_getK (f := 31) 166 dX10_image_17 acl_10 wd_1631 (by decide) rfl (lo_s hok 90 rfl) (lo_r hok 100 rfl) ?_
    refine ax_aload_n dX10_image_20 rfl ?_
    refine ax_getI (f := 34) dX10_image_21 acl_10 wd_1634 (by decide) rfl (lo_s hok 90 rfl) ?_
    rw [hn0]
    refine ax_aaldN2 (167 + (n)) (n) dX10_image_24 (lo_s hok 166 rfl) (by decide) (by first | with_reducible rfl | assumption | exact ax_nix (by simp only [nx_0, nx_1, nx_2, nx_3, nx_4, nx_10, nx_20, nx_21, nx_100, nI_add, pk_mul] <;> rfl) (by omega) | decide) (by omega) (lo_w_m_kept hok (by omega)) ?_
    refine ax_iconst (v := 0) dX10_image_25 (by decide) ?_
    refine ax_callV (As := _) (d2 := _) (c1 := 0) (n1 := 0) (c_spotsAll0 (M := M0) hok (lo_z_m_kept hok (by omega)) (by omega)) dX10_image_26 mX10_spotsAll wd_2206 acl_10 (lo_s hok 90 rfl) rfl (by omega) (by omega) (by omega) rfl rfl (fun _ _ h => by cases h.1) ?_
    rintro r1 N ⟨h1, hi⟩; cases h1
    have hok : lo_ok N.2 := by rw [hi.1]; exact hok
    have e34 : N.1 90 34 = nI n := by rw [hi.2.2.1 90 34 (by omega) (by omega)]; exact hn0
    refine ax_aload_n dX10_image_29 rfl ?_
    refine ax_dup dX10_image_30 (by first | rfl | exact ax_crf _) ?_
    refine ax_getI (f := 34) dX10_image_31 acl_10 wd_1634 (by decide) rfl (lo_s hok 90 rfl) ?_
    rw [e34]
    refine ax_iconst (v := 1) dX10_image_34 (by decide) ?_
    refine ax_iadd dX10_image_35 ?_
    rw [nI_1]
    refine ax_putI (f := 34) dX10_image_36 acl_10 wd_1634 (by decide) rfl rfl (ax_nfI rfl) (lo_s hok 90 rfl) ?_
    refine ax_gen (fun N2 hN2 => ?_)
    have hok : lo_ok N2.2 := by rw [hN2]; exact hok
    refine ax_aload_n dX10_image_39 rfl ?_
    refine ax_getI (f := 34) dX10_image_40 acl_10 wd_1634 (by decide) rfl (lo_s hok 90 rfl) ?_
    rw [hN2, ax_pa, ← hN2]
    refine ax_iret dX10_image_43 rfl ?_
    exact Or.inr ⟨h0, rfl, N, by rw [← hM0]; exact hi, hN2⟩
  · have h0 := (nI_eq (b := 3) (by omega) (by omega)).mp hc
    refine ax_iconst (v := (-1)) dX10_image_13 (by decide) ?_
    refine ax_iret dX10_image_14 rfl ?_
    exact Or.inl ⟨h0, rfl, hM0⟩
theorem c_restore (hok : lo_ok M.2) {n : Nat} (hn : M.1 90 34 = nI n) (hn2 : n ≤ 3) : ax_Met l G kX10_restore 2 0 0 M [av_r 90] (fun o M2 => (n = 0 ∧ o = .inl (some (av_i (-1))) ∧ M2 = ax_pI M 90 0 0) ∨ (¬ n = 0 ∧ o = .inl (some (av_i (nI (n - 1)))) ∧ im_1 (ax_pI (ax_pI M 90 0 0) 90 34 (nI (n - 1))) M2 (166 + n) 547)) := by
  refine ax_body (by decide) (Nat.le_of_ble_eq_true rfl) ?_
  refine ax_aload_n dX10_restore_0 rfl ?_
  refine ax_iconst (v := 0) dX10_restore_1 (by decide) ?_
  refine ax_putI (f := 0) dX10_restore_2 acl_10 wd_1600 (by decide) rfl rfl (ax_nfI rfl) (lo_s hok 90 rfl) ?_
  refine ax_gen (fun M0 hM0 => ?_)
  have hok : lo_ok M0.2 := by rw [hM0]; exact hok
  have hn0 : M0.1 90 34 = nI n := by rw [hM0, ax_pn (by omega)]; exact hn
  refine ax_aload_n dX10_restore_5 rfl ?_
  refine ax_getI (f := 34) dX10_restore_6 acl_10 wd_1634 (by decide) rfl (lo_s hok 90 rfl) ?_
  rw [hn0]
  refine ax_if_ne (tgt := 14) dX10_restore_9 (by decide) (fun hc => ?_) (fun hc => ?_)
  · have h0 : ¬ n = 0 := fun z => hc (by rw [z]; rfl)
    refine ax_aload_n dX10_restore_14 rfl ?_
    refine ax_dup dX10_restore_15 (by first | rfl | exact ax_crf _) ?_
    refine ax_getI (f := 34) dX10_restore_16 acl_10 wd_1634 (by decide) rfl (lo_s hok 90 rfl) ?_
    rw [hn0]
    refine ax_iconst (v := 1) dX10_restore_19 (by decide) ?_
    refine ax_isub dX10_restore_20 ?_
    rw [nx_1, pk_sub (by omega)]
    refine ax_putI (f := 34) dX10_restore_21 acl_10 wd_1634 (by decide) rfl rfl (ax_nfI rfl) (lo_s hok 90 rfl) ?_
    refine ax_gen (fun M1 hM1 => ?_)
    have hok : lo_ok M1.2 := by rw [hM1]; exact hok
    have e34 : M1.1 90 34 = nI (n - 1) := by rw [hM1, ax_pa]
    refine ax_aload_n dX10_restore_24 rfl ?_
    refine ax_aload_n dX10_restore_25 rfl ?_
    refine ax_getK (f := 31) 166 dX10_restore_26 acl_10 wd_1631 (by decide) rfl (lo_s hok 90 rfl) (lo_r hok 100 rfl) ?_
    refine ax_aload_n dX10_restore_29 rfl ?_
    refine ax_getI (f := 34) dX10_restore_30 acl_10 wd_1634 (by decide) rfl (lo_s hok 90 rfl) ?_
    rw [e34]
    refine ax_aaldN2 (167 + (n - 1)) (n - 1) dX10_restore_33 (lo_s hok 166 rfl) (by decide) (by first | with_reducible rfl | assumption | exact ax_nix (by simp only [nx_0, nx_1, nx_2, nx_3, nx_4, nx_10, nx_20, nx_21, nx_100, nI_add, pk_mul] <;> rfl) (by omega) | decide) (by omega) (lo_w_m_kept hok (by omega)) ?_
    refine ax_iconst (v := 1) dX10_restore_34 (by decide) ?_
    refine ax_callV (As := _) (d2 := _) (c1 := 0) (n1 := 0) (c_spotsAll1 (M := M1) hok (lo_z_m_kept hok (by omega)) (by omega)) dX10_restore_35 mX10_spotsAll wd_2206 acl_10 (lo_s hok 90 rfl) rfl (by omega) (by omega) (by omega) rfl rfl (fun _ _ h => by cases h.1) ?_
    rintro r1 N ⟨h1, hi⟩; cases h1
    have hok : lo_ok N.2 := by rw [hi.1]; exact hok
    refine ax_aload_n dX10_restore_38 rfl ?_
    refine ax_getI (f := 34) dX10_restore_39 acl_10 wd_1634 (by decide) rfl (lo_s hok 90 rfl) ?_
    rw [hi.2.2.1 90 34 (by omega) (by omega) (by omega), e34]
    refine ax_iret dX10_restore_42 rfl ?_
    refine Or.inr ⟨h0, rfl, ?_⟩
    rw [hM1, hM0, show 167 + (n - 1) = 166 + n by omega] at hi
    exact hi
  · have h0 := (nI_eq (b := 0) (by omega) (by omega)).mp hc
    refine ax_iconst (v := (-1)) dX10_restore_12 (by decide) ?_
    refine ax_iret dX10_restore_13 rfl ?_
    exact Or.inl ⟨h0, rfl, hM0⟩
theorem c_status (hok : lo_ok M.2) (x : Int32) : ax_Met l G kX10_status 1 0 0 M [av_r 90, av_i x] (fun o M2 => rq M M2 o (.inl (av_i (qa_status M x)))) := by
  refine ax_body (by decide) (Nat.le_of_ble_eq_true rfl) ?_
  refine ax_aload_n dX10_status_0 rfl ?_
  refine ax_iconst (v := 0) dX10_status_1 (by decide) ?_
  refine ax_putI (f := 0) dX10_status_2 acl_10 wd_1600 (by decide) rfl rfl (ax_nfI rfl) (lo_s hok 90 rfl) ?_
  refine ax_gen (fun M0 hM0 => ?_)
  have hok : lo_ok M0.2 := by rw [hM0]; exact hok
  refine ax_iload_n dX10_status_5 rfl ?_
  refine ax_iconst (v := 0) dX10_status_6 (by decide) ?_
  refine ax_iconst (v := 2) dX10_status_7 (by decide) ?_
  refine ax_callS (As := _) (c1 := 0) (n1 := 0) (c_X10_in (d := 0) (M := M0) _ _ _) dX10_status_8 mX10_in wd_1772 rfl (by omega) (by omega) (by omega) rfl rfl (fun _ _ h => by cases h.1) ?_
  rintro r M9 ⟨h1, h9⟩; cases h1; rw [h9]; clear h9 M9
  refine ax_ifB_eq (tgt := 23) dX10_status_11 (by decide) (fun hc => ?_) (fun hc => ?_)
  · refine ax_iconst (v := (-1)) dX10_status_23 (by decide) ?_
    refine ax_iret dX10_status_24 rfl ?_
    exact rq_sf hM0 (sf_0 _) (by unfold qa_status; rw [if_neg hc])
  · obtain ⟨k, hk, rfl⟩ := in_nat hc (n := 2) rfl (by decide)
    refine ax_aload_n dX10_status_14 rfl ?_
    refine ax_getK (f := 10) 92 dX10_status_15 acl_10 wd_1610 (by decide) rfl (lo_s hok 90 rfl) (lo_r hok 81 rfl) ?_
    refine ax_iload_n dX10_status_18 rfl ?_
    refine ax_ialdN (k) dX10_status_19 (lo_s hok 92 rfl) (by decide) (by first | with_reducible rfl | assumption | exact ax_nix (by simp only [nx_0, nx_1, nx_2, nx_3, nx_4, nx_10, nx_20, nx_21, nx_100, nI_add, pk_mul] <;> rfl) (by omega) | decide) (by omega) ?_
    refine ax_goto (tgt := 24) dX10_status_20 (by decide) ?_
    refine ax_iret dX10_status_24 rfl ?_
    exact rq_sf hM0 (sf_0 _) (by unfold qa_status; rw [if_pos hc, nI_clamp (by omega), hM0, ax_pn (by omega)])
theorem c_count {d : Nat} (hok : lo_ok M.2) (x : Int32) : ax_Met l G kX10_count d 0 0 M [av_r 90, av_i x] (fun o M2 => rq M M2 o (.inl (av_i (qa_count M x)))) := by
  refine ax_body (by decide) (Nat.le_of_ble_eq_true rfl) ?_
  refine ax_aload_n dX10_count_0 rfl ?_
  refine ax_iconst (v := 0) dX10_count_1 (by decide) ?_
  refine ax_putI (f := 0) dX10_count_2 acl_10 wd_1600 (by decide) rfl rfl (ax_nfI rfl) (lo_s hok 90 rfl) ?_
  refine ax_gen (fun M0 hM0 => ?_)
  have hok : lo_ok M0.2 := by rw [hM0]; exact hok
  refine ax_iload_n dX10_count_5 rfl ?_
  refine ax_if_ne (tgt := 16) dX10_count_6 (by decide) (fun h6 => ?_) (fun h6 => ?_)
  · refine ax_iload_n dX10_count_16 rfl ?_
    refine ax_iconst (v := 1) dX10_count_17 (by decide) ?_
    refine ax_icmp_ne (tgt := 28) dX10_count_18 (by decide) (fun h18 => ?_) (fun h18 => ?_)
    · refine ax_iload_n dX10_count_28 rfl ?_
      refine ax_iconst (v := 2) dX10_count_29 (by decide) ?_
      refine ax_icmp_ne (tgt := 40) dX10_count_30 (by decide) (fun h30 => ?_) (fun h30 => ?_)
      · refine ax_iconst (v := (-1)) dX10_count_40 (by decide) ?_
        refine ax_iret dX10_count_41 rfl ?_
        exact rq_sf hM0 (sf_0 _) (by unfold qa_count; simp_all [ax_pI, ax_u2])
      · refine ax_aload_n dX10_count_33 rfl ?_
        refine ax_getI (f := 33) dX10_count_34 acl_10 wd_1633 (by decide) rfl (lo_s hok 90 rfl) ?_
        refine ax_goto (tgt := 41) dX10_count_37 (by decide) ?_
        refine ax_iret dX10_count_41 rfl ?_
        exact rq_sf hM0 (sf_0 _) (by unfold qa_count; simp_all [ax_pI, ax_u2])
    · refine ax_aload_n dX10_count_21 rfl ?_
      refine ax_getI (f := 1) dX10_count_22 acl_10 wd_1601 (by decide) rfl (lo_s hok 90 rfl) ?_
      refine ax_goto (tgt := 41) dX10_count_25 (by decide) ?_
      refine ax_iret dX10_count_41 rfl ?_
      exact rq_sf hM0 (sf_0 _) (by unfold qa_count; simp_all [ax_pI, ax_u2])
  · refine ax_aload_n dX10_count_9 rfl ?_
    refine ax_getI (f := 34) dX10_count_10 acl_10 wd_1634 (by decide) rfl (lo_s hok 90 rfl) ?_
    refine ax_goto (tgt := 41) dX10_count_13 (by decide) ?_
    refine ax_iret dX10_count_41 rfl ?_
    exact rq_sf hM0 (sf_0 _) (by unfold qa_count; simp_all [ax_pI, ax_u2])
theorem c_feed {d : Nat} (hok : lo_ok M.2) {t : Nat} (ht : M.1 90 1 = nI t) (ht2 : t ≤ 600) (a b c e f : Int32) : ax_Met l G kX10_feed d 0 0 M [av_r 90, av_i a, av_i b, av_i c, av_i e, av_i f] (fun o M2 => if 600 < t + 20 then o = .inl (some (av_i (-1))) ∧ M2 = ax_pI M 90 0 0 else o = .inl (some (av_i (nI (t + 20)))) ∧ fd_o (ax_pI M 90 0 0) M2 t 20 (fb a b c e f)) := by
  refine ax_body (by decide) (Nat.le_of_ble_eq_true rfl) ?_
  refine ax_aload_n dX10_feed_0 rfl ?_
  refine ax_iconst (v := 0) dX10_feed_1 (by decide) ?_
  refine ax_putI (f := 0) dX10_feed_2 acl_10 wd_1600 (by decide) rfl rfl (ax_nfI rfl) (lo_s hok 90 rfl) ?_
  refine ax_gen (fun M0 hM0 => ?_)
  have hok : lo_ok M0.2 := by rw [hM0]; exact hok
  have ht0 : M0.1 90 1 = nI t := by rw [hM0, ax_pn (by omega)]; exact ht
  refine ax_aload_n dX10_feed_5 rfl ?_
  refine ax_getI (f := 1) dX10_feed_6 acl_10 wd_1601 (by decide) rfl (lo_s hok 90 rfl) ?_
  refine ax_bipush (v := 20) dX10_feed_9 (by decide) ?_
  rw [ht0]
  refine ax_iadd dX10_feed_11 ?_
  rw [nx_20, nI_add]
  refine ax_sipush (v := 600) dX10_feed_12 (by decide) ?_
  refine ax_icmp_le (tgt := 20) dX10_feed_15 (by decide) (fun hc => ?_) (fun hc => ?_)
  · have hle := (nI_leI (b := 600) (by omega) (by omega)).mp hc
    simp only [if_neg (show ¬ 600 < t + 20 by omega)]
    refine ax_iconst (v := 0) dX10_feed_20 (by decide) ?_
    refine ax_istore dX10_feed_21 (by decide) rfl ?_
    refine ax_for 20 (fun k N L => ∃ y7, L = [some (av_r 90), some (av_i a), some (av_i b), some (av_i c), some (av_i e), some (av_i f), some (av_i (nI k)), y7] ∧ fd_o M0 N t k (fb a b c e f)) 23 ?_ ?_ (i := 0) (by omega) ⟨_, rfl, rfl, by rw [Nat.add_zero]; exact ht0, fun k z => by omega, fun _ _ _ _ => rfl⟩
    · rintro k N L hk ⟨y7, rfl, f1, f2, f3, f4⟩ next
      have hok : lo_ok N.2 := by rw [f1]; exact hok
      refine ax_iload dX10_feed_23 rfl ?_
      refine ax_bipush (v := 20) dX10_feed_25 (by decide) ?_
      refine ax_icmp_ge (tgt := 120) dX10_feed_27 (by decide) (fun hc => absurd ((nI_leI (a := 20) (by omega) (by omega)).mp hc) (by omega)) (fun hc => ?_)
      have rest : ∀ v, v = (if k < 4 then a else if k < 8 then b else if k < 12 then c else if k < 16 then e else f) → ax_W l G kX10_feed (ax_FQ G (fun o M2 => o = .inl (some (av_i (nI (t + 20)))) ∧ fd_o (ax_pI M 90 0 0) M2 t 20 (fb a b c e f))) d 0 0 N 76 [some (av_r 90), some (av_i a), some (av_i b), some (av_i c), some (av_i e), some (av_i f), some (av_i (nI k)), y7] [av_i v] := by
        intro v hv
        refine ax_istore dX10_feed_76 (by decide) rfl ?_
        refine ax_aload_n dX10_feed_78 rfl ?_
        refine ax_getK (f := 9) 91 dX10_feed_79 acl_10 wd_1609 (by decide) rfl (lo_s hok 90 rfl) (lo_r hok 80 rfl) ?_
        refine ax_aload_n dX10_feed_82 rfl ?_
        refine ax_getI (f := 1) dX10_feed_83 acl_10 wd_1601 (by decide) rfl (lo_s hok 90 rfl) ?_
        rw [f2]
        refine ax_iload dX10_feed_86 rfl ?_
        refine ax_bipush (v := 24) dX10_feed_88 (by decide) ?_
        refine ax_bipush (v := 8) dX10_feed_90 (by decide) ?_
        refine ax_iload dX10_feed_92 rfl ?_
        refine ax_iconst (v := 4) dX10_feed_94 (by decide) ?_
        refine ax_irem dX10_feed_95 (by decide) ?_
        rw [nx_4, pk_rem (by omega) (by omega) (by omega), show (8 : Int32) = nI 8 from rfl, show (24 : Int32) = nI 24 from rfl]
        refine ax_imul dX10_feed_96 ?_
        refine ax_isub dX10_feed_97 ?_
        rw [pk_mul, pk_sub (by omega)]
        refine ax_ishr dX10_feed_98 ?_
        refine ax_sipush (v := 255) dX10_feed_99 (by decide) ?_
        refine ax_iand dX10_feed_102 ?_
        refine ax_iastN (t + k) dX10_feed_103 (lo_s hok 91 rfl) (by decide) (by first | with_reducible rfl | assumption | exact ax_nix (by simp only [nx_0, nx_1, nx_2, nx_3, nx_4, nx_10, nx_20, nx_21, nx_100, nI_add, pk_mul] <;> rfl) (by omega) | decide) (by omega) ?_
        refine ax_gen (fun N2 hN2 => ?_)
        have hok : lo_ok N2.2 := by rw [hN2]; exact hok
        have e1 : N2.1 90 1 = nI (t + k) := by rw [hN2, ax_pn (by omega)]; exact f2
        refine ax_aload_n dX10_feed_104 rfl ?_
        refine ax_dup dX10_feed_105 (by first | rfl | exact ax_crf _) ?_
        refine ax_getI (f := 1) dX10_feed_106 acl_10 wd_1601 (by decide) rfl (lo_s hok 90 rfl) ?_
        rw [e1]
        refine ax_iconst (v := 1) dX10_feed_109 (by decide) ?_
        refine ax_iadd dX10_feed_110 ?_
        rw [nI_1]
        refine ax_putI (f := 1) dX10_feed_111 acl_10 wd_1601 (by decide) rfl rfl (ax_nfI rfl) (lo_s hok 90 rfl) ?_
        refine ax_gen (fun N3 hN3 => ?_)
        have hok : lo_ok N3.2 := by rw [hN3]; exact hok
        refine ax_iinc (v := 1) dX10_feed_114 rfl (by decide) (by decide) rfl ?_
        refine ax_goto (tgt := 23) dX10_feed_117 (by decide) ?_
        refine next _ _ ⟨_, by rw [nI_1]; rfl, by rw [hN3, hN2]; exact f1, by rw [hN3, ax_pa]; rfl, fun q hq => ?_, fun n i q1 q2 => ?_⟩
        · rw [hN3, ax_pn (by omega), hN2]
          by_cases z : q = k
          · subst z; rw [ax_pa]; unfold fb; rw [hv]
          · rw [ax_pn (by omega)]; exact f3 q (by omega)
        · rw [hN3, ax_pn (by omega), hN2, ax_pn (by omega)]; exact f4 n i q1 (by omega)
      have g4 : (4 : Int32) ≤ nI k ↔ 4 ≤ k := nI_leI (a := 4) (by omega) (by omega)
      have g8 : (8 : Int32) ≤ nI k ↔ 8 ≤ k := nI_leI (a := 8) (by omega) (by omega)
      have g12 : (12 : Int32) ≤ nI k ↔ 12 ≤ k := nI_leI (a := 12) (by omega) (by omega)
      have g16 : (16 : Int32) ≤ nI k ↔ 16 ≤ k := nI_leI (a := 16) (by omega) (by omega)
      refine ax_iload dX10_feed_30 rfl ?_
      refine ax_iconst (v := 4) dX10_feed_32 (by decide) ?_
      refine ax_icmp_ge (tgt := 40) dX10_feed_33 (by decide) (fun h33 => ?_) (fun h33 => ?_)
      · refine ax_iload dX10_feed_40 rfl ?_
        refine ax_bipush (v := 8) dX10_feed_42 (by decide) ?_
        refine ax_icmp_ge (tgt := 51) dX10_feed_44 (by decide) (fun h44 => ?_) (fun h44 => ?_)
        · refine ax_iload dX10_feed_51 rfl ?_
          refine ax_bipush (v := 12) dX10_feed_53 (by decide) ?_
          refine ax_icmp_ge (tgt := 62) dX10_feed_55 (by decide) (fun h55 => ?_) (fun h55 => ?_)
          · refine ax_iload dX10_feed_62 rfl ?_
            refine ax_bipush (v := 16) dX10_feed_64 (by decide) ?_
            refine ax_icmp_ge (tgt := 74) dX10_feed_66 (by decide) (fun h66 => ?_) (fun h66 => ?_)
            · refine ax_iload dX10_feed_74 rfl ?_
              refine rest _ ?_; (try rw [g4] at h33); (try rw [g8] at h44); (try rw [g12] at h55); (try rw [g16] at h66); repeat (first | rw [if_pos (by omega)] | rw [if_neg (by omega)])
            · refine ax_iload dX10_feed_69 rfl ?_
              refine ax_goto (tgt := 76) dX10_feed_71 (by decide) ?_
              refine rest _ ?_; (try rw [g4] at h33); (try rw [g8] at h44); (try rw [g12] at h55); (try rw [g16] at h66); repeat (first | rw [if_pos (by omega)] | rw [if_neg (by omega)])
          · refine ax_iload_n dX10_feed_58 rfl ?_
            refine ax_goto (tgt := 76) dX10_feed_59 (by decide) ?_
            refine rest _ ?_; (try rw [g4] at h33); (try rw [g8] at h44); (try rw [g12] at h55); (try rw [g16] at h66); repeat (first | rw [if_pos (by omega)] | rw [if_neg (by omega)])
        · refine ax_iload_n dX10_feed_47 rfl ?_
          refine ax_goto (tgt := 76) dX10_feed_48 (by decide) ?_
          refine rest _ ?_; (try rw [g4] at h33); (try rw [g8] at h44); (try rw [g12] at h55); (try rw [g16] at h66); repeat (first | rw [if_pos (by omega)] | rw [if_neg (by omega)])
      · refine ax_iload_n dX10_feed_36 rfl ?_
        refine ax_goto (tgt := 76) dX10_feed_37 (by decide) ?_
        refine rest _ ?_; (try rw [g4] at h33); (try rw [g8] at h44); (try rw [g12] at h55); (try rw [g16] at h66); repeat (first | rw [if_pos (by omega)] | rw [if_neg (by omega)])
    · rintro N L ⟨y7, rfl, f1, f2, f3, f4⟩
      have hok : lo_ok N.2 := by rw [f1]; exact hok
      refine ax_iload dX10_feed_23 rfl ?_
      refine ax_bipush (v := 20) dX10_feed_25 (by decide) ?_
      refine ax_icmp_ge (tgt := 120) dX10_feed_27 (by decide) (fun hc => ?_) (fun hc => absurd ((nI_leI (a := 20) (by omega) (by omega)).mpr (by omega)) hc)
      refine ax_aload_n dX10_feed_120 rfl ?_
      refine ax_getI (f := 1) dX10_feed_121 acl_10 wd_1601 (by decide) rfl (lo_s hok 90 rfl) ?_
      rw [f2]
      refine ax_iret dX10_feed_124 rfl ?_
      exact ⟨rfl, by rw [← hM0]; exact ⟨f1, f2, f3, f4⟩⟩
  · have hle : ¬ t + 20 ≤ 600 := fun z => hc ((nI_leI (b := 600) (by omega) (by omega)).mpr z)
    simp only [if_pos (show 600 < t + 20 by omega)]
    refine ax_iconst (v := (-1)) dX10_feed_18 (by decide) ?_
    refine ax_iret dX10_feed_19 rfl ?_
    exact ⟨rfl, hM0⟩
end QL

