/-! ===== one, by the opens that are left ===== -/
theorem ps_sign_y {B : Nat → Int32} {z b : Nat} {c : Int32} {cs : List (Int32 × Int32)} (h : B (tx_sk B z b) = c) : ps_sign B z c b cs = .inr (tx_sk B z b + 1, cs) := if_pos h
theorem ps_sign_n {B : Nat → Int32} {z b : Nat} {c : Int32} {cs : List (Int32 × Int32)} (h : ¬ B (tx_sk B z b) = c) : ps_sign B z c b cs = .inl (1, tx_sk B z b) := if_neg h
theorem tx_ix_no {w : List Nat} : ∀ (L : List (List Nat)) (i : Nat), w ∉ L → tx_ix w L i = -1
  | [], _, _ => rfl
  | x :: r, i, h => by
    show (if w = x then _ else _) = _
    rw [if_neg (fun e => h (by rw [e]; exact List.mem_cons_self))]
    exact tx_ix_no r (i + 1) (fun q => h (List.mem_cons_of_mem _ q))
theorem tx_ix_yes {w : List Nat} : ∀ (L : List (List Nat)) (i : Nat), w ∈ L → ∃ j, j < L.length ∧ tx_ix w L i = nI (i + j)
  | [], _, h => by cases h
  | x :: r, i, h => by
    show ∃ j, _ ∧ (if w = x then _ else _) = _
    by_cases e : w = x
    · rw [if_pos e]
      exact ⟨0, by simp, rfl⟩
    · rw [if_neg e]
      obtain ⟨j, h1, h2⟩ := tx_ix_yes r (i + 1) ((List.mem_cons.mp h).resolve_left e)
      exact ⟨j + 1, by simp; omega, by rw [h2]; congr 1; omega⟩
theorem nI_m1 {n : Nat} (h : n < 2 ^ 31) : ¬ nI n = -1 := by
  intro e
  have := nI_toInt h
  rw [e] at this
  have h1 : (-1 : Int32).toInt = -1 := rfl
  omega
section P1
variable {l : Launch} {G : ax_G} {M : ax_M}
set_option maxHeartbeats 4000000 in
theorem c_X10_one0 {B : Nat → Int32} {z r D : Nat} (hB : ps_B B z) (hr6 : r ≤ 6) (x : Nat → ps_R)
    (hx0 : r = 0 → ∀ a, x a = if tx_wd B z (tx_sk B z a) = ps_least ∨ tx_wd B z (tx_sk B z a) = ps_most ∨ B (tx_sk B z a) = 40 then .inl (3, tx_sk B z a) else ps_atom B z (tx_sk B z a))
    (u : Nat → ps_R) (hu : ps_gd z u)
    (hx1 : r ≠ 0 → ∀ a, x a = if tx_wd B z (tx_sk B z a) = ps_least then ps_pair B z u 6 (tx_sk B z a + 5) else if tx_wd B z (tx_sk B z a) = ps_most then ps_pair B z u 7 (tx_sk B z a + 4) else if B (tx_sk B z a) = 40 then ps_par B z u (tx_sk B z a + 1) else ps_atom B z (tx_sk B z a))
    (hC : r ≠ 0 → ∀ (M : ax_M) (a k : Nat), ps_i B M z a k (r - 1) → ax_Met l G kX10_sum (D + 7) 0 0 M [av_r 90] (fun o M2 => o = .inl none ∧ ps_o B M M2 z k (r - 1) (u a)))
    {a k : Nat} (hi : ps_i B M z a k r) : ax_Met l G kX10_one (D + 8) 0 0 M [av_r 90] (fun o M2 => o = .inl none ∧ ps_o B M M2 z k r (x a)) := by
  have hok := hi.1.1
  refine ax_body (by decide) (Nat.le_of_ble_eq_true rfl) ?_
  generalize hQ : (fun (o : ax_O) (M2 : ax_M) => o = .inl none ∧ ps_o B M M2 z k r (x a)) = Q
  have done : ∀ (M2 : ax_M) (y : ps_R), ps_o B M M2 z k r y → y = x a → Q (.inl none) M2 := by
    intro M2 y h1 h2
    rw [← hQ]
    exact ⟨rfl, h2 ▸ h1⟩
  have haz : a ≤ z := hi.2.2.1
  have h150 := hi.2.2.2.1
  have hk : a ≤ tx_sk B z a := tx_sk_ge
  have hk2 := tx_sk_z (B := B) haz
  have eB := hi.2.1
  -- FAULT: nothing more is done
  have f100 : ∀ (M2 : ax_M) (h : Int32) (y : Option ax_V), ¬ M2.1 90 5 = 0 → lo_ok M2.2 → Q (.inl none) (ax_pI M2 90 8 (M2.1 90 8 - 1)) → ax_W l G kX10_one (ax_FQ G Q) (D + 8) 0 0 M2 100 [some (av_r 90), some (av_i h), y] [] := by
    intro M2 h y hf hok hq
    refine ax_aload_n dX10_one_100 rfl ?_
    refine ax_iload_n dX10_one_101 rfl ?_
    refine ax_iconst (v := 0) dX10_one_102 (by decide) ?_
    refine ax_callV (As := _) (d2 := _) (c1 := 0) (n1 := 0) (c_X10_notesF (d := 0) (M := M2) hok hf _ _) dX10_one_103 mX10_notes wd_1869 acl_10 (lo_s hok 90 rfl) rfl (by omega) (by omega) (by omega) rfl rfl (fun _ _ h => by cases h.1) ?_
    rintro r M9 ⟨h1, h9⟩; cases h1; rw [h9]; clear h9 M9
    refine ax_aload_n dX10_one_106 rfl ?_
    refine ax_dup dX10_one_107 (by first | rfl | exact ax_crf _) ?_
    refine ax_getI (f := 8) dX10_one_108 acl_10 wd_1608 (by decide) rfl (lo_s hok 90 rfl) ?_
    refine ax_iconst (v := 1) dX10_one_111 (by decide) ?_
    refine ax_isub dX10_one_112 ?_
    refine ax_putI (f := 8) dX10_one_113 acl_10 wd_1608 (by decide) rfl rfl (ax_nfI rfl) (lo_s hok 90 rfl) ?_
    refine ax_vret dX10_one_116 rfl ?_
    exact hq
  have f94 : ∀ (M2 : ax_M) (h : Int32) (y : Option ax_V), ¬ M2.1 90 5 = 0 → lo_ok M2.2 → Q (.inl none) (ax_pI M2 90 8 (M2.1 90 8 - 1)) → ax_W l G kX10_one (ax_FQ G Q) (D + 8) 0 0 M2 94 [some (av_r 90), some (av_i h), y] [] := by
    intro M2 h y hf hok hq
    refine ax_aload_n dX10_one_94 rfl ?_
    refine ax_bipush (v := 93) dX10_one_95 (by decide) ?_
    refine ax_callV (As := _) (d2 := _) (c1 := 0) (n1 := 0) (c_X10_signF (M := M2) hok hf _) dX10_one_97 mX10_sign wd_1837 acl_10 (lo_s hok 90 rfl) rfl (by omega) (by omega) (by omega) rfl rfl (fun _ _ h => by cases h.1) ?_
    rintro r M9 ⟨h1, h9⟩; cases h1; rw [h9]; clear h9 M9
    exact f100 M2 h y hf hok hq
  have f90 : ∀ (M2 : ax_M) (h : Int32) (y : Option ax_V), ¬ M2.1 90 5 = 0 → lo_ok M2.2 → Q (.inl none) (ax_pI M2 90 8 (M2.1 90 8 - 1)) → ax_W l G kX10_one (ax_FQ G Q) (D + 8) 0 0 M2 90 [some (av_r 90), some (av_i h), y] [] := by
    intro M2 h y hf hok hq
    refine ax_aload_n dX10_one_90 rfl ?_
    refine ax_callV (As := _) (d2 := _) (c1 := 0) (n1 := 0) (c_X10_sumF (M := M2) hok hf) dX10_one_91 mX10_sum wd_1853 acl_10 (lo_s hok 90 rfl) rfl (by omega) (by omega) (by omega) rfl rfl (fun _ _ h => by cases h.1) ?_
    rintro r M9 ⟨h1, h9⟩; cases h1; rw [h9]; clear h9 M9
    exact f94 M2 h y hf hok hq
  have f84 : ∀ (M2 : ax_M) (h : Int32) (y : Option ax_V), ¬ M2.1 90 5 = 0 → lo_ok M2.2 → Q (.inl none) (ax_pI M2 90 8 (M2.1 90 8 - 1)) → ax_W l G kX10_one (ax_FQ G Q) (D + 8) 0 0 M2 84 [some (av_r 90), some (av_i h), y] [] := by
    intro M2 h y hf hok hq
    refine ax_aload_n dX10_one_84 rfl ?_
    refine ax_bipush (v := 44) dX10_one_85 (by decide) ?_
    refine ax_callV (As := _) (d2 := _) (c1 := 0) (n1 := 0) (c_X10_signF (M := M2) hok hf _) dX10_one_87 mX10_sign wd_1837 acl_10 (lo_s hok 90 rfl) rfl (by omega) (by omega) (by omega) rfl rfl (fun _ _ h => by cases h.1) ?_
    rintro r M9 ⟨h1, h9⟩; cases h1; rw [h9]; clear h9 M9
    exact f90 M2 h y hf hok hq
  have f80 : ∀ (M2 : ax_M) (h : Int32) (y : Option ax_V), ¬ M2.1 90 5 = 0 → lo_ok M2.2 → Q (.inl none) (ax_pI M2 90 8 (M2.1 90 8 - 1)) → ax_W l G kX10_one (ax_FQ G Q) (D + 8) 0 0 M2 80 [some (av_r 90), some (av_i h), y] [] := by
    intro M2 h y hf hok hq
    refine ax_aload_n dX10_one_80 rfl ?_
    refine ax_callV (As := _) (d2 := _) (c1 := 0) (n1 := 0) (c_X10_sumF (M := M2) hok hf) dX10_one_81 mX10_sum wd_1853 acl_10 (lo_s hok 90 rfl) rfl (by omega) (by omega) (by omega) rfl rfl (fun _ _ h => by cases h.1) ?_
    rintro r M9 ⟨h1, h9⟩; cases h1; rw [h9]; clear h9 M9
    exact f84 M2 h y hf hok hq
  have ne0 : ∀ (M2 : ax_M) (e : Nat × Nat), M2.1 90 5 = nI e.1 → 1 ≤ e.1 → e.1 ≤ 4 → ¬ M2.1 90 5 = 0 := fun M2 e h1 h2 h3 => by rw [h1]; exact nI_ne0 (by omega) (by omega)
  have oF : ∀ (M1 M2 : ax_M) (r2 : Nat) (e : Nat × Nat), ps_fr M M1 → ps_o B M1 M2 z k r2 (.inl e) → x a = .inl e → Q (.inl none) (ax_pI M2 90 8 (M2.1 90 8 - 1)) := fun M1 M2 r2 e h1 h2 h3 => done _ (.inl e) ⟨ps_fr_tr (ps_fr_tr h1 h2.1) (ps_fr_p (by omega)), by rw [ax_pn (by decide)]; exact h2.2.1, by rw [ax_pn (by decide)]; exact h2.2.2.1, h2.2.2.2.elim fun q hq => ⟨q, hq.1, by rw [ax_pn (by decide)]; exact hq.2⟩⟩ h3.symm
  -- behind the word, at M1: an opened one
  have pair : ∀ (M1 : ax_M) (h : Int32) (y : Option ax_V) (a2 : Nat), r ≠ 0 → ps_fr M M1 → (∀ j, M1.1 116 j = M.1 116 j) → ps_i B M1 z a2 k (r - 1) → x a = ps_pair B z u h a2 → ax_W l G kX10_one (ax_FQ G Q) (D + 8) 0 0 M1 74 [some (av_r 90), some (av_i h), y] [] := by
    intro M1 h y a2 hr hfr h16 hi1 hxa
    have hok := hi1.1.1
    have h0 := ps_o_0 hi1
    have ha2 : a2 ≤ z := hi1.2.2.1
    unfold ps_pair at hxa
    have lv : ∀ (M2 : ax_M) (w : ps_R), ps_o B M1 M2 z k (r - 1) w → M2.1 90 8 = nI (6 - (r - 1)) → w = x a → Q (.inl none) (ax_pI M2 90 8 (M2.1 90 8 - 1)) := by
      intro M2 w h1 h2 h3
      have h4 := ps_o_lv (r := r - 1) (M3 := ax_pI M2 90 8 (M2.1 90 8 - 1)) (by omega) hfr h16 h1 (by rw [h2, show (1 : Int32) = nI 1 from rfl, pk_sub (by omega)]; congr 2)
      rw [show r - 1 + 1 = r by omega] at h4
      exact done _ _ h4 h3
    refine ax_aload_n dX10_one_74 rfl ?_
    refine ax_bipush (v := 91) dX10_one_75 (by decide) ?_
    refine ax_callV (As := _) (d2 := _) (c1 := 0) (n1 := 0) (c_X10_sign (M := M1) hi1.1 _ (by decide)) dX10_one_77 mX10_sign wd_1837 acl_10 (lo_s hok 90 rfl) rfl (by omega) (by omega) (by omega) rfl rfl (fun _ _ h => by cases h.1) ?_
    rintro q M2 ⟨h1, hM2⟩; cases h1
    have o2 := ps_o_sign hB (by decide) h0 hM2
    have hok2 : lo_ok M2.2 := by rw [o2.1.1]; exact hok
    by_cases s1 : B (tx_sk B z a2) = 91
    · rw [ps_sign_y s1] at o2 hxa
      rw [ps_th_r] at hxa
      have hi2 := o2.2.1
      have hok := hok2
      refine ax_aload_n dX10_one_80 rfl ?_
      refine ax_callV (As := _) (d2 := _) (c1 := 0) (n1 := 0) (hC hr M2 _ (k + ([] : List (Int32 × Int32)).length) hi2) dX10_one_81 mX10_sum wd_1853 acl_10 (lo_s hok 90 rfl) rfl (by omega) (by omega) (by omega) rfl rfl (fun _ _ h => by cases h.1) ?_
      rintro q M3 ⟨h1, o3⟩; cases h1
      have o3 := ps_o_tr o2 o3
      have g3 := ps_gd_iff.mp hu _ hi2.2.2.1
      have hok3 : lo_ok M3.2 := by rw [o3.1.1]; exact hi1.1.1
      cases hw3 : u (tx_sk B z a2 + 1) with
      | inl e =>
        rw [hw3] at o3 g3 hxa
        exact f84 M3 h y (ne0 M3 e o3.2.1 g3.1 g3.2.1) hok3 (oF M1 M3 _ e hfr o3 hxa)
      | inr q3 =>
        obtain ⟨c, cs⟩ := q3
        rw [hw3] at o3 g3 hxa
        rw [ps_th_r] at hxa
        have o3 : ps_o B M1 M3 z k (r - 1) (.inr (c, cs)) := o3
        have hi3 := o3.2.1
        have hok := hok3
        refine ax_aload_n dX10_one_84 rfl ?_
        refine ax_bipush (v := 44) dX10_one_85 (by decide) ?_
        refine ax_callV (As := _) (d2 := _) (c1 := 0) (n1 := 0) (c_X10_sign (M := M3) hi3.1 _ (by decide)) dX10_one_87 mX10_sign wd_1837 acl_10 (lo_s hok 90 rfl) rfl (by omega) (by omega) (by omega) rfl rfl (fun _ _ h => by cases h.1) ?_
        rintro q M4 ⟨h1, hM4⟩; cases h1
        have o4 := ps_o_sign hB (by decide) o3 hM4
        have hok4 : lo_ok M4.2 := by rw [o4.1.1]; exact hi1.1.1
        by_cases s2 : B (tx_sk B z c) = 44
        · rw [ps_sign_y s2] at o4 hxa
          rw [ps_th_r] at hxa
          have hi4 := o4.2.1
          have hok := hok4
          refine ax_aload_n dX10_one_90 rfl ?_
          refine ax_callV (As := _) (d2 := _) (c1 := 0) (n1 := 0) (hC hr M4 _ (k + cs.length) hi4) dX10_one_91 mX10_sum wd_1853 acl_10 (lo_s hok 90 rfl) rfl (by omega) (by omega) (by omega) rfl rfl (fun _ _ h => by cases h.1) ?_
          rintro q M5 ⟨h1, o5⟩; cases h1
          have o5 := ps_o_tr o4 o5
          have g5 := ps_gd_iff.mp hu _ hi4.2.2.1
          have hok5 : lo_ok M5.2 := by rw [o5.1.1]; exact hi1.1.1
          cases hw5 : u (tx_sk B z c + 1) with
          | inl e =>
            rw [hw5] at o5 g5 hxa
            exact f94 M5 h y (ne0 M5 e o5.2.1 g5.1 g5.2.1) hok5 (oF M1 M5 _ e hfr o5 hxa)
          | inr q5 =>
            obtain ⟨f, ds⟩ := q5
            rw [hw5] at o5 g5 hxa
            rw [ps_th_r] at hxa
            have o5 : ps_o B M1 M5 z k (r - 1) (.inr (f, cs ++ ds)) := o5
            have hi5 := o5.2.1
            have hok := hok5
            refine ax_aload_n dX10_one_94 rfl ?_
            refine ax_bipush (v := 93) dX10_one_95 (by decide) ?_
            refine ax_callV (As := _) (d2 := _) (c1 := 0) (n1 := 0) (c_X10_sign (M := M5) hi5.1 _ (by decide)) dX10_one_97 mX10_sign wd_1837 acl_10 (lo_s hok 90 rfl) rfl (by omega) (by omega) (by omega) rfl rfl (fun _ _ h => by cases h.1) ?_
            rintro q M6 ⟨h1, hM6⟩; cases h1
            have o6 := ps_o_sign hB (by decide) o5 hM6
            have hok6 : lo_ok M6.2 := by rw [o6.1.1]; exact hi1.1.1
            by_cases s3 : B (tx_sk B z f) = 93
            · rw [ps_sign_y s3] at o6 hxa
              have hi6 := o6.2.1
              have hok := hok6
              have hkf : k + (cs ++ ds).length ≤ f := hi5.2.2.2.2.2.2.2
              have hff : f ≤ tx_sk B z f := tx_sk_ge
              have hfz : f ≤ z := hi5.2.2.1
              refine ax_aload_n dX10_one_100 rfl ?_
              refine ax_iload_n dX10_one_101 rfl ?_
              refine ax_iconst (v := 0) dX10_one_102 (by decide) ?_
              refine ax_callV (As := _) (d2 := _) (c1 := 0) (n1 := 0) (c_X10_notes (d := 0) (M := M6) hok hi6.1.2.2.2.2 hi6.2.2.2.2.2.2.1 (by show k + (cs ++ ds).length ≤ 150; omega) _ _) dX10_one_103 mX10_notes wd_1869 acl_10 (lo_s hok 90 rfl) rfl (by omega) (by omega) (by omega) rfl rfl (fun _ _ h => by cases h.1) ?_
              rintro q M7 ⟨h1, hM7⟩; cases h1
              have o7 := ps_o_tr o6 (ps_note hi6 (by show k + (cs ++ ds).length + 1 ≤ tx_sk B z f + 1; omega) hM7)
              have hok7 : lo_ok M7.2 := by rw [o7.1.1]; exact hi1.1.1
              have hok := hok7
              refine ax_aload_n dX10_one_106 rfl ?_
              refine ax_dup dX10_one_107 (by first | rfl | exact ax_crf _) ?_
              refine ax_getI (f := 8) dX10_one_108 acl_10 wd_1608 (by decide) rfl (lo_s hok 90 rfl) ?_
              refine ax_iconst (v := 1) dX10_one_111 (by decide) ?_
              refine ax_isub dX10_one_112 ?_
              refine ax_putI (f := 8) dX10_one_113 acl_10 wd_1608 (by decide) rfl rfl (ax_nfI rfl) (lo_s hok 90 rfl) ?_
              refine ax_vret dX10_one_116 rfl ?_
              exact lv M7 _ o7 o7.2.1.2.2.2.2.1 hxa.symm
            · rw [ps_sign_n s3] at o6 hxa
              exact f100 M6 h y (ne0 M6 _ o6.2.1 (Nat.le_of_ble_eq_true rfl) (Nat.le_of_ble_eq_true rfl)) hok6 (oF M1 M6 _ _ hfr o6 hxa)
        · rw [ps_sign_n s2] at o4 hxa
          exact f90 M4 h y (ne0 M4 _ o4.2.1 (Nat.le_of_ble_eq_true rfl) (Nat.le_of_ble_eq_true rfl)) hok4 (oF M1 M4 _ _ hfr o4 hxa)
    · rw [ps_sign_n s1] at o2 hxa
      exact f80 M2 h y (ne0 M2 _ o2.2.1 (Nat.le_of_ble_eq_true rfl) (Nat.le_of_ble_eq_true rfl)) hok2 (oF M1 M2 _ _ hfr o2 hxa)
  -- (
  have par : ∀ (M1 : ax_M) (y1 y2 : Option ax_V) (a2 : Nat), r ≠ 0 → ps_fr M M1 → (∀ j, M1.1 116 j = M.1 116 j) → ps_i B M1 z a2 k (r - 1) → x a = ps_par B z u a2 → ax_W l G kX10_one (ax_FQ G Q) (D + 8) 0 0 M1 148 [some (av_r 90), y1, y2] [] := by
    intro M1 y1 y2 a2 hr hfr h16 hi1 hxa
    have hok := hi1.1.1
    unfold ps_par at hxa
    have lv : ∀ (M2 : ax_M) (w : ps_R), ps_o B M1 M2 z k (r - 1) w → M2.1 90 8 = nI (6 - (r - 1)) → w = x a → Q (.inl none) (ax_pI M2 90 8 (M2.1 90 8 - 1)) := by
      intro M2 w h1 h2 h3
      have h4 := ps_o_lv (r := r - 1) (M3 := ax_pI M2 90 8 (M2.1 90 8 - 1)) (by omega) hfr h16 h1 (by rw [h2, show (1 : Int32) = nI 1 from rfl, pk_sub (by omega)]; congr 2)
      rw [show r - 1 + 1 = r by omega] at h4
      exact done _ _ h4 h3
    refine ax_aload_n dX10_one_148 rfl ?_
    refine ax_callV (As := _) (d2 := _) (c1 := 0) (n1 := 0) (hC hr M1 a2 k hi1) dX10_one_149 mX10_sum wd_1853 acl_10 (lo_s hok 90 rfl) rfl (by omega) (by omega) (by omega) rfl rfl (fun _ _ h => by cases h.1) ?_
    rintro q M3 ⟨h1, o3⟩; cases h1
    have g3 := ps_gd_iff.mp hu a2 hi1.2.2.1
    have hok3 : lo_ok M3.2 := by rw [o3.1.1]; exact hi1.1.1
    have hok := hok3
    cases hw3 : u a2 with
    | inl e =>
      rw [hw3] at o3 g3 hxa
      have hf := ne0 M3 e o3.2.1 g3.1 g3.2.1
      refine ax_aload_n dX10_one_152 rfl ?_
      refine ax_bipush (v := 41) dX10_one_153 (by decide) ?_
      refine ax_callV (As := _) (d2 := _) (c1 := 0) (n1 := 0) (c_X10_signF (M := M3) hok hf _) dX10_one_155 mX10_sign wd_1837 acl_10 (lo_s hok 90 rfl) rfl (by omega) (by omega) (by omega) rfl rfl (fun _ _ h => by cases h.1) ?_
      rintro r M9 ⟨h1, h9⟩; cases h1; rw [h9]; clear h9 M9
      refine ax_aload_n dX10_one_158 rfl ?_
      refine ax_dup dX10_one_159 (by first | rfl | exact ax_crf _) ?_
      refine ax_getI (f := 8) dX10_one_160 acl_10 wd_1608 (by decide) rfl (lo_s hok 90 rfl) ?_
      refine ax_iconst (v := 1) dX10_one_163 (by decide) ?_
      refine ax_isub dX10_one_164 ?_
      refine ax_putI (f := 8) dX10_one_165 acl_10 wd_1608 (by decide) rfl rfl (ax_nfI rfl) (lo_s hok 90 rfl) ?_
      refine ax_vret dX10_one_168 rfl ?_
      exact oF M1 M3 _ e hfr o3 hxa
    | inr q3 =>
      obtain ⟨c, cs⟩ := q3
      rw [hw3] at o3 g3 hxa
      rw [ps_th_r] at hxa
      have hi3 := o3.2.1
      refine ax_aload_n dX10_one_152 rfl ?_
      refine ax_bipush (v := 41) dX10_one_153 (by decide) ?_
      refine ax_callV (As := _) (d2 := _) (c1 := 0) (n1 := 0) (c_X10_sign (M := M3) hi3.1 _ (by decide)) dX10_one_155 mX10_sign wd_1837 acl_10 (lo_s hok 90 rfl) rfl (by omega) (by omega) (by omega) rfl rfl (fun _ _ h => by cases h.1) ?_
      rintro q M4 ⟨h1, hM4⟩; cases h1
      have o4 := ps_o_sign hB (by decide) o3 hM4
      have hok4 : lo_ok M4.2 := by rw [o4.1.1]; exact hi1.1.1
      have hok := hok4
      refine ax_aload_n dX10_one_158 rfl ?_
      refine ax_dup dX10_one_159 (by first | rfl | exact ax_crf _) ?_
      refine ax_getI (f := 8) dX10_one_160 acl_10 wd_1608 (by decide) rfl (lo_s hok 90 rfl) ?_
      refine ax_iconst (v := 1) dX10_one_163 (by decide) ?_
      refine ax_isub dX10_one_164 ?_
      refine ax_putI (f := 8) dX10_one_165 acl_10 wd_1608 (by decide) rfl rfl (ax_nfI rfl) (lo_s hok 90 rfl) ?_
      refine ax_vret dX10_one_168 rfl ?_
      by_cases s2 : B (tx_sk B z c) = 41
      · rw [ps_sign_y s2] at o4 hxa
        exact lv M4 _ o4 o4.2.1.2.2.2.2.1 hxa.symm
      · rw [ps_sign_n s2] at o4 hxa
        exact oF M1 M4 _ _ hfr o4 hxa
  refine ax_aload_n dX10_one_0 rfl ?_
  refine ax_getI (f := 5) dX10_one_1 acl_10 wd_1605 (by decide) rfl (lo_s hok 90 rfl) ?_
  refine ax_if_eq (tgt := 8) dX10_one_4 (by decide) (fun hc => ?_) (fun hc => ?_)
  · refine ax_aload_n dX10_one_8 rfl ?_
    refine ax_callV (As := _) (d2 := _) (c1 := 0) (n1 := 0) (c_X10_blanks (M := M) hok hi.1.2.1 hi.1.2.2.1 hi.1.2.2.2.1) dX10_one_9 mX10_blanks wd_1783 acl_10 (lo_s hok 90 rfl) rfl (by omega) (by omega) (by omega) rfl rfl (fun _ _ h => by cases h.1) ?_
    rintro q M1 ⟨h1, hM1⟩; cases h1
    rw [eB] at hM1
    have hM1 : M1 = ax_pI M 90 4 (nI (tx_sk B z a)) := hM1
    have o1 := ps_o_at (ps_o_0 hi) hk2 hk hM1
    have hi1 : ps_i B M1 z (tx_sk B z a) k r := o1.2.1
    have hok1 := hi1.1.1
    have hok := hok1
    have eB1 := hi1.2.1
    have h11 : tx_sk (tx_B M1) z (tx_sk B z a) = tx_sk B z a := by rw [eB1]; exact tx_sk_sk _ _ _
    have hf1 := hi1.1.2.2.2.2
    have e4 := hi1.1.2.2.1
    have e8 := hi1.2.2.2.2.1
    have hwz := tx_wd_z (B := B) hk2
    have f16 : ∀ j, M1.1 116 j = M.1 116 j := fun j => by rw [hM1]; exact ax_pn (by omega)
    have cl : ∀ M2 : ax_M, r = 0 → M2 = ax_pI (ax_pI M1 90 5 3) 90 6 (M1.1 90 4) → x a = .inl (3, tx_sk B z a) → Q (.inl none) M2 := by
      intro M2 hr h2 hx
      refine done M2 (.inl (3, tx_sk B z a)) ⟨?_, ?_, ?_, tx_sk B z a, by omega, by rw [h2, ax_pn (by decide), ax_pn (by decide)]; exact e4⟩ hx.symm
      · rw [h2]; exact ps_fr_tr o1.1 (ps_fr_tr (ps_fr_p (by omega)) (ps_fr_p (by omega)))
      · rw [h2, ax_pn (by decide)]; exact ax_pa _ _ _ _
      · rw [h2, e4]; exact ax_pa _ _ _ _
    have opn : ∀ M2 : ax_M, r ≠ 0 → M2 = ax_pI M1 90 8 (nI (6 - r + 1)) → ps_i B M2 z (tx_sk B z a) k (r - 1) ∧ ps_fr M M2 ∧ ∀ j, M2.1 116 j = M.1 116 j := by
      intro M2 hr h2
      obtain ⟨⟨q1, q2, q3, q4, q5⟩, p2, p3, p4, p5, p6, p7, p8⟩ := hi1
      subst h2
      refine ⟨⟨⟨q1, q2, by rw [ax_pn (by decide)]; exact q3, q4, by rw [ax_pn (by decide)]; exact q5⟩, p2, p3, p4, ?_, by omega, by rw [ax_pn (by decide)]; exact p7, p8⟩, ps_fr_tr o1.1 (ps_fr_p (by omega)), fun j => by rw [ax_pn (by omega)]; exact f16 j⟩
      rw [ax_pa]
      congr 1
      omega
    have word : ∀ (h : Int32) (ws : List Nat), tx_wd B z (tx_sk B z a) = ws → (r = 0 → x a = .inl (3, tx_sk B z a)) → (r ≠ 0 → x a = ps_pair B z u h (tx_sk B z a + ws.length)) → ax_W l G kX10_one (ax_FQ G Q) (D + 8) 0 0 M1 62 [some (av_r 90), some (av_i h), none] [] := by
      intro h ws hw hx0' hx1'
      refine ax_aload_n dX10_one_62 rfl ?_
      refine ax_callV (As := _) (d2 := _) (c1 := 0) (n1 := 0) (c_X10_opens (M := M1) hok hf1 hr6 e8) dX10_one_63 mX10_opens wd_1865 acl_10 (lo_s hok 90 rfl) rfl (by omega) (by omega) (by omega) rfl rfl (fun _ _ h => by cases h.1) ?_
      rintro q M2 ⟨h1, hM2⟩; cases h1
      by_cases hr : r = 0
      · rw [if_pos hr] at hM2
        rw [if_pos hr]
        refine ax_if_ne (tgt := 70) dX10_one_66 (by decide) (fun hc => ?_) (fun hc => ?_)
        · exact absurd rfl hc
        · refine ax_vret dX10_one_69 rfl ?_
          exact cl M2 hr hM2 (hx0' hr)
      · rw [if_neg hr] at hM2
        rw [if_neg hr]
        obtain ⟨hi2, fr2, g16⟩ := opn M2 hr hM2
        have hok := hi2.1.1
        have hok2 := hok
        refine ax_if_ne (tgt := 70) dX10_one_66 (by decide) (fun hc => ?_) (fun hc => ?_)
        · refine ax_aload_n dX10_one_70 rfl ?_
          refine ax_callV (As := _) (d2 := _) (c1 := 0) (n1 := 0) (c_X10_skipWord (M := M2) hok hi2.1.2.1 hi2.1.2.2.1 hi2.1.2.2.2.1) dX10_one_71 mX10_skipWord wd_1821 acl_10 (lo_s hok 90 rfl) rfl (by omega) (by omega) (by omega) rfl rfl (fun _ _ h => by cases h.1) ?_
          rintro q M3 ⟨h1, hM3⟩; cases h1
          rw [hi2.2.1, hw] at hM3
          rw [hw] at hwz
          have o3 := ps_o_at (ps_o_0 hi2) hwz (by omega) hM3
          exact pair M3 h none _ hr (ps_fr_tr fr2 o3.1) (fun j => by rw [hM3, ax_pn (by omega)]; exact g16 j) o3.2.1 (hx1' hr)
        · exact absurd hc (by decide)
    have ww : ∀ ws : List Nat, (¬ (if tx_wd B z (tx_sk B z a) = ws then (1 : Int32) else 0) = 0) → tx_wd B z (tx_sk B z a) = ws := by
      intro ws h
      by_cases q : tx_wd B z (tx_sk B z a) = ws
      · exact q
      · rw [if_neg q] at h; exact absurd rfl h
    have wn : ∀ ws : List Nat, ((if tx_wd B z (tx_sk B z a) = ws then (1 : Int32) else 0) = 0) → ¬ tx_wd B z (tx_sk B z a) = ws := by
      intro ws h q
      rw [if_pos q] at h; exact absurd h (by decide)
    refine ax_aload_n dX10_one_12 rfl ?_
    refine ax_bipush (v := 12) dX10_one_13 (by decide) ?_
    refine ax_iconst (v := 5) dX10_one_15 (by decide) ?_
    refine ax_iconst (v := 1) dX10_one_16 (by decide) ?_
    refine ax_bipush (v := 19) dX10_one_17 (by decide) ?_
    refine ax_bipush (v := 20) dX10_one_19 (by decide) ?_
    refine ax_iconst (v := 0) dX10_one_21 (by decide) ?_
    refine ax_callV (As := _) (d2 := _) (c1 := 0) (n1 := 0) (c_X10_isWord1 (M := M1) hi1.1 h11 ps_least ps_six1) dX10_one_22 mX10_isWord wd_1799 acl_10 (lo_s hok 90 rfl) rfl (by omega) (by omega) (by omega) rfl rfl (fun _ _ h => by cases h.1) ?_
    rintro r M9 ⟨h1, h9⟩; cases h1; rw [h9]; clear h9 M9
    rw [eB1]
    refine ax_if_eq (tgt := 33) dX10_one_25 (by decide) (fun hc => ?_) (fun hc => ?_)
    · have n1 := wn _ hc
      refine ax_aload_n dX10_one_33 rfl ?_
      refine ax_bipush (v := 13) dX10_one_34 (by decide) ?_
      refine ax_bipush (v := 15) dX10_one_36 (by decide) ?_
      refine ax_bipush (v := 19) dX10_one_38 (by decide) ?_
      refine ax_bipush (v := 20) dX10_one_40 (by decide) ?_
      refine ax_iconst (v := 0) dX10_one_42 (by decide) ?_
      refine ax_iconst (v := 0) dX10_one_43 (by decide) ?_
      refine ax_callV (As := _) (d2 := _) (c1 := 0) (n1 := 0) (c_X10_isWord1 (M := M1) hi1.1 h11 ps_most ps_six2) dX10_one_44 mX10_isWord wd_1799 acl_10 (lo_s hok 90 rfl) rfl (by omega) (by omega) (by omega) rfl rfl (fun _ _ h => by cases h.1) ?_
      rintro r M9 ⟨h1, h9⟩; cases h1; rw [h9]; clear h9 M9
      rw [eB1]
      refine ax_if_eq (tgt := 55) dX10_one_47 (by decide) (fun hc => ?_) (fun hc => ?_)
      · have n2 := wn _ hc
        refine ax_iconst (v := (-1)) dX10_one_55 (by decide) ?_
        refine ax_istore_n dX10_one_56 (by decide) rfl ?_
        refine ax_iload_n dX10_one_57 rfl ?_
        refine ax_iconst (v := (-1)) dX10_one_58 (by decide) ?_
        refine ax_icmp_eq (tgt := 117) dX10_one_59 (by decide) (fun hc => ?_) (fun hc => ?_)
        · refine ax_aload_n dX10_one_117 rfl ?_
          refine ax_aload_n dX10_one_118 rfl ?_
          refine ax_getI (f := 4) dX10_one_119 acl_10 wd_1604 (by decide) rfl (lo_s hok 90 rfl) ?_
          refine ax_callV (As := _) (d2 := _) (c1 := 0) (n1 := 0) (c_X10_byteAt (d := 0) (M := M1) hok hi1.1.2.1 (by omega) e4) dX10_one_122 mX10_byteAt wd_1787 acl_10 (lo_s hok 90 rfl) rfl (by omega) (by omega) (by omega) rfl rfl (fun _ _ h => by cases h.1) ?_
          rintro r M9 ⟨h1, h9⟩; cases h1; rw [h9]; clear h9 M9
          rw [eB1]
          refine ax_bipush (v := 40) dX10_one_125 (by decide) ?_
          refine ax_icmp_ne (tgt := 169) dX10_one_127 (by decide) (fun hc => ?_) (fun hc => ?_)
          · have n3 := hc
            have hxa : x a = ps_atom B z (tx_sk B z a) := by
              by_cases hr : r = 0
              · rw [hx0 hr, if_neg (by rintro (q | q | q); exact n1 q; exact n2 q; exact n3 q)]
              · rw [hx1 hr, if_neg n1, if_neg n2, if_neg n3]
            refine ax_aload_n dX10_one_169 rfl ?_
            refine ax_callV (As := _) (d2 := _) (c1 := 0) (n1 := 0) (c_X10_knownHere (M := M1) hi1.1 h11) dX10_one_170 mX10_knownHere wd_1873 acl_10 (lo_s hok 90 rfl) rfl (by omega) (by omega) (by omega) rfl rfl (fun _ _ h => by cases h.1) ?_
            rintro q M2 ⟨h1, hM2⟩; cases h1
            rw [eB1] at hM2
            rw [eB1]
            have hok2 : lo_ok M2.2 := by rw [hM2]; exact hok
            have hok := hok2
            unfold ps_atom at hxa
            by_cases kn : tx_wd B z (tx_sk B z a) ∈ tx_knowns
            · rw [if_pos kn] at hM2 hxa
              have o2 := ps_o_at o1 hwz (by omega) hM2
              have hi2 := o2.2.1
              have hkk : k ≤ tx_sk B z a := hi1.2.2.2.2.2.2.2
              have hl1 : 1 ≤ (tx_wd B z (tx_sk B z a)).length := (show ∀ w ∈ tx_knowns, 1 ≤ w.length by decide) _ kn
              obtain ⟨j, hj, ej⟩ := tx_ix_yes tx_knowns 0 kn
              refine ax_istore_n dX10_one_173 (by decide) rfl ?_
              refine ax_iload_n dX10_one_174 rfl ?_
              refine ax_iconst (v := (-1)) dX10_one_175 (by decide) ?_
              refine ax_icmp_eq (tgt := 188) dX10_one_176 (by decide) (fun hc => ?_) (fun hc => ?_)
              · rw [ej] at hc
                exact absurd hc (nI_m1 (by have : tx_knowns.length = 12 := rfl; omega))
              · refine ax_aload_n dX10_one_179 rfl ?_
                refine ax_iconst (v := 1) dX10_one_180 (by decide) ?_
                refine ax_iload_n dX10_one_181 rfl ?_
                refine ax_callV (As := _) (d2 := _) (c1 := 0) (n1 := 0) (c_X10_notes (d := 0) (M := M2) hok hi2.1.2.2.2.2 hi2.2.2.2.2.2.2.1 (by show k + 0 ≤ 150; omega) _ _) dX10_one_182 mX10_notes wd_1869 acl_10 (lo_s hok 90 rfl) rfl (by omega) (by omega) (by omega) rfl rfl (fun _ _ h => by cases h.1) ?_
                rintro q M3 ⟨h1, hM3⟩; cases h1
                have o3 := ps_o_tr o2 (ps_note hi2 (by show k + 0 + 1 ≤ _; omega) hM3)
                refine ax_goto (tgt := 201) dX10_one_185 (by decide) ?_
                refine ax_vret dX10_one_201 rfl ?_
                exact done M3 _ o3 hxa.symm
            · rw [if_neg kn] at hM2 hxa
              have hM2b : M2 = M1 := by rw [hM2]; exact ax_pid e4
              refine ax_istore_n dX10_one_173 (by decide) rfl ?_
              refine ax_iload_n dX10_one_174 rfl ?_
              refine ax_iconst (v := (-1)) dX10_one_175 (by decide) ?_
              rw [tx_ix_no _ _ kn]
              refine ax_icmp_eq (tgt := 188) dX10_one_176 (by decide) (fun hc => ?_) (fun hc => ?_)
              · refine ax_aload_n dX10_one_188 rfl ?_
                refine ax_iconst (v := 0) dX10_one_189 (by decide) ?_
                refine ax_aload_n dX10_one_190 rfl ?_
                refine ax_iconst (v := 0) dX10_one_191 (by decide) ?_
                refine ax_sipush (v := 999) dX10_one_192 (by decide) ?_
                rw [hM2b]
                rw [hM2b] at hok
                refine ax_callV (As := _) (d2 := _) (c1 := 0) (n1 := 0) (c_X10_number (M := M1) hok hi1.1.2.1 e4 hi1.1.2.2.2.1 hf1 _ _) dX10_one_195 mX10_number wd_1825 acl_10 (lo_s hok 90 rfl) rfl (by omega) (by omega) (by omega) rfl rfl (fun _ _ h => by cases h.1) ?_
                rintro q M3 ⟨h1, hM3⟩; cases h1
                rw [eB1] at hM3
                rw [eB1]
                have hn := ps_ok_num (lo := 0) (hi := 999) hB (by omega) hk2
                have hok3 : lo_ok M3.2 := by rw [hM3]; unfold tx_put; split <;> exact hok
                have hok := hok3
                by_cases f0 : (tx_num B z 0 999 (tx_sk B z a)).2.1 = 0
                · rw [if_pos f0] at hxa
                  have hM3b : M3 = ax_pI M1 90 4 (nI (tx_num B z 0 999 (tx_sk B z a)).1) := by rw [hM3, tx_put, if_pos f0]
                  have o2 := ps_o_at o1 (hn.1 f0).2 (Nat.le_of_lt (hn.1 f0).1) hM3b
                  have hi2 := o2.2.1
                  have hkk : k ≤ tx_sk B z a := hi1.2.2.2.2.2.2.2
                  have hlt := (hn.1 f0).1
                  refine ax_callV (As := _) (d2 := _) (c1 := 0) (n1 := 0) (c_X10_notes (d := 0) (M := M3) hok hi2.1.2.2.2.2 hi2.2.2.2.2.2.2.1 (by show k + 0 ≤ 150; omega) _ _) dX10_one_198 mX10_notes wd_1869 acl_10 (lo_s hok 90 rfl) rfl (by omega) (by omega) (by omega) rfl rfl (fun _ _ h => by cases h.1) ?_
                  rintro q M4 ⟨h1, hM4⟩; cases h1
                  have o3 := ps_o_tr o2 (ps_note hi2 (by show k + 0 + 1 ≤ _; omega) hM4)
                  refine ax_vret dX10_one_201 rfl ?_
                  exact done M4 _ o3 hxa.symm
                · rw [if_neg f0] at hxa
                  have hM3b : M3 = ax_pI (ax_pI (ax_pI M1 90 4 (nI (tx_num B z 0 999 (tx_sk B z a)).1)) 90 5 (nI (tx_num B z 0 999 (tx_sk B z a)).2.1)) 90 6 (nI (tx_num B z 0 999 (tx_sk B z a)).2.2.1) := by rw [hM3, tx_put, if_neg f0]
                  have o2 : ps_o B M M3 z k r (.inl ((tx_num B z 0 999 (tx_sk B z a)).2.1, (tx_num B z 0 999 (tx_sk B z a)).2.2.1)) := by
                    rw [hM3b]
                    exact ⟨ps_fr_tr o1.1 (ps_fr_tr (ps_fr_tr (ps_fr_p (by omega)) (ps_fr_p (by omega))) (ps_fr_p (by omega))), by rw [ax_pn (by decide)]; exact ax_pa _ _ _ _, ax_pa _ _ _ _, _, by have := hn.2.2.2; show (tx_num B z 0 999 (tx_sk B z a)).1 ≤ 600; omega, by rw [ax_pn (by decide), ax_pn (by decide)]; exact ax_pa _ _ _ _⟩
                  have hf := ne0 M3 _ o2.2.1 (by show 1 ≤ (tx_num B z 0 999 (tx_sk B z a)).2.1; omega) (by have := hn.2.1; show (tx_num B z 0 999 (tx_sk B z a)).2.1 ≤ 4; omega)
                  refine ax_callV (As := _) (d2 := _) (c1 := 0) (n1 := 0) (c_X10_notesF (d := 0) (M := M3) hok hf _ _) dX10_one_198 mX10_notes wd_1869 acl_10 (lo_s hok 90 rfl) rfl (by omega) (by omega) (by omega) rfl rfl (fun _ _ h => by cases h.1) ?_
                  rintro r M9 ⟨h1, h9⟩; cases h1; rw [h9]; clear h9 M9
                  refine ax_vret dX10_one_201 rfl ?_
                  exact done M3 _ o2 hxa.symm
              · exact absurd rfl hc
          · have y3 := hc
            refine ax_aload_n dX10_one_130 rfl ?_
            refine ax_callV (As := _) (d2 := _) (c1 := 0) (n1 := 0) (c_X10_opens (M := M1) hok hf1 hr6 e8) dX10_one_131 mX10_opens wd_1865 acl_10 (lo_s hok 90 rfl) rfl (by omega) (by omega) (by omega) rfl rfl (fun _ _ h => by cases h.1) ?_
            rintro q M2 ⟨h1, hM2⟩; cases h1
            by_cases hr : r = 0
            · rw [if_pos hr] at hM2
              rw [if_pos hr]
              refine ax_if_ne (tgt := 138) dX10_one_134 (by decide) (fun hc => ?_) (fun hc => ?_)
              · exact absurd rfl hc
              · refine ax_vret dX10_one_137 rfl ?_
                exact cl M2 hr hM2 (by rw [hx0 hr, if_pos (Or.inr (Or.inr y3))])
            · rw [if_neg hr] at hM2
              rw [if_neg hr]
              obtain ⟨hi2, fr2, g16⟩ := opn M2 hr hM2
              have hok := hi2.1.1
              have hlt := ps_in_z hB (i := tx_sk B z a) (by omega) (by rw [y3]; decide)
              refine ax_if_ne (tgt := 138) dX10_one_134 (by decide) (fun hc => ?_) (fun hc => ?_)
              · refine ax_aload_n dX10_one_138 rfl ?_
                refine ax_dup dX10_one_139 (by first | rfl | exact ax_crf _) ?_
                refine ax_getI (f := 4) dX10_one_140 acl_10 wd_1604 (by decide) rfl (lo_s hok 90 rfl) ?_
                refine ax_iconst (v := 1) dX10_one_143 (by decide) ?_
                refine ax_iadd dX10_one_144 ?_
                refine ax_putI (f := 4) dX10_one_145 acl_10 wd_1604 (by decide) rfl rfl (ax_nfI rfl) (lo_s hok 90 rfl) ?_
                rw [hi2.1.2.2.1, nI_1]
                refine ax_gen (fun M3 hM3 => ?_)
                have o3 := ps_o_at (ps_o_0 hi2) hlt (by omega) hM3
                exact par M3 _ _ _ hr (ps_fr_tr fr2 o3.1) (fun j => by rw [hM3, ax_pn (by omega)]; exact g16 j) o3.2.1 (by rw [hx1 hr, if_neg n1, if_neg n2, if_pos y3])
              · exact absurd hc (by decide)
        · exact absurd rfl hc
      · have y2 := ww _ hc
        refine ax_bipush (v := 7) dX10_one_50 (by decide) ?_
        refine ax_goto (tgt := 56) dX10_one_52 (by decide) ?_
        refine ax_istore_n dX10_one_56 (by decide) rfl ?_
        refine ax_iload_n dX10_one_57 rfl ?_
        refine ax_iconst (v := (-1)) dX10_one_58 (by decide) ?_
        refine ax_icmp_eq (tgt := 117) dX10_one_59 (by decide) (fun hc => ?_) (fun hc => ?_)
        · exact absurd hc (by decide)
        · exact word 7 ps_most y2 (fun hr => by rw [hx0 hr, if_pos (Or.inr (Or.inl y2))]) (fun hr => by rw [hx1 hr, if_neg n1, if_pos y2]; rfl)
    · have y1 := ww _ hc
      refine ax_bipush (v := 6) dX10_one_28 (by decide) ?_
      refine ax_goto (tgt := 56) dX10_one_30 (by decide) ?_
      refine ax_istore_n dX10_one_56 (by decide) rfl ?_
      refine ax_iload_n dX10_one_57 rfl ?_
      refine ax_iconst (v := (-1)) dX10_one_58 (by decide) ?_
      refine ax_icmp_eq (tgt := 117) dX10_one_59 (by decide) (fun hc => ?_) (fun hc => ?_)
      · exact absurd hc (by decide)
      · exact word 6 ps_least y1 (fun hr => by rw [hx0 hr, if_pos (Or.inl y1)]) (fun hr => by rw [hx1 hr, if_pos y1]; rfl)
  · exact absurd hi.1.2.2.2.2 hc
/-- one, product, sum: by the opens that are left -/
theorem c_X10_one {B : Nat → Int32} {z : Nat} (hB : ps_B B z) (hz : z ≤ 600) : ∀ (r : Nat), r ≤ 6 → ∀ (M : ax_M) (a k : Nat), ps_i B M z a k r → ax_Met l G kX10_one (3 * r + 8) 0 0 M [av_r 90] (fun o M2 => o = .inl none ∧ ps_o B M M2 z k r (ps_one B z r a))
  | 0, hr, M, a, k, hi => c_X10_one0 (D := 0) hB hr (ps_one B z 0) (fun _ _ => rfl) (ps_one B z 0) (ps_gd_one hB hz 0) (fun h => absurd rfl h) (fun h => absurd rfl h) hi
  | r + 1, hr, M, a, k, hi => by
    have ih := c_X10_one hB hz r (by omega)
    have hp : ∀ (M : ax_M) (a k : Nat), ps_i B M z a k r → ax_Met l G kX10_product (3 * r + 9) 0 0 M [av_r 90] (fun o M2 => o = .inl none ∧ ps_o B M M2 z k r (ps_prod B z (ps_one B z r) a)) := fun M a k h => c_X10_product (D := 3 * r + 3) hB (ps_gd_one hB hz r) ih h
    have hs : ∀ (M : ax_M) (a k : Nat), ps_i B M z a k r → ax_Met l G kX10_sum (3 * r + 10) 0 0 M [av_r 90] (fun o M2 => o = .inl none ∧ ps_o B M M2 z k r (ps_sum B z (ps_one B z r) a)) := fun M a k h => c_X10_sum (D := 3 * r + 4) hB (ps_gd_prod hB hz (ps_gd_one hB hz r)) hp h
    exact c_X10_one0 (D := 3 * r + 3) hB hr (ps_one B z (r + 1)) (fun h => absurd h (by omega)) (ps_sum B z (ps_one B z r)) (ps_gd_sum hB hz (ps_gd_one hB hz r)) (fun _ _ => rfl) (fun _ M a k h => hs M a k h) hi
theorem c_X10_sum6 {B : Nat → Int32} {z : Nat} (hB : ps_B B z) (hz : z ≤ 600) {a k : Nat} (hi : ps_i B M z a k 6) : ax_Met l G kX10_sum 28 0 0 M [av_r 90] (fun o M2 => o = .inl none ∧ ps_o B M M2 z k 6 (ps_sum B z (ps_one B z 6) a)) :=
  c_X10_sum (D := 22) hB (ps_gd_prod hB hz (ps_gd_one hB hz 6)) (fun M a k h => c_X10_product (D := 21) hB (ps_gd_one hB hz 6) (c_X10_one hB hz 6 (Nat.le_refl _)) h) hi
end P1

