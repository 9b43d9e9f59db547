/-! ===== the class reads formulas: units, pairs, whole texts ===== -/
theorem tk_wd {B : Nat → Int32} {z b : Nat} (hB : ps_B B z) (hb : b < 2 ^ 31) (h : ¬ tk B z b = 2) : tx_wd B z b = [] := by
  have h2 := tk_sm (b := b) hB hb
  unfold tx_wd
  cases e : z - b with
  | zero => rfl
  | succ n => rw [tx_w_s, if_neg (fun q => h (h2.mpr q))]
theorem wd_tk {B : Nat → Int32} {z b : Nat} (hB : ps_B B z) (hb : b < 2 ^ 31) (h : tx_wd B z b ≠ []) : tk B z b = 2 := by
  by_cases c : tk B z b = 2
  · exact c
  · exact absurd (tk_wd hB hb c) h
theorem sg_tk {B : Nat → Int32} {z b : Nat} {c : Int32} (hB : ps_B B z) (hb : b < 2 ^ 31) (hc : sgn c) (h : B b = c) : tk B z b = 3 := ((tk_sg hB hb hc).mpr h).1
theorem tx_num_eq (B : Nat → Int32) (z : Nat) (lo hi : Int32) (a : Nat) : tx_num B z lo hi a = if tx_dg (B (tx_sk B z a)) = true then (if lo ≤ nI (tx_nv B (z - tx_sk B z a) (tx_sk B z a) 0) ∧ nI (tx_nv B (z - tx_sk B z a) (tx_sk B z a) 0) ≤ hi then (tx_run tx_dg B (z - tx_sk B z a) (tx_sk B z a), 0, 0, tx_nv B (z - tx_sk B z a) (tx_sk B z a) 0) else (tx_run tx_dg B (z - tx_sk B z a) (tx_sk B z a), 2, tx_sk B z a, 0)) else (tx_sk B z a, 1, tx_sk B z a, 0) := rfl
theorem enc_0 (v : Int32) : enc (0, v) = 1000 + v := rfl
theorem enc_1 (v : Int32) : enc (1, v) = 100 + v := rfl
section XGU
variable {l : Launch} {G : ax_G} {M : ax_M} {z : Nat} {B : Nat → Int32} {F : Nat}
theorem rs_y {a : Nat} {c : Int32} (h : B (tx_sk B z a) = c) : rk_sign B z c (a, none) = (tx_sk B z a + 1, none) := if_pos h
theorem rs_n {a : Nat} {c : Int32} (h : ¬ B (tx_sk B z a) = c) : rk_sign B z c (a, none) = (tx_sk B z a, some (1, tx_sk B z a)) := if_neg h
set_option maxHeartbeats 2000000 in
theorem c_readPair {D : Nat} {u : Nat → ps_R} {op : Int32} (hF : xh_F F) (hB : ps_B B z) (hu : ps_gd z u) (hC : ∀ (M : ax_M) (a k : Nat), xi B M z a k F → ax_Met l G kX2_readSum (D + 5) 0 0 M [av_r F, av_r 2, av_i op] (fun o M2 => xo B F M M2 z k o (u a))) {a k : Nat} (hi : xi B M z a k F) {h v : Int32} (hv : v = enc (h, 0)) : ax_Met l G kX2_readPair (D + 6) 0 0 M [av_r F, av_r 2, av_i op, av_i v] (fun o M2 => xo B F M M2 z k o (ps_pair B z u h a)) := by
  have hok := hi.1.1.1
  have h150 := hi.2.1
  have haz : a ≤ z := hi.1.2.1.1
  have hsk := tx_sk_z (B := B) haz
  have hska : a ≤ tx_sk B z a := tx_sk_ge
  have q0 := xq_0 hi
  generalize hQ : (fun (o : ax_O) (M2 : ax_M) => xo B F M M2 z k o (ps_pair B z u h a)) = Q
  have bad : ∀ (N : ax_M) (e : Nat × Nat), ps_pair B z u h a = .inl e → xv B F M N z e → Q (.inl (some (av_i 0))) N := by
    intro N e h1 h2
    rw [← hQ]
    show xo B F M N z k _ _
    rw [h1]
    exact ⟨rfl, h2⟩
  have good : ∀ (N : ax_M) (b : Nat) (cs : List (Int32 × Int32)), ps_pair B z u h a = .inr (b, cs) → xq B F M N z k b cs → Q (.inl (some (av_i 1))) N := by
    intro N b cs h1 h2
    rw [← hQ]
    show xo B F M N z k _ _
    rw [h1]
    exact ⟨rfl, h2⟩
  unfold ps_pair at bad good
  refine ax_body (by decide) (Nat.le_of_ble_eq_true rfl) ?_
  refine ax_aload_n dX2_readPair_0 rfl ?_
  refine ax_bipush (v := 91) dX2_readPair_1 (by decide) ?_
  refine ax_callVN (As := _) (d2 := _) (c1 := 0) (n1 := 0) (c_takeSign (M := M) (c := 91) hi.1 sgn_91) dX2_readPair_3 mX6_takeSign wd_1053 acl_6 (lo_s hok 2 rfl) rfl (by omega) (by omega) (by omega) rfl rfl (fun _ _ h => by cases h.1) ?_
  rintro o9 N1 ⟨h1, f1, g1⟩; cases h1
  have hok := g1.1.1
  by_cases c1 : B (tx_sk B z a) = 91
  rotate_left
  · rw [rs_n c1] at g1 ⊢
    rw [ps_sign_n c1, ps_th_l] at bad
    rw [if_neg (Option.some_ne_none _)]
    refine ax_if_eq (tgt := 18) dX2_readPair_6 (by decide) (fun hc => ?_) (fun hc => ?_)
    · refine ax_iconst (v := 0) dX2_readPair_18 (by decide) ?_
      refine ax_zret dX2_readPair_19 rfl ?_ ?_
      · exact Or.inl rfl
      · exact bad N1 _ rfl (xv_fail (ff_0 F M) f1 (xv_of g1))
    · exact absurd rfl hc
  rw [rs_y c1] at g1 ⊢
  rw [ps_sign_y c1] at bad good
  simp only [ps_th_r] at bad good
  rw [if_pos rfl]
  refine ax_if_eq (tgt := 18) dX2_readPair_6 (by decide) (fun hc => ?_) (fun hc => ?_)
  · exact absurd hc (by decide)
  clear hc
  have q1 := xq_af hF q0 f1 g1 (by omega)
  have z1 : tx_sk B z a + 1 ≤ z := g1.2.1.1
  have u1 := hu (tx_sk B z a + 1) z1
  refine ax_aload_n dX2_readPair_9 rfl ?_
  refine ax_aload_n dX2_readPair_10 rfl ?_
  refine ax_iload_n dX2_readPair_11 rfl ?_
  refine ax_callV (As := _) (d2 := _) (c1 := 0) (n1 := 0) (hC N1 (tx_sk B z a + 1) k q1.2.1) dX2_readPair_12 mX2_readSum wd_1016 acl_2 (xs_F_0 hF hok) rfl (by omega) (by omega) (by omega) rfl rfl (fun E M9 h9 => by cases hx9 : u (tx_sk B z a + 1) <;> rw [hx9] at h9 <;> cases h9.1) ?_
  intro o9 N2 h6
  cases hy : u (tx_sk B z a + 1) with
  | inl e =>
    rw [hy] at h6 bad
    obtain ⟨h7, h8⟩ := h6
    cases h7
    have hok : lo_ok N2.2 := by rw [h8.1.1]; exact hok
    refine ax_if_ne (tgt := 20) dX2_readPair_15 (by decide) (fun hc => ?_) (fun hc => ?_)
    · exact absurd rfl hc
    · refine ax_iconst (v := 0) dX2_readPair_18 (by decide) ?_
      refine ax_zret dX2_readPair_19 rfl ?_ ?_
      · exact Or.inl rfl
      · exact bad N2 e (by rw [ps_th_l]) (xv_tr q1.1 h8)
  | inr x1 =>
    obtain ⟨b, cs⟩ := x1
    rw [hy] at h6 u1
    simp only [hy, ps_th_r] at bad good
    obtain ⟨h7, h8⟩ := h6
    cases h7
    have w1 : tx_sk B z a + 1 + cs.length ≤ b ∧ b ≤ z ∧ tx_sk B z a + 1 < b := u1
    have q2 := xq_tr q1 h8
    rw [List.nil_append] at q2
    have hok := q2.2.1.1.1.1
    have hsb : b ≤ tx_sk B z b := tx_sk_ge
    refine ax_if_ne (tgt := 20) dX2_readPair_15 (by decide) (fun hc => ?_) (fun hc => ?_)
    rotate_left
    · exact absurd hc (by decide)
    clear hc
    refine ax_aload_n dX2_readPair_20 rfl ?_
    refine ax_bipush (v := 44) dX2_readPair_21 (by decide) ?_
    refine ax_callVN (As := _) (d2 := _) (c1 := 0) (n1 := 0) (c_takeSign (M := N2) (c := 44) q2.2.1.1 sgn_44) dX2_readPair_23 mX6_takeSign wd_1053 acl_6 (lo_s hok 2 rfl) rfl (by omega) (by omega) (by omega) rfl rfl (fun _ _ h => by cases h.1) ?_
    rintro o9 N3 ⟨h1, f3, g3⟩; cases h1
    have hok := g3.1.1
    by_cases c2 : B (tx_sk B z b) = 44
    rotate_left
    · rw [rs_n c2] at g3 ⊢
      rw [ps_sign_n c2, ps_th_l] at bad
      rw [if_neg (Option.some_ne_none _)]
      refine ax_if_eq (tgt := 38) dX2_readPair_26 (by decide) (fun hc => ?_) (fun hc => ?_)
      · refine ax_iconst (v := 0) dX2_readPair_38 (by decide) ?_
        refine ax_zret dX2_readPair_39 rfl ?_ ?_
        · exact Or.inl rfl
        · exact bad N3 _ rfl (xv_fail q2.1 f3 (xv_of g3))
      · exact absurd rfl hc
    rw [rs_y c2] at g3 ⊢
    rw [ps_sign_y c2] at bad good
    simp only [ps_th_r] at bad good
    rw [if_pos rfl]
    refine ax_if_eq (tgt := 38) dX2_readPair_26 (by decide) (fun hc => ?_) (fun hc => ?_)
    · exact absurd hc (by decide)
    clear hc
    have q3 := xq_af hF q2 f3 g3 (by omega)
    have z3 : tx_sk B z b + 1 ≤ z := g3.2.1.1
    have u3 := hu (tx_sk B z b + 1) z3
    refine ax_aload_n dX2_readPair_29 rfl ?_
    refine ax_aload_n dX2_readPair_30 rfl ?_
    refine ax_iload_n dX2_readPair_31 rfl ?_
    refine ax_callV (As := _) (d2 := _) (c1 := 0) (n1 := 0) (hC N3 (tx_sk B z b + 1) (k + cs.length) q3.2.1) dX2_readPair_32 mX2_readSum wd_1016 acl_2 (xs_F_0 hF hok) rfl (by omega) (by omega) (by omega) rfl rfl (fun E M9 h9 => by cases hx9 : u (tx_sk B z b + 1) <;> rw [hx9] at h9 <;> cases h9.1) ?_
    intro o9 N4 h6
    cases hy2 : u (tx_sk B z b + 1) with
    | inl e =>
      rw [hy2] at h6 bad
      obtain ⟨h7, h8⟩ := h6
      cases h7
      have hok : lo_ok N4.2 := by rw [h8.1.1]; exact hok
      refine ax_if_ne (tgt := 40) dX2_readPair_35 (by decide) (fun hc => ?_) (fun hc => ?_)
      · exact absurd rfl hc
      · refine ax_iconst (v := 0) dX2_readPair_38 (by decide) ?_
        refine ax_zret dX2_readPair_39 rfl ?_ ?_
        · exact Or.inl rfl
        · exact bad N4 e (by rw [ps_th_l]) (xv_tr q3.1 h8)
    | inr x2 =>
      obtain ⟨f, ds⟩ := x2
      rw [hy2] at h6 u3
      simp only [hy2, ps_th_r] at bad good
      obtain ⟨h7, h8⟩ := h6
      cases h7
      have w3 : tx_sk B z b + 1 + ds.length ≤ f ∧ f ≤ z ∧ tx_sk B z b + 1 < f := u3
      have q4 := xq_tr q3 h8
      have hka := hi.2.2.2
      have hok := q4.2.1.1.1.1
      have hsf : f ≤ tx_sk B z f := tx_sk_ge
      refine ax_if_ne (tgt := 40) dX2_readPair_35 (by decide) (fun hc => ?_) (fun hc => ?_)
      rotate_left
      · exact absurd hc (by decide)
      clear hc
      refine ax_aload_n dX2_readPair_40 rfl ?_
      refine ax_iload_n dX2_readPair_41 rfl ?_
      refine ax_callV (As := _) (d2 := _) (c1 := 0) (n1 := 0) (c_xadd (d := 0) (M := N4) (k := k + (cs ++ ds).length) hok hF q4.2.1.2.2.1 (by rw [List.length_append]; omega) v) dX2_readPair_42 mX2_add wd_357 acl_2 (xs_F_0 hF hok) rfl (by omega) (by omega) (by omega) rfl rfl (fun _ _ h => by cases h.1) ?_
      rintro o9 N5 ⟨h10, h11⟩; cases h10
      have q5 := xq_add hF q4 (by rw [List.length_append]; omega) hv h11
      have hok := q5.2.1.1.1.1
      refine ax_aload_n dX2_readPair_45 rfl ?_
      refine ax_bipush (v := 93) dX2_readPair_46 (by decide) ?_
      refine ax_callVN (As := _) (d2 := _) (c1 := 0) (n1 := 0) (c_takeSign (M := N5) (c := 93) q5.2.1.1 sgn_93) dX2_readPair_48 mX6_takeSign wd_1053 acl_6 (lo_s hok 2 rfl) rfl (by omega) (by omega) (by omega) rfl rfl (fun _ _ h => by cases h.1) ?_
      rintro o9 N6 ⟨h1, f6, g6⟩; cases h1
      by_cases c3 : B (tx_sk B z f) = 93
      · rw [rs_y c3] at g6 ⊢
        rw [ps_sign_y c3] at good
        rw [if_pos rfl]
        refine ax_zret dX2_readPair_51 rfl ?_ ?_
        · exact Or.inr rfl
        · exact good N6 _ _ rfl (xq_af hF q5 f6 g6 (by omega))
      · rw [rs_n c3] at g6 ⊢
        rw [ps_sign_n c3] at bad
        rw [if_neg (Option.some_ne_none _)]
        refine ax_zret dX2_readPair_51 rfl ?_ ?_
        · exact Or.inl rfl
        · exact bad N6 _ rfl (xv_fail q5.1 f6 (xv_of g6))
set_option maxHeartbeats 4000000 in
theorem c_readUnit0 {r D : Nat} (hF : xh_F F) (hB : ps_B B z) (hr6 : r ≤ 6) {u : Nat → ps_R} (hu : ps_gd z u) (hC : r ≠ 0 → ∀ (M : ax_M) (a k : Nat), xi B M z a k F → ax_Met l G kX2_readSum (D + 5) 0 0 M [av_r F, av_r 2, av_i (nI (6 - r + 1))] (fun o M2 => xo B F M M2 z k o (u a))) {a k : Nat} (hi : xi B M z a k F) (x : ps_R)
    (hx0 : r = 0 → x = if tx_wd B z (tx_sk B z a) = ps_least ∨ tx_wd B z (tx_sk B z a) = ps_most ∨ B (tx_sk B z a) = 40 then .inl (3, tx_sk B z a) else ps_atom B z (tx_sk B z a))
    (hx1 : r ≠ 0 → x = if tx_wd B z (tx_sk B z a) = ps_least then ps_pair B z u 6 (tx_sk B z a + 5) else if tx_wd B z (tx_sk B z a) = ps_most then ps_pair B z u 7 (tx_sk B z a + 4) else if B (tx_sk B z a) = 40 then ps_par B z u (tx_sk B z a + 1) else ps_atom B z (tx_sk B z a)) : ax_Met l G kX2_readUnit (D + 7) 0 0 M [av_r F, av_r 2, av_i (nI (6 - r))] (fun o M2 => xo B F M M2 z k o x) := by
  have hok := hi.1.1.1
  have h150 := hi.2.1
  have haz : a ≤ z := hi.1.2.1.1
  have hsk := tx_sk_z (B := B) haz
  have hska : a ≤ tx_sk B z a := tx_sk_ge
  have q0 := xq_0 hi
  have hka := hi.2.2.2
  have ht := (xg_t hi.1).1
  have h3 := tk_3 (B := B) (z := z) (b := tx_sk B z a)
  have hskk := tx_sk_sk B z a
  generalize hQ : (fun (o : ax_O) (M2 : ax_M) => xo B F M M2 z k o x) = Q
  have bad : ∀ (N : ax_M) (e : Nat × Nat), x = .inl e → xv B F M N z e → Q (.inl (some (av_i 0))) N := by
    intro N e h1 h2
    rw [← hQ]
    show xo B F M N z k _ _
    rw [h1]
    exact ⟨rfl, h2⟩
  have good : ∀ (N : ax_M) (b : Nat) (cs : List (Int32 × Int32)), x = .inr (b, cs) → xq B F M N z k b cs → Q (.inl (some (av_i 1))) N := by
    intro N b cs h1 h2
    rw [← hQ]
    show xo B F M N z k _ _
    rw [h1]
    exact ⟨rfl, h2⟩
  have atom : ¬ tx_wd B z (tx_sk B z a) = ps_least → ¬ tx_wd B z (tx_sk B z a) = ps_most → ¬ B (tx_sk B z a) = 40 → x = ps_atom B z (tx_sk B z a) := by
    intro n1 n2 n3
    by_cases c : r = 0
    · rw [hx0 c, if_neg (fun q => by rcases q with q | q | q; exact n1 q; exact n2 q; exact n3 q)]
    · rw [hx1 c, if_neg n1, if_neg n2, if_neg n3]
  have ds0 : ∀ c : Int32, tkc c = 3 → tk B z (tx_sk B z a) ≠ 3 → c ≠ -1 → ¬ B (tx_sk B z a) = c := fun c h1 h2 h4 h5 => h2 (sg_tk hB (by omega) ⟨h1, h4⟩ h5)
  refine ax_body (by decide) (Nat.le_of_ble_eq_true rfl) ?_
  refine ax_aload_n dX2_readUnit_0 rfl ?_
  refine ax_getIN (f := 5) dX2_readUnit_1 acl_6 wd_214 (by decide) rfl (lo_s hok 2 rfl) ?_
  refine ax_iconst (v := 1) dX2_readUnit_4 (by decide) ?_
  rw [ht.2.1]
  refine ax_icmp_ne (tgt := 37) dX2_readUnit_5 (by decide) (fun hc => ?_) (fun hc => ?_)
  rotate_left
  · -- a number
    have t1 : tk B z (tx_sk B z a) = 1 := (nI_eq (b := 1) (by omega) (by omega)).mp hc
    clear hc
    have hw := tk_wd (b := tx_sk B z a) hB (by omega) (by omega)
    have hat := atom (by rw [hw]; decide) (by rw [hw]; decide) (ds0 40 rfl (by omega) (by decide))
    have hnu := xn_num (lo := 0) (hi := 999) (m := 999) hB (by omega) haz rfl (by omega)
    have hnk : tx_num B z 0 999 (tx_sk B z a) = tx_num B z 0 999 a := by rw [tx_num_eq, tx_sk_sk, ← tx_num_eq]
    have hf := tx_num_f B z 0 999 a
    unfold ps_atom at hat
    rw [if_neg (by rw [hw]; decide), hnk] at hat
    refine ax_aload_n dX2_readUnit_8 rfl ?_
    refine ax_iconst (v := 0) dX2_readUnit_9 (by decide) ?_
    refine ax_sipush (v := 999) dX2_readUnit_10 (by decide) ?_
    refine ax_callVN (As := _) (d2 := _) (c1 := 0) (n1 := 0) (c_takeNumber (M := M) (m := 999) (hi := 999) hi.1 rfl (by omega)) dX2_readUnit_13 mX6_takeNumber wd_1028 acl_6 (lo_s hok 2 rfl) rfl (by omega) (by omega) (by omega) rfl rfl (fun _ _ h => by cases h.1) ?_
    rintro o9 N1 ⟨h1, f1, g1⟩; cases h1
    have hrk : rk_num B z 0 999 (a, none) = if (tx_num B z 0 999 a).2.1 = 0 then (((tx_num B z 0 999 a).1, none), (tx_num B z 0 999 a).2.2.2) else (((tx_num B z 0 999 a).1, some ((tx_num B z 0 999 a).2.1, (tx_num B z 0 999 a).2.2.1)), 0) := rfl
    have hle := rk_num_le (B := B) (z := z) (lo := 0) (hi := 999) (s := (a, none)) (m := 999) rfl (by omega)
    have hmv := rk_num_mv (B := B) (z := z) (lo := 0) (hi := 999) (s := (a, none)) hB (by omega) hi.1.2.1
    have hok := g1.1.1
    have sz1 : N1.1 F 1 = nI k := by
      have := xh_F2 hF
      rw [f1.2 F 1 (by omega)]; exact hi.2.2.1
    by_cases c1 : (tx_num B z 0 999 a).2.1 = 0
    · rw [if_pos c1] at hat hrk
      rw [hrk] at g1 hle hmv ⊢
      have hmv := hmv rfl
      have hmv2 : a < (tx_num B z 0 999 a).1 := hmv
      have hle2 : (tx_num B z 0 999 a).2.2.2 ≤ 999 := hle
      rw [if_pos rfl]
      have q1 := xq_af hF q0 f1 g1 (Nat.le_of_lt hmv2)
      have z1 : (tx_num B z 0 999 a).1 ≤ z := g1.2.1.1
      refine ax_istore_n dX2_readUnit_16 (by decide) rfl ?_
      refine ax_aload_n dX2_readUnit_17 rfl ?_
      refine ax_sipush (v := 1000) dX2_readUnit_18 (by decide) ?_
      refine ax_iload_n dX2_readUnit_21 rfl ?_
      refine ax_iadd dX2_readUnit_22 ?_
      refine ax_callV (As := _) (d2 := _) (c1 := 0) (n1 := 0) (c_xadd (d := 0) (M := N1) (k := k) hok hF sz1 (by omega) _) dX2_readUnit_23 mX2_add wd_357 acl_2 (xs_F_0 hF hok) rfl (by omega) (by omega) (by omega) rfl rfl (fun _ _ h => by cases h.1) ?_
      rintro o9 N2 ⟨h10, h11⟩; cases h10
      have q2 := xq_add (w := (0, nI (tx_num B z 0 999 a).2.2.2)) hF q1 (by show k + 0 + 1 ≤ _; omega) rfl h11
      have hok := q2.2.1.1.1.1
      refine ax_iload_n dX2_readUnit_26 rfl ?_
      refine ax_iconst (v := (-1)) dX2_readUnit_27 (by decide) ?_
      refine ax_icmp_eq (tgt := 35) dX2_readUnit_28 (by decide) (fun hc => ?_) (fun hc => ?_)
      · exact absurd hc (nI_m1 (by show (tx_num B z 0 999 a).2.2.2 < 2 ^ 31; omega))
      · refine ax_iconst (v := 1) dX2_readUnit_31 (by decide) ?_
        refine ax_goto (tgt := 36) dX2_readUnit_32 (by decide) ?_
        refine ax_zret dX2_readUnit_36 rfl ?_ ?_
        · exact Or.inr rfl
        · exact good N2 _ _ hat q2
    · rw [if_neg c1] at hat hrk
      rw [hrk] at g1 ⊢
      rw [if_neg (Option.some_ne_none _)]
      refine ax_istore_n dX2_readUnit_16 (by decide) rfl ?_
      refine ax_aload_n dX2_readUnit_17 rfl ?_
      refine ax_sipush (v := 1000) dX2_readUnit_18 (by decide) ?_
      refine ax_iload_n dX2_readUnit_21 rfl ?_
      refine ax_iadd dX2_readUnit_22 ?_
      refine ax_callV (As := _) (d2 := _) (c1 := 0) (n1 := 0) (c_xaddF (d := 0) (M := N1) (k := k) hok hF sz1 (by omega) _) dX2_readUnit_23 mX2_add wd_357 acl_2 (xs_F_0 hF hok) rfl (by omega) (by omega) (by omega) rfl rfl (fun _ _ h => by cases h.1) ?_
      rintro o9 N2 ⟨h10, h11, h12⟩; cases h10
      have h2F := xh_F2 hF
      have g2 : ∀ a2, a2 ≤ z → xg N2 z B (a2, some ((tx_num B z 0 999 a).2.1, (tx_num B z 0 999 a).2.2.1)) := xv_of (xg_fr g1 h11 (fun n i hn => h12 n i (by omega) (by omega)))
      have hok : lo_ok N2.2 := by rw [h11]; exact hok
      refine ax_iload_n dX2_readUnit_26 rfl ?_
      refine ax_iconst (v := (-1)) dX2_readUnit_27 (by decide) ?_
      refine ax_icmp_eq (tgt := 35) dX2_readUnit_28 (by decide) (fun hc => ?_) (fun hc => ?_)
      · refine ax_iconst (v := 0) dX2_readUnit_35 (by decide) ?_
        refine ax_zret dX2_readUnit_36 rfl ?_ ?_
        · exact Or.inl rfl
        · exact bad N2 _ hat ⟨ff_tr (ff_af f1) ⟨h11, fun n i _ q2 q3 => h12 n i q2 q3⟩, g2⟩
      · exact absurd rfl hc
  have t1 : ¬ tk B z (tx_sk B z a) = 1 := fun c => hc (by rw [c]; rfl)
  clear hc
  refine ax_aload_n dX2_readUnit_37 rfl ?_
  refine ax_callS (As := _) (c1 := 0) (n1 := 0) (c_variableOf (M := M) hi.1) dX2_readUnit_38 mX2_variableOf wd_1029 rfl (by omega) (by omega) (by omega) rfl rfl (fun _ _ h => by cases h.1) ?_
  rintro r M9 ⟨h1, h9⟩; cases h1; rw [h9]; clear h9 M9
  by_cases ck : tx_wd B z (tx_sk B z a) ∈ tx_knowns
  · obtain ⟨j, hj, hix⟩ := tx_ix_yes tx_knowns 0 ck
    have hj2 : j < 12 := hj
    have hwn : tx_wd B z (tx_sk B z a) ≠ [] := fun c => by rw [c] at ck; exact absurd ck (by decide)
    have t2 := wd_tk (b := tx_sk B z a) hB (by omega) hwn
    have hat := atom (fun c => by rw [c] at ck; exact absurd ck (by decide)) (fun c => by rw [c] at ck; exact absurd ck (by decide)) (ds0 40 rfl (by omega) (by decide))
    have htw := ta_wd hB hsk (by omega) hwn
    have hwz := tx_wd_z (B := B) hsk
    unfold ps_atom at hat
    rw [if_pos ck] at hat
    have hlen : 1 ≤ (tx_wd B z (tx_sk B z a)).length := by
      cases e : tx_wd B z (tx_sk B z a) with
      | nil => exact absurd e hwn
      | cons y ys => simp
    rw [hix, Nat.zero_add] at hat ⊢
    refine ax_istore_n dX2_readUnit_41 (by decide) rfl ?_
    refine ax_iload_n dX2_readUnit_42 rfl ?_
    refine ax_iconst (v := (-1)) dX2_readUnit_43 (by decide) ?_
    refine ax_icmp_eq (tgt := 61) dX2_readUnit_44 (by decide) (fun hc => ?_) (fun hc => ?_)
    · exact absurd hc (nI_m1 (by omega))
    clear hc
    refine ax_aload_n dX2_readUnit_47 rfl ?_
    refine ax_callVN (As := _) (d2 := _) (c1 := 0) (n1 := 0) (c_adv (M := M) (a := tx_sk B z a + (tx_wd B z (tx_sk B z a)).length) hi.1 (by rw [ht.2.2.1, htw]) hwz) dX2_readUnit_48 mX6_advance wd_1048 acl_6 (lo_s hok 2 rfl) rfl (by omega) (by omega) (by omega) rfl rfl (fun _ _ h => by cases h.1) ?_
    rintro o9 N1 ⟨h1, f1, g1⟩; cases h1
    have q1 := xq_af hF q0 f1 g1 (by omega)
    have hok := g1.1.1
    refine ax_aload_n dX2_readUnit_51 rfl ?_
    refine ax_bipush (v := 100) dX2_readUnit_52 (by decide) ?_
    refine ax_iload_n dX2_readUnit_54 rfl ?_
    refine ax_iadd dX2_readUnit_55 ?_
    refine ax_callV (As := _) (d2 := _) (c1 := 0) (n1 := 0) (c_xadd (d := 0) (M := N1) (k := k) hok hF q1.2.1.2.2.1 (by omega) _) dX2_readUnit_56 mX2_add wd_357 acl_2 (xs_F_0 hF hok) rfl (by omega) (by omega) (by omega) rfl rfl (fun _ _ h => by cases h.1) ?_
    rintro o9 N2 ⟨h10, h11⟩; cases h10
    have q2 := xq_add (w := (1, nI j)) hF q1 (by show k + 0 + 1 ≤ _; omega) rfl h11
    have hok := q2.2.1.1.1.1
    refine ax_iconst (v := 1) dX2_readUnit_59 (by decide) ?_
    refine ax_zret dX2_readUnit_60 rfl ?_ ?_
    · exact Or.inr rfl
    · exact good N2 _ _ hat q2
  rw [tx_ix_no tx_knowns 0 ck]
  refine ax_istore_n dX2_readUnit_41 (by decide) rfl ?_
  refine ax_iload_n dX2_readUnit_42 rfl ?_
  refine ax_iconst (v := (-1)) dX2_readUnit_43 (by decide) ?_
  refine ax_icmp_eq (tgt := 61) dX2_readUnit_44 (by decide) (fun hc => ?_) (fun hc => ?_)
  rotate_left
  · exact absurd rfl hc
  clear hc
  refine ax_aload_n dX2_readUnit_61 rfl ?_
  refine ax_ldcT (j := 21) dX2_readUnit_62 rfl rfl rfl ?_
  refine ax_callVN (As := _) (d2 := _) (c1 := 0) (n1 := 0) (c_xisWord (j := 21) (ws := ps_least) (M := M) hi.1 rfl rfl rfl rfl) dX2_readUnit_64 mX6_isWord wd_1033 acl_6 (lo_s hok 2 rfl) rfl (by omega) (by omega) (by omega) rfl rfl (fun _ _ h => by cases h.1) ?_
  rintro r M9 ⟨h1, h9⟩; cases h1; rw [h9]; clear h9 M9
  refine ax_istore dX2_readUnit_67 (by decide) rfl ?_
  refine ax_aload_n dX2_readUnit_69 rfl ?_
  refine ax_ldcT (j := 22) dX2_readUnit_70 rfl rfl rfl ?_
  refine ax_callVN (As := _) (d2 := _) (c1 := 0) (n1 := 0) (c_xisWord (j := 22) (ws := ps_most) (M := M) hi.1 rfl rfl rfl rfl) dX2_readUnit_72 mX6_isWord wd_1033 acl_6 (lo_s hok 2 rfl) rfl (by omega) (by omega) (by omega) rfl rfl (fun _ _ h => by cases h.1) ?_
  rintro r M9 ⟨h1, h9⟩; cases h1; rw [h9]; clear h9 M9
  refine ax_istore dX2_readUnit_75 (by decide) rfl ?_
  refine ax_aload_n dX2_readUnit_77 rfl ?_
  refine ax_bipush (v := 40) dX2_readUnit_78 (by decide) ?_
  refine ax_callVN (As := _) (d2 := _) (c1 := 0) (n1 := 0) (c_isSign (d := 0) (M := M) (c := 40) hi.1 sgn_40) dX2_readUnit_80 mX6_isSign wd_1051 acl_6 (lo_s hok 2 rfl) rfl (by omega) (by omega) (by omega) rfl rfl (fun _ _ h => by cases h.1) ?_
  rintro r M9 ⟨h1, h9⟩; cases h1; rw [h9]; clear h9 M9
  refine ax_istore dX2_readUnit_83 (by decide) rfl ?_
  refine ax_iload dX2_readUnit_85 rfl ?_
  -- opened: p a pair by h, or a bracket
  have opened : ∀ (b4 b5 b6 : Int32) (h : Int32) (n : Nat), (¬ (b4 = 0 ∧ b5 = 0 ∧ b6 = 0)) → ((b6 = 0 ∧ (if b4 = 0 then (5 : Int32) else 4) = enc (h, 0) ∧ (r = 0 → x = .inl (3, tx_sk B z a)) ∧ (r ≠ 0 → x = ps_pair B z u h (tx_sk B z a + n))) ∨ (¬ b6 = 0 ∧ (r = 0 → x = .inl (3, tx_sk B z a)) ∧ (r ≠ 0 → x = ps_par B z u (tx_sk B z a + n)))) → ta B z (tx_sk B z a) = tx_sk B z a + n → 1 ≤ n → tx_sk B z a + n ≤ z → ax_W l G kX2_readUnit (ax_FQ G Q) (D + 7) 0 0 M 106 [some (av_r F), some (av_r 2), some (av_i (nI (6 - r))), some (av_i (-1)), some (av_i b4), some (av_i b5), some (av_i b6)] [] := by
    intro b4 b5 b6 h n hb hcase hta hn1 hnz
    refine ax_iload_n dX2_readUnit_106 rfl ?_
    refine ax_bipush (v := 6) dX2_readUnit_107 (by decide) ?_
    by_cases c0 : r = 0
    · subst c0
      refine ax_icmp_lt (tgt := 118) dX2_readUnit_109 (by decide) (fun hc => ?_) (fun hc => ?_)
      · exact absurd hc (by decide)
      · have hx : x = .inl (3, tx_sk B z a) := by rcases hcase with h9 | h9; exact h9.2.2.1 rfl; exact h9.2.1 rfl
        refine ax_aload_n dX2_readUnit_112 rfl ?_
        refine ax_iconst (v := 3) dX2_readUnit_113 (by decide) ?_
        refine ax_callVN (As := _) (d2 := _) (c1 := 0) (n1 := 0) (c_fail (d := 0) (M := M) hi.1 (k := 3) (by omega) rfl) dX2_readUnit_114 mX6_fail wd_1052 acl_6 (lo_s hok 2 rfl) rfl (by omega) (by omega) (by omega) rfl rfl (fun _ _ h => by cases h.1) ?_
        rintro o9 N1 ⟨h1, f1, g1⟩; cases h1
        refine ax_zret dX2_readUnit_117 rfl ?_ ?_
        · exact Or.inl rfl
        · exact bad N1 _ hx (xv_fail (ff_0 F M) f1 g1)
    refine ax_icmp_lt (tgt := 118) dX2_readUnit_109 (by decide) (fun hc => ?_) (fun hc => ?_)
    rotate_left
    · exact absurd ((nI_ltI (b := 6) (by omega) (by omega)).mpr (by omega)) hc
    clear hc
    refine ax_aload_n dX2_readUnit_118 rfl ?_
    refine ax_callVN (As := _) (d2 := _) (c1 := 0) (n1 := 0) (c_adv (M := M) (a := tx_sk B z a + n) hi.1 (by rw [ht.2.2.1, hta]) hnz) dX2_readUnit_119 mX6_advance wd_1048 acl_6 (lo_s hok 2 rfl) rfl (by omega) (by omega) (by omega) rfl rfl (fun _ _ h => by cases h.1) ?_
    rintro o9 N1 ⟨h1, f1, g1⟩; cases h1
    have q1 := xq_af hF q0 f1 g1 (by omega)
    have hok := g1.1.1
    refine ax_iload dX2_readUnit_122 rfl ?_
    rcases hcase with ⟨e6, ee, -, hx⟩ | ⟨e6, -, hx⟩
    · have hx := hx c0
      refine ax_if_eq (tgt := 153) dX2_readUnit_124 (by decide) (fun hc => ?_) (fun hc => ?_)
      rotate_left
      · exact absurd e6 hc
      clear hc
      refine ax_aload_n dX2_readUnit_153 rfl ?_
      refine ax_aload_n dX2_readUnit_154 rfl ?_
      refine ax_iload_n dX2_readUnit_155 rfl ?_
      refine ax_iconst (v := 1) dX2_readUnit_156 (by decide) ?_
      refine ax_iadd dX2_readUnit_157 ?_
      rw [nI_1]
      refine ax_iload dX2_readUnit_158 rfl ?_
      have pr : ∀ v : Int32, v = enc (h, 0) → ax_W l G kX2_readUnit (ax_FQ G Q) (D + 7) 0 0 N1 168 [some (av_r F), some (av_r 2), some (av_i (nI (6 - r))), some (av_i (-1)), some (av_i b4), some (av_i b5), some (av_i b6)] [av_i v, av_i (nI (6 - r + 1)), av_r 2, av_r F] := by
        intro v hv
        refine ax_callV (As := _) (d2 := _) (c1 := 0) (n1 := 0) (c_readPair (M := N1) (D := D) hF hB hu (hC c0) (a := tx_sk B z a + n) (k := k) q1.2.1 hv) dX2_readUnit_168 mX2_readPair wd_1054 acl_2 (xs_F_0 hF hok) rfl (by omega) (by omega) (by omega) rfl rfl (fun E M9 h9 => by cases hx9 : ps_pair B z u h (tx_sk B z a + n) <;> rw [hx9] at h9 <;> cases h9.1) ?_
        intro o9 N2 h6
        cases hy : ps_pair B z u h (tx_sk B z a + n) with
        | inl e =>
          rw [hy] at h6 hx
          obtain ⟨h7, h8⟩ := h6
          cases h7
          refine ax_zret dX2_readUnit_171 rfl ?_ ?_
          · exact Or.inl rfl
          · exact bad N2 e hx (xv_tr q1.1 h8)
        | inr y =>
          rw [hy] at h6 hx
          obtain ⟨h7, h8⟩ := h6
          cases h7
          refine ax_zret dX2_readUnit_171 rfl ?_ ?_
          · exact Or.inr rfl
          · exact good N2 _ _ hx (xq_tr q1 h8)
      refine ax_if_eq (tgt := 167) dX2_readUnit_160 (by decide) (fun hc => ?_) (fun hc => ?_)
      · refine ax_iconst (v := 5) dX2_readUnit_167 (by decide) ?_
        exact pr 5 (by rw [← ee, if_pos hc])
      · refine ax_iconst (v := 4) dX2_readUnit_163 (by decide) ?_
        refine ax_goto (tgt := 168) dX2_readUnit_164 (by decide) ?_
        exact pr 4 (by rw [← ee, if_neg hc])
    · have hx := hx c0
      refine ax_if_eq (tgt := 153) dX2_readUnit_124 (by decide) (fun hc => ?_) (fun hc => ?_)
      · exact absurd hc e6
      clear hc
      refine ax_aload_n dX2_readUnit_127 rfl ?_
      refine ax_aload_n dX2_readUnit_128 rfl ?_
      refine ax_iload_n dX2_readUnit_129 rfl ?_
      refine ax_iconst (v := 1) dX2_readUnit_130 (by decide) ?_
      refine ax_iadd dX2_readUnit_131 ?_
      rw [nI_1]
      have hu1 := hu (tx_sk B z a + n) hnz
      refine ax_callV (As := _) (d2 := _) (c1 := 0) (n1 := 0) (hC c0 N1 (tx_sk B z a + n) k q1.2.1) dX2_readUnit_132 mX2_readSum wd_1016 acl_2 (xs_F_0 hF hok) rfl (by omega) (by omega) (by omega) rfl rfl (fun E M9 h9 => by cases hx9 : u (tx_sk B z a + n) <;> rw [hx9] at h9 <;> cases h9.1) ?_
      intro o9 N2 h6
      unfold ps_par at hx
      cases hy : u (tx_sk B z a + n) with
      | inl e =>
        rw [hy] at h6 hx
        obtain ⟨h7, h8⟩ := h6
        cases h7
        have hok : lo_ok N2.2 := by rw [h8.1.1]; exact hok
        rw [ps_th_l] at hx
        refine ax_if_eq (tgt := 151) dX2_readUnit_135 (by decide) (fun hc => ?_) (fun hc => ?_)
        · refine ax_iconst (v := 0) dX2_readUnit_151 (by decide) ?_
          refine ax_zret dX2_readUnit_152 rfl ?_ ?_
          · exact Or.inl rfl
          · exact bad N2 e hx (xv_tr q1.1 h8)
        · exact absurd rfl hc
      | inr y =>
        obtain ⟨b, cs⟩ := y
        rw [hy] at h6 hx hu1
        obtain ⟨h7, h8⟩ := h6
        cases h7
        rw [ps_th_r] at hx
        have q2 := xq_tr q1 h8
        rw [List.nil_append] at q2
        have hok := q2.2.1.1.1.1
        have hsb : b ≤ tx_sk B z b := tx_sk_ge
        refine ax_if_eq (tgt := 151) dX2_readUnit_135 (by decide) (fun hc => ?_) (fun hc => ?_)
        · exact absurd hc (by decide)
        clear hc
        refine ax_aload_n dX2_readUnit_138 rfl ?_
        refine ax_bipush (v := 41) dX2_readUnit_139 (by decide) ?_
        refine ax_callVN (As := _) (d2 := _) (c1 := 0) (n1 := 0) (c_takeSign (M := N2) (c := 41) q2.2.1.1 sgn_41) dX2_readUnit_141 mX6_takeSign wd_1053 acl_6 (lo_s hok 2 rfl) rfl (by omega) (by omega) (by omega) rfl rfl (fun _ _ h => by cases h.1) ?_
        rintro o9 N3 ⟨h1, f3, g3⟩; cases h1
        have hok := g3.1.1
        by_cases c3 : B (tx_sk B z b) = 41
        · rw [rs_y c3] at g3 ⊢
          rw [ps_sign_y c3] at hx
          rw [if_pos rfl]
          refine ax_if_eq (tgt := 151) dX2_readUnit_144 (by decide) (fun hc => ?_) (fun hc => ?_)
          · exact absurd hc (by decide)
          · refine ax_iconst (v := 1) dX2_readUnit_147 (by decide) ?_
            refine ax_goto (tgt := 152) dX2_readUnit_148 (by decide) ?_
            refine ax_zret dX2_readUnit_152 rfl ?_ ?_
            · exact Or.inr rfl
            · exact good N3 _ _ hx (xq_af hF q2 f3 g3 (by omega))
        · rw [rs_n c3] at g3 ⊢
          rw [ps_sign_n c3] at hx
          rw [if_neg (Option.some_ne_none _)]
          refine ax_if_eq (tgt := 151) dX2_readUnit_144 (by decide) (fun hc => ?_) (fun hc => ?_)
          · refine ax_iconst (v := 0) dX2_readUnit_151 (by decide) ?_
            refine ax_zret dX2_readUnit_152 rfl ?_ ?_
            · exact Or.inl rfl
            · exact bad N3 _ hx (xv_fail q2.1 f3 (xv_of g3))
          · exact absurd rfl hc
  by_cases w1 : tx_wd B z (tx_sk B z a) = ps_least
  · have t2 := wd_tk (b := tx_sk B z a) hB (by omega) (by rw [w1]; decide)
    have htw := ta_wd hB hsk (by omega) (by rw [w1]; decide)
    have hwz := tx_wd_z (B := B) hsk
    rw [w1] at htw hwz
    have nb := ds0 40 rfl (by omega) (by decide)
    rw [if_pos w1, if_neg (by rw [w1]; decide), if_neg nb]
    refine ax_if_ne (tgt := 106) dX2_readUnit_87 (by decide) (fun hc => ?_) (fun hc => ?_)
    · exact opened 1 0 0 6 5 (fun c => absurd c.1 (by decide)) (Or.inl ⟨rfl, rfl, fun c => by rw [hx0 c, if_pos (Or.inl w1)], fun c => by rw [hx1 c, if_pos w1]⟩) htw (by omega) hwz
    · exact absurd hc (by decide)
  rw [if_neg w1]
  refine ax_if_ne (tgt := 106) dX2_readUnit_87 (by decide) (fun hc => ?_) (fun hc => ?_)
  · exact absurd rfl hc
  clear hc
  refine ax_iload dX2_readUnit_90 rfl ?_
  by_cases w2 : tx_wd B z (tx_sk B z a) = ps_most
  · have t2 := wd_tk (b := tx_sk B z a) hB (by omega) (by rw [w2]; decide)
    have htw := ta_wd hB hsk (by omega) (by rw [w2]; decide)
    have hwz := tx_wd_z (B := B) hsk
    rw [w2] at htw hwz
    have nb := ds0 40 rfl (by omega) (by decide)
    rw [if_pos w2, if_neg nb]
    refine ax_if_ne (tgt := 106) dX2_readUnit_92 (by decide) (fun hc => ?_) (fun hc => ?_)
    · exact opened 0 1 0 7 4 (fun c => absurd c.2.1 (by decide)) (Or.inl ⟨rfl, rfl, fun c => by rw [hx0 c, if_pos (Or.inr (Or.inl w2))], fun c => by rw [hx1 c, if_neg w1, if_pos w2]⟩) htw (by omega) hwz
    · exact absurd hc (by decide)
  rw [if_neg w2]
  refine ax_if_ne (tgt := 106) dX2_readUnit_92 (by decide) (fun hc => ?_) (fun hc => ?_)
  · exact absurd rfl hc
  clear hc
  refine ax_iload dX2_readUnit_95 rfl ?_
  by_cases w3 : B (tx_sk B z a) = 40
  · have t3 := sg_tk (b := tx_sk B z a) hB (by omega) sgn_40 w3
    have hlt := ps_in_z (i := tx_sk B z a) hB (by omega) (by rw [w3]; decide)
    rw [if_pos w3]
    refine ax_if_ne (tgt := 106) dX2_readUnit_97 (by decide) (fun hc => ?_) (fun hc => ?_)
    · exact opened 0 0 1 0 1 (fun c => absurd c.2.2 (by decide)) (Or.inr ⟨by decide, fun c => by rw [hx0 c, if_pos (Or.inr (Or.inr w3))], fun c => by rw [hx1 c, if_neg w1, if_neg w2, if_pos w3]⟩) (by unfold ta; rw [if_pos t3]) (by omega) (by omega)
    · exact absurd hc (by decide)
  rw [if_neg w3]
  refine ax_if_ne (tgt := 106) dX2_readUnit_97 (by decide) (fun hc => ?_) (fun hc => ?_)
  · exact absurd rfl hc
  clear hc
  have hat := atom w1 w2 w3
  have hdg : ¬ tx_dg (B (tx_sk B z a)) = true := fun c => t1 ((tk_dg (b := tx_sk B z a) hB (by omega)).mpr c)
  refine ax_aload_n dX2_readUnit_100 rfl ?_
  refine ax_iconst (v := 1) dX2_readUnit_101 (by decide) ?_
  refine ax_callVN (As := _) (d2 := _) (c1 := 0) (n1 := 0) (c_fail (d := 0) (M := M) hi.1 (k := 1) (by omega) rfl) dX2_readUnit_102 mX6_fail wd_1052 acl_6 (lo_s hok 2 rfl) rfl (by omega) (by omega) (by omega) rfl rfl (fun _ _ h => by cases h.1) ?_
  rintro o9 N1 ⟨h1, f1, g1⟩; cases h1
  refine ax_zret dX2_readUnit_105 rfl ?_ ?_
  · exact Or.inl rfl
  · refine bad N1 _ ?_ (xv_fail (ff_0 F M) f1 g1)
    rw [hat]
    unfold ps_atom
    rw [if_neg ck]
    have e : tx_num B z 0 999 (tx_sk B z a) = (tx_sk B z a, 1, tx_sk B z a, 0) := by rw [tx_num_eq, tx_sk_sk, if_neg hdg]
    rw [e]
    exact if_neg (show ¬ 1 = 0 by decide)
theorem c_readUnit (hF : xh_F F) (hB : ps_B B z) (hz : z ≤ 600) : ∀ (r : Nat), r ≤ 6 → ∀ (M : ax_M) (a k : Nat), xi B M z a k F → ax_Met l G kX2_readUnit (4 * r + 7) 0 0 M [av_r F, av_r 2, av_i (nI (6 - r))] (fun o M2 => xo B F M M2 z k o (ps_one B z r a))
  | 0, hr, M, a, k, hi => c_readUnit0 (D := 0) hF hB hr (ps_gd_one hB hz 0) (fun h => absurd rfl h) hi _ (fun _ => rfl) (fun h => absurd rfl h)
  | r + 1, hr, M, a, k, hi => by
    have ih := c_readUnit hF hB hz r (by omega)
    have hp : ∀ (M : ax_M) (a k : Nat), xi B M z a k F → ax_Met l G kX2_readProduct (4 * r + 8) 0 0 M [av_r F, av_r 2, av_i (nI (6 - r))] (fun o M2 => xo B F M M2 z k o (ps_prod B z (ps_one B z r) a)) := fun M a k h => c_readProduct (D := 4 * r + 2) hF hB (ps_gd_one hB hz r) ih h
    have hs : ∀ (M : ax_M) (a k : Nat), xi B M z a k F → ax_Met l G kX2_readSum (4 * r + 9) 0 0 M [av_r F, av_r 2, av_i (nI (6 - r))] (fun o M2 => xo B F M M2 z k o (ps_sum B z (ps_one B z r) a)) := fun M a k h => c_readSum (D := 4 * r + 3) hF hB (ps_gd_prod hB hz (ps_gd_one hB hz r)) hp h
    have e : 6 - (r + 1) + 1 = 6 - r := by omega
    exact c_readUnit0 (D := 4 * r + 4) hF hB hr (ps_gd_sum hB hz (ps_gd_one hB hz r)) (fun _ M a k h => by rw [e]; exact hs M a k h) hi _ (fun h => absurd h (by omega)) (fun _ => rfl)
theorem c_readSum6 (hF : xh_F F) (hB : ps_B B z) (hz : z ≤ 600) {a k : Nat} (hi : xi B M z a k F) : ax_Met l G kX2_readSum 33 0 0 M [av_r F, av_r 2, av_i 0] (fun o M2 => xo B F M M2 z k o (ps_sum B z (ps_one B z 6) a)) :=
  c_readSum (D := 27) hF hB (ps_gd_prod hB hz (ps_gd_one hB hz 6)) (fun M a k h => c_readProduct (D := 26) hF hB (ps_gd_one hB hz 6) (c_readUnit hF hB hz 6 (Nat.le_refl _)) h) hi
/-- a LAW or a RULE is read -/
def xfo (B : Nat → Int32) (F : Nat) (M N : ax_M) (z : Nat) (o : ax_O) (x : (Nat × Nat) ⊕ List (Int32 × Int32)) : Prop := match x with
  | .inl e => o = .inl (some (av_i 0)) ∧ xv B F M N z e
  | .inr cs => o = .inl (some (av_i 1)) ∧ ff F M N ∧ N.1 F 1 = nI cs.length ∧ (∀ j w, cs[j]? = some w → N.1 (F + 1) j = enc w) ∧ ∃ a, xg N z B (a, none)
theorem c_formulaFrom (hF : xh_F F) (hg : xg M z B (0, none)) (hz : z ≤ 150) : ax_Met l G kX2_readFrom 34 0 0 M [av_r F, av_r 2] (fun o M2 => xfo B F M M2 z o (ps_text B z)) := by
  have hok := hg.1.1
  have hB := hg.1.2.2.2.1
  have h2F := xh_F2 hF
  generalize hQ : (fun (o : ax_O) (M2 : ax_M) => xfo B F M M2 z o (ps_text B z)) = Q
  have bad : ∀ (N : ax_M) (e : Nat × Nat), ps_text B z = .inl e → xv B F M N z e → Q (.inl (some (av_i 0))) N := by
    intro N e h1 h2
    rw [← hQ]
    show xfo B F M N z _ _
    rw [h1]
    exact ⟨rfl, h2⟩
  have good : ∀ (N : ax_M) (b : Nat) (cs : List (Int32 × Int32)), ps_text B z = .inr cs → xq B F (ax_pI M F 1 0) N z 0 b cs → Q (.inl (some (av_i 1))) N := by
    intro N b cs h1 h2
    rw [← hQ]
    show xfo B F M N z _ _
    rw [h1]
    refine ⟨rfl, ⟨h2.1.1, fun n i q1 q2 q3 => by rw [h2.1.2 n i q1 q2 q3, ax_pn q2]⟩, ?_, fun j w hw => ?_, b, h2.2.1.1⟩
    · have := h2.2.1.2.2.1
      rw [Nat.zero_add] at this; exact this
    · have := h2.2.2.2 j w hw
      rw [Nat.zero_add] at this; exact this
  unfold ps_text at bad good
  refine ax_body (by decide) (Nat.le_of_ble_eq_true rfl) ?_
  refine ax_aload_n dX2_readFrom_0 rfl ?_
  refine ax_iconst (v := 0) dX2_readFrom_1 (by decide) ?_
  refine ax_putI (f := 1) dX2_readFrom_2 acl_2 wd_340 (by decide) rfl rfl (ax_nfI rfl) (xs_F_0 hF hok) ?_
  refine ax_gen (fun M1 hM1 => ?_)
  have hok : lo_ok M1.2 := by rw [hM1]; exact hok
  have fM : ff F M M1 := ⟨by rw [hM1]; rfl, fun n i _ q2 _ => by rw [hM1, ax_pn q2]⟩
  have g1 : xg M1 z B (tx_sk B z 0, none) := xg_sk (xg_fr hg (by rw [hM1]; rfl) (fun n i hn => by rw [hM1, ax_pn (by omega)]))
  have i1 : xi B M1 z (tx_sk B z 0) 0 F := ⟨g1, hz, by rw [hM1, ax_pa]; rfl, by omega⟩
  refine ax_aload_n dX2_readFrom_5 rfl ?_
  refine ax_aload_n dX2_readFrom_6 rfl ?_
  refine ax_iconst (v := 0) dX2_readFrom_7 (by decide) ?_
  refine ax_callV (As := _) (d2 := _) (c1 := 0) (n1 := 0) (c_readSum6 (M := M1) hF hB (by omega) i1) dX2_readFrom_8 mX2_readSum wd_1016 acl_2 (xs_F_0 hF hok) rfl (by omega) (by omega) (by omega) rfl rfl (fun E M9 h9 => by cases hx9 : ps_sum B z (ps_one B z 6) (tx_sk B z 0) <;> rw [hx9] at h9 <;> cases h9.1) ?_
  intro o9 N h6
  cases hy : ps_sum B z (ps_one B z 6) (tx_sk B z 0) with
  | inl e =>
    rw [hy] at h6 bad
    obtain ⟨h7, h8⟩ := h6
    cases h7
    refine ax_if_ne (tgt := 16) dX2_readFrom_11 (by decide) (fun hc => ?_) (fun hc => ?_)
    · exact absurd rfl hc
    · refine ax_iconst (v := 0) dX2_readFrom_14 (by decide) ?_
      refine ax_zret dX2_readFrom_15 rfl ?_ ?_
      · exact Or.inl rfl
      · exact bad N e rfl (xv_tr fM h8)
  | inr y =>
    obtain ⟨b, cs⟩ := y
    rw [hy] at h6
    simp only [hy] at bad good
    obtain ⟨h7, h8⟩ := h6
    cases h7
    have hgN := h8.2.1.1
    have hok := hgN.1.1
    have ht := (xg_t hgN).1
    have hbz : b ≤ z := hgN.2.1.1
    have hsk := tx_sk_z (B := B) hbz
    have h3 := tk_3 (B := B) (z := z) (b := tx_sk B z b)
    refine ax_if_ne (tgt := 16) dX2_readFrom_11 (by decide) (fun hc => ?_) (fun hc => ?_)
    rotate_left
    · exact absurd hc (by decide)
    clear hc
    refine ax_aload_n dX2_readFrom_16 rfl ?_
    refine ax_getIN (f := 5) dX2_readFrom_17 acl_6 wd_214 (by decide) rfl (lo_s hok 2 rfl) ?_
    rw [show N.1 2 5 = nI (tk B z (tx_sk B z b)) from ht.2.1]
    refine ax_if_eq (tgt := 31) dX2_readFrom_20 (by decide) (fun hc => ?_) (fun hc => ?_)
    · have t0 : tk B z (tx_sk B z b) = 0 := (nI_eq (b := 0) (by omega) (by omega)).mp hc
      have hge : ¬ tx_sk B z b < z := fun c => by
        unfold tk at t0
        rw [if_pos c] at t0
        have := (tkc_b (B (tx_sk B z b))).1
        omega
      refine ax_iconst (v := 1) dX2_readFrom_31 (by decide) ?_
      refine ax_goto (tgt := 36) dX2_readFrom_32 (by decide) ?_
      refine ax_zret dX2_readFrom_36 rfl ?_ ?_
      · exact Or.inr rfl
      · rw [if_neg hge] at good
        exact good N b cs rfl (by rw [← hM1]; exact h8)
    · have hlt : tx_sk B z b < z := by
        by_cases c : tx_sk B z b < z
        · exact c
        · exact absurd (by unfold tk; rw [if_neg c]; rfl) hc
      clear hc
      rw [if_pos hlt] at bad
      refine ax_aload_n dX2_readFrom_23 rfl ?_
      refine ax_iconst (v := 1) dX2_readFrom_24 (by decide) ?_
      refine ax_callVN (As := _) (d2 := _) (c1 := 0) (n1 := 0) (c_fail (d := 0) (M := N) hgN (k := 1) (by omega) rfl) dX2_readFrom_25 mX6_fail wd_1052 acl_6 (lo_s hok 2 rfl) rfl (by omega) (by omega) (by omega) rfl rfl (fun _ _ h => by cases h.1) ?_
      rintro o9 N1 ⟨h1, f1, g1⟩; cases h1
      refine ax_if_eq (tgt := 35) dX2_readFrom_28 (by decide) (fun hc => ?_) (fun hc => ?_)
      · refine ax_iconst (v := 0) dX2_readFrom_35 (by decide) ?_
        refine ax_zret dX2_readFrom_36 rfl ?_ ?_
        · exact Or.inl rfl
        · exact bad N1 _ rfl (xv_fail (ff_tr fM h8.1) f1 g1)
      · exact absurd rfl hc
end XGU

