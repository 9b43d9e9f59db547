/-! ===== which word stands there ===== -/
def tx_kinds : List (List Nat) := [[12, 5, 14, 7, 20, 8], [3, 1, 18], [3, 15, 1, 20], [2, 5, 14, 4], [23, 5, 20], [18, 5, 1, 3, 8], [6, 15, 7], [2, 12, 9, 14, 4]]
def tx_knowns : List (List Nat) := [[18, 5, 1, 3, 8], [6, 15, 7], [2, 12, 9, 14, 4], [1, 7, 5], [23, 5, 20], [20, 9, 12, 20], [16, 1, 3, 5], [20, 5, 14, 20, 8], [6, 1, 18], [13, 5, 20], [15, 20, 8, 5, 18], [13, 9, 14, 5]]
/-- the place of a word in a list, -1 without -/
def tx_ix (w : List Nat) : List (List Nat) → Nat → Int32
  | [], _ => -1
  | x :: r, i => if w = x then nI i else tx_ix w r (i + 1)
section MZ
variable {l : Launch} {G : ax_G} {d : Nat} {M : ax_M}
theorem c_X10_isWord1 {z a : Nat} (hs : tx_st M z a) (h1 : tx_sk (tx_B M) z a = a) {q b c e f g : Int32} (ws : List Nat) (h6 : tx_six q b c e f g ws) : ax_Met l G kX10_isWord 3 0 0 M [av_r 90, av_i q, av_i b, av_i c, av_i e, av_i f, av_i g] (ax_p (av_i (if tx_wd (tx_B M) z a = ws then 1 else 0)) M) := by
  refine ax_mono (c_X10_isWord hs ws h6) ?_
  rintro o M2 ⟨h2, h3⟩
  rw [h1] at h2 h3
  exact ⟨h2, by rw [h3]; exact ax_pid hs.2.2.1⟩
theorem c_X10_takes1 {z a : Nat} (hs : tx_st M z a) (h1 : tx_sk (tx_B M) z a = a) {q b c e f g : Int32} (ws : List Nat) (h6 : tx_six q b c e f g ws) : ax_Met l G kX10_takes 4 0 0 M [av_r 90, av_i q, av_i b, av_i c, av_i e, av_i f, av_i g] (fun o M2 => o = .inl (some (av_i (if tx_wd (tx_B M) z a = ws then 1 else 0))) ∧ M2 = ax_pI M 90 4 (nI (if tx_wd (tx_B M) z a = ws then a + ws.length else a))) := by
  refine ax_mono (c_X10_takes hs ws h6) ?_
  rintro o M2 ⟨h2, h3⟩
  rw [h1] at h2 h3
  exact ⟨h2, h3⟩
set_option maxHeartbeats 1000000 in
theorem c_X10_kindHere {z a : Nat} (hs : tx_st M z a) : ax_Met l G kX10_kindHere 4 0 0 M [av_r 90] (fun o M2 => o = .inl (some (av_i (tx_ix (tx_wd (tx_B M) z (tx_sk (tx_B M) z a)) tx_kinds 0))) ∧ M2 = ax_pI M 90 4 (nI (tx_sk (tx_B M) z a))) := by
  have hok := hs.1
  have h600 := tx_sk_le (B := tx_B M) hs.2.1.2 hs.2.2.2.1
  have h11 := tx_sk_sk (tx_B M) z a
  refine ax_body (by decide) (Nat.le_of_ble_eq_true rfl) ?_
  refine ax_aload_n dX10_kindHere_0 rfl ?_
  refine ax_bipush (v := 12) dX10_kindHere_1 (by decide) ?_
  refine ax_iconst (v := 5) dX10_kindHere_3 (by decide) ?_
  refine ax_bipush (v := 14) dX10_kindHere_4 (by decide) ?_
  refine ax_bipush (v := 7) dX10_kindHere_6 (by decide) ?_
  refine ax_bipush (v := 20) dX10_kindHere_8 (by decide) ?_
  refine ax_bipush (v := 8) dX10_kindHere_10 (by decide) ?_
  refine ax_callV (As := _) (d2 := _) (c1 := 0) (n1 := 0) (c_X10_isWord (M := M) hs _ (⟨⟨by decide, by decide⟩, by decide⟩ : tx_six 12 5 14 7 20 8 [12, 5, 14, 7, 20, 8])) dX10_kindHere_12 mX10_isWord wd_1799 acl_10 (lo_s hok 90 rfl) rfl (by omega) (by omega) (by omega) rfl rfl (fun _ _ h => by cases h.1) ?_
  rintro r M1 ⟨h1, hM1⟩; cases h1
  obtain ⟨hs1, eB⟩ := tx_st_to hs h600 hM1
  have hok := hs1.1
  rw [← eB] at h11 hM1 hs1 h600
  rw [← eB]
  generalize tx_sk (tx_B M1) z a = a1 at *
  refine ax_if_eq (tgt := 20) dX10_kindHere_15 (by decide) (fun hc => ?_) (fun hc => ?_)
  rotate_left
  · have hy0 : tx_wd (tx_B M1) z a1 = [12, 5, 14, 7, 20, 8] := by by_cases q : tx_wd (tx_B M1) z a1 = [12, 5, 14, 7, 20, 8]; exact q; rw [if_neg q] at hc; exact absurd rfl hc
    refine ax_iconst (v := 0) dX10_kindHere_18 (by decide) ?_
    refine ax_iret dX10_kindHere_19 rfl ?_
    exact ⟨by rw [hy0]; rfl, hM1⟩
  have hn0 : ¬ tx_wd (tx_B M1) z a1 = [12, 5, 14, 7, 20, 8] := by intro q; rw [if_pos q] at hc; exact absurd hc (by decide)
  clear hc
  refine ax_aload_n dX10_kindHere_20 rfl ?_
  refine ax_iconst (v := 3) dX10_kindHere_21 (by decide) ?_
  refine ax_iconst (v := 1) dX10_kindHere_22 (by decide) ?_
  refine ax_bipush (v := 18) dX10_kindHere_23 (by decide) ?_
  refine ax_iconst (v := 0) dX10_kindHere_25 (by decide) ?_
  refine ax_iconst (v := 0) dX10_kindHere_26 (by decide) ?_
  refine ax_iconst (v := 0) dX10_kindHere_27 (by decide) ?_
  refine ax_callV (As := _) (d2 := _) (c1 := 0) (n1 := 0) (c_X10_isWord1 (M := M1) hs1 h11 _ (⟨⟨by decide, by decide⟩, by decide⟩ : tx_six 3 1 18 0 0 0 [3, 1, 18])) dX10_kindHere_28 mX10_isWord wd_1799 acl_10 (lo_s hok 90 rfl) rfl (by omega) (by omega) (by omega) rfl rfl (fun _ _ h => by cases h.1) ?_
  rintro r M9 ⟨h1, h9⟩; cases h1; rw [h9]; clear h9 M9
  refine ax_if_eq (tgt := 36) dX10_kindHere_31 (by decide) (fun hc => ?_) (fun hc => ?_)
  rotate_left
  · have hy1 : tx_wd (tx_B M1) z a1 = [3, 1, 18] := by by_cases q : tx_wd (tx_B M1) z a1 = [3, 1, 18]; exact q; rw [if_neg q] at hc; exact absurd rfl hc
    refine ax_iconst (v := 1) dX10_kindHere_34 (by decide) ?_
    refine ax_iret dX10_kindHere_35 rfl ?_
    exact ⟨by rw [hy1]; rfl, hM1⟩
  have hn1 : ¬ tx_wd (tx_B M1) z a1 = [3, 1, 18] := by intro q; rw [if_pos q] at hc; exact absurd hc (by decide)
  clear hc
  refine ax_aload_n dX10_kindHere_36 rfl ?_
  refine ax_iconst (v := 3) dX10_kindHere_37 (by decide) ?_
  refine ax_bipush (v := 15) dX10_kindHere_38 (by decide) ?_
  refine ax_iconst (v := 1) dX10_kindHere_40 (by decide) ?_
  refine ax_bipush (v := 20) dX10_kindHere_41 (by decide) ?_
  refine ax_iconst (v := 0) dX10_kindHere_43 (by decide) ?_
  refine ax_iconst (v := 0) dX10_kindHere_44 (by decide) ?_
  refine ax_callV (As := _) (d2 := _) (c1 := 0) (n1 := 0) (c_X10_isWord1 (M := M1) hs1 h11 _ (⟨⟨by decide, by decide⟩, by decide⟩ : tx_six 3 15 1 20 0 0 [3, 15, 1, 20])) dX10_kindHere_45 mX10_isWord wd_1799 acl_10 (lo_s hok 90 rfl) rfl (by omega) (by omega) (by omega) rfl rfl (fun _ _ h => by cases h.1) ?_
  rintro r M9 ⟨h1, h9⟩; cases h1; rw [h9]; clear h9 M9
  refine ax_if_eq (tgt := 53) dX10_kindHere_48 (by decide) (fun hc => ?_) (fun hc => ?_)
  rotate_left
  · have hy2 : tx_wd (tx_B M1) z a1 = [3, 15, 1, 20] := by by_cases q : tx_wd (tx_B M1) z a1 = [3, 15, 1, 20]; exact q; rw [if_neg q] at hc; exact absurd rfl hc
    refine ax_iconst (v := 2) dX10_kindHere_51 (by decide) ?_
    refine ax_iret dX10_kindHere_52 rfl ?_
    exact ⟨by rw [hy2]; rfl, hM1⟩
  have hn2 : ¬ tx_wd (tx_B M1) z a1 = [3, 15, 1, 20] := by intro q; rw [if_pos q] at hc; exact absurd hc (by decide)
  clear hc
  refine ax_aload_n dX10_kindHere_53 rfl ?_
  refine ax_iconst (v := 2) dX10_kindHere_54 (by decide) ?_
  refine ax_iconst (v := 5) dX10_kindHere_55 (by decide) ?_
  refine ax_bipush (v := 14) dX10_kindHere_56 (by decide) ?_
  refine ax_iconst (v := 4) dX10_kindHere_58 (by decide) ?_
  refine ax_iconst (v := 0) dX10_kindHere_59 (by decide) ?_
  refine ax_iconst (v := 0) dX10_kindHere_60 (by decide) ?_
  refine ax_callV (As := _) (d2 := _) (c1 := 0) (n1 := 0) (c_X10_isWord1 (M := M1) hs1 h11 _ (⟨⟨by decide, by decide⟩, by decide⟩ : tx_six 2 5 14 4 0 0 [2, 5, 14, 4])) dX10_kindHere_61 mX10_isWord wd_1799 acl_10 (lo_s hok 90 rfl) rfl (by omega) (by omega) (by omega) rfl rfl (fun _ _ h => by cases h.1) ?_
  rintro r M9 ⟨h1, h9⟩; cases h1; rw [h9]; clear h9 M9
  refine ax_if_eq (tgt := 69) dX10_kindHere_64 (by decide) (fun hc => ?_) (fun hc => ?_)
  rotate_left
  · have hy3 : tx_wd (tx_B M1) z a1 = [2, 5, 14, 4] := by by_cases q : tx_wd (tx_B M1) z a1 = [2, 5, 14, 4]; exact q; rw [if_neg q] at hc; exact absurd rfl hc
    refine ax_iconst (v := 3) dX10_kindHere_67 (by decide) ?_
    refine ax_iret dX10_kindHere_68 rfl ?_
    exact ⟨by rw [hy3]; rfl, hM1⟩
  have hn3 : ¬ tx_wd (tx_B M1) z a1 = [2, 5, 14, 4] := by intro q; rw [if_pos q] at hc; exact absurd hc (by decide)
  clear hc
  refine ax_aload_n dX10_kindHere_69 rfl ?_
  refine ax_bipush (v := 23) dX10_kindHere_70 (by decide) ?_
  refine ax_iconst (v := 5) dX10_kindHere_72 (by decide) ?_
  refine ax_bipush (v := 20) dX10_kindHere_73 (by decide) ?_
  refine ax_iconst (v := 0) dX10_kindHere_75 (by decide) ?_
  refine ax_iconst (v := 0) dX10_kindHere_76 (by decide) ?_
  refine ax_iconst (v := 0) dX10_kindHere_77 (by decide) ?_
  refine ax_callV (As := _) (d2 := _) (c1 := 0) (n1 := 0) (c_X10_isWord1 (M := M1) hs1 h11 _ (⟨⟨by decide, by decide⟩, by decide⟩ : tx_six 23 5 20 0 0 0 [23, 5, 20])) dX10_kindHere_78 mX10_isWord wd_1799 acl_10 (lo_s hok 90 rfl) rfl (by omega) (by omega) (by omega) rfl rfl (fun _ _ h => by cases h.1) ?_
  rintro r M9 ⟨h1, h9⟩; cases h1; rw [h9]; clear h9 M9
  refine ax_if_eq (tgt := 86) dX10_kindHere_81 (by decide) (fun hc => ?_) (fun hc => ?_)
  rotate_left
  · have hy4 : tx_wd (tx_B M1) z a1 = [23, 5, 20] := by by_cases q : tx_wd (tx_B M1) z a1 = [23, 5, 20]; exact q; rw [if_neg q] at hc; exact absurd rfl hc
    refine ax_iconst (v := 4) dX10_kindHere_84 (by decide) ?_
    refine ax_iret dX10_kindHere_85 rfl ?_
    exact ⟨by rw [hy4]; rfl, hM1⟩
  have hn4 : ¬ tx_wd (tx_B M1) z a1 = [23, 5, 20] := by intro q; rw [if_pos q] at hc; exact absurd hc (by decide)
  clear hc
  refine ax_aload_n dX10_kindHere_86 rfl ?_
  refine ax_bipush (v := 18) dX10_kindHere_87 (by decide) ?_
  refine ax_iconst (v := 5) dX10_kindHere_89 (by decide) ?_
  refine ax_iconst (v := 1) dX10_kindHere_90 (by decide) ?_
  refine ax_iconst (v := 3) dX10_kindHere_91 (by decide) ?_
  refine ax_bipush (v := 8) dX10_kindHere_92 (by decide) ?_
  refine ax_iconst (v := 0) dX10_kindHere_94 (by decide) ?_
  refine ax_callV (As := _) (d2 := _) (c1 := 0) (n1 := 0) (c_X10_isWord1 (M := M1) hs1 h11 _ (⟨⟨by decide, by decide⟩, by decide⟩ : tx_six 18 5 1 3 8 0 [18, 5, 1, 3, 8])) dX10_kindHere_95 mX10_isWord wd_1799 acl_10 (lo_s hok 90 rfl) rfl (by omega) (by omega) (by omega) rfl rfl (fun _ _ h => by cases h.1) ?_
  rintro r M9 ⟨h1, h9⟩; cases h1; rw [h9]; clear h9 M9
  refine ax_if_eq (tgt := 103) dX10_kindHere_98 (by decide) (fun hc => ?_) (fun hc => ?_)
  rotate_left
  · have hy5 : tx_wd (tx_B M1) z a1 = [18, 5, 1, 3, 8] := by by_cases q : tx_wd (tx_B M1) z a1 = [18, 5, 1, 3, 8]; exact q; rw [if_neg q] at hc; exact absurd rfl hc
    refine ax_iconst (v := 5) dX10_kindHere_101 (by decide) ?_
    refine ax_iret dX10_kindHere_102 rfl ?_
    exact ⟨by rw [hy5]; rfl, hM1⟩
  have hn5 : ¬ tx_wd (tx_B M1) z a1 = [18, 5, 1, 3, 8] := by intro q; rw [if_pos q] at hc; exact absurd hc (by decide)
  clear hc
  refine ax_aload_n dX10_kindHere_103 rfl ?_
  refine ax_bipush (v := 6) dX10_kindHere_104 (by decide) ?_
  refine ax_bipush (v := 15) dX10_kindHere_106 (by decide) ?_
  refine ax_bipush (v := 7) dX10_kindHere_108 (by decide) ?_
  refine ax_iconst (v := 0) dX10_kindHere_110 (by decide) ?_
  refine ax_iconst (v := 0) dX10_kindHere_111 (by decide) ?_
  refine ax_iconst (v := 0) dX10_kindHere_112 (by decide) ?_
  refine ax_callV (As := _) (d2 := _) (c1 := 0) (n1 := 0) (c_X10_isWord1 (M := M1) hs1 h11 _ (⟨⟨by decide, by decide⟩, by decide⟩ : tx_six 6 15 7 0 0 0 [6, 15, 7])) dX10_kindHere_113 mX10_isWord wd_1799 acl_10 (lo_s hok 90 rfl) rfl (by omega) (by omega) (by omega) rfl rfl (fun _ _ h => by cases h.1) ?_
  rintro r M9 ⟨h1, h9⟩; cases h1; rw [h9]; clear h9 M9
  refine ax_if_eq (tgt := 122) dX10_kindHere_116 (by decide) (fun hc => ?_) (fun hc => ?_)
  rotate_left
  · have hy6 : tx_wd (tx_B M1) z a1 = [6, 15, 7] := by by_cases q : tx_wd (tx_B M1) z a1 = [6, 15, 7]; exact q; rw [if_neg q] at hc; exact absurd rfl hc
    refine ax_bipush (v := 6) dX10_kindHere_119 (by decide) ?_
    refine ax_iret dX10_kindHere_121 rfl ?_
    exact ⟨by rw [hy6]; rfl, hM1⟩
  have hn6 : ¬ tx_wd (tx_B M1) z a1 = [6, 15, 7] := by intro q; rw [if_pos q] at hc; exact absurd hc (by decide)
  clear hc
  refine ax_aload_n dX10_kindHere_122 rfl ?_
  refine ax_iconst (v := 2) dX10_kindHere_123 (by decide) ?_
  refine ax_bipush (v := 12) dX10_kindHere_124 (by decide) ?_
  refine ax_bipush (v := 9) dX10_kindHere_126 (by decide) ?_
  refine ax_bipush (v := 14) dX10_kindHere_128 (by decide) ?_
  refine ax_iconst (v := 4) dX10_kindHere_130 (by decide) ?_
  refine ax_iconst (v := 0) dX10_kindHere_131 (by decide) ?_
  refine ax_callV (As := _) (d2 := _) (c1 := 0) (n1 := 0) (c_X10_isWord1 (M := M1) hs1 h11 _ (⟨⟨by decide, by decide⟩, by decide⟩ : tx_six 2 12 9 14 4 0 [2, 12, 9, 14, 4])) dX10_kindHere_132 mX10_isWord wd_1799 acl_10 (lo_s hok 90 rfl) rfl (by omega) (by omega) (by omega) rfl rfl (fun _ _ h => by cases h.1) ?_
  rintro r M9 ⟨h1, h9⟩; cases h1; rw [h9]; clear h9 M9
  refine ax_if_eq (tgt := 143) dX10_kindHere_135 (by decide) (fun hc => ?_) (fun hc => ?_)
  rotate_left
  · have hy7 : tx_wd (tx_B M1) z a1 = [2, 12, 9, 14, 4] := by by_cases q : tx_wd (tx_B M1) z a1 = [2, 12, 9, 14, 4]; exact q; rw [if_neg q] at hc; exact absurd rfl hc
    refine ax_bipush (v := 7) dX10_kindHere_138 (by decide) ?_
    refine ax_goto (tgt := 144) dX10_kindHere_140 (by decide) ?_
    refine ax_iret dX10_kindHere_144 rfl ?_
    exact ⟨by rw [hy7]; rfl, hM1⟩
  · have hn7 : ¬ tx_wd (tx_B M1) z a1 = [2, 12, 9, 14, 4] := by intro q; rw [if_pos q] at hc; exact absurd hc (by decide)
    refine ax_iconst (v := (-1)) dX10_kindHere_143 (by decide) ?_
    refine ax_iret dX10_kindHere_144 rfl ?_
    exact ⟨by simp only [tx_ix, tx_kinds, if_neg hn0, if_neg hn1, if_neg hn2, if_neg hn3, if_neg hn4, if_neg hn5, if_neg hn6, if_neg hn7], hM1⟩
set_option maxHeartbeats 2000000 in
theorem c_X10_knownHere {z a : Nat} (hs : tx_st M z a) (h11 : tx_sk (tx_B M) z a = a) : ax_Met l G kX10_knownHere 5 0 0 M [av_r 90] (fun o M2 => o = .inl (some (av_i (tx_ix (tx_wd (tx_B M) z a) tx_knowns 0))) ∧ M2 = ax_pI M 90 4 (nI (if tx_wd (tx_B M) z a ∈ tx_knowns then a + (tx_wd (tx_B M) z a).length else a))) := by
  have hok := hs.1
  refine ax_body (by decide) (Nat.le_of_ble_eq_true rfl) ?_
  refine ax_aload_n dX10_knownHere_0 rfl ?_
  refine ax_bipush (v := 18) dX10_knownHere_1 (by decide) ?_
  refine ax_iconst (v := 5) dX10_knownHere_3 (by decide) ?_
  refine ax_iconst (v := 1) dX10_knownHere_4 (by decide) ?_
  refine ax_iconst (v := 3) dX10_knownHere_5 (by decide) ?_
  refine ax_bipush (v := 8) dX10_knownHere_6 (by decide) ?_
  refine ax_iconst (v := 0) dX10_knownHere_8 (by decide) ?_
  refine ax_callV (As := _) (d2 := _) (c1 := 0) (n1 := 0) (c_X10_takes1 (M := M) hs h11 _ (⟨⟨by decide, by decide⟩, by decide⟩ : tx_six 18 5 1 3 8 0 [18, 5, 1, 3, 8])) dX10_knownHere_9 mX10_takes wd_1877 acl_10 (lo_s hok 90 rfl) rfl (by omega) (by omega) (by omega) rfl rfl (fun _ _ h => by cases h.1) ?_
  rintro r M1 ⟨h1, hM1⟩; cases h1
  have hok1 : lo_ok M1.2 := by rw [hM1]; exact hok
  refine ax_if_eq (tgt := 17) dX10_knownHere_12 (by decide) (fun hc => ?_) (fun hc => ?_)
  rotate_left
  · have hy : tx_wd (tx_B M) z a = [18, 5, 1, 3, 8] := by by_cases q : tx_wd (tx_B M) z a = [18, 5, 1, 3, 8]; exact q; rw [if_neg q] at hc; exact absurd rfl hc
    rw [if_pos hy] at hM1
    refine ax_iconst (v := 0) dX10_knownHere_15 (by decide) ?_
    refine ax_iret dX10_knownHere_16 rfl ?_
    exact ⟨by rw [hy]; rfl, by rw [hM1, hy, if_pos (by decide)]⟩
  have hn0 : ¬ tx_wd (tx_B M) z a = [18, 5, 1, 3, 8] := by intro q; rw [if_pos q] at hc; exact absurd hc (by decide)
  rw [if_neg hn0, ax_pid hs.2.2.1] at hM1
  rw [hM1]
  clear hc hM1 hok1
  refine ax_aload_n dX10_knownHere_17 rfl ?_
  refine ax_bipush (v := 6) dX10_knownHere_18 (by decide) ?_
  refine ax_bipush (v := 15) dX10_knownHere_20 (by decide) ?_
  refine ax_bipush (v := 7) dX10_knownHere_22 (by decide) ?_
  refine ax_iconst (v := 0) dX10_knownHere_24 (by decide) ?_
  refine ax_iconst (v := 0) dX10_knownHere_25 (by decide) ?_
  refine ax_iconst (v := 0) dX10_knownHere_26 (by decide) ?_
  refine ax_callV (As := _) (d2 := _) (c1 := 0) (n1 := 0) (c_X10_takes1 (M := M) hs h11 _ (⟨⟨by decide, by decide⟩, by decide⟩ : tx_six 6 15 7 0 0 0 [6, 15, 7])) dX10_knownHere_27 mX10_takes wd_1877 acl_10 (lo_s hok 90 rfl) rfl (by omega) (by omega) (by omega) rfl rfl (fun _ _ h => by cases h.1) ?_
  rintro r M1 ⟨h1, hM1⟩; cases h1
  have hok1 : lo_ok M1.2 := by rw [hM1]; exact hok
  refine ax_if_eq (tgt := 35) dX10_knownHere_30 (by decide) (fun hc => ?_) (fun hc => ?_)
  rotate_left
  · have hy : tx_wd (tx_B M) z a = [6, 15, 7] := by by_cases q : tx_wd (tx_B M) z a = [6, 15, 7]; exact q; rw [if_neg q] at hc; exact absurd rfl hc
    rw [if_pos hy] at hM1
    refine ax_iconst (v := 1) dX10_knownHere_33 (by decide) ?_
    refine ax_iret dX10_knownHere_34 rfl ?_
    exact ⟨by rw [hy]; rfl, by rw [hM1, hy, if_pos (by decide)]⟩
  have hn1 : ¬ tx_wd (tx_B M) z a = [6, 15, 7] := by intro q; rw [if_pos q] at hc; exact absurd hc (by decide)
  rw [if_neg hn1, ax_pid hs.2.2.1] at hM1
  rw [hM1]
  clear hc hM1 hok1
  refine ax_aload_n dX10_knownHere_35 rfl ?_
  refine ax_iconst (v := 2) dX10_knownHere_36 (by decide) ?_
  refine ax_bipush (v := 12) dX10_knownHere_37 (by decide) ?_
  refine ax_bipush (v := 9) dX10_knownHere_39 (by decide) ?_
  refine ax_bipush (v := 14) dX10_knownHere_41 (by decide) ?_
  refine ax_iconst (v := 4) dX10_knownHere_43 (by decide) ?_
  refine ax_iconst (v := 0) dX10_knownHere_44 (by decide) ?_
  refine ax_callV (As := _) (d2 := _) (c1 := 0) (n1 := 0) (c_X10_takes1 (M := M) hs h11 _ (⟨⟨by decide, by decide⟩, by decide⟩ : tx_six 2 12 9 14 4 0 [2, 12, 9, 14, 4])) dX10_knownHere_45 mX10_takes wd_1877 acl_10 (lo_s hok 90 rfl) rfl (by omega) (by omega) (by omega) rfl rfl (fun _ _ h => by cases h.1) ?_
  rintro r M1 ⟨h1, hM1⟩; cases h1
  have hok1 : lo_ok M1.2 := by rw [hM1]; exact hok
  refine ax_if_eq (tgt := 53) dX10_knownHere_48 (by decide) (fun hc => ?_) (fun hc => ?_)
  rotate_left
  · have hy : tx_wd (tx_B M) z a = [2, 12, 9, 14, 4] := by by_cases q : tx_wd (tx_B M) z a = [2, 12, 9, 14, 4]; exact q; rw [if_neg q] at hc; exact absurd rfl hc
    rw [if_pos hy] at hM1
    refine ax_iconst (v := 2) dX10_knownHere_51 (by decide) ?_
    refine ax_iret dX10_knownHere_52 rfl ?_
    exact ⟨by rw [hy]; rfl, by rw [hM1, hy, if_pos (by decide)]⟩
  have hn2 : ¬ tx_wd (tx_B M) z a = [2, 12, 9, 14, 4] := by intro q; rw [if_pos q] at hc; exact absurd hc (by decide)
  rw [if_neg hn2, ax_pid hs.2.2.1] at hM1
  rw [hM1]
  clear hc hM1 hok1
  refine ax_aload_n dX10_knownHere_53 rfl ?_
  refine ax_iconst (v := 1) dX10_knownHere_54 (by decide) ?_
  refine ax_bipush (v := 7) dX10_knownHere_55 (by decide) ?_
  refine ax_iconst (v := 5) dX10_knownHere_57 (by decide) ?_
  refine ax_iconst (v := 0) dX10_knownHere_58 (by decide) ?_
  refine ax_iconst (v := 0) dX10_knownHere_59 (by decide) ?_
  refine ax_iconst (v := 0) dX10_knownHere_60 (by decide) ?_
  refine ax_callV (As := _) (d2 := _) (c1 := 0) (n1 := 0) (c_X10_takes1 (M := M) hs h11 _ (⟨⟨by decide, by decide⟩, by decide⟩ : tx_six 1 7 5 0 0 0 [1, 7, 5])) dX10_knownHere_61 mX10_takes wd_1877 acl_10 (lo_s hok 90 rfl) rfl (by omega) (by omega) (by omega) rfl rfl (fun _ _ h => by cases h.1) ?_
  rintro r M1 ⟨h1, hM1⟩; cases h1
  have hok1 : lo_ok M1.2 := by rw [hM1]; exact hok
  refine ax_if_eq (tgt := 69) dX10_knownHere_64 (by decide) (fun hc => ?_) (fun hc => ?_)
  rotate_left
  · have hy : tx_wd (tx_B M) z a = [1, 7, 5] := by by_cases q : tx_wd (tx_B M) z a = [1, 7, 5]; exact q; rw [if_neg q] at hc; exact absurd rfl hc
    rw [if_pos hy] at hM1
    refine ax_iconst (v := 3) dX10_knownHere_67 (by decide) ?_
    refine ax_iret dX10_knownHere_68 rfl ?_
    exact ⟨by rw [hy]; rfl, by rw [hM1, hy, if_pos (by decide)]⟩
  have hn3 : ¬ tx_wd (tx_B M) z a = [1, 7, 5] := by intro q; rw [if_pos q] at hc; exact absurd hc (by decide)
  rw [if_neg hn3, ax_pid hs.2.2.1] at hM1
  rw [hM1]
  clear hc hM1 hok1
  refine ax_aload_n dX10_knownHere_69 rfl ?_
  refine ax_bipush (v := 23) dX10_knownHere_70 (by decide) ?_
  refine ax_iconst (v := 5) dX10_knownHere_72 (by decide) ?_
  refine ax_bipush (v := 20) dX10_knownHere_73 (by decide) ?_
  refine ax_iconst (v := 0) dX10_knownHere_75 (by decide) ?_
  refine ax_iconst (v := 0) dX10_knownHere_76 (by decide) ?_
  refine ax_iconst (v := 0) dX10_knownHere_77 (by decide) ?_
  refine ax_callV (As := _) (d2 := _) (c1 := 0) (n1 := 0) (c_X10_takes1 (M := M) hs h11 _ (⟨⟨by decide, by decide⟩, by decide⟩ : tx_six 23 5 20 0 0 0 [23, 5, 20])) dX10_knownHere_78 mX10_takes wd_1877 acl_10 (lo_s hok 90 rfl) rfl (by omega) (by omega) (by omega) rfl rfl (fun _ _ h => by cases h.1) ?_
  rintro r M1 ⟨h1, hM1⟩; cases h1
  have hok1 : lo_ok M1.2 := by rw [hM1]; exact hok
  refine ax_if_eq (tgt := 86) dX10_knownHere_81 (by decide) (fun hc => ?_) (fun hc => ?_)
  rotate_left
  · have hy : tx_wd (tx_B M) z a = [23, 5, 20] := by by_cases q : tx_wd (tx_B M) z a = [23, 5, 20]; exact q; rw [if_neg q] at hc; exact absurd rfl hc
    rw [if_pos hy] at hM1
    refine ax_iconst (v := 4) dX10_knownHere_84 (by decide) ?_
    refine ax_iret dX10_knownHere_85 rfl ?_
    exact ⟨by rw [hy]; rfl, by rw [hM1, hy, if_pos (by decide)]⟩
  have hn4 : ¬ tx_wd (tx_B M) z a = [23, 5, 20] := by intro q; rw [if_pos q] at hc; exact absurd hc (by decide)
  rw [if_neg hn4, ax_pid hs.2.2.1] at hM1
  rw [hM1]
  clear hc hM1 hok1
  refine ax_aload_n dX10_knownHere_86 rfl ?_
  refine ax_bipush (v := 20) dX10_knownHere_87 (by decide) ?_
  refine ax_bipush (v := 9) dX10_knownHere_89 (by decide) ?_
  refine ax_bipush (v := 12) dX10_knownHere_91 (by decide) ?_
  refine ax_bipush (v := 20) dX10_knownHere_93 (by decide) ?_
  refine ax_iconst (v := 0) dX10_knownHere_95 (by decide) ?_
  refine ax_iconst (v := 0) dX10_knownHere_96 (by decide) ?_
  refine ax_callV (As := _) (d2 := _) (c1 := 0) (n1 := 0) (c_X10_takes1 (M := M) hs h11 _ (⟨⟨by decide, by decide⟩, by decide⟩ : tx_six 20 9 12 20 0 0 [20, 9, 12, 20])) dX10_knownHere_97 mX10_takes wd_1877 acl_10 (lo_s hok 90 rfl) rfl (by omega) (by omega) (by omega) rfl rfl (fun _ _ h => by cases h.1) ?_
  rintro r M1 ⟨h1, hM1⟩; cases h1
  have hok1 : lo_ok M1.2 := by rw [hM1]; exact hok
  refine ax_if_eq (tgt := 105) dX10_knownHere_100 (by decide) (fun hc => ?_) (fun hc => ?_)
  rotate_left
  · have hy : tx_wd (tx_B M) z a = [20, 9, 12, 20] := by by_cases q : tx_wd (tx_B M) z a = [20, 9, 12, 20]; exact q; rw [if_neg q] at hc; exact absurd rfl hc
    rw [if_pos hy] at hM1
    refine ax_iconst (v := 5) dX10_knownHere_103 (by decide) ?_
    refine ax_iret dX10_knownHere_104 rfl ?_
    exact ⟨by rw [hy]; rfl, by rw [hM1, hy, if_pos (by decide)]⟩
  have hn5 : ¬ tx_wd (tx_B M) z a = [20, 9, 12, 20] := by intro q; rw [if_pos q] at hc; exact absurd hc (by decide)
  rw [if_neg hn5, ax_pid hs.2.2.1] at hM1
  rw [hM1]
  clear hc hM1 hok1
  refine ax_aload_n dX10_knownHere_105 rfl ?_
  refine ax_bipush (v := 16) dX10_knownHere_106 (by decide) ?_
  refine ax_iconst (v := 1) dX10_knownHere_108 (by decide) ?_
  refine ax_iconst (v := 3) dX10_knownHere_109 (by decide) ?_
  refine ax_iconst (v := 5) dX10_knownHere_110 (by decide) ?_
  refine ax_iconst (v := 0) dX10_knownHere_111 (by decide) ?_
  refine ax_iconst (v := 0) dX10_knownHere_112 (by decide) ?_
  refine ax_callV (As := _) (d2 := _) (c1 := 0) (n1 := 0) (c_X10_takes1 (M := M) hs h11 _ (⟨⟨by decide, by decide⟩, by decide⟩ : tx_six 16 1 3 5 0 0 [16, 1, 3, 5])) dX10_knownHere_113 mX10_takes wd_1877 acl_10 (lo_s hok 90 rfl) rfl (by omega) (by omega) (by omega) rfl rfl (fun _ _ h => by cases h.1) ?_
  rintro r M1 ⟨h1, hM1⟩; cases h1
  have hok1 : lo_ok M1.2 := by rw [hM1]; exact hok
  refine ax_if_eq (tgt := 122) dX10_knownHere_116 (by decide) (fun hc => ?_) (fun hc => ?_)
  rotate_left
  · have hy : tx_wd (tx_B M) z a = [16, 1, 3, 5] := by by_cases q : tx_wd (tx_B M) z a = [16, 1, 3, 5]; exact q; rw [if_neg q] at hc; exact absurd rfl hc
    rw [if_pos hy] at hM1
    refine ax_bipush (v := 6) dX10_knownHere_119 (by decide) ?_
    refine ax_iret dX10_knownHere_121 rfl ?_
    exact ⟨by rw [hy]; rfl, by rw [hM1, hy, if_pos (by decide)]⟩
  have hn6 : ¬ tx_wd (tx_B M) z a = [16, 1, 3, 5] := by intro q; rw [if_pos q] at hc; exact absurd hc (by decide)
  rw [if_neg hn6, ax_pid hs.2.2.1] at hM1
  rw [hM1]
  clear hc hM1 hok1
  refine ax_aload_n dX10_knownHere_122 rfl ?_
  refine ax_bipush (v := 20) dX10_knownHere_123 (by decide) ?_
  refine ax_iconst (v := 5) dX10_knownHere_125 (by decide) ?_
  refine ax_bipush (v := 14) dX10_knownHere_126 (by decide) ?_
  refine ax_bipush (v := 20) dX10_knownHere_128 (by decide) ?_
  refine ax_bipush (v := 8) dX10_knownHere_130 (by decide) ?_
  refine ax_iconst (v := 0) dX10_knownHere_132 (by decide) ?_
  refine ax_callV (As := _) (d2 := _) (c1 := 0) (n1 := 0) (c_X10_takes1 (M := M) hs h11 _ (⟨⟨by decide, by decide⟩, by decide⟩ : tx_six 20 5 14 20 8 0 [20, 5, 14, 20, 8])) dX10_knownHere_133 mX10_takes wd_1877 acl_10 (lo_s hok 90 rfl) rfl (by omega) (by omega) (by omega) rfl rfl (fun _ _ h => by cases h.1) ?_
  rintro r M1 ⟨h1, hM1⟩; cases h1
  have hok1 : lo_ok M1.2 := by rw [hM1]; exact hok
  refine ax_if_eq (tgt := 142) dX10_knownHere_136 (by decide) (fun hc => ?_) (fun hc => ?_)
  rotate_left
  · have hy : tx_wd (tx_B M) z a = [20, 5, 14, 20, 8] := by by_cases q : tx_wd (tx_B M) z a = [20, 5, 14, 20, 8]; exact q; rw [if_neg q] at hc; exact absurd rfl hc
    rw [if_pos hy] at hM1
    refine ax_bipush (v := 7) dX10_knownHere_139 (by decide) ?_
    refine ax_iret dX10_knownHere_141 rfl ?_
    exact ⟨by rw [hy]; rfl, by rw [hM1, hy, if_pos (by decide)]⟩
  have hn7 : ¬ tx_wd (tx_B M) z a = [20, 5, 14, 20, 8] := by intro q; rw [if_pos q] at hc; exact absurd hc (by decide)
  rw [if_neg hn7, ax_pid hs.2.2.1] at hM1
  rw [hM1]
  clear hc hM1 hok1
  refine ax_aload_n dX10_knownHere_142 rfl ?_
  refine ax_bipush (v := 6) dX10_knownHere_143 (by decide) ?_
  refine ax_iconst (v := 1) dX10_knownHere_145 (by decide) ?_
  refine ax_bipush (v := 18) dX10_knownHere_146 (by decide) ?_
  refine ax_iconst (v := 0) dX10_knownHere_148 (by decide) ?_
  refine ax_iconst (v := 0) dX10_knownHere_149 (by decide) ?_
  refine ax_iconst (v := 0) dX10_knownHere_150 (by decide) ?_
  refine ax_callV (As := _) (d2 := _) (c1 := 0) (n1 := 0) (c_X10_takes1 (M := M) hs h11 _ (⟨⟨by decide, by decide⟩, by decide⟩ : tx_six 6 1 18 0 0 0 [6, 1, 18])) dX10_knownHere_151 mX10_takes wd_1877 acl_10 (lo_s hok 90 rfl) rfl (by omega) (by omega) (by omega) rfl rfl (fun _ _ h => by cases h.1) ?_
  rintro r M1 ⟨h1, hM1⟩; cases h1
  have hok1 : lo_ok M1.2 := by rw [hM1]; exact hok
  refine ax_if_eq (tgt := 160) dX10_knownHere_154 (by decide) (fun hc => ?_) (fun hc => ?_)
  rotate_left
  · have hy : tx_wd (tx_B M) z a = [6, 1, 18] := by by_cases q : tx_wd (tx_B M) z a = [6, 1, 18]; exact q; rw [if_neg q] at hc; exact absurd rfl hc
    rw [if_pos hy] at hM1
    refine ax_bipush (v := 8) dX10_knownHere_157 (by decide) ?_
    refine ax_iret dX10_knownHere_159 rfl ?_
    exact ⟨by rw [hy]; rfl, by rw [hM1, hy, if_pos (by decide)]⟩
  have hn8 : ¬ tx_wd (tx_B M) z a = [6, 1, 18] := by intro q; rw [if_pos q] at hc; exact absurd hc (by decide)
  rw [if_neg hn8, ax_pid hs.2.2.1] at hM1
  rw [hM1]
  clear hc hM1 hok1
  refine ax_aload_n dX10_knownHere_160 rfl ?_
  refine ax_bipush (v := 13) dX10_knownHere_161 (by decide) ?_
  refine ax_iconst (v := 5) dX10_knownHere_163 (by decide) ?_
  refine ax_bipush (v := 20) dX10_knownHere_164 (by decide) ?_
  refine ax_iconst (v := 0) dX10_knownHere_166 (by decide) ?_
  refine ax_iconst (v := 0) dX10_knownHere_167 (by decide) ?_
  refine ax_iconst (v := 0) dX10_knownHere_168 (by decide) ?_
  refine ax_callV (As := _) (d2 := _) (c1 := 0) (n1 := 0) (c_X10_takes1 (M := M) hs h11 _ (⟨⟨by decide, by decide⟩, by decide⟩ : tx_six 13 5 20 0 0 0 [13, 5, 20])) dX10_knownHere_169 mX10_takes wd_1877 acl_10 (lo_s hok 90 rfl) rfl (by omega) (by omega) (by omega) rfl rfl (fun _ _ h => by cases h.1) ?_
  rintro r M1 ⟨h1, hM1⟩; cases h1
  have hok1 : lo_ok M1.2 := by rw [hM1]; exact hok
  refine ax_if_eq (tgt := 178) dX10_knownHere_172 (by decide) (fun hc => ?_) (fun hc => ?_)
  rotate_left
  · have hy : tx_wd (tx_B M) z a = [13, 5, 20] := by by_cases q : tx_wd (tx_B M) z a = [13, 5, 20]; exact q; rw [if_neg q] at hc; exact absurd rfl hc
    rw [if_pos hy] at hM1
    refine ax_bipush (v := 9) dX10_knownHere_175 (by decide) ?_
    refine ax_iret dX10_knownHere_177 rfl ?_
    exact ⟨by rw [hy]; rfl, by rw [hM1, hy, if_pos (by decide)]⟩
  have hn9 : ¬ tx_wd (tx_B M) z a = [13, 5, 20] := by intro q; rw [if_pos q] at hc; exact absurd hc (by decide)
  rw [if_neg hn9, ax_pid hs.2.2.1] at hM1
  rw [hM1]
  clear hc hM1 hok1
  refine ax_aload_n dX10_knownHere_178 rfl ?_
  refine ax_bipush (v := 15) dX10_knownHere_179 (by decide) ?_
  refine ax_bipush (v := 20) dX10_knownHere_181 (by decide) ?_
  refine ax_bipush (v := 8) dX10_knownHere_183 (by decide) ?_
  refine ax_iconst (v := 5) dX10_knownHere_185 (by decide) ?_
  refine ax_bipush (v := 18) dX10_knownHere_186 (by decide) ?_
  refine ax_iconst (v := 0) dX10_knownHere_188 (by decide) ?_
  refine ax_callV (As := _) (d2 := _) (c1 := 0) (n1 := 0) (c_X10_takes1 (M := M) hs h11 _ (⟨⟨by decide, by decide⟩, by decide⟩ : tx_six 15 20 8 5 18 0 [15, 20, 8, 5, 18])) dX10_knownHere_189 mX10_takes wd_1877 acl_10 (lo_s hok 90 rfl) rfl (by omega) (by omega) (by omega) rfl rfl (fun _ _ h => by cases h.1) ?_
  rintro r M1 ⟨h1, hM1⟩; cases h1
  have hok1 : lo_ok M1.2 := by rw [hM1]; exact hok
  refine ax_if_eq (tgt := 198) dX10_knownHere_192 (by decide) (fun hc => ?_) (fun hc => ?_)
  rotate_left
  · have hy : tx_wd (tx_B M) z a = [15, 20, 8, 5, 18] := by by_cases q : tx_wd (tx_B M) z a = [15, 20, 8, 5, 18]; exact q; rw [if_neg q] at hc; exact absurd rfl hc
    rw [if_pos hy] at hM1
    refine ax_bipush (v := 10) dX10_knownHere_195 (by decide) ?_
    refine ax_iret dX10_knownHere_197 rfl ?_
    exact ⟨by rw [hy]; rfl, by rw [hM1, hy, if_pos (by decide)]⟩
  have hn10 : ¬ tx_wd (tx_B M) z a = [15, 20, 8, 5, 18] := by intro q; rw [if_pos q] at hc; exact absurd hc (by decide)
  rw [if_neg hn10, ax_pid hs.2.2.1] at hM1
  rw [hM1]
  clear hc hM1 hok1
  refine ax_aload_n dX10_knownHere_198 rfl ?_
  refine ax_bipush (v := 13) dX10_knownHere_199 (by decide) ?_
  refine ax_bipush (v := 9) dX10_knownHere_201 (by decide) ?_
  refine ax_bipush (v := 14) dX10_knownHere_203 (by decide) ?_
  refine ax_iconst (v := 5) dX10_knownHere_205 (by decide) ?_
  refine ax_iconst (v := 0) dX10_knownHere_206 (by decide) ?_
  refine ax_iconst (v := 0) dX10_knownHere_207 (by decide) ?_
  refine ax_callV (As := _) (d2 := _) (c1 := 0) (n1 := 0) (c_X10_takes1 (M := M) hs h11 _ (⟨⟨by decide, by decide⟩, by decide⟩ : tx_six 13 9 14 5 0 0 [13, 9, 14, 5])) dX10_knownHere_208 mX10_takes wd_1877 acl_10 (lo_s hok 90 rfl) rfl (by omega) (by omega) (by omega) rfl rfl (fun _ _ h => by cases h.1) ?_
  rintro r M1 ⟨h1, hM1⟩; cases h1
  have hok1 : lo_ok M1.2 := by rw [hM1]; exact hok
  refine ax_if_eq (tgt := 219) dX10_knownHere_211 (by decide) (fun hc => ?_) (fun hc => ?_)
  rotate_left
  · have hy : tx_wd (tx_B M) z a = [13, 9, 14, 5] := by by_cases q : tx_wd (tx_B M) z a = [13, 9, 14, 5]; exact q; rw [if_neg q] at hc; exact absurd rfl hc
    rw [if_pos hy] at hM1
    refine ax_bipush (v := 11) dX10_knownHere_214 (by decide) ?_
    refine ax_goto (tgt := 220) dX10_knownHere_216 (by decide) ?_
    refine ax_iret dX10_knownHere_220 rfl ?_
    exact ⟨by rw [hy]; rfl, by rw [hM1, hy, if_pos (by decide)]⟩
  · have hn11 : ¬ tx_wd (tx_B M) z a = [13, 9, 14, 5] := by intro q; rw [if_pos q] at hc; exact absurd hc (by decide)
    rw [if_neg hn11, ax_pid hs.2.2.1] at hM1
    rw [hM1]
    clear hc hM1 hok1
    refine ax_iconst (v := (-1)) dX10_knownHere_219 (by decide) ?_
    refine ax_iret dX10_knownHere_220 rfl ?_
    exact ⟨by simp only [tx_ix, tx_knowns, if_neg hn0, if_neg hn1, if_neg hn2, if_neg hn3, if_neg hn4, if_neg hn5, if_neg hn6, if_neg hn7, if_neg hn8, if_neg hn9, if_neg hn10, if_neg hn11], by rw [if_neg (by simp only [tx_knowns, List.mem_cons, List.not_mem_nil, or_false, not_or]; exact ⟨hn0, hn1, hn2, hn3, hn4, hn5, hn6, hn7, hn8, hn9, hn10, hn11⟩), ax_pid hs.2.2.1]⟩
end MZ

