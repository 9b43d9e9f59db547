/-! ===== constructors of the class ===== -/
theorem ic_alm {M A B : ax_M} {a off : Nat} {sh : List ((Nat × Nat) ⊕ Nat)} {rf : List (Nat × Nat × Nat)} {w : List (Nat × Nat × Int32)} {sh2 : List ((Nat × Nat) ⊕ Nat)} {rfn : Nat → Nat → Nat} {rf2 : List (Nat × Nat × Nat)} (h : ic M A a sh rf w) (e : B = ax_al A sh2 rfn) (hl : sh.length = off) (hw : w.all (fun q => decide (q.1 < sh.length + 1)) = true) (hr : rf.all (fun q => decide (q.1 < sh.length + 1)) = true) (h2 : ∀ q ∈ rf2, off < q.1 ∧ q.1 ≤ off + sh2.length ∧ rfn (q.1 - off) q.2.1 = a + q.2.2) : ic M B a (sh ++ sh2) (rf2 ++ rf) w := by subst hl; exact ic_al h e hw hr h2
def al3l (off N K : Nat) : List (Nat × Nat × Nat) := (List.range N).flatMap (fun i => (List.range K).map (fun j => (off + 2 + i * (1 + K), j, off + 3 + i * (1 + K) + j))) ++ (List.range N).map (fun i => (off + 1, i, off + 2 + i * (1 + K)))
theorem al2 (off N K a : Nat) : ∀ q ∈ (List.range N).map (fun j => (off + 1, j, off + 2 + j)), off < q.1 ∧ q.1 ≤ off + (sh2 N K).length ∧ rf2 (a + off) N (q.1 - off) q.2.1 = a + q.2.2 := by
  intro q hq
  obtain ⟨j, hj, rfl⟩ := List.mem_map.mp hq
  have hj2 := List.mem_range.mp hj
  refine ⟨by show off < off + 1; omega, by rw [sh2_len]; show off + 1 ≤ _; omega, ?_⟩
  show rf2 (a + off) N (off + 1 - off) j = a + (off + 2 + j)
  unfold rf2
  rw [if_pos ⟨by omega, hj2⟩]; omega
theorem al3 (off N K B a : Nat) : ∀ q ∈ al3l off N K, off < q.1 ∧ q.1 ≤ off + (sh3 N K B).length ∧ rf3 (a + off) N K (q.1 - off) q.2.1 = a + q.2.2 := by
  intro q hq
  rcases List.mem_append.mp hq with hq | hq
  · obtain ⟨i, hi, hq⟩ := List.mem_flatMap.mp hq
    obtain ⟨j, hj, rfl⟩ := List.mem_map.mp hq
    have hi2 := List.mem_range.mp hi
    have hj2 := List.mem_range.mp hj
    have hm : i * (1 + K) + (1 + K) ≤ N * (1 + K) := by
      have := Nat.mul_le_mul_right (1 + K) (show i + 1 ≤ N from hi2)
      rw [Nat.succ_mul] at this; exact this
    refine ⟨by show off < off + 2 + i * (1 + K); omega, by rw [sh3_len]; show off + 2 + i * (1 + K) ≤ _; omega, ?_⟩
    show rf3 (a + off) N K (off + 2 + i * (1 + K) - off) j = a + (off + 3 + i * (1 + K) + j)
    rw [show off + 2 + i * (1 + K) - off = i * (1 + K) + 2 by omega]
    unfold rf3
    rw [if_neg (show ¬ i * (1 + K) + 2 = 1 by omega), show i * (1 + K) + 2 - 2 = i * (1 + K) by omega, if_pos (Nat.mul_mod_left _ _), if_pos hj2]; omega
  · obtain ⟨i, hi, rfl⟩ := List.mem_map.mp hq
    have hi2 := List.mem_range.mp hi
    refine ⟨by show off < off + 1; omega, by rw [sh3_len]; show off + 1 ≤ _; omega, ?_⟩
    show rf3 (a + off) N K (off + 1 - off) i = a + (off + 2 + i * (1 + K))
    unfold rf3
    rw [if_pos (show off + 1 - off = 1 by omega), if_pos hi2]; omega
section X99h
variable {l : Launch} {G : ax_G} {M : ax_M}
def mk_ad (M : ax_M) (F k : Nat) (v : Int32) : ax_M := ax_pI (ax_pI M (F + 1) k v) F 1 (nI (k + 1))
def mk_ul (M : ax_M) (F : Nat) : ax_M := mk_ad (mk_ad (mk_ad (mk_ad (mk_ad (mk_ad (mk_ad (ax_pI M F 1 0) F 0 100) F 1 101) F 2 1) F 3 102) F 4 1001) F 5 0) F 6 3
def mk_ur (M : ax_M) (F : Nat) : ax_M := mk_ad (mk_ad (mk_ad (ax_pI M F 1 0) F 0 108) F 1 1012) F 2 1
def wul (i : Nat) : List (Nat × Nat × Int32) := [(i, 1, 7), (i + 1, 6, 3), (i, 1, 6), (i + 1, 5, 0), (i, 1, 5), (i + 1, 4, 1001), (i, 1, 4), (i + 1, 3, 102), (i, 1, 3), (i + 1, 2, 1), (i, 1, 2), (i + 1, 1, 101), (i, 1, 1), (i + 1, 0, 100), (i, 1, 0)]
def wur (i : Nat) : List (Nat × Nat × Int32) := [(i, 1, 3), (i + 1, 2, 1), (i, 1, 2), (i + 1, 1, 1012), (i, 1, 1), (i + 1, 0, 108), (i, 1, 0)]
theorem ic_ad {M A : ax_M} {a : Nat} {sh : List ((Nat × Nat) ⊕ Nat)} {rf : List (Nat × Nat × Nat)} {w : List (Nat × Nat × Int32)} (h : ic M A a sh rf w) (i k : Nat) (v : Int32) : ic M (mk_ad A (a + i) k v) a sh rf ((i, 1, nI (k + 1)) :: (i + 1, k, v) :: w) := ic_putI (ic_putI h rfl (by omega)) rfl rfl
theorem ic_ul {M A : ax_M} {a : Nat} {sh : List ((Nat × Nat) ⊕ Nat)} {rf : List (Nat × Nat × Nat)} {w : List (Nat × Nat × Int32)} (h : ic M A a sh rf w) (i : Nat) : ic M (mk_ul A (a + i)) a sh rf (wul i ++ w) := ic_ad (ic_ad (ic_ad (ic_ad (ic_ad (ic_ad (ic_ad (ic_putI h rfl rfl) i 0 100) i 1 101) i 2 1) i 3 102) i 4 1001) i 5 0) i 6 3
theorem ic_ur {M A : ax_M} {a : Nat} {sh : List ((Nat × Nat) ⊕ Nat)} {rf : List (Nat × Nat × Nat)} {w : List (Nat × Nat × Int32)} (h : ic M A a sh rf w) (i : Nat) : ic M (mk_ur A (a + i)) a sh rf (wur i ++ w) := ic_ad (ic_ad (ic_ad (ic_putI h rfl rfl) i 0 108) i 1 1012) i 2 1
/-- a formula's own cells, as far as adding needs them -/
def gF (M : ax_M) (F : Nat) : Prop := M.2.2.2.1 F = some (.inr 2) ∧ M.2.1 F 0 = F + 1 ∧ M.2.2.2.1 (F + 1) = some (.inl (0, 150))
theorem g_add {d k F : Nat} (hF : gF M F) (hk : M.1 F 1 = nI k) (hk2 : k < 150) (v : Int32) : ax_Met l G kX2_add d 0 0 M [av_r F, av_i v] (fun o M2 => o = .inl none ∧ M2 = mk_ad M F k v) := by
  obtain ⟨hs, hr, h1⟩ := hF
  refine ax_body (by decide) (Nat.le_of_ble_eq_true rfl) ?_
  refine ax_aload_n dX2_add_0 rfl ?_
  refine ax_getI (f := 1) dX2_add_1 acl_2 wd_340 (by decide) rfl hs ?_
  refine ax_aload_n dX2_add_4 rfl ?_
  refine ax_getR (f := 0) dX2_add_5 acl_2 wd_339 (by decide) rfl hs ?_
  rw [hr, hk]
  refine ax_alen dX2_add_8 h1 (by decide) ?_
  refine ax_icmp_ge (tgt := 32) dX2_add_9 (by decide) (fun hc => ?_) (fun hc => ?_)
  · have := (nI_leI (by omega) (by omega)).mp hc
    omega
  clear hc
  refine ax_aload_n dX2_add_12 rfl ?_
  refine ax_getR (f := 0) dX2_add_13 acl_2 wd_339 (by decide) rfl hs ?_
  refine ax_aload_n dX2_add_16 rfl ?_
  refine ax_getI (f := 1) dX2_add_17 acl_2 wd_340 (by decide) rfl hs ?_
  rw [hr, hk]
  refine ax_iload_n dX2_add_20 rfl ?_
  refine ax_iastN (k) dX2_add_21 (by first | assumption | exact lo_tz hok (by omega) (by omega) | exact lo_z_m_wet hok (by omega) | exact lo_z_m_readWet hok (by omega) | exact lo_z_m_law hok (by omega) | exact lo_z_m_book hok (by omega) | exact lo_z_m_readBook hok (by omega) | exact lo_z_m_before hok (by omega) | exact lo_z_m_kept hok (by omega) | exact lo_z_m_seenAt hok (by omega) | exact lo_z_m_seenIn hok (by omega) | exact lo_z_m_t0 hok (by omega) | exact lo_z_m_t1 hok (by omega) | exact lo_z_m_c0 hok (by omega) | exact lo_z_m_c1 hok (by omega) | exact lo_z_x_kept hok (by omega)) (by decide) (by first | with_reducible rfl | assumption | exact ax_nix (by simp only [nx_0, nx_1, nx_2, nx_3, nx_4, nx_10, nx_20, nx_21, nx_100, nI_add, pk_mul] <;> rfl) (by omega) | decide) (by omega) ?_
  refine ax_gen (fun M1 hM1 => ?_)
  have hs1 : M1.2.2.2.1 F = some (.inr 2) := by rw [hM1]; exact hs
  refine ax_aload_n dX2_add_22 rfl ?_
  refine ax_dup dX2_add_23 (by first | rfl | exact ax_crf _) ?_
  refine ax_getI (f := 1) dX2_add_24 acl_2 wd_340 (by decide) rfl hs1 ?_
  rw [hM1, ax_pn (by omega), hk, ← hM1]
  refine ax_iconst (v := 1) dX2_add_27 (by decide) ?_
  refine ax_iadd dX2_add_28 ?_
  rw [nI_1]
  refine ax_putI (f := 1) dX2_add_29 acl_2 wd_340 (by decide) rfl rfl (ax_nfI rfl) hs1 ?_
  refine ax_vret dX2_add_32 rfl ?_
  rw [hM1]
  exact ⟨rfl, rfl⟩
theorem g_becomeUsualLaw {F : Nat} (hF : gF M F) : ax_Met l G kX2_becomeUsualLaw 1 0 0 M [av_r F] (fun o M2 => o = .inl none ∧ M2 = mk_ul M F) := by
  refine ax_body (by decide) (Nat.le_of_ble_eq_true rfl) ?_
  refine ax_aload_n dX2_becomeUsualLaw_0 rfl ?_
  refine ax_iconst (v := 0) dX2_becomeUsualLaw_1 (by decide) ?_
  refine ax_putI (f := 1) dX2_becomeUsualLaw_2 acl_2 wd_340 (by decide) rfl rfl (ax_nfI rfl) hF.1 ?_
  refine ax_aload_n dX2_becomeUsualLaw_5 rfl ?_
  refine ax_bipush (v := 100) dX2_becomeUsualLaw_6 (by decide) ?_
  refine ax_callV (As := _) (d2 := _) (c1 := 0) (n1 := 0) (g_add (d := 0) (M := (ax_pI M F 1 0)) (k := 0) hF (ax_pa _ _ _ _) (by omega) 100) dX2_becomeUsualLaw_8 mX2_add wd_357 acl_2 hF.1 rfl (by omega) (by omega) (by omega) rfl rfl (fun _ _ h => by cases h.1) ?_
  rintro r9 _ ⟨q9, rfl⟩; cases q9
  refine ax_aload_n dX2_becomeUsualLaw_11 rfl ?_
  refine ax_bipush (v := 101) dX2_becomeUsualLaw_12 (by decide) ?_
  refine ax_callV (As := _) (d2 := _) (c1 := 0) (n1 := 0) (g_add (d := 0) (M := (mk_ad (ax_pI M F 1 0) F 0 100)) (k := 1) hF (ax_pa _ _ _ _) (by omega) 101) dX2_becomeUsualLaw_14 mX2_add wd_357 acl_2 hF.1 rfl (by omega) (by omega) (by omega) rfl rfl (fun _ _ h => by cases h.1) ?_
  rintro r9 _ ⟨q9, rfl⟩; cases q9
  refine ax_aload_n dX2_becomeUsualLaw_17 rfl ?_
  refine ax_iconst (v := 1) dX2_becomeUsualLaw_18 (by decide) ?_
  refine ax_callV (As := _) (d2 := _) (c1 := 0) (n1 := 0) (g_add (d := 0) (M := (mk_ad (mk_ad (ax_pI M F 1 0) F 0 100) F 1 101)) (k := 2) hF (ax_pa _ _ _ _) (by omega) 1) dX2_becomeUsualLaw_19 mX2_add wd_357 acl_2 hF.1 rfl (by omega) (by omega) (by omega) rfl rfl (fun _ _ h => by cases h.1) ?_
  rintro r9 _ ⟨q9, rfl⟩; cases q9
  refine ax_aload_n dX2_becomeUsualLaw_22 rfl ?_
  refine ax_bipush (v := 102) dX2_becomeUsualLaw_23 (by decide) ?_
  refine ax_callV (As := _) (d2 := _) (c1 := 0) (n1 := 0) (g_add (d := 0) (M := (mk_ad (mk_ad (mk_ad (ax_pI M F 1 0) F 0 100) F 1 101) F 2 1)) (k := 3) hF (ax_pa _ _ _ _) (by omega) 102) dX2_becomeUsualLaw_25 mX2_add wd_357 acl_2 hF.1 rfl (by omega) (by omega) (by omega) rfl rfl (fun _ _ h => by cases h.1) ?_
  rintro r9 _ ⟨q9, rfl⟩; cases q9
  refine ax_aload_n dX2_becomeUsualLaw_28 rfl ?_
  refine ax_sipush (v := 1001) dX2_becomeUsualLaw_29 (by decide) ?_
  refine ax_callV (As := _) (d2 := _) (c1 := 0) (n1 := 0) (g_add (d := 0) (M := (mk_ad (mk_ad (mk_ad (mk_ad (ax_pI M F 1 0) F 0 100) F 1 101) F 2 1) F 3 102)) (k := 4) hF (ax_pa _ _ _ _) (by omega) 1001) dX2_becomeUsualLaw_32 mX2_add wd_357 acl_2 hF.1 rfl (by omega) (by omega) (by omega) rfl rfl (fun _ _ h => by cases h.1) ?_
  rintro r9 _ ⟨q9, rfl⟩; cases q9
  refine ax_aload_n dX2_becomeUsualLaw_35 rfl ?_
  refine ax_iconst (v := 0) dX2_becomeUsualLaw_36 (by decide) ?_
  refine ax_callV (As := _) (d2 := _) (c1 := 0) (n1 := 0) (g_add (d := 0) (M := (mk_ad (mk_ad (mk_ad (mk_ad (mk_ad (ax_pI M F 1 0) F 0 100) F 1 101) F 2 1) F 3 102) F 4 1001)) (k := 5) hF (ax_pa _ _ _ _) (by omega) 0) dX2_becomeUsualLaw_37 mX2_add wd_357 acl_2 hF.1 rfl (by omega) (by omega) (by omega) rfl rfl (fun _ _ h => by cases h.1) ?_
  rintro r9 _ ⟨q9, rfl⟩; cases q9
  refine ax_aload_n dX2_becomeUsualLaw_40 rfl ?_
  refine ax_iconst (v := 3) dX2_becomeUsualLaw_41 (by decide) ?_
  refine ax_callV (As := _) (d2 := _) (c1 := 0) (n1 := 0) (g_add (d := 0) (M := (mk_ad (mk_ad (mk_ad (mk_ad (mk_ad (mk_ad (ax_pI M F 1 0) F 0 100) F 1 101) F 2 1) F 3 102) F 4 1001) F 5 0)) (k := 6) hF (ax_pa _ _ _ _) (by omega) 3) dX2_becomeUsualLaw_42 mX2_add wd_357 acl_2 hF.1 rfl (by omega) (by omega) (by omega) rfl rfl (fun _ _ h => by cases h.1) ?_
  rintro r9 _ ⟨q9, rfl⟩; cases q9
  refine ax_vret dX2_becomeUsualLaw_45 rfl ?_
  exact ⟨rfl, rfl⟩
theorem g_becomeUsualRule {F : Nat} (hF : gF M F) : ax_Met l G kX2_becomeUsualRule 1 0 0 M [av_r F] (fun o M2 => o = .inl none ∧ M2 = mk_ur M F) := by
  refine ax_body (by decide) (Nat.le_of_ble_eq_true rfl) ?_
  refine ax_aload_n dX2_becomeUsualRule_0 rfl ?_
  refine ax_iconst (v := 0) dX2_becomeUsualRule_1 (by decide) ?_
  refine ax_putI (f := 1) dX2_becomeUsualRule_2 acl_2 wd_340 (by decide) rfl rfl (ax_nfI rfl) hF.1 ?_
  refine ax_aload_n dX2_becomeUsualRule_5 rfl ?_
  refine ax_bipush (v := 108) dX2_becomeUsualRule_6 (by decide) ?_
  refine ax_callV (As := _) (d2 := _) (c1 := 0) (n1 := 0) (g_add (d := 0) (M := (ax_pI M F 1 0)) (k := 0) hF (ax_pa _ _ _ _) (by omega) 108) dX2_becomeUsualRule_8 mX2_add wd_357 acl_2 hF.1 rfl (by omega) (by omega) (by omega) rfl rfl (fun _ _ h => by cases h.1) ?_
  rintro r9 _ ⟨q9, rfl⟩; cases q9
  refine ax_aload_n dX2_becomeUsualRule_11 rfl ?_
  refine ax_sipush (v := 1012) dX2_becomeUsualRule_12 (by decide) ?_
  refine ax_callV (As := _) (d2 := _) (c1 := 0) (n1 := 0) (g_add (d := 0) (M := (mk_ad (ax_pI M F 1 0) F 0 108)) (k := 1) hF (ax_pa _ _ _ _) (by omega) 1012) dX2_becomeUsualRule_15 mX2_add wd_357 acl_2 hF.1 rfl (by omega) (by omega) (by omega) rfl rfl (fun _ _ h => by cases h.1) ?_
  rintro r9 _ ⟨q9, rfl⟩; cases q9
  refine ax_aload_n dX2_becomeUsualRule_18 rfl ?_
  refine ax_iconst (v := 1) dX2_becomeUsualRule_19 (by decide) ?_
  refine ax_callV (As := _) (d2 := _) (c1 := 0) (n1 := 0) (g_add (d := 0) (M := (mk_ad (mk_ad (ax_pI M F 1 0) F 0 108) F 1 1012)) (k := 2) hF (ax_pa _ _ _ _) (by omega) 1) dX2_becomeUsualRule_20 mX2_add wd_357 acl_2 hF.1 rfl (by omega) (by omega) (by omega) rfl rfl (fun _ _ h => by cases h.1) ?_
  rintro r9 _ ⟨q9, rfl⟩; cases q9
  refine ax_vret dX2_becomeUsualRule_23 rfl ?_
  exact ⟨rfl, rfl⟩
theorem g_forget {a F1 F2 F3 : Nat} (hs : M.2.2.2.1 a = some (.inr 7)) (r1 : M.2.1 a 1 = F1) (r2 : M.2.1 a 2 = F2) (r3 : M.2.1 a 3 = F3) (h1 : gF M F1) (h2 : gF M F2) (h3 : gF M F3) : ax_Met l G kX7_forgetFormulas 2 0 0 M [av_r a] (fun o M2 => o = .inl none ∧ M2 = mk_ur (mk_ur (mk_ul M F1) F2) F3) := by
  refine ax_body (by decide) (Nat.le_of_ble_eq_true rfl) ?_
  refine ax_aload_n dX7_forgetFormulas_0 rfl ?_
  refine ax_getR (f := 1) dX7_forgetFormulas_1 acl_7 wd_368 (by decide) rfl hs ?_
  rw [r1]
  refine ax_callVN (As := _) (d2 := _) (c1 := 0) (n1 := 0) (g_becomeUsualLaw (M := M) h1) dX7_forgetFormulas_4 mX2_becomeUsualLaw wd_353 acl_2 h1.1 rfl (by omega) (by omega) (by omega) rfl rfl (fun _ _ h => by cases h.1) ?_
  rintro r9 _ ⟨q9, rfl⟩; cases q9
  refine ax_aload_n dX7_forgetFormulas_7 rfl ?_
  refine ax_getR (f := 2) dX7_forgetFormulas_8 acl_7 wd_370 (by decide) rfl hs ?_
  rw [show (mk_ul M F1).2.1 a 2 = F2 from r2]
  refine ax_callVN (As := _) (d2 := _) (c1 := 0) (n1 := 0) (g_becomeUsualRule (M := mk_ul M F1) h2) dX7_forgetFormulas_11 mX2_becomeUsualRule wd_361 acl_2 h2.1 rfl (by omega) (by omega) (by omega) rfl rfl (fun _ _ h => by cases h.1) ?_
  rintro r9 _ ⟨q9, rfl⟩; cases q9
  refine ax_aload_n dX7_forgetFormulas_14 rfl ?_
  refine ax_getR (f := 3) dX7_forgetFormulas_15 acl_7 wd_371 (by decide) rfl hs ?_
  rw [show (mk_ur (mk_ul M F1) F2).2.1 a 3 = F3 from r3]
  refine ax_callVN (As := _) (d2 := _) (c1 := 0) (n1 := 0) (g_becomeUsualRule (M := mk_ur (mk_ul M F1) F2) h3) dX7_forgetFormulas_18 mX2_becomeUsualRule wd_361 acl_2 h3.1 rfl (by omega) (by omega) (by omega) rfl rfl (fun _ _ h => by cases h.1) ?_
  rintro r9 _ ⟨q9, rfl⟩; cases q9
  refine ax_vret dX7_forgetFormulas_21 rfl ?_
  exact ⟨rfl, rfl⟩
def sh_X6_init : List ((Nat × Nat) ⊕ Nat) := [.inl (0, 600)]
def rf_X6_init : List (Nat × Nat × Nat) := [(0, 0, 1)]
def w_X6_init : List (Nat × Nat × Int32) := [(0, 8, (-1)), (0, 7, 0), (0, 6, 0), (0, 5, 0), (0, 4, 0), (0, 3, 0), (0, 2, 0), (0, 1, 0)]
theorem i_X6_init {a : Nat} (hn : M.2.2.2.2 = a) (hs : M.2.2.2.1 a = some (.inr 6)) (ha : a ≠ 0) (hz : ∀ i k, M.1 (a + i) k = 0) : ax_Met l G kX6_init 1 1 600 M [av_r a] (fun o M2 => o = .inl none ∧ ic M M2 a sh_X6_init rf_X6_init w_X6_init) := by
  refine ax_body (by decide) (Nat.le_of_ble_eq_true rfl) ?_
  refine ax_gen (fun A0 hA0 => ?_)
  have i0 : ic M A0 a [] [] [] := by rw [hA0]; exact ic_0 hn hz
  have n0 : A0.2.2.2.2 = a := by rw [hA0]; exact hn
  have s0 : A0.2.2.2.1 a = some (.inr 6) := by rw [hA0]; exact hs
  clear hA0
  refine ax_aload_n dX6_init_0 rfl ?_
  refine ax_objInit dX6_init_1 wd_204 (ax_in1 (List.mem_of_getElem? (i := 31) rfl)) (ax_in1 (List.mem_of_getElem? (i := 32) rfl)) ha (by omega) rfl ?_
  refine ax_aload_n dX6_init_4 rfl ?_
  refine ax_sipush (v := 600) dX6_init_5 (by decide) ?_
  refine ax_newa (kd := 0) (len := 600) (c1 := 0) (n1 := 0) dX6_init_8 rfl (by decide) (ax_in1 (List.mem_of_getElem? (i := 73) rfl)) (by decide) (by decide) (by decide) (by omega) (by omega) ?_
  refine ax_gen (fun A1 hA1 => ?_)
  rw [show A0.2.2.2.2 + 1 = a + 1 by omega]
  have i1 := ic_new i0 hA1 rfl rfl
  have n1 : A1.2.2.2.2 = a + 1 := i1.1
  have s1 : A1.2.2.2.1 a = some (.inr 6) := (i1.2.1 a (Nat.le_refl _)).trans hs
  clear hA1
  refine ax_putRF (f := 0) dX6_init_10 acl_6 wd_205 (by decide) rfl rfl rfl rfl (ax_nfR (Or.inr ⟨_, rfl⟩)) s1 ?_
  refine ax_gen (fun A2 hA2 => ?_)
  have i2 := ic_putR (i := 0) (j := 1) i1 hA2 (by omega) (by omega) rfl
  have n2 : A2.2.2.2.2 = a + 1 := i2.1
  have s2 : A2.2.2.2.1 a = some (.inr 6) := (i2.2.1 a (Nat.le_refl _)).trans hs
  clear hA2 i1 n1 s1
  refine ax_aload_n dX6_init_13 rfl ?_
  refine ax_iconst (v := 0) dX6_init_14 (by decide) ?_
  refine ax_putI (f := 1) dX6_init_15 acl_6 wd_206 (by decide) rfl rfl (ax_nfI rfl) s2 ?_
  refine ax_gen (fun A3 hA3 => ?_)
  have i3 := ic_putI (i := 0) i2 hA3 (by omega)
  have n3 : A3.2.2.2.2 = a + 1 := i3.1
  have s3 : A3.2.2.2.1 a = some (.inr 6) := (i3.2.1 a (Nat.le_refl _)).trans hs
  clear hA3 i2 n2 s2
  refine ax_aload_n dX6_init_18 rfl ?_
  refine ax_iconst (v := 0) dX6_init_19 (by decide) ?_
  refine ax_putI (f := 2) dX6_init_20 acl_6 wd_208 (by decide) rfl rfl (ax_nfI rfl) s3 ?_
  refine ax_gen (fun A4 hA4 => ?_)
  have i4 := ic_putI (i := 0) i3 hA4 (by omega)
  have n4 : A4.2.2.2.2 = a + 1 := i4.1
  have s4 : A4.2.2.2.1 a = some (.inr 6) := (i4.2.1 a (Nat.le_refl _)).trans hs
  clear hA4 i3 n3 s3
  refine ax_aload_n dX6_init_23 rfl ?_
  refine ax_iconst (v := 0) dX6_init_24 (by decide) ?_
  refine ax_putI (f := 3) dX6_init_25 acl_6 wd_209 (by decide) rfl rfl (ax_nfI rfl) s4 ?_
  refine ax_gen (fun A5 hA5 => ?_)
  have i5 := ic_putI (i := 0) i4 hA5 (by omega)
  have n5 : A5.2.2.2.2 = a + 1 := i5.1
  have s5 : A5.2.2.2.1 a = some (.inr 6) := (i5.2.1 a (Nat.le_refl _)).trans hs
  clear hA5 i4 n4 s4
  refine ax_aload_n dX6_init_28 rfl ?_
  refine ax_iconst (v := 0) dX6_init_29 (by decide) ?_
  refine ax_putI (f := 4) dX6_init_30 acl_6 wd_210 (by decide) rfl rfl (ax_nfI rfl) s5 ?_
  refine ax_gen (fun A6 hA6 => ?_)
  have i6 := ic_putI (i := 0) i5 hA6 (by omega)
  have n6 : A6.2.2.2.2 = a + 1 := i6.1
  have s6 : A6.2.2.2.1 a = some (.inr 6) := (i6.2.1 a (Nat.le_refl _)).trans hs
  clear hA6 i5 n5 s5
  refine ax_aload_n dX6_init_33 rfl ?_
  refine ax_iconst (v := 0) dX6_init_34 (by decide) ?_
  refine ax_putI (f := 5) dX6_init_35 acl_6 wd_211 (by decide) rfl rfl (ax_nfI rfl) s6 ?_
  refine ax_gen (fun A7 hA7 => ?_)
  have i7 := ic_putI (i := 0) i6 hA7 (by omega)
  have n7 : A7.2.2.2.2 = a + 1 := i7.1
  have s7 : A7.2.2.2.1 a = some (.inr 6) := (i7.2.1 a (Nat.le_refl _)).trans hs
  clear hA7 i6 n6 s6
  refine ax_aload_n dX6_init_38 rfl ?_
  refine ax_iconst (v := 0) dX6_init_39 (by decide) ?_
  refine ax_putI (f := 6) dX6_init_40 acl_6 wd_215 (by decide) rfl rfl (ax_nfI rfl) s7 ?_
  refine ax_gen (fun A8 hA8 => ?_)
  have i8 := ic_putI (i := 0) i7 hA8 (by omega)
  have n8 : A8.2.2.2.2 = a + 1 := i8.1
  have s8 : A8.2.2.2.1 a = some (.inr 6) := (i8.2.1 a (Nat.le_refl _)).trans hs
  clear hA8 i7 n7 s7
  refine ax_aload_n dX6_init_43 rfl ?_
  refine ax_iconst (v := 0) dX6_init_44 (by decide) ?_
  refine ax_putI (f := 7) dX6_init_45 acl_6 wd_217 (by decide) rfl rfl (ax_nfI rfl) s8 ?_
  refine ax_gen (fun A9 hA9 => ?_)
  have i9 := ic_putI (i := 0) i8 hA9 (by omega)
  have n9 : A9.2.2.2.2 = a + 1 := i9.1
  have s9 : A9.2.2.2.1 a = some (.inr 6) := (i9.2.1 a (Nat.le_refl _)).trans hs
  clear hA9 i8 n8 s8
  refine ax_aload_n dX6_init_48 rfl ?_
  refine ax_iconst (v := (-1)) dX6_init_49 (by decide) ?_
  refine ax_putI (f := 8) dX6_init_50 acl_6 wd_218 (by decide) rfl rfl (ax_nfI rfl) s9 ?_
  refine ax_gen (fun A10 hA10 => ?_)
  have i10 := ic_putI (i := 0) i9 hA10 (by omega)
  have n10 : A10.2.2.2.2 = a + 1 := i10.1
  have s10 : A10.2.2.2.1 a = some (.inr 6) := (i10.2.1 a (Nat.le_refl _)).trans hs
  clear hA10 i9 n9 s9
  refine ax_vret dX6_init_53 rfl ?_
  exact ⟨rfl, i10⟩
def sh_X5_init : List ((Nat × Nat) ⊕ Nat) := [.inl (0, 6), .inl (0, 60), .inl (0, 10), .inl (0, 10), .inl (0, 2), .inl (0, 2), .inl (0, 2)]
def rf_X5_init : List (Nat × Nat × Nat) := [(0, 15, 7), (0, 14, 6), (0, 13, 5), (0, 7, 4), (0, 6, 3), (0, 4, 2), (0, 1, 1)]
def w_X5_init : List (Nat × Nat × Int32) := [(0, 16, 0), (0, 12, 6), (0, 11, 20), (0, 10, 4), (0, 9, 0), (0, 8, 0), (0, 5, 0), (0, 3, 0), (0, 2, 0), (0, 0, 40)]
theorem i_X5_init {a : Nat} (hn : M.2.2.2.2 = a) (hs : M.2.2.2.1 a = some (.inr 5)) (ha : a ≠ 0) (hz : ∀ i k, M.1 (a + i) k = 0) : ax_Met l G kX5_init 1 7 92 M [av_r a] (fun o M2 => o = .inl none ∧ ic M M2 a sh_X5_init rf_X5_init w_X5_init) := by
  refine ax_body (by decide) (Nat.le_of_ble_eq_true rfl) ?_
  refine ax_gen (fun A0 hA0 => ?_)
  have i0 : ic M A0 a [] [] [] := by rw [hA0]; exact ic_0 hn hz
  have n0 : A0.2.2.2.2 = a := by rw [hA0]; exact hn
  have s0 : A0.2.2.2.1 a = some (.inr 5) := by rw [hA0]; exact hs
  clear hA0
  refine ax_aload_n dX5_init_0 rfl ?_
  refine ax_objInit dX5_init_1 wd_251 (ax_in1 (List.mem_of_getElem? (i := 31) rfl)) (ax_in1 (List.mem_of_getElem? (i := 32) rfl)) ha (by omega) rfl ?_
  refine ax_aload_n dX5_init_4 rfl ?_
  refine ax_bipush (v := 40) dX5_init_5 (by decide) ?_
  refine ax_putI (f := 0) dX5_init_7 acl_5 wd_252 (by decide) rfl rfl (ax_nfI rfl) s0 ?_
  refine ax_gen (fun A1 hA1 => ?_)
  have i1 := ic_putI (i := 0) i0 hA1 (by omega)
  have n1 : A1.2.2.2.2 = a := i1.1
  have s1 : A1.2.2.2.1 a = some (.inr 5) := (i1.2.1 a (Nat.le_refl _)).trans hs
  clear hA1
  refine ax_aload_n dX5_init_10 rfl ?_
  refine ax_bipush (v := 6) dX5_init_11 (by decide) ?_
  refine ax_newa (kd := 0) (len := 6) (c1 := 6) (n1 := 86) dX5_init_13 rfl (by decide) (ax_in1 (List.mem_of_getElem? (i := 73) rfl)) (by decide) (by decide) (by decide) (by omega) (by omega) ?_
  refine ax_gen (fun A2 hA2 => ?_)
  rw [show A1.2.2.2.2 + 1 = a + 1 by omega]
  have i2 := ic_new i1 hA2 rfl rfl
  have n2 : A2.2.2.2.2 = a + 1 := i2.1
  have s2 : A2.2.2.2.1 a = some (.inr 5) := (i2.2.1 a (Nat.le_refl _)).trans hs
  clear hA2 i1 n1 s1
  refine ax_putRF (f := 1) dX5_init_15 acl_5 wd_254 (by decide) rfl rfl rfl rfl (ax_nfR (Or.inr ⟨_, rfl⟩)) s2 ?_
  refine ax_gen (fun A3 hA3 => ?_)
  have i3 := ic_putR (i := 0) (j := 1) i2 hA3 (by omega) (by omega) rfl
  have n3 : A3.2.2.2.2 = a + 1 := i3.1
  have s3 : A3.2.2.2.1 a = some (.inr 5) := (i3.2.1 a (Nat.le_refl _)).trans hs
  clear hA3 i2 n2 s2
  refine ax_aload_n dX5_init_18 rfl ?_
  refine ax_iconst (v := 0) dX5_init_19 (by decide) ?_
  refine ax_putI (f := 2) dX5_init_20 acl_5 wd_255 (by decide) rfl rfl (ax_nfI rfl) s3 ?_
  refine ax_gen (fun A4 hA4 => ?_)
  have i4 := ic_putI (i := 0) i3 hA4 (by omega)
  have n4 : A4.2.2.2.2 = a + 1 := i4.1
  have s4 : A4.2.2.2.1 a = some (.inr 5) := (i4.2.1 a (Nat.le_refl _)).trans hs
  clear hA4 i3 n3 s3
  refine ax_aload_n dX5_init_23 rfl ?_
  refine ax_iconst (v := 0) dX5_init_24 (by decide) ?_
  refine ax_putI (f := 3) dX5_init_25 acl_5 wd_257 (by decide) rfl rfl (ax_nfI rfl) s4 ?_
  refine ax_gen (fun A5 hA5 => ?_)
  have i5 := ic_putI (i := 0) i4 hA5 (by omega)
  have n5 : A5.2.2.2.2 = a + 1 := i5.1
  have s5 : A5.2.2.2.1 a = some (.inr 5) := (i5.2.1 a (Nat.le_refl _)).trans hs
  clear hA5 i4 n4 s4
  refine ax_aload_n dX5_init_28 rfl ?_
  refine ax_bipush (v := 60) dX5_init_29 (by decide) ?_
  refine ax_newa (kd := 0) (len := 60) (c1 := 5) (n1 := 26) dX5_init_31 rfl (by decide) (ax_in1 (List.mem_of_getElem? (i := 73) rfl)) (by decide) (by decide) (by decide) (by omega) (by omega) ?_
  refine ax_gen (fun A6 hA6 => ?_)
  rw [show A5.2.2.2.2 + 1 = a + 2 by omega]
  have i6 := ic_new i5 hA6 rfl rfl
  have n6 : A6.2.2.2.2 = a + 2 := i6.1
  have s6 : A6.2.2.2.1 a = some (.inr 5) := (i6.2.1 a (Nat.le_refl _)).trans hs
  clear hA6 i5 n5 s5
  refine ax_putRF (f := 4) dX5_init_33 acl_5 wd_258 (by decide) rfl rfl rfl rfl (ax_nfR (Or.inr ⟨_, rfl⟩)) s6 ?_
  refine ax_gen (fun A7 hA7 => ?_)
  have i7 := ic_putR (i := 0) (j := 2) i6 hA7 (by omega) (by omega) rfl
  have n7 : A7.2.2.2.2 = a + 2 := i7.1
  have s7 : A7.2.2.2.1 a = some (.inr 5) := (i7.2.1 a (Nat.le_refl _)).trans hs
  clear hA7 i6 n6 s6
  refine ax_aload_n dX5_init_36 rfl ?_
  refine ax_iconst (v := 0) dX5_init_37 (by decide) ?_
  refine ax_putI (f := 5) dX5_init_38 acl_5 wd_259 (by decide) rfl rfl (ax_nfI rfl) s7 ?_
  refine ax_gen (fun A8 hA8 => ?_)
  have i8 := ic_putI (i := 0) i7 hA8 (by omega)
  have n8 : A8.2.2.2.2 = a + 2 := i8.1
  have s8 : A8.2.2.2.1 a = some (.inr 5) := (i8.2.1 a (Nat.le_refl _)).trans hs
  clear hA8 i7 n7 s7
  refine ax_aload_n dX5_init_41 rfl ?_
  refine ax_bipush (v := 10) dX5_init_42 (by decide) ?_
  refine ax_newa (kd := 0) (len := 10) (c1 := 4) (n1 := 16) dX5_init_44 rfl (by decide) (ax_in1 (List.mem_of_getElem? (i := 73) rfl)) (by decide) (by decide) (by decide) (by omega) (by omega) ?_
  refine ax_gen (fun A9 hA9 => ?_)
  rw [show A8.2.2.2.2 + 1 = a + 3 by omega]
  have i9 := ic_new i8 hA9 rfl rfl
  have n9 : A9.2.2.2.2 = a + 3 := i9.1
  have s9 : A9.2.2.2.1 a = some (.inr 5) := (i9.2.1 a (Nat.le_refl _)).trans hs
  clear hA9 i8 n8 s8
  refine ax_putRF (f := 6) dX5_init_46 acl_5 wd_260 (by decide) rfl rfl rfl rfl (ax_nfR (Or.inr ⟨_, rfl⟩)) s9 ?_
  refine ax_gen (fun A10 hA10 => ?_)
  have i10 := ic_putR (i := 0) (j := 3) i9 hA10 (by omega) (by omega) rfl
  have n10 : A10.2.2.2.2 = a + 3 := i10.1
  have s10 : A10.2.2.2.1 a = some (.inr 5) := (i10.2.1 a (Nat.le_refl _)).trans hs
  clear hA10 i9 n9 s9
  refine ax_aload_n dX5_init_49 rfl ?_
  refine ax_bipush (v := 10) dX5_init_50 (by decide) ?_
  refine ax_newa (kd := 0) (len := 10) (c1 := 3) (n1 := 6) dX5_init_52 rfl (by decide) (ax_in1 (List.mem_of_getElem? (i := 73) rfl)) (by decide) (by decide) (by decide) (by omega) (by omega) ?_
  refine ax_gen (fun A11 hA11 => ?_)
  rw [show A10.2.2.2.2 + 1 = a + 4 by omega]
  have i11 := ic_new i10 hA11 rfl rfl
  have n11 : A11.2.2.2.2 = a + 4 := i11.1
  have s11 : A11.2.2.2.1 a = some (.inr 5) := (i11.2.1 a (Nat.le_refl _)).trans hs
  clear hA11 i10 n10 s10
  refine ax_putRF (f := 7) dX5_init_54 acl_5 wd_264 (by decide) rfl rfl rfl rfl (ax_nfR (Or.inr ⟨_, rfl⟩)) s11 ?_
  refine ax_gen (fun A12 hA12 => ?_)
  have i12 := ic_putR (i := 0) (j := 4) i11 hA12 (by omega) (by omega) rfl
  have n12 : A12.2.2.2.2 = a + 4 := i12.1
  have s12 : A12.2.2.2.1 a = some (.inr 5) := (i12.2.1 a (Nat.le_refl _)).trans hs
  clear hA12 i11 n11 s11
  refine ax_aload_n dX5_init_57 rfl ?_
  refine ax_iconst (v := 0) dX5_init_58 (by decide) ?_
  refine ax_putI (f := 8) dX5_init_59 acl_5 wd_268 (by decide) rfl rfl (ax_nfI rfl) s12 ?_
  refine ax_gen (fun A13 hA13 => ?_)
  have i13 := ic_putI (i := 0) i12 hA13 (by omega)
  have n13 : A13.2.2.2.2 = a + 4 := i13.1
  have s13 : A13.2.2.2.1 a = some (.inr 5) := (i13.2.1 a (Nat.le_refl _)).trans hs
  clear hA13 i12 n12 s12
  refine ax_aload_n dX5_init_62 rfl ?_
  refine ax_iconst (v := 0) dX5_init_63 (by decide) ?_
  refine ax_putI (f := 9) dX5_init_64 acl_5 wd_271 (by decide) rfl rfl (ax_nfI rfl) s13 ?_
  refine ax_gen (fun A14 hA14 => ?_)
  have i14 := ic_putI (i := 0) i13 hA14 (by omega)
  have n14 : A14.2.2.2.2 = a + 4 := i14.1
  have s14 : A14.2.2.2.1 a = some (.inr 5) := (i14.2.1 a (Nat.le_refl _)).trans hs
  clear hA14 i13 n13 s13
  refine ax_aload_n dX5_init_67 rfl ?_
  refine ax_iconst (v := 4) dX5_init_68 (by decide) ?_
  refine ax_putI (f := 10) dX5_init_69 acl_5 wd_276 (by decide) rfl rfl (ax_nfI rfl) s14 ?_
  refine ax_gen (fun A15 hA15 => ?_)
  have i15 := ic_putI (i := 0) i14 hA15 (by omega)
  have n15 : A15.2.2.2.2 = a + 4 := i15.1
  have s15 : A15.2.2.2.1 a = some (.inr 5) := (i15.2.1 a (Nat.le_refl _)).trans hs
  clear hA15 i14 n14 s14
  refine ax_aload_n dX5_init_72 rfl ?_
  refine ax_bipush (v := 20) dX5_init_73 (by decide) ?_
  refine ax_putI (f := 11) dX5_init_75 acl_5 wd_279 (by decide) rfl rfl (ax_nfI rfl) s15 ?_
  refine ax_gen (fun A16 hA16 => ?_)
  have i16 := ic_putI (i := 0) i15 hA16 (by omega)
  have n16 : A16.2.2.2.2 = a + 4 := i16.1
  have s16 : A16.2.2.2.1 a = some (.inr 5) := (i16.2.1 a (Nat.le_refl _)).trans hs
  clear hA16 i15 n15 s15
  refine ax_aload_n dX5_init_78 rfl ?_
  refine ax_bipush (v := 6) dX5_init_79 (by decide) ?_
  refine ax_putI (f := 12) dX5_init_81 acl_5 wd_281 (by decide) rfl rfl (ax_nfI rfl) s16 ?_
  refine ax_gen (fun A17 hA17 => ?_)
  have i17 := ic_putI (i := 0) i16 hA17 (by omega)
  have n17 : A17.2.2.2.2 = a + 4 := i17.1
  have s17 : A17.2.2.2.1 a = some (.inr 5) := (i17.2.1 a (Nat.le_refl _)).trans hs
  clear hA17 i16 n16 s16
  refine ax_aload_n dX5_init_84 rfl ?_
  refine ax_iconst (v := 2) dX5_init_85 (by decide) ?_
  refine ax_newa (kd := 0) (len := 2) (c1 := 2) (n1 := 4) dX5_init_86 rfl (by decide) (ax_in1 (List.mem_of_getElem? (i := 73) rfl)) (by decide) (by decide) (by decide) (by omega) (by omega) ?_
  refine ax_gen (fun A18 hA18 => ?_)
  rw [show A17.2.2.2.2 + 1 = a + 5 by omega]
  have i18 := ic_new i17 hA18 rfl rfl
  have n18 : A18.2.2.2.2 = a + 5 := i18.1
  have s18 : A18.2.2.2.1 a = some (.inr 5) := (i18.2.1 a (Nat.le_refl _)).trans hs
  clear hA18 i17 n17 s17
  refine ax_putRF (f := 13) dX5_init_88 acl_5 wd_283 (by decide) rfl rfl rfl rfl (ax_nfR (Or.inr ⟨_, rfl⟩)) s18 ?_
  refine ax_gen (fun A19 hA19 => ?_)
  have i19 := ic_putR (i := 0) (j := 5) i18 hA19 (by omega) (by omega) rfl
  have n19 : A19.2.2.2.2 = a + 5 := i19.1
  have s19 : A19.2.2.2.1 a = some (.inr 5) := (i19.2.1 a (Nat.le_refl _)).trans hs
  clear hA19 i18 n18 s18
  refine ax_aload_n dX5_init_91 rfl ?_
  refine ax_iconst (v := 2) dX5_init_92 (by decide) ?_
  refine ax_newa (kd := 0) (len := 2) (c1 := 1) (n1 := 2) dX5_init_93 rfl (by decide) (ax_in1 (List.mem_of_getElem? (i := 73) rfl)) (by decide) (by decide) (by decide) (by omega) (by omega) ?_
  refine ax_gen (fun A20 hA20 => ?_)
  rw [show A19.2.2.2.2 + 1 = a + 6 by omega]
  have i20 := ic_new i19 hA20 rfl rfl
  have n20 : A20.2.2.2.2 = a + 6 := i20.1
  have s20 : A20.2.2.2.1 a = some (.inr 5) := (i20.2.1 a (Nat.le_refl _)).trans hs
  clear hA20 i19 n19 s19
  refine ax_putRF (f := 14) dX5_init_95 acl_5 wd_286 (by decide) rfl rfl rfl rfl (ax_nfR (Or.inr ⟨_, rfl⟩)) s20 ?_
  refine ax_gen (fun A21 hA21 => ?_)
  have i21 := ic_putR (i := 0) (j := 6) i20 hA21 (by omega) (by omega) rfl
  have n21 : A21.2.2.2.2 = a + 6 := i21.1
  have s21 : A21.2.2.2.1 a = some (.inr 5) := (i21.2.1 a (Nat.le_refl _)).trans hs
  clear hA21 i20 n20 s20
  refine ax_aload_n dX5_init_98 rfl ?_
  refine ax_iconst (v := 2) dX5_init_99 (by decide) ?_
  refine ax_newa (kd := 0) (len := 2) (c1 := 0) (n1 := 0) dX5_init_100 rfl (by decide) (ax_in1 (List.mem_of_getElem? (i := 73) rfl)) (by decide) (by decide) (by decide) (by omega) (by omega) ?_
  refine ax_gen (fun A22 hA22 => ?_)
  rw [show A21.2.2.2.2 + 1 = a + 7 by omega]
  have i22 := ic_new i21 hA22 rfl rfl
  have n22 : A22.2.2.2.2 = a + 7 := i22.1
  have s22 : A22.2.2.2.1 a = some (.inr 5) := (i22.2.1 a (Nat.le_refl _)).trans hs
  clear hA22 i21 n21 s21
  refine ax_putRF (f := 15) dX5_init_102 acl_5 wd_290 (by decide) rfl rfl rfl rfl (ax_nfR (Or.inr ⟨_, rfl⟩)) s22 ?_
  refine ax_gen (fun A23 hA23 => ?_)
  have i23 := ic_putR (i := 0) (j := 7) i22 hA23 (by omega) (by omega) rfl
  have n23 : A23.2.2.2.2 = a + 7 := i23.1
  have s23 : A23.2.2.2.1 a = some (.inr 5) := (i23.2.1 a (Nat.le_refl _)).trans hs
  clear hA23 i22 n22 s22
  refine ax_aload_n dX5_init_105 rfl ?_
  refine ax_iconst (v := 0) dX5_init_106 (by decide) ?_
  refine ax_putI (f := 16) dX5_init_107 acl_5 wd_294 (by decide) rfl rfl (ax_nfI rfl) s23 ?_
  refine ax_gen (fun A24 hA24 => ?_)
  have i24 := ic_putI (i := 0) i23 hA24 (by omega)
  have n24 : A24.2.2.2.2 = a + 7 := i24.1
  have s24 : A24.2.2.2.1 a = some (.inr 5) := (i24.2.1 a (Nat.le_refl _)).trans hs
  clear hA24 i23 n23 s23
  refine ax_vret dX5_init_110 rfl ?_
  exact ⟨rfl, i24⟩
def sh_X2_init : List ((Nat × Nat) ⊕ Nat) := [.inl (0, 150), .inl (0, 40)]
def rf_X2_init : List (Nat × Nat × Nat) := [(0, 2, 2), (0, 0, 1)]
def w_X2_init : List (Nat × Nat × Int32) := [(0, 1, 0)]
theorem i_X2_init {a : Nat} (hn : M.2.2.2.2 = a) (hs : M.2.2.2.1 a = some (.inr 2)) (ha : a ≠ 0) (hz : ∀ i k, M.1 (a + i) k = 0) : ax_Met l G kX2_init 1 2 190 M [av_r a] (fun o M2 => o = .inl none ∧ ic M M2 a sh_X2_init rf_X2_init w_X2_init) := by
  refine ax_body (by decide) (Nat.le_of_ble_eq_true rfl) ?_
  refine ax_gen (fun A0 hA0 => ?_)
  have i0 : ic M A0 a [] [] [] := by rw [hA0]; exact ic_0 hn hz
  have n0 : A0.2.2.2.2 = a := by rw [hA0]; exact hn
  have s0 : A0.2.2.2.1 a = some (.inr 2) := by rw [hA0]; exact hs
  clear hA0
  refine ax_aload_n dX2_init_0 rfl ?_
  refine ax_objInit dX2_init_1 wd_338 (ax_in1 (List.mem_of_getElem? (i := 31) rfl)) (ax_in1 (List.mem_of_getElem? (i := 32) rfl)) ha (by omega) rfl ?_
  refine ax_aload_n dX2_init_4 rfl ?_
  refine ax_sipush (v := 150) dX2_init_5 (by decide) ?_
  refine ax_newa (kd := 0) (len := 150) (c1 := 1) (n1 := 40) dX2_init_8 rfl (by decide) (ax_in1 (List.mem_of_getElem? (i := 73) rfl)) (by decide) (by decide) (by decide) (by omega) (by omega) ?_
  refine ax_gen (fun A1 hA1 => ?_)
  rw [show A0.2.2.2.2 + 1 = a + 1 by omega]
  have i1 := ic_new i0 hA1 rfl rfl
  have n1 : A1.2.2.2.2 = a + 1 := i1.1
  have s1 : A1.2.2.2.1 a = some (.inr 2) := (i1.2.1 a (Nat.le_refl _)).trans hs
  clear hA1
  refine ax_putRF (f := 0) dX2_init_10 acl_2 wd_339 (by decide) rfl rfl rfl rfl (ax_nfR (Or.inr ⟨_, rfl⟩)) s1 ?_
  refine ax_gen (fun A2 hA2 => ?_)
  have i2 := ic_putR (i := 0) (j := 1) i1 hA2 (by omega) (by omega) rfl
  have n2 : A2.2.2.2.2 = a + 1 := i2.1
  have s2 : A2.2.2.2.1 a = some (.inr 2) := (i2.2.1 a (Nat.le_refl _)).trans hs
  clear hA2 i1 n1 s1
  refine ax_aload_n dX2_init_13 rfl ?_
  refine ax_iconst (v := 0) dX2_init_14 (by decide) ?_
  refine ax_putI (f := 1) dX2_init_15 acl_2 wd_340 (by decide) rfl rfl (ax_nfI rfl) s2 ?_
  refine ax_gen (fun A3 hA3 => ?_)
  have i3 := ic_putI (i := 0) i2 hA3 (by omega)
  have n3 : A3.2.2.2.2 = a + 1 := i3.1
  have s3 : A3.2.2.2.1 a = some (.inr 2) := (i3.2.1 a (Nat.le_refl _)).trans hs
  clear hA3 i2 n2 s2
  refine ax_aload_n dX2_init_18 rfl ?_
  refine ax_bipush (v := 40) dX2_init_19 (by decide) ?_
  refine ax_newa (kd := 0) (len := 40) (c1 := 0) (n1 := 0) dX2_init_21 rfl (by decide) (ax_in1 (List.mem_of_getElem? (i := 73) rfl)) (by decide) (by decide) (by decide) (by omega) (by omega) ?_
  refine ax_gen (fun A4 hA4 => ?_)
  rw [show A3.2.2.2.2 + 1 = a + 2 by omega]
  have i4 := ic_new i3 hA4 rfl rfl
  have n4 : A4.2.2.2.2 = a + 2 := i4.1
  have s4 : A4.2.2.2.1 a = some (.inr 2) := (i4.2.1 a (Nat.le_refl _)).trans hs
  clear hA4 i3 n3 s3
  refine ax_putRF (f := 2) dX2_init_23 acl_2 wd_341 (by decide) rfl rfl rfl rfl (ax_nfR (Or.inr ⟨_, rfl⟩)) s4 ?_
  refine ax_gen (fun A5 hA5 => ?_)
  have i5 := ic_putR (i := 0) (j := 2) i4 hA5 (by omega) (by omega) rfl
  have n5 : A5.2.2.2.2 = a + 2 := i5.1
  have s5 : A5.2.2.2.1 a = some (.inr 2) := (i5.2.1 a (Nat.le_refl _)).trans hs
  clear hA5 i4 n4 s4
  refine ax_vret dX2_init_26 rfl ?_
  exact ⟨rfl, i5⟩
def sh_X0_init : List ((Nat × Nat) ⊕ Nat) := [.inl (0, 12), .inl (0, 12)]
def rf_X0_init : List (Nat × Nat × Nat) := [(0, 1, 2), (0, 0, 1)]
def w_X0_init : List (Nat × Nat × Int32) := [(0, 2, 0)]
theorem i_X0_init {a : Nat} (hn : M.2.2.2.2 = a) (hs : M.2.2.2.1 a = some (.inr 0)) (ha : a ≠ 0) (hz : ∀ i k, M.1 (a + i) k = 0) : ax_Met l G kX0_init 1 2 24 M [av_r a] (fun o M2 => o = .inl none ∧ ic M M2 a sh_X0_init rf_X0_init w_X0_init) := by
  refine ax_body (by decide) (Nat.le_of_ble_eq_true rfl) ?_
  refine ax_gen (fun A0 hA0 => ?_)
  have i0 : ic M A0 a [] [] [] := by rw [hA0]; exact ic_0 hn hz
  have n0 : A0.2.2.2.2 = a := by rw [hA0]; exact hn
  have s0 : A0.2.2.2.1 a = some (.inr 0) := by rw [hA0]; exact hs
  clear hA0
  refine ax_aload_n dX0_init_0 rfl ?_
  refine ax_objInit dX0_init_1 wd_394 (ax_in1 (List.mem_of_getElem? (i := 31) rfl)) (ax_in1 (List.mem_of_getElem? (i := 32) rfl)) ha (by omega) rfl ?_
  refine ax_aload_n dX0_init_4 rfl ?_
  refine ax_bipush (v := 12) dX0_init_5 (by decide) ?_
  refine ax_newa (kd := 0) (len := 12) (c1 := 1) (n1 := 12) dX0_init_7 rfl (by decide) (ax_in1 (List.mem_of_getElem? (i := 73) rfl)) (by decide) (by decide) (by decide) (by omega) (by omega) ?_
  refine ax_gen (fun A1 hA1 => ?_)
  rw [show A0.2.2.2.2 + 1 = a + 1 by omega]
  have i1 := ic_new i0 hA1 rfl rfl
  have n1 : A1.2.2.2.2 = a + 1 := i1.1
  have s1 : A1.2.2.2.1 a = some (.inr 0) := (i1.2.1 a (Nat.le_refl _)).trans hs
  clear hA1
  refine ax_putRF (f := 0) dX0_init_9 acl_0 wd_395 (by decide) rfl rfl rfl rfl (ax_nfR (Or.inr ⟨_, rfl⟩)) s1 ?_
  refine ax_gen (fun A2 hA2 => ?_)
  have i2 := ic_putR (i := 0) (j := 1) i1 hA2 (by omega) (by omega) rfl
  have n2 : A2.2.2.2.2 = a + 1 := i2.1
  have s2 : A2.2.2.2.1 a = some (.inr 0) := (i2.2.1 a (Nat.le_refl _)).trans hs
  clear hA2 i1 n1 s1
  refine ax_aload_n dX0_init_12 rfl ?_
  refine ax_bipush (v := 12) dX0_init_13 (by decide) ?_
  refine ax_newa (kd := 0) (len := 12) (c1 := 0) (n1 := 0) dX0_init_15 rfl (by decide) (ax_in1 (List.mem_of_getElem? (i := 73) rfl)) (by decide) (by decide) (by decide) (by omega) (by omega) ?_
  refine ax_gen (fun A3 hA3 => ?_)
  rw [show A2.2.2.2.2 + 1 = a + 2 by omega]
  have i3 := ic_new i2 hA3 rfl rfl
  have n3 : A3.2.2.2.2 = a + 2 := i3.1
  have s3 : A3.2.2.2.1 a = some (.inr 0) := (i3.2.1 a (Nat.le_refl _)).trans hs
  clear hA3 i2 n2 s2
  refine ax_putRF (f := 1) dX0_init_17 acl_0 wd_397 (by decide) rfl rfl rfl rfl (ax_nfR (Or.inr ⟨_, rfl⟩)) s3 ?_
  refine ax_gen (fun A4 hA4 => ?_)
  have i4 := ic_putR (i := 0) (j := 2) i3 hA4 (by omega) (by omega) rfl
  have n4 : A4.2.2.2.2 = a + 2 := i4.1
  have s4 : A4.2.2.2.1 a = some (.inr 0) := (i4.2.1 a (Nat.le_refl _)).trans hs
  clear hA4 i3 n3 s3
  refine ax_aload_n dX0_init_20 rfl ?_
  refine ax_iconst (v := 0) dX0_init_21 (by decide) ?_
  refine ax_putI (f := 2) dX0_init_22 acl_0 wd_399 (by decide) rfl rfl (ax_nfI rfl) s4 ?_
  refine ax_gen (fun A5 hA5 => ?_)
  have i5 := ic_putI (i := 0) i4 hA5 (by omega)
  have n5 : A5.2.2.2.2 = a + 2 := i5.1
  have s5 : A5.2.2.2.1 a = some (.inr 0) := (i5.2.1 a (Nat.le_refl _)).trans hs
  clear hA5 i4 n4 s4
  refine ax_vret dX0_init_25 rfl ?_
  exact ⟨rfl, i5⟩
def sh_X3_init : List ((Nat × Nat) ⊕ Nat) := [.inl (0, 441), .inl (0, 441)]
def rf_X3_init : List (Nat × Nat × Nat) := [(0, 1, 2), (0, 0, 1)]
def w_X3_init : List (Nat × Nat × Int32) := []
theorem i_X3_init {a : Nat} (hn : M.2.2.2.2 = a) (hs : M.2.2.2.1 a = some (.inr 3)) (ha : a ≠ 0) (hz : ∀ i k, M.1 (a + i) k = 0) : ax_Met l G kX3_init 1 2 882 M [av_r a] (fun o M2 => o = .inl none ∧ ic M M2 a sh_X3_init rf_X3_init w_X3_init) := by
  refine ax_body (by decide) (Nat.le_of_ble_eq_true rfl) ?_
  refine ax_gen (fun A0 hA0 => ?_)
  have i0 : ic M A0 a [] [] [] := by rw [hA0]; exact ic_0 hn hz
  have n0 : A0.2.2.2.2 = a := by rw [hA0]; exact hn
  have s0 : A0.2.2.2.1 a = some (.inr 3) := by rw [hA0]; exact hs
  clear hA0
  refine ax_aload_n dX3_init_0 rfl ?_
  refine ax_objInit dX3_init_1 wd_504 (ax_in1 (List.mem_of_getElem? (i := 31) rfl)) (ax_in1 (List.mem_of_getElem? (i := 32) rfl)) ha (by omega) rfl ?_
  refine ax_aload_n dX3_init_4 rfl ?_
  refine ax_sipush (v := 441) dX3_init_5 (by decide) ?_
  refine ax_newa (kd := 0) (len := 441) (c1 := 1) (n1 := 441) dX3_init_8 rfl (by decide) (ax_in1 (List.mem_of_getElem? (i := 73) rfl)) (by decide) (by decide) (by decide) (by omega) (by omega) ?_
  refine ax_gen (fun A1 hA1 => ?_)
  rw [show A0.2.2.2.2 + 1 = a + 1 by omega]
  have i1 := ic_new i0 hA1 rfl rfl
  have n1 : A1.2.2.2.2 = a + 1 := i1.1
  have s1 : A1.2.2.2.1 a = some (.inr 3) := (i1.2.1 a (Nat.le_refl _)).trans hs
  clear hA1
  refine ax_putRF (f := 0) dX3_init_10 acl_3 wd_505 (by decide) rfl rfl rfl rfl (ax_nfR (Or.inr ⟨_, rfl⟩)) s1 ?_
  refine ax_gen (fun A2 hA2 => ?_)
  have i2 := ic_putR (i := 0) (j := 1) i1 hA2 (by omega) (by omega) rfl
  have n2 : A2.2.2.2.2 = a + 1 := i2.1
  have s2 : A2.2.2.2.1 a = some (.inr 3) := (i2.2.1 a (Nat.le_refl _)).trans hs
  clear hA2 i1 n1 s1
  refine ax_aload_n dX3_init_13 rfl ?_
  refine ax_sipush (v := 441) dX3_init_14 (by decide) ?_
  refine ax_newa (kd := 0) (len := 441) (c1 := 0) (n1 := 0) dX3_init_17 rfl (by decide) (ax_in1 (List.mem_of_getElem? (i := 73) rfl)) (by decide) (by decide) (by decide) (by omega) (by omega) ?_
  refine ax_gen (fun A3 hA3 => ?_)
  rw [show A2.2.2.2.2 + 1 = a + 2 by omega]
  have i3 := ic_new i2 hA3 rfl rfl
  have n3 : A3.2.2.2.2 = a + 2 := i3.1
  have s3 : A3.2.2.2.1 a = some (.inr 3) := (i3.2.1 a (Nat.le_refl _)).trans hs
  clear hA3 i2 n2 s2
  refine ax_putRF (f := 1) dX3_init_19 acl_3 wd_506 (by decide) rfl rfl rfl rfl (ax_nfR (Or.inr ⟨_, rfl⟩)) s3 ?_
  refine ax_gen (fun A4 hA4 => ?_)
  have i4 := ic_putR (i := 0) (j := 2) i3 hA4 (by omega) (by omega) rfl
  have n4 : A4.2.2.2.2 = a + 2 := i4.1
  have s4 : A4.2.2.2.1 a = some (.inr 3) := (i4.2.1 a (Nat.le_refl _)).trans hs
  clear hA4 i3 n3 s3
  refine ax_vret dX3_init_22 rfl ?_
  exact ⟨rfl, i4⟩
def sh_X8_init : List ((Nat × Nat) ⊕ Nat) := [.inl (0, 99), .inl (0, 99), .inl (0, 99), .inl (0, 99), .inl (0, 99), .inl (0, 99)]
def rf_X8_init : List (Nat × Nat × Nat) := [(0, 15, 6), (0, 14, 5), (0, 13, 4), (0, 12, 3), (0, 11, 2), (0, 10, 1)]
def w_X8_init (x : Int32) : List (Nat × Nat × Int32) := [(0, 1, (if x = 0 then 1 else (-1))), (0, 0, x), (0, 9, 0), (0, 8, 0), (0, 7, 1), (0, 6, 0), (0, 5, 0), (0, 4, 0), (0, 3, 0), (0, 2, 0)]
theorem i_X8_init {a : Nat} {x : Int32} (hn : M.2.2.2.2 = a) (hs : M.2.2.2.1 a = some (.inr 8)) (ha : a ≠ 0) (hz : ∀ i k, M.1 (a + i) k = 0) : ax_Met l G kX8_init 1 6 594 M [av_r a, av_i x] (fun o M2 => o = .inl none ∧ ic M M2 a sh_X8_init rf_X8_init (w_X8_init x)) := by
  refine ax_body (by decide) (Nat.le_of_ble_eq_true rfl) ?_
  refine ax_gen (fun A0 hA0 => ?_)
  have i0 : ic M A0 a [] [] [] := by rw [hA0]; exact ic_0 hn hz
  have n0 : A0.2.2.2.2 = a := by rw [hA0]; exact hn
  have s0 : A0.2.2.2.1 a = some (.inr 8) := by rw [hA0]; exact hs
  clear hA0
  refine ax_aload_n dX8_init_0 rfl ?_
  refine ax_objInit dX8_init_1 wd_419 (ax_in1 (List.mem_of_getElem? (i := 31) rfl)) (ax_in1 (List.mem_of_getElem? (i := 32) rfl)) ha (by omega) rfl ?_
  refine ax_aload_n dX8_init_4 rfl ?_
  refine ax_iconst (v := 0) dX8_init_5 (by decide) ?_
  refine ax_putI (f := 2) dX8_init_6 acl_8 wd_423 (by decide) rfl rfl (ax_nfZ rfl (by first | decide | (split <;> decide))) s0 ?_
  refine ax_gen (fun A1 hA1 => ?_)
  have i1 := ic_putI (i := 0) i0 hA1 (by omega)
  have n1 : A1.2.2.2.2 = a := i1.1
  have s1 : A1.2.2.2.1 a = some (.inr 8) := (i1.2.1 a (Nat.le_refl _)).trans hs
  clear hA1
  refine ax_aload_n dX8_init_9 rfl ?_
  refine ax_iconst (v := 0) dX8_init_10 (by decide) ?_
  refine ax_putI (f := 3) dX8_init_11 acl_8 wd_424 (by decide) rfl rfl (ax_nfI rfl) s1 ?_
  refine ax_gen (fun A2 hA2 => ?_)
  have i2 := ic_putI (i := 0) i1 hA2 (by omega)
  have n2 : A2.2.2.2.2 = a := i2.1
  have s2 : A2.2.2.2.1 a = some (.inr 8) := (i2.2.1 a (Nat.le_refl _)).trans hs
  clear hA2 i1 n1 s1
  refine ax_aload_n dX8_init_14 rfl ?_
  refine ax_iconst (v := 0) dX8_init_15 (by decide) ?_
  refine ax_putI (f := 4) dX8_init_16 acl_8 wd_426 (by decide) rfl rfl (ax_nfI rfl) s2 ?_
  refine ax_gen (fun A3 hA3 => ?_)
  have i3 := ic_putI (i := 0) i2 hA3 (by omega)
  have n3 : A3.2.2.2.2 = a := i3.1
  have s3 : A3.2.2.2.1 a = some (.inr 8) := (i3.2.1 a (Nat.le_refl _)).trans hs
  clear hA3 i2 n2 s2
  refine ax_aload_n dX8_init_19 rfl ?_
  refine ax_iconst (v := 0) dX8_init_20 (by decide) ?_
  refine ax_putI (f := 5) dX8_init_21 acl_8 wd_428 (by decide) rfl rfl (ax_nfI rfl) s3 ?_
  refine ax_gen (fun A4 hA4 => ?_)
  have i4 := ic_putI (i := 0) i3 hA4 (by omega)
  have n4 : A4.2.2.2.2 = a := i4.1
  have s4 : A4.2.2.2.1 a = some (.inr 8) := (i4.2.1 a (Nat.le_refl _)).trans hs
  clear hA4 i3 n3 s3
  refine ax_aload_n dX8_init_24 rfl ?_
  refine ax_iconst (v := 0) dX8_init_25 (by decide) ?_
  refine ax_putI (f := 6) dX8_init_26 acl_8 wd_430 (by decide) rfl rfl (ax_nfI rfl) s4 ?_
  refine ax_gen (fun A5 hA5 => ?_)
  have i5 := ic_putI (i := 0) i4 hA5 (by omega)
  have n5 : A5.2.2.2.2 = a := i5.1
  have s5 : A5.2.2.2.1 a = some (.inr 8) := (i5.2.1 a (Nat.le_refl _)).trans hs
  clear hA5 i4 n4 s4
  refine ax_aload_n dX8_init_29 rfl ?_
  refine ax_iconst (v := 1) dX8_init_30 (by decide) ?_
  refine ax_putI (f := 7) dX8_init_31 acl_8 wd_432 (by decide) rfl rfl (ax_nfI rfl) s5 ?_
  refine ax_gen (fun A6 hA6 => ?_)
  have i6 := ic_putI (i := 0) i5 hA6 (by omega)
  have n6 : A6.2.2.2.2 = a := i6.1
  have s6 : A6.2.2.2.1 a = some (.inr 8) := (i6.2.1 a (Nat.le_refl _)).trans hs
  clear hA6 i5 n5 s5
  refine ax_aload_n dX8_init_34 rfl ?_
  refine ax_iconst (v := 0) dX8_init_35 (by decide) ?_
  refine ax_putI (f := 8) dX8_init_36 acl_8 wd_434 (by decide) rfl rfl (ax_nfI rfl) s6 ?_
  refine ax_gen (fun A7 hA7 => ?_)
  have i7 := ic_putI (i := 0) i6 hA7 (by omega)
  have n7 : A7.2.2.2.2 = a := i7.1
  have s7 : A7.2.2.2.1 a = some (.inr 8) := (i7.2.1 a (Nat.le_refl _)).trans hs
  clear hA7 i6 n6 s6
  refine ax_aload_n dX8_init_39 rfl ?_
  refine ax_iconst (v := 0) dX8_init_40 (by decide) ?_
  refine ax_putI (f := 9) dX8_init_41 acl_8 wd_436 (by decide) rfl rfl (ax_nfI rfl) s7 ?_
  refine ax_gen (fun A8 hA8 => ?_)
  have i8 := ic_putI (i := 0) i7 hA8 (by omega)
  have n8 : A8.2.2.2.2 = a := i8.1
  have s8 : A8.2.2.2.1 a = some (.inr 8) := (i8.2.1 a (Nat.le_refl _)).trans hs
  clear hA8 i7 n7 s7
  refine ax_aload_n dX8_init_44 rfl ?_
  refine ax_bipush (v := 99) dX8_init_45 (by decide) ?_
  refine ax_newa (kd := 0) (len := 99) (c1 := 5) (n1 := 495) dX8_init_47 rfl (by decide) (ax_in1 (List.mem_of_getElem? (i := 73) rfl)) (by decide) (by decide) (by decide) (by omega) (by omega) ?_
  refine ax_gen (fun A9 hA9 => ?_)
  rw [show A8.2.2.2.2 + 1 = a + 1 by omega]
  have i9 := ic_new i8 hA9 rfl rfl
  have n9 : A9.2.2.2.2 = a + 1 := i9.1
  have s9 : A9.2.2.2.1 a = some (.inr 8) := (i9.2.1 a (Nat.le_refl _)).trans hs
  clear hA9 i8 n8 s8
  refine ax_putRF (f := 10) dX8_init_49 acl_8 wd_438 (by decide) rfl rfl rfl rfl (ax_nfR (Or.inr ⟨_, rfl⟩)) s9 ?_
  refine ax_gen (fun A10 hA10 => ?_)
  have i10 := ic_putR (i := 0) (j := 1) i9 hA10 (by omega) (by omega) rfl
  have n10 : A10.2.2.2.2 = a + 1 := i10.1
  have s10 : A10.2.2.2.1 a = some (.inr 8) := (i10.2.1 a (Nat.le_refl _)).trans hs
  clear hA10 i9 n9 s9
  refine ax_aload_n dX8_init_52 rfl ?_
  refine ax_bipush (v := 99) dX8_init_53 (by decide) ?_
  refine ax_newa (kd := 0) (len := 99) (c1 := 4) (n1 := 396) dX8_init_55 rfl (by decide) (ax_in1 (List.mem_of_getElem? (i := 73) rfl)) (by decide) (by decide) (by decide) (by omega) (by omega) ?_
  refine ax_gen (fun A11 hA11 => ?_)
  rw [show A10.2.2.2.2 + 1 = a + 2 by omega]
  have i11 := ic_new i10 hA11 rfl rfl
  have n11 : A11.2.2.2.2 = a + 2 := i11.1
  have s11 : A11.2.2.2.1 a = some (.inr 8) := (i11.2.1 a (Nat.le_refl _)).trans hs
  clear hA11 i10 n10 s10
  refine ax_putRF (f := 11) dX8_init_57 acl_8 wd_440 (by decide) rfl rfl rfl rfl (ax_nfR (Or.inr ⟨_, rfl⟩)) s11 ?_
  refine ax_gen (fun A12 hA12 => ?_)
  have i12 := ic_putR (i := 0) (j := 2) i11 hA12 (by omega) (by omega) rfl
  have n12 : A12.2.2.2.2 = a + 2 := i12.1
  have s12 : A12.2.2.2.1 a = some (.inr 8) := (i12.2.1 a (Nat.le_refl _)).trans hs
  clear hA12 i11 n11 s11
  refine ax_aload_n dX8_init_60 rfl ?_
  refine ax_bipush (v := 99) dX8_init_61 (by decide) ?_
  refine ax_newa (kd := 0) (len := 99) (c1 := 3) (n1 := 297) dX8_init_63 rfl (by decide) (ax_in1 (List.mem_of_getElem? (i := 73) rfl)) (by decide) (by decide) (by decide) (by omega) (by omega) ?_
  refine ax_gen (fun A13 hA13 => ?_)
  rw [show A12.2.2.2.2 + 1 = a + 3 by omega]
  have i13 := ic_new i12 hA13 rfl rfl
  have n13 : A13.2.2.2.2 = a + 3 := i13.1
  have s13 : A13.2.2.2.1 a = some (.inr 8) := (i13.2.1 a (Nat.le_refl _)).trans hs
  clear hA13 i12 n12 s12
  refine ax_putRF (f := 12) dX8_init_65 acl_8 wd_442 (by decide) rfl rfl rfl rfl (ax_nfR (Or.inr ⟨_, rfl⟩)) s13 ?_
  refine ax_gen (fun A14 hA14 => ?_)
  have i14 := ic_putR (i := 0) (j := 3) i13 hA14 (by omega) (by omega) rfl
  have n14 : A14.2.2.2.2 = a + 3 := i14.1
  have s14 : A14.2.2.2.1 a = some (.inr 8) := (i14.2.1 a (Nat.le_refl _)).trans hs
  clear hA14 i13 n13 s13
  refine ax_aload_n dX8_init_68 rfl ?_
  refine ax_bipush (v := 99) dX8_init_69 (by decide) ?_
  refine ax_newa (kd := 0) (len := 99) (c1 := 2) (n1 := 198) dX8_init_71 rfl (by decide) (ax_in1 (List.mem_of_getElem? (i := 73) rfl)) (by decide) (by decide) (by decide) (by omega) (by omega) ?_
  refine ax_gen (fun A15 hA15 => ?_)
  rw [show A14.2.2.2.2 + 1 = a + 4 by omega]
  have i15 := ic_new i14 hA15 rfl rfl
  have n15 : A15.2.2.2.2 = a + 4 := i15.1
  have s15 : A15.2.2.2.1 a = some (.inr 8) := (i15.2.1 a (Nat.le_refl _)).trans hs
  clear hA15 i14 n14 s14
  refine ax_putRF (f := 13) dX8_init_73 acl_8 wd_444 (by decide) rfl rfl rfl rfl (ax_nfR (Or.inr ⟨_, rfl⟩)) s15 ?_
  refine ax_gen (fun A16 hA16 => ?_)
  have i16 := ic_putR (i := 0) (j := 4) i15 hA16 (by omega) (by omega) rfl
  have n16 : A16.2.2.2.2 = a + 4 := i16.1
  have s16 : A16.2.2.2.1 a = some (.inr 8) := (i16.2.1 a (Nat.le_refl _)).trans hs
  clear hA16 i15 n15 s15
  refine ax_aload_n dX8_init_76 rfl ?_
  refine ax_bipush (v := 99) dX8_init_77 (by decide) ?_
  refine ax_newa (kd := 0) (len := 99) (c1 := 1) (n1 := 99) dX8_init_79 rfl (by decide) (ax_in1 (List.mem_of_getElem? (i := 73) rfl)) (by decide) (by decide) (by decide) (by omega) (by omega) ?_
  refine ax_gen (fun A17 hA17 => ?_)
  rw [show A16.2.2.2.2 + 1 = a + 5 by omega]
  have i17 := ic_new i16 hA17 rfl rfl
  have n17 : A17.2.2.2.2 = a + 5 := i17.1
  have s17 : A17.2.2.2.1 a = some (.inr 8) := (i17.2.1 a (Nat.le_refl _)).trans hs
  clear hA17 i16 n16 s16
  refine ax_putRF (f := 14) dX8_init_81 acl_8 wd_446 (by decide) rfl rfl rfl rfl (ax_nfR (Or.inr ⟨_, rfl⟩)) s17 ?_
  refine ax_gen (fun A18 hA18 => ?_)
  have i18 := ic_putR (i := 0) (j := 5) i17 hA18 (by omega) (by omega) rfl
  have n18 : A18.2.2.2.2 = a + 5 := i18.1
  have s18 : A18.2.2.2.1 a = some (.inr 8) := (i18.2.1 a (Nat.le_refl _)).trans hs
  clear hA18 i17 n17 s17
  refine ax_aload_n dX8_init_84 rfl ?_
  refine ax_bipush (v := 99) dX8_init_85 (by decide) ?_
  refine ax_newa (kd := 0) (len := 99) (c1 := 0) (n1 := 0) dX8_init_87 rfl (by decide) (ax_in1 (List.mem_of_getElem? (i := 73) rfl)) (by decide) (by decide) (by decide) (by omega) (by omega) ?_
  refine ax_gen (fun A19 hA19 => ?_)
  rw [show A18.2.2.2.2 + 1 = a + 6 by omega]
  have i19 := ic_new i18 hA19 rfl rfl
  have n19 : A19.2.2.2.2 = a + 6 := i19.1
  have s19 : A19.2.2.2.1 a = some (.inr 8) := (i19.2.1 a (Nat.le_refl _)).trans hs
  clear hA19 i18 n18 s18
  refine ax_putRF (f := 15) dX8_init_89 acl_8 wd_447 (by decide) rfl rfl rfl rfl (ax_nfR (Or.inr ⟨_, rfl⟩)) s19 ?_
  refine ax_gen (fun A20 hA20 => ?_)
  have i20 := ic_putR (i := 0) (j := 6) i19 hA20 (by omega) (by omega) rfl
  have n20 : A20.2.2.2.2 = a + 6 := i20.1
  have s20 : A20.2.2.2.1 a = some (.inr 8) := (i20.2.1 a (Nat.le_refl _)).trans hs
  clear hA20 i19 n19 s19
  refine ax_aload_n dX8_init_92 rfl ?_
  refine ax_iload_n dX8_init_93 rfl ?_
  refine ax_putIF (f := 0) dX8_init_94 acl_8 wd_420 (by decide) rfl rfl rfl rfl (ax_nfI rfl) s20 ?_
  refine ax_gen (fun A21 hA21 => ?_)
  have i21 := ic_putI (i := 0) i20 hA21 (by omega)
  have n21 : A21.2.2.2.2 = a + 6 := i21.1
  have s21 : A21.2.2.2.1 a = some (.inr 8) := (i21.2.1 a (Nat.le_refl _)).trans hs
  clear hA21 i20 n20 s20
  refine ax_aload_n dX8_init_97 rfl ?_
  refine ax_iload_n dX8_init_98 rfl ?_
  refine ax_if_ne (tgt := 106) dX8_init_99 (by decide) (fun hc => ?_) (fun hc => ?_)
  · have hc9 := hc
    refine ax_iconst (v := (-1)) dX8_init_106 (by decide) ?_
    refine ax_putIF (f := 1) dX8_init_107 acl_8 wd_422 (by decide) rfl rfl rfl rfl (ax_nfI rfl) s21 ?_
    refine ax_gen (fun A22 hA22 => ?_)
    have i22 := ic_putI (i := 0) i21 hA22 (by omega)
    have n22 : A22.2.2.2.2 = a + 6 := i22.1
    have s22 : A22.2.2.2.1 a = some (.inr 8) := (i22.2.1 a (Nat.le_refl _)).trans hs
    clear hA22 i21 n21 s21
    refine ax_vret dX8_init_110 rfl ?_
    refine ⟨rfl, ic_eq i22 rfl rfl ?_⟩
    unfold w_X8_init
    first | rw [if_neg hc9] | rw [if_pos hc9]
    first | rfl | skip
  · have hc9 := hc
    refine ax_iconst (v := 1) dX8_init_102 (by decide) ?_
    refine ax_goto (tgt := 107) dX8_init_103 (by decide) ?_
    refine ax_putIF (f := 1) dX8_init_107 acl_8 wd_422 (by decide) rfl rfl rfl rfl (ax_nfI rfl) s21 ?_
    refine ax_gen (fun A22 hA22 => ?_)
    have i22 := ic_putI (i := 0) i21 hA22 (by omega)
    have n22 : A22.2.2.2.2 = a + 6 := i22.1
    have s22 : A22.2.2.2.1 a = some (.inr 8) := (i22.2.1 a (Nat.le_refl _)).trans hs
    clear hA22 i21 n21 s21
    refine ax_vret dX8_init_110 rfl ?_
    refine ⟨rfl, ic_eq i22 rfl rfl ?_⟩
    unfold w_X8_init
    first | rw [if_neg hc9] | rw [if_pos hc9]
    first | rfl | skip
def sh_X4_init : List ((Nat × Nat) ⊕ Nat) := [.inr 8, .inl (0, 99), .inl (0, 99), .inl (0, 99), .inl (0, 99), .inl (0, 99), .inl (0, 99), .inr 8, .inl (0, 99), .inl (0, 99), .inl (0, 99), .inl (0, 99), .inl (0, 99), .inl (0, 99), .inl (0, 99)]
def rf_X4_init : List (Nat × Nat × Nat) := [(0, 2, 15), (0, 1, 8), (8, 15, 14), (8, 14, 13), (8, 13, 12), (8, 12, 11), (8, 11, 10), (8, 10, 9), (0, 0, 1), (1, 15, 7), (1, 14, 6), (1, 13, 5), (1, 12, 4), (1, 11, 3), (1, 10, 2)]
def w_X4_init : List (Nat × Nat × Int32) := [(0, 4, (-1)), (0, 3, 0), (8, 1, (if 1 = 0 then 1 else (-1))), (8, 0, 1), (8, 9, 0), (8, 8, 0), (8, 7, 1), (8, 6, 0), (8, 5, 0), (8, 4, 0), (8, 3, 0), (8, 2, 0), (1, 1, (if 0 = 0 then 1 else (-1))), (1, 0, 0), (1, 9, 0), (1, 8, 0), (1, 7, 1), (1, 6, 0), (1, 5, 0), (1, 4, 0), (1, 3, 0), (1, 2, 0)]
theorem i_X4_init {a : Nat} (hn : M.2.2.2.2 = a) (hs : M.2.2.2.1 a = some (.inr 4)) (ha : a ≠ 0) (hz : ∀ i k, M.1 (a + i) k = 0) : ax_Met l G kX4_init 2 15 1319 M [av_r a] (fun o M2 => o = .inl none ∧ ic M M2 a sh_X4_init rf_X4_init w_X4_init) := by
  refine ax_body (by decide) (Nat.le_of_ble_eq_true rfl) ?_
  refine ax_gen (fun A0 hA0 => ?_)
  have i0 : ic M A0 a [] [] [] := by rw [hA0]; exact ic_0 hn hz
  have n0 : A0.2.2.2.2 = a := by rw [hA0]; exact hn
  have s0 : A0.2.2.2.1 a = some (.inr 4) := by rw [hA0]; exact hs
  clear hA0
  refine ax_aload_n dX4_init_0 rfl ?_
  refine ax_objInit dX4_init_1 wd_413 (ax_in1 (List.mem_of_getElem? (i := 31) rfl)) (ax_in1 (List.mem_of_getElem? (i := 32) rfl)) ha (by omega) rfl ?_
  refine ax_aload_n dX4_init_4 rfl ?_
  refine ax_newo (c1 := 14) (n1 := 1303) dX4_init_5 acl_8 wd_414 (ax_in2 (List.mem_of_getElem? (i := 9) rfl)) (ax_in1 (List.mem_of_getElem? (i := 8) rfl)) (by decide) (by omega) (by omega) ?_
  refine ax_gen (fun A1 hA1 => ?_)
  rw [show A0.2.2.2.2 + 1 = a + 1 by omega]
  have i1 := ic_new i0 hA1 rfl rfl
  have n1 : A1.2.2.2.2 = a + 1 := i1.1
  have s1 : A1.2.2.2.1 a = some (.inr 4) := (i1.2.1 a (Nat.le_refl _)).trans hs
  clear hA1
  refine ax_dup dX4_init_8 (by first | rfl | exact ax_crf _) ?_
  refine ax_iconst (v := 0) dX4_init_9 (by decide) ?_
  refine ax_callIN (As := [av_i 0]) (a := a + 1) (c1 := 8) (n1 := 709) (i_X8_init (M := A1) (a := a + 1) (x := 0) n1 (by have h9 := i1.2.2.2.1 0 (.inr 8) rfl; rw [show a + 1 + 0 = a + 1 by omega] at h9; exact h9) (by omega) (ic_z (m := 1) i1 rfl)) dX4_init_10 mX8_init wd_416 (by omega) rfl rfl (by omega) (by omega) (by omega) rfl rfl (fun _ _ h => by cases h.1) ?_
  rintro r9 A2 ⟨q9, j9⟩
  cases q9
  have hA2 := n1
  have i2 := ic_child i1 j9 rfl rfl rfl
  have n2 : A2.2.2.2.2 = a + 7 := i2.1
  have s2 : A2.2.2.2.1 a = some (.inr 4) := (i2.2.1 a (Nat.le_refl _)).trans hs
  clear hA2 i1 n1 s1
  clear j9
  refine ax_putRF (f := 0) dX4_init_13 acl_4 wd_481 (by decide) rfl rfl rfl rfl (ax_nfR (Or.inl ⟨_, rfl⟩)) s2 ?_
  refine ax_gen (fun A3 hA3 => ?_)
  have i3 := ic_putR (i := 0) (j := 1) i2 hA3 (by omega) (by omega) rfl
  have n3 : A3.2.2.2.2 = a + 7 := i3.1
  have s3 : A3.2.2.2.1 a = some (.inr 4) := (i3.2.1 a (Nat.le_refl _)).trans hs
  clear hA3 i2 n2 s2
  refine ax_aload_n dX4_init_16 rfl ?_
  refine ax_newo (c1 := 7) (n1 := 693) dX4_init_17 acl_8 wd_414 (ax_in2 (List.mem_of_getElem? (i := 9) rfl)) (ax_in1 (List.mem_of_getElem? (i := 8) rfl)) (by decide) (by omega) (by omega) ?_
  refine ax_gen (fun A4 hA4 => ?_)
  rw [show A3.2.2.2.2 + 1 = a + 8 by omega]
  have i4 := ic_new i3 hA4 rfl rfl
  have n4 : A4.2.2.2.2 = a + 8 := i4.1
  have s4 : A4.2.2.2.1 a = some (.inr 4) := (i4.2.1 a (Nat.le_refl _)).trans hs
  clear hA4 i3 n3 s3
  refine ax_dup dX4_init_20 (by first | rfl | exact ax_crf _) ?_
  refine ax_iconst (v := 1) dX4_init_21 (by decide) ?_
  refine ax_callIN (As := [av_i 1]) (a := a + 8) (c1 := 1) (n1 := 99) (i_X8_init (M := A4) (a := a + 8) (x := 1) n4 (by have h9 := i4.2.2.2.1 7 (.inr 8) rfl; rw [show a + 1 + 7 = a + 8 by omega] at h9; exact h9) (by omega) (ic_z (m := 8) i4 rfl)) dX4_init_22 mX8_init wd_416 (by omega) rfl rfl (by omega) (by omega) (by omega) rfl rfl (fun _ _ h => by cases h.1) ?_
  rintro r9 A5 ⟨q9, j9⟩
  cases q9
  have hA5 := n4
  have i5 := ic_child i4 j9 rfl rfl rfl
  have n5 : A5.2.2.2.2 = a + 14 := i5.1
  have s5 : A5.2.2.2.1 a = some (.inr 4) := (i5.2.1 a (Nat.le_refl _)).trans hs
  clear hA5 i4 n4 s4
  clear j9
  refine ax_putRF (f := 1) dX4_init_25 acl_4 wd_482 (by decide) rfl rfl rfl rfl (ax_nfR (Or.inl ⟨_, rfl⟩)) s5 ?_
  refine ax_gen (fun A6 hA6 => ?_)
  have i6 := ic_putR (i := 0) (j := 8) i5 hA6 (by omega) (by omega) rfl
  have n6 : A6.2.2.2.2 = a + 14 := i6.1
  have s6 : A6.2.2.2.1 a = some (.inr 4) := (i6.2.1 a (Nat.le_refl _)).trans hs
  clear hA6 i5 n5 s5
  refine ax_aload_n dX4_init_28 rfl ?_
  refine ax_bipush (v := 99) dX4_init_29 (by decide) ?_
  refine ax_newa (kd := 0) (len := 99) (c1 := 0) (n1 := 0) dX4_init_31 rfl (by decide) (ax_in1 (List.mem_of_getElem? (i := 73) rfl)) (by decide) (by decide) (by decide) (by omega) (by omega) ?_
  refine ax_gen (fun A7 hA7 => ?_)
  rw [show A6.2.2.2.2 + 1 = a + 15 by omega]
  have i7 := ic_new i6 hA7 rfl rfl
  have n7 : A7.2.2.2.2 = a + 15 := i7.1
  have s7 : A7.2.2.2.1 a = some (.inr 4) := (i7.2.1 a (Nat.le_refl _)).trans hs
  clear hA7 i6 n6 s6
  refine ax_putRF (f := 2) dX4_init_33 acl_4 wd_483 (by decide) rfl rfl rfl rfl (ax_nfR (Or.inr ⟨_, rfl⟩)) s7 ?_
  refine ax_gen (fun A8 hA8 => ?_)
  have i8 := ic_putR (i := 0) (j := 15) i7 hA8 (by omega) (by omega) rfl
  have n8 : A8.2.2.2.2 = a + 15 := i8.1
  have s8 : A8.2.2.2.1 a = some (.inr 4) := (i8.2.1 a (Nat.le_refl _)).trans hs
  clear hA8 i7 n7 s7
  refine ax_aload_n dX4_init_36 rfl ?_
  refine ax_iconst (v := 0) dX4_init_37 (by decide) ?_
  refine ax_putI (f := 3) dX4_init_38 acl_4 wd_484 (by decide) rfl rfl (ax_nfI rfl) s8 ?_
  refine ax_gen (fun A9 hA9 => ?_)
  have i9 := ic_putI (i := 0) i8 hA9 (by omega)
  have n9 : A9.2.2.2.2 = a + 15 := i9.1
  have s9 : A9.2.2.2.1 a = some (.inr 4) := (i9.2.1 a (Nat.le_refl _)).trans hs
  clear hA9 i8 n8 s8
  refine ax_aload_n dX4_init_41 rfl ?_
  refine ax_iconst (v := (-1)) dX4_init_42 (by decide) ?_
  refine ax_putI (f := 4) dX4_init_43 acl_4 wd_486 (by decide) rfl rfl (ax_nfI rfl) s9 ?_
  refine ax_gen (fun A10 hA10 => ?_)
  have i10 := ic_putI (i := 0) i9 hA10 (by omega)
  have n10 : A10.2.2.2.2 = a + 15 := i10.1
  have s10 : A10.2.2.2.1 a = some (.inr 4) := (i10.2.1 a (Nat.le_refl _)).trans hs
  clear hA10 i9 n9 s9
  refine ax_vret dX4_init_46 rfl ?_
  exact ⟨rfl, i10⟩
def sh_X7_init : List ((Nat × Nat) ⊕ Nat) := [.inr 5, .inl (0, 6), .inl (0, 60), .inl (0, 10), .inl (0, 10), .inl (0, 2), .inl (0, 2), .inl (0, 2), .inr 2, .inl (0, 150), .inl (0, 40), .inr 2, .inl (0, 150), .inl (0, 40), .inr 2, .inl (0, 150), .inl (0, 40), .inl (0, 12)]
def rf_X7_init : List (Nat × Nat × Nat) := [(0, 4, 18), (0, 3, 15), (15, 2, 17), (15, 0, 16), (0, 2, 12), (12, 2, 14), (12, 0, 13), (0, 1, 9), (9, 2, 11), (9, 0, 10), (0, 0, 1), (1, 15, 8), (1, 14, 7), (1, 13, 6), (1, 7, 5), (1, 6, 4), (1, 4, 3), (1, 1, 2)]
def w_X7_init : List (Nat × Nat × Int32) := [(15, 1, 3), (16, 2, 1), (15, 1, 2), (16, 1, 1012), (15, 1, 1), (16, 0, 108), (15, 1, 0), (12, 1, 3), (13, 2, 1), (12, 1, 2), (13, 1, 1012), (12, 1, 1), (13, 0, 108), (12, 1, 0), (9, 1, 7), (10, 6, 3), (9, 1, 6), (10, 5, 0), (9, 1, 5), (10, 4, 1001), (9, 1, 4), (10, 3, 102), (9, 1, 3), (10, 2, 1), (9, 1, 2), (10, 1, 101), (9, 1, 1), (10, 0, 100), (9, 1, 0), (15, 1, 0), (12, 1, 0), (9, 1, 0), (1, 16, 0), (1, 12, 6), (1, 11, 20), (1, 10, 4), (1, 9, 0), (1, 8, 0), (1, 5, 0), (1, 3, 0), (1, 2, 0), (1, 0, 40)]
theorem i_X7_init {a : Nat} (hn : M.2.2.2.2 = a) (hs : M.2.2.2.1 a = some (.inr 7)) (ha : a ≠ 0) (hz : ∀ i k, M.1 (a + i) k = 0) : ax_Met l G kX7_init 3 18 700 M [av_r a] (fun o M2 => o = .inl none ∧ ic M M2 a sh_X7_init rf_X7_init w_X7_init) := by
  refine ax_body (by decide) (Nat.le_of_ble_eq_true rfl) ?_
  refine ax_gen (fun A0 hA0 => ?_)
  have i0 : ic M A0 a [] [] [] := by rw [hA0]; exact ic_0 hn hz
  have n0 : A0.2.2.2.2 = a := by rw [hA0]; exact hn
  have s0 : A0.2.2.2.1 a = some (.inr 7) := by rw [hA0]; exact hs
  clear hA0
  refine ax_aload_n dX7_init_0 rfl ?_
  refine ax_objInit dX7_init_1 wd_245 (ax_in1 (List.mem_of_getElem? (i := 31) rfl)) (ax_in1 (List.mem_of_getElem? (i := 32) rfl)) ha (by omega) rfl ?_
  refine ax_aload_n dX7_init_4 rfl ?_
  refine ax_newo (c1 := 17) (n1 := 683) dX7_init_5 acl_5 wd_246 (ax_in1 (List.mem_of_getElem? (i := 81) rfl)) (ax_in1 (List.mem_of_getElem? (i := 4) rfl)) (by decide) (by omega) (by omega) ?_
  refine ax_gen (fun A1 hA1 => ?_)
  rw [show A0.2.2.2.2 + 1 = a + 1 by omega]
  have i1 := ic_new i0 hA1 rfl rfl
  have n1 : A1.2.2.2.2 = a + 1 := i1.1
  have s1 : A1.2.2.2.1 a = some (.inr 7) := (i1.2.1 a (Nat.le_refl _)).trans hs
  clear hA1
  refine ax_dup dX7_init_8 (by first | rfl | exact ax_crf _) ?_
  refine ax_callIN (As := []) (a := a + 1) (c1 := 10) (n1 := 591) (i_X5_init (M := A1) (a := a + 1) n1 (by have h9 := i1.2.2.2.1 0 (.inr 5) rfl; rw [show a + 1 + 0 = a + 1 by omega] at h9; exact h9) (by omega) (ic_z (m := 1) i1 rfl)) dX7_init_9 mX5_init wd_248 (by omega) rfl rfl (by omega) (by omega) (by omega) rfl rfl (fun _ _ h => by cases h.1) ?_
  rintro r9 A2 ⟨q9, j9⟩
  cases q9
  have hA2 := n1
  have i2 := ic_child i1 j9 rfl rfl rfl
  have n2 : A2.2.2.2.2 = a + 8 := i2.1
  have s2 : A2.2.2.2.1 a = some (.inr 7) := (i2.2.1 a (Nat.le_refl _)).trans hs
  clear hA2 i1 n1 s1
  clear j9
  refine ax_putR (f := 0) dX7_init_12 acl_7 wd_365 (by decide) rfl rfl (ax_nfR (Or.inl ⟨_, rfl⟩)) s2 ?_
  refine ax_gen (fun A3 hA3 => ?_)
  have i3 := ic_putR (i := 0) (j := 1) i2 hA3 (by omega) (by omega) rfl
  have n3 : A3.2.2.2.2 = a + 8 := i3.1
  have s3 : A3.2.2.2.1 a = some (.inr 7) := (i3.2.1 a (Nat.le_refl _)).trans hs
  clear hA3 i2 n2 s2
  refine ax_aload_n dX7_init_15 rfl ?_
  refine ax_newo (c1 := 9) (n1 := 588) dX7_init_16 acl_2 wd_333 (ax_in1 (List.mem_of_getElem? (i := 168) rfl)) (ax_in1 (List.mem_of_getElem? (i := 5) rfl)) (by decide) (by omega) (by omega) ?_
  refine ax_gen (fun A4 hA4 => ?_)
  rw [show A3.2.2.2.2 + 1 = a + 9 by omega]
  have i4 := ic_new i3 hA4 rfl rfl
  have n4 : A4.2.2.2.2 = a + 9 := i4.1
  have s4 : A4.2.2.2.1 a = some (.inr 7) := (i4.2.1 a (Nat.le_refl _)).trans hs
  clear hA4 i3 n3 s3
  refine ax_dup dX7_init_19 (by first | rfl | exact ax_crf _) ?_
  refine ax_callIN (As := []) (a := a + 9) (c1 := 7) (n1 := 398) (i_X2_init (M := A4) (a := a + 9) n4 (by have h9 := i4.2.2.2.1 8 (.inr 2) rfl; rw [show a + 1 + 8 = a + 9 by omega] at h9; exact h9) (by omega) (ic_z (m := 9) i4 rfl)) dX7_init_20 mX2_init wd_335 (by omega) rfl rfl (by omega) (by omega) (by omega) rfl rfl (fun _ _ h => by cases h.1) ?_
  rintro r9 A5 ⟨q9, j9⟩
  cases q9
  have hA5 := n4
  have i5 := ic_child i4 j9 rfl rfl rfl
  have n5 : A5.2.2.2.2 = a + 11 := i5.1
  have s5 : A5.2.2.2.1 a = some (.inr 7) := (i5.2.1 a (Nat.le_refl _)).trans hs
  clear hA5 i4 n4 s4
  clear j9
  refine ax_putR (f := 1) dX7_init_23 acl_7 wd_368 (by decide) rfl rfl (ax_nfR (Or.inl ⟨_, rfl⟩)) s5 ?_
  refine ax_gen (fun A6 hA6 => ?_)
  have i6 := ic_putR (i := 0) (j := 9) i5 hA6 (by omega) (by omega) rfl
  have n6 : A6.2.2.2.2 = a + 11 := i6.1
  have s6 : A6.2.2.2.1 a = some (.inr 7) := (i6.2.1 a (Nat.le_refl _)).trans hs
  clear hA6 i5 n5 s5
  refine ax_aload_n dX7_init_26 rfl ?_
  refine ax_newo (c1 := 6) (n1 := 395) dX7_init_27 acl_2 wd_333 (ax_in1 (List.mem_of_getElem? (i := 168) rfl)) (ax_in1 (List.mem_of_getElem? (i := 5) rfl)) (by decide) (by omega) (by omega) ?_
  refine ax_gen (fun A7 hA7 => ?_)
  rw [show A6.2.2.2.2 + 1 = a + 12 by omega]
  have i7 := ic_new i6 hA7 rfl rfl
  have n7 : A7.2.2.2.2 = a + 12 := i7.1
  have s7 : A7.2.2.2.1 a = some (.inr 7) := (i7.2.1 a (Nat.le_refl _)).trans hs
  clear hA7 i6 n6 s6
  refine ax_dup dX7_init_30 (by first | rfl | exact ax_crf _) ?_
  refine ax_callIN (As := []) (a := a + 12) (c1 := 4) (n1 := 205) (i_X2_init (M := A7) (a := a + 12) n7 (by have h9 := i7.2.2.2.1 11 (.inr 2) rfl; rw [show a + 1 + 11 = a + 12 by omega] at h9; exact h9) (by omega) (ic_z (m := 12) i7 rfl)) dX7_init_31 mX2_init wd_335 (by omega) rfl rfl (by omega) (by omega) (by omega) rfl rfl (fun _ _ h => by cases h.1) ?_
  rintro r9 A8 ⟨q9, j9⟩
  cases q9
  have hA8 := n7
  have i8 := ic_child i7 j9 rfl rfl rfl
  have n8 : A8.2.2.2.2 = a + 14 := i8.1
  have s8 : A8.2.2.2.1 a = some (.inr 7) := (i8.2.1 a (Nat.le_refl _)).trans hs
  clear hA8 i7 n7 s7
  clear j9
  refine ax_putR (f := 2) dX7_init_34 acl_7 wd_370 (by decide) rfl rfl (ax_nfR (Or.inl ⟨_, rfl⟩)) s8 ?_
  refine ax_gen (fun A9 hA9 => ?_)
  have i9 := ic_putR (i := 0) (j := 12) i8 hA9 (by omega) (by omega) rfl
  have n9 : A9.2.2.2.2 = a + 14 := i9.1
  have s9 : A9.2.2.2.1 a = some (.inr 7) := (i9.2.1 a (Nat.le_refl _)).trans hs
  clear hA9 i8 n8 s8
  refine ax_aload_n dX7_init_37 rfl ?_
  refine ax_newo (c1 := 3) (n1 := 202) dX7_init_38 acl_2 wd_333 (ax_in1 (List.mem_of_getElem? (i := 168) rfl)) (ax_in1 (List.mem_of_getElem? (i := 5) rfl)) (by decide) (by omega) (by omega) ?_
  refine ax_gen (fun A10 hA10 => ?_)
  rw [show A9.2.2.2.2 + 1 = a + 15 by omega]
  have i10 := ic_new i9 hA10 rfl rfl
  have n10 : A10.2.2.2.2 = a + 15 := i10.1
  have s10 : A10.2.2.2.1 a = some (.inr 7) := (i10.2.1 a (Nat.le_refl _)).trans hs
  clear hA10 i9 n9 s9
  refine ax_dup dX7_init_41 (by first | rfl | exact ax_crf _) ?_
  refine ax_callIN (As := []) (a := a + 15) (c1 := 1) (n1 := 12) (i_X2_init (M := A10) (a := a + 15) n10 (by have h9 := i10.2.2.2.1 14 (.inr 2) rfl; rw [show a + 1 + 14 = a + 15 by omega] at h9; exact h9) (by omega) (ic_z (m := 15) i10 rfl)) dX7_init_42 mX2_init wd_335 (by omega) rfl rfl (by omega) (by omega) (by omega) rfl rfl (fun _ _ h => by cases h.1) ?_
  rintro r9 A11 ⟨q9, j9⟩
  cases q9
  have hA11 := n10
  have i11 := ic_child i10 j9 rfl rfl rfl
  have n11 : A11.2.2.2.2 = a + 17 := i11.1
  have s11 : A11.2.2.2.1 a = some (.inr 7) := (i11.2.1 a (Nat.le_refl _)).trans hs
  clear hA11 i10 n10 s10
  clear j9
  refine ax_putR (f := 3) dX7_init_45 acl_7 wd_371 (by decide) rfl rfl (ax_nfR (Or.inl ⟨_, rfl⟩)) s11 ?_
  refine ax_gen (fun A12 hA12 => ?_)
  have i12 := ic_putR (i := 0) (j := 15) i11 hA12 (by omega) (by omega) rfl
  have n12 : A12.2.2.2.2 = a + 17 := i12.1
  have s12 : A12.2.2.2.1 a = some (.inr 7) := (i12.2.1 a (Nat.le_refl _)).trans hs
  clear hA12 i11 n11 s11
  refine ax_aload_n dX7_init_48 rfl ?_
  refine ax_bipush (v := 12) dX7_init_49 (by decide) ?_
  refine ax_newa (kd := 0) (len := 12) (c1 := 0) (n1 := 0) dX7_init_51 rfl (by decide) (ax_in1 (List.mem_of_getElem? (i := 73) rfl)) (by decide) (by decide) (by decide) (by omega) (by omega) ?_
  refine ax_gen (fun A13 hA13 => ?_)
  rw [show A12.2.2.2.2 + 1 = a + 18 by omega]
  have i13 := ic_new i12 hA13 rfl rfl
  have n13 : A13.2.2.2.2 = a + 18 := i13.1
  have s13 : A13.2.2.2.1 a = some (.inr 7) := (i13.2.1 a (Nat.le_refl _)).trans hs
  clear hA13 i12 n12 s12
  refine ax_putRF (f := 4) dX7_init_53 acl_7 wd_372 (by decide) rfl rfl rfl rfl (ax_nfR (Or.inr ⟨_, rfl⟩)) s13 ?_
  refine ax_gen (fun A14 hA14 => ?_)
  have i14 := ic_putR (i := 0) (j := 18) i13 hA14 (by omega) (by omega) rfl
  have n14 : A14.2.2.2.2 = a + 18 := i14.1
  have s14 : A14.2.2.2.1 a = some (.inr 7) := (i14.2.1 a (Nat.le_refl _)).trans hs
  clear hA14 i13 n13 s13
  refine ax_aload_n dX7_init_56 rfl ?_
  refine ax_callV (As := []) (d2 := _) (c1 := 0) (n1 := 0) (g_forget (M := A14) (a := a) (F1 := a + 9) (F2 := a + 12) (F3 := a + 15) s14 (i14.2.2.2.2.1 (0, 1, 9) (by decide)) (i14.2.2.2.2.1 (0, 2, 12) (by decide)) (i14.2.2.2.2.1 (0, 3, 15) (by decide)) ⟨(by have h9 := i14.2.2.2.1 8 _ rfl; rw [show a + 1 + 8 = a + 9 by omega] at h9; exact h9), i14.2.2.2.2.1 (9, 0, 10) (by decide), (by have h9 := i14.2.2.2.1 9 _ rfl; rw [show a + 1 + 9 = a + 9 + 1 by omega] at h9; exact h9)⟩ ⟨(by have h9 := i14.2.2.2.1 11 _ rfl; rw [show a + 1 + 11 = a + 12 by omega] at h9; exact h9), i14.2.2.2.2.1 (12, 0, 13) (by decide), (by have h9 := i14.2.2.2.1 12 _ rfl; rw [show a + 1 + 12 = a + 12 + 1 by omega] at h9; exact h9)⟩ ⟨(by have h9 := i14.2.2.2.1 14 _ rfl; rw [show a + 1 + 14 = a + 15 by omega] at h9; exact h9), i14.2.2.2.2.1 (15, 0, 16) (by decide), (by have h9 := i14.2.2.2.1 15 _ rfl; rw [show a + 1 + 15 = a + 15 + 1 by omega] at h9; exact h9)⟩) dX7_init_57 mX7_forgetFormulas wd_349 acl_7 s14 rfl (by omega) (by omega) (by omega) rfl rfl (fun _ _ h => by cases h.1) ?_
  rintro r9 A15 ⟨q9, hA15⟩
  cases q9
  have i15 := ic_ur (ic_ur (ic_ul i14 9) 12) 15; rw [← hA15] at i15
  have n15 : A15.2.2.2.2 = a + 18 := i15.1
  have s15 : A15.2.2.2.1 a = some (.inr 7) := (i15.2.1 a (Nat.le_refl _)).trans hs
  clear hA15 i14 n14 s14
  refine ax_vret dX7_init_60 rfl ?_
  exact ⟨rfl, i15⟩
def sh_X1_init : List ((Nat × Nat) ⊕ Nat) := [.inl (0, 20), .inl (0, 20), .inl (0, 20), .inl (0, 20), .inl (2, 3), .inl (0, 106), .inl (0, 106), .inl (0, 106), .inl (0, 3)]
def rf_X1_init : List (Nat × Nat × Nat) := [(0, 6, 9), (0, 5, 5), (5, 0, 6), (5, 1, 7), (5, 2, 8), (0, 3, 4), (0, 2, 3), (0, 1, 2), (0, 0, 1)]
def w_X1_init : List (Nat × Nat × Int32) := [(0, 7, 0), (0, 4, 0)]
theorem i_X1_init {a : Nat} (hn : M.2.2.2.2 = a) (hs : M.2.2.2.1 a = some (.inr 1)) (ha : a ≠ 0) (hz : ∀ i k, M.1 (a + i) k = 0) : ax_MetE l G kX1_init 1 9 404 M [av_r a] (fun o M2 => o = .inl none ∧ ic M M2 a sh_X1_init rf_X1_init w_X1_init) := by
  refine ax_bodyE (by decide) (Nat.le_of_ble_eq_true rfl) ?_
  refine ax_gen (fun A0 hA0 => ?_)
  have i0 : ic M A0 a [] [] [] := by rw [hA0]; exact ic_0 hn hz
  have n0 : A0.2.2.2.2 = a := by rw [hA0]; exact hn
  have s0 : A0.2.2.2.1 a = some (.inr 1) := by rw [hA0]; exact hs
  clear hA0
  refine ax_aload_n dX1_init_0 rfl ?_
  refine ax_objInit dX1_init_1 wd_517 (ax_in1 (List.mem_of_getElem? (i := 31) rfl)) (ax_in1 (List.mem_of_getElem? (i := 32) rfl)) ha (by omega) rfl ?_
  refine ax_aload_n dX1_init_4 rfl ?_
  refine ax_bipush (v := 20) dX1_init_5 (by decide) ?_
  refine ax_newa (kd := 0) (len := 20) (c1 := 8) (n1 := 384) dX1_init_7 rfl (by decide) (ax_in1 (List.mem_of_getElem? (i := 73) rfl)) (by decide) (by decide) (by decide) (by omega) (by omega) ?_
  refine ax_gen (fun A1 hA1 => ?_)
  rw [show A0.2.2.2.2 + 1 = a + 1 by omega]
  have i1 := ic_new i0 hA1 rfl rfl
  have n1 : A1.2.2.2.2 = a + 1 := i1.1
  have s1 : A1.2.2.2.1 a = some (.inr 1) := (i1.2.1 a (Nat.le_refl _)).trans hs
  clear hA1
  refine ax_putRF (f := 0) dX1_init_9 acl_1 wd_520 (by decide) rfl rfl rfl rfl (ax_nfR (Or.inr ⟨_, rfl⟩)) s1 ?_
  refine ax_gen (fun A2 hA2 => ?_)
  have i2 := ic_putR (i := 0) (j := 1) i1 hA2 (by omega) (by omega) rfl
  have n2 : A2.2.2.2.2 = a + 1 := i2.1
  have s2 : A2.2.2.2.1 a = some (.inr 1) := (i2.2.1 a (Nat.le_refl _)).trans hs
  clear hA2 i1 n1 s1
  refine ax_aload_n dX1_init_12 rfl ?_
  refine ax_bipush (v := 20) dX1_init_13 (by decide) ?_
  refine ax_newa (kd := 0) (len := 20) (c1 := 7) (n1 := 364) dX1_init_15 rfl (by decide) (ax_in1 (List.mem_of_getElem? (i := 73) rfl)) (by decide) (by decide) (by decide) (by omega) (by omega) ?_
  refine ax_gen (fun A3 hA3 => ?_)
  rw [show A2.2.2.2.2 + 1 = a + 2 by omega]
  have i3 := ic_new i2 hA3 rfl rfl
  have n3 : A3.2.2.2.2 = a + 2 := i3.1
  have s3 : A3.2.2.2.1 a = some (.inr 1) := (i3.2.1 a (Nat.le_refl _)).trans hs
  clear hA3 i2 n2 s2
  refine ax_putRF (f := 1) dX1_init_17 acl_1 wd_521 (by decide) rfl rfl rfl rfl (ax_nfR (Or.inr ⟨_, rfl⟩)) s3 ?_
  refine ax_gen (fun A4 hA4 => ?_)
  have i4 := ic_putR (i := 0) (j := 2) i3 hA4 (by omega) (by omega) rfl
  have n4 : A4.2.2.2.2 = a + 2 := i4.1
  have s4 : A4.2.2.2.1 a = some (.inr 1) := (i4.2.1 a (Nat.le_refl _)).trans hs
  clear hA4 i3 n3 s3
  refine ax_aload_n dX1_init_20 rfl ?_
  refine ax_bipush (v := 20) dX1_init_21 (by decide) ?_
  refine ax_newa (kd := 0) (len := 20) (c1 := 6) (n1 := 344) dX1_init_23 rfl (by decide) (ax_in1 (List.mem_of_getElem? (i := 73) rfl)) (by decide) (by decide) (by decide) (by omega) (by omega) ?_
  refine ax_gen (fun A5 hA5 => ?_)
  rw [show A4.2.2.2.2 + 1 = a + 3 by omega]
  have i5 := ic_new i4 hA5 rfl rfl
  have n5 : A5.2.2.2.2 = a + 3 := i5.1
  have s5 : A5.2.2.2.1 a = some (.inr 1) := (i5.2.1 a (Nat.le_refl _)).trans hs
  clear hA5 i4 n4 s4
  refine ax_putRF (f := 2) dX1_init_25 acl_1 wd_522 (by decide) rfl rfl rfl rfl (ax_nfR (Or.inr ⟨_, rfl⟩)) s5 ?_
  refine ax_gen (fun A6 hA6 => ?_)
  have i6 := ic_putR (i := 0) (j := 3) i5 hA6 (by omega) (by omega) rfl
  have n6 : A6.2.2.2.2 = a + 3 := i6.1
  have s6 : A6.2.2.2.1 a = some (.inr 1) := (i6.2.1 a (Nat.le_refl _)).trans hs
  clear hA6 i5 n5 s5
  refine ax_aload_n dX1_init_28 rfl ?_
  refine ax_bipush (v := 20) dX1_init_29 (by decide) ?_
  refine ax_newa (kd := 0) (len := 20) (c1 := 5) (n1 := 324) dX1_init_31 rfl (by decide) (ax_in1 (List.mem_of_getElem? (i := 73) rfl)) (by decide) (by decide) (by decide) (by omega) (by omega) ?_
  refine ax_gen (fun A7 hA7 => ?_)
  rw [show A6.2.2.2.2 + 1 = a + 4 by omega]
  have i7 := ic_new i6 hA7 rfl rfl
  have n7 : A7.2.2.2.2 = a + 4 := i7.1
  have s7 : A7.2.2.2.1 a = some (.inr 1) := (i7.2.1 a (Nat.le_refl _)).trans hs
  clear hA7 i6 n6 s6
  refine ax_putRF (f := 3) dX1_init_33 acl_1 wd_523 (by decide) rfl rfl rfl rfl (ax_nfR (Or.inr ⟨_, rfl⟩)) s7 ?_
  refine ax_gen (fun A8 hA8 => ?_)
  have i8 := ic_putR (i := 0) (j := 4) i7 hA8 (by omega) (by omega) rfl
  have n8 : A8.2.2.2.2 = a + 4 := i8.1
  have s8 : A8.2.2.2.1 a = some (.inr 1) := (i8.2.1 a (Nat.le_refl _)).trans hs
  clear hA8 i7 n7 s7
  refine ax_aload_n dX1_init_36 rfl ?_
  refine ax_iconst (v := 0) dX1_init_37 (by decide) ?_
  refine ax_putI (f := 4) dX1_init_38 acl_1 wd_524 (by decide) rfl rfl (ax_nfI rfl) s8 ?_
  refine ax_gen (fun A9 hA9 => ?_)
  have i9 := ic_putI (i := 0) i8 hA9 (by omega)
  have n9 : A9.2.2.2.2 = a + 4 := i9.1
  have s9 : A9.2.2.2.1 a = some (.inr 1) := (i9.2.1 a (Nat.le_refl _)).trans hs
  clear hA9 i8 n8 s8
  refine ax_aload_n dX1_init_41 rfl ?_
  refine ax_iconst (v := 3) dX1_init_42 (by decide) ?_
  refine ax_bipush (v := 106) dX1_init_43 (by decide) ?_
  refine ax_mna2 (N := 3) (K := 106) (c1 := 1) (n1 := 3) dX1_init_45 wd_518 rfl rfl (by decide) (by decide) (by omega) (by omega) ?_
  refine ax_gen (fun A10 hA10 => ?_)
  rw [show A9.2.2.2.2 + 1 = a + 5 by omega]
  rw [n9] at hA10
  have i10 := ic_alm (rf2 := (List.range 3).map (fun j => (5, j, 6 + j))) i9 hA10 rfl rfl rfl (al2 4 3 106 a)
  have n10 : A10.2.2.2.2 = a + 8 := i10.1
  have s10 : A10.2.2.2.1 a = some (.inr 1) := (i10.2.1 a (Nat.le_refl _)).trans hs
  clear hA10 i9 n9 s9
  refine ax_putRF (f := 5) dX1_init_49 acl_1 wd_526 (by decide) rfl rfl rfl rfl (ax_nfR (Or.inr ⟨_, rfl⟩)) s10 ?_
  refine ax_gen (fun A11 hA11 => ?_)
  have i11 := ic_putR (i := 0) (j := 5) i10 hA11 (by omega) (by omega) rfl
  have n11 : A11.2.2.2.2 = a + 8 := i11.1
  have s11 : A11.2.2.2.1 a = some (.inr 1) := (i11.2.1 a (Nat.le_refl _)).trans hs
  clear hA11 i10 n10 s10
  refine ax_aload_n dX1_init_52 rfl ?_
  refine ax_iconst (v := 3) dX1_init_53 (by decide) ?_
  refine ax_newa (kd := 0) (len := 3) (c1 := 0) (n1 := 0) dX1_init_54 rfl (by decide) (ax_in1 (List.mem_of_getElem? (i := 73) rfl)) (by decide) (by decide) (by decide) (by omega) (by omega) ?_
  refine ax_gen (fun A12 hA12 => ?_)
  rw [show A11.2.2.2.2 + 1 = a + 9 by omega]
  have i12 := ic_new i11 hA12 rfl rfl
  have n12 : A12.2.2.2.2 = a + 9 := i12.1
  have s12 : A12.2.2.2.1 a = some (.inr 1) := (i12.2.1 a (Nat.le_refl _)).trans hs
  clear hA12 i11 n11 s11
  refine ax_putRF (f := 6) dX1_init_56 acl_1 wd_527 (by decide) rfl rfl rfl rfl (ax_nfR (Or.inr ⟨_, rfl⟩)) s12 ?_
  refine ax_gen (fun A13 hA13 => ?_)
  have i13 := ic_putR (i := 0) (j := 9) i12 hA13 (by omega) (by omega) rfl
  have n13 : A13.2.2.2.2 = a + 9 := i13.1
  have s13 : A13.2.2.2.1 a = some (.inr 1) := (i13.2.1 a (Nat.le_refl _)).trans hs
  clear hA13 i12 n12 s12
  refine ax_aload_n dX1_init_59 rfl ?_
  refine ax_iconst (v := 0) dX1_init_60 (by decide) ?_
  refine ax_putI (f := 7) dX1_init_61 acl_1 wd_528 (by decide) rfl rfl (ax_nfI rfl) s13 ?_
  refine ax_gen (fun A14 hA14 => ?_)
  have i14 := ic_putI (i := 0) i13 hA14 (by omega)
  have n14 : A14.2.2.2.2 = a + 9 := i14.1
  have s14 : A14.2.2.2.1 a = some (.inr 1) := (i14.2.1 a (Nat.le_refl _)).trans hs
  clear hA14 i13 n13 s13
  refine ax_FE_of ?_
  refine ax_vret dX1_init_64 rfl ?_
  exact ⟨rfl, i14⟩
end X99h

