/-! ===== asks of the class: loaded dice ===== -/
theorem ld_cl : ∀ f, f < 17 → ∀ n, n < 7 → ∀ k, k < 7 → (gd 200 (ld_u f n k) (ld_l f n k)).1 = (gd 30 (ld_l f n k) (ld_u f n k)).1 := by decide +kernel
section X89
variable {l : Launch} {G : ax_G} {M : ax_M} {p : Nat → Nat} {r : Nat → Int} {lw : mt_L} {es : List (Nat × Nat)}
theorem x_power {d : Nat} (a : Int32) {n : Nat} (hn : n ≤ 100) {x : Int32} (hx : x = nI n) : ax_Met l G kX9_power d 0 0 M [av_i a, av_i x] (ax_p (av_l (pw a.toInt64 n)) M) := by
  subst hx
  refine ax_body (by decide) (Nat.le_of_ble_eq_true rfl) ?_
  refine ax_lconst (v := 1) dX9_power_0 (by decide) ?_
  refine ax_lstore_n dX9_power_1 (by decide) rfl ?_
  refine ax_iconst (v := 0) dX9_power_2 (by decide) ?_
  refine ax_istore dX9_power_3 (by decide) rfl ?_
  refine ax_for n (fun q N L => N = M ∧ L = [some (av_i a), some (av_i (nI n)), some (av_l (pw a.toInt64 q)), none, some (av_i (nI q))]) 5 ?_ ?_ (i := 0) (by omega) ⟨rfl, rfl⟩
  · rintro q N L hq ⟨rfl, rfl⟩ next
    refine ax_iload dX9_power_5 rfl ?_
    refine ax_iload_n dX9_power_7 rfl ?_
    refine ax_icmp_ge (tgt := 22) dX9_power_8 (by decide) (fun hc => absurd ((nI_leI (by omega) (by omega)).mp hc) (by omega)) (fun hc => ?_)
    refine ax_lload_n dX9_power_11 rfl ?_
    refine ax_iload_n dX9_power_12 rfl ?_
    refine ax_i2l dX9_power_13 ?_
    refine ax_lmul dX9_power_14 ?_
    refine ax_lstore_n dX9_power_15 (by decide) rfl ?_
    refine ax_iinc (v := 1) dX9_power_16 rfl (by decide) (by decide) rfl ?_
    refine ax_goto (tgt := 5) dX9_power_19 (by decide) ?_
    exact next _ _ ⟨rfl, by rw [nI_1]; rfl⟩
  · rintro N L ⟨rfl, rfl⟩
    refine ax_iload dX9_power_5 rfl ?_
    refine ax_iload_n dX9_power_7 rfl ?_
    refine ax_icmp_ge (tgt := 22) dX9_power_8 (by decide) (fun hc => ?_) (fun hc => absurd ((nI_leI (by omega) (by omega)).mpr (by omega)) hc)
    refine ax_lload_n dX9_power_22 rfl ?_
    refine ax_lret dX9_power_23 rfl ?_
    exact ⟨rfl, rfl⟩
theorem x_cd {d : Nat} (a0 b0 : Int64) : ax_Met l G kX9_commonDivisor d 0 0 M [av_l a0, av_l b0] (ax_p (av_l (gd 200 a0 b0).1) M) := by
  obtain ⟨g, hg⟩ : ∃ g, g = gd 200 a0 b0 := ⟨_, rfl⟩
  rw [← hg]
  have loop : ∀ (m : Nat), m ≤ 200 → ∀ (a b : Int64) (y : Option ax_V), gd m a b = g → ax_W l G kX9_commonDivisor (ax_FQ G (ax_p (av_l g.1) M)) d 0 0 M 9 [some (av_l a0), none, some (av_l b0), none, some (av_l a), none, some (av_l b), none, some (av_i (nI (200 - m))), y, none] [] := by
    have tail : ∀ (a b : Int64) (i : Nat) (y : Option ax_V), a = g.1 → ax_W l G kX9_commonDivisor (ax_FQ G (ax_p (av_l g.1) M)) d 0 0 M 45 [some (av_l a0), none, some (av_l b0), none, some (av_l a), none, some (av_l b), none, some (av_i (nI i)), y, none] [] := by
      intro a b i y ha
      refine ax_lload dX9_commonDivisor_45 rfl ?_
      refine ax_lret dX9_commonDivisor_47 rfl ?_
      exact ⟨by rw [ha], rfl⟩
    intro m
    induction m with
    | zero =>
      intro _ a b y h
      refine ax_iload dX9_commonDivisor_9 rfl ?_
      refine ax_sipush (v := 200) dX9_commonDivisor_11 (by decide) ?_
      refine ax_icmp_ge (tgt := 45) dX9_commonDivisor_14 (by decide) (fun hc => ?_) (fun hc => ?_)
      · exact tail a b _ y (by rw [← h]; rfl)
      · exact absurd (show (200 : Int32) ≤ nI (200 - 0) by decide) hc
    | succ m ih =>
      intro hm a b y h
      refine ax_iload dX9_commonDivisor_9 rfl ?_
      refine ax_sipush (v := 200) dX9_commonDivisor_11 (by decide) ?_
      refine ax_icmp_ge (tgt := 45) dX9_commonDivisor_14 (by decide) (fun hc => ?_) (fun hc => ?_)
      · rw [show (200 : Int32) = nI 200 from rfl] at hc
        have := (nI_leI (by omega) (by omega)).mp hc
        omega
      clear hc
      refine ax_lload dX9_commonDivisor_17 rfl ?_
      refine ax_lconst (v := 0) dX9_commonDivisor_19 (by decide) ?_
      refine ax_lcmp dX9_commonDivisor_20 ?_
      refine ax_if_eq (tgt := 45) dX9_commonDivisor_21 (by decide) (fun hc => ?_) (fun hc => ?_)
      · have hb : b = 0 := (lg_cmp_eq _ _).mp hc
        exact tail a b _ y (by rw [← h]; show a = (if b = 0 then (a, b) else _).1; rw [if_pos hb])
      · have hb : ¬ b = 0 := fun z => hc ((lg_cmp_eq _ _).mpr z)
        clear hc
        refine ax_lload dX9_commonDivisor_24 rfl ?_
        refine ax_lload dX9_commonDivisor_26 rfl ?_
        refine ax_lrem dX9_commonDivisor_28 hb ?_
        refine ax_lstore dX9_commonDivisor_29 (by decide) rfl ?_
        refine ax_lload dX9_commonDivisor_31 rfl ?_
        refine ax_lstore dX9_commonDivisor_33 (by decide) rfl ?_
        refine ax_lload dX9_commonDivisor_35 rfl ?_
        refine ax_lstore dX9_commonDivisor_37 (by decide) rfl ?_
        refine ax_iinc (v := 1) dX9_commonDivisor_39 rfl (by decide) (by decide) rfl ?_
        refine ax_goto (tgt := 9) dX9_commonDivisor_42 (by decide) ?_
        rw [nI_1, show 200 - (m + 1) + 1 = 200 - m by omega]
        refine ih (by omega) _ _ _ ?_
        rw [← h]
        exact (if_neg hb).symm
  refine ax_body (by decide) (Nat.le_of_ble_eq_true rfl) ?_
  refine ax_lload_n dX9_commonDivisor_0 rfl ?_
  refine ax_lstore dX9_commonDivisor_1 (by decide) rfl ?_
  refine ax_lload_n dX9_commonDivisor_3 rfl ?_
  refine ax_lstore dX9_commonDivisor_4 (by decide) rfl ?_
  refine ax_iconst (v := 0) dX9_commonDivisor_6 (by decide) ?_
  refine ax_istore dX9_commonDivisor_7 (by decide) rfl ?_
  exact loop 200 (Nat.le_refl _) _ _ _ hg.symm
theorem x_loaded (hl9 : l.stackTraces = false) (hI : xI M p r lw es) (f n k q : Int32) : ax_Met l G kX9_loaded 8 4 24 M [av_r 1, av_i f, av_i n, av_i k, av_i q] (xA p r lw es M (qa_loaded f n k q)) := by
  have hx := hI.1.1
  have hok := hx.1
  have hr := hI.1.2.1
  have ho := hI.1.2.2.1
  have h0 := ho.1
  refine ax_body (by decide) (Nat.le_of_ble_eq_true rfl) ?_
  refine ax_aload_n dX9_loaded_0 rfl ?_
  refine ax_iload_n dX9_loaded_1 rfl ?_
  refine ax_iconst (v := 0) dX9_loaded_2 (by decide) ?_
  refine ax_bipush (v := 16) dX9_loaded_3 (by decide) ?_
  refine ax_callVX (As := _) (d2 := _) (c1 := 3) (n1 := 18) (c_needRange (M := M) hl9 hok) dX9_loaded_5 mX9_needRange wd_1121 acl_9 (lo_s hok 1 rfl) rfl (by omega) (by omega) (by omega) rfl rfl (fun E M2 h => xA_ex h (fun z => by unfold qa_loaded; rw [if_pos (Or.inl z)])) ?_
  refine xN_k (fun g1 => ?_)
  refine ax_aload_n dX9_loaded_8 rfl ?_
  refine ax_iload_n dX9_loaded_9 rfl ?_
  refine ax_iconst (v := 0) dX9_loaded_10 (by decide) ?_
  refine ax_bipush (v := 6) dX9_loaded_11 (by decide) ?_
  refine ax_callVX (As := _) (d2 := _) (c1 := 2) (n1 := 12) (c_needRange (M := M) hl9 hok) dX9_loaded_13 mX9_needRange wd_1121 acl_9 (lo_s hok 1 rfl) rfl (by omega) (by omega) (by omega) rfl rfl (fun E M2 h => xA_ex h (fun z => by unfold qa_loaded; rw [if_pos (Or.inr (Or.inl z))])) ?_
  refine xN_k (fun g2 => ?_)
  refine ax_aload_n dX9_loaded_16 rfl ?_
  refine ax_iload_n dX9_loaded_17 rfl ?_
  refine ax_iconst (v := 0) dX9_loaded_18 (by decide) ?_
  refine ax_iload_n dX9_loaded_19 rfl ?_
  refine ax_callVX (As := _) (d2 := _) (c1 := 1) (n1 := 6) (c_needRange (M := M) hl9 hok) dX9_loaded_20 mX9_needRange wd_1121 acl_9 (lo_s hok 1 rfl) rfl (by omega) (by omega) (by omega) rfl rfl (fun E M2 h => xA_ex h (fun z => by unfold qa_loaded; rw [if_pos (Or.inr (Or.inr (Or.inl z)))])) ?_
  refine xN_k (fun g3 => ?_)
  refine ax_aload_n dX9_loaded_23 rfl ?_
  refine ax_iload dX9_loaded_24 rfl ?_
  refine ax_iconst (v := 0) dX9_loaded_26 (by decide) ?_
  refine ax_iconst (v := 1) dX9_loaded_27 (by decide) ?_
  refine ax_callVX (As := _) (d2 := _) (c1 := 0) (n1 := 0) (c_needRange (M := M) hl9 hok) dX9_loaded_28 mX9_needRange wd_1121 acl_9 (lo_s hok 1 rfl) rfl (by omega) (by omega) (by omega) rfl rfl (fun E M2 h => xA_ex h (fun z => by unfold qa_loaded; rw [if_pos (Or.inr (Or.inr (Or.inr z)))])) ?_
  refine xN_k (fun g4 => ?_)
  obtain ⟨f, hf, rfl⟩ := in_nat g1 (n := 16) rfl (by decide)
  obtain ⟨n, hn, rfl⟩ := in_nat g2 (n := 6) rfl (by decide)
  obtain ⟨k, hk, rfl⟩ := in_nat g3 (n := n) rfl (by omega)
  obtain ⟨q, hq, rfl⟩ := in_nat g4 (n := 1) rfl (by decide)
  have hfin := ld_fin f (by omega) n (by omega) k (by omega)
  have hcl := ld_cl f (by omega) n (by omega) k (by omega)
  have e : ∀ v, v = qv_loaded f n k q → xA p r lw es M (qa_loaded (nI f) (nI n) (nI k) (nI q)) (.inl (some (av_l v))) M := fun v hv => by
    unfold qa_loaded
    rw [if_neg (fun z => by rcases z with z | z | z | z; exact z g1; exact z g2; exact z g3; exact z g4), nI_clamp (by omega), nI_clamp (by omega), nI_clamp (by omega), nI_clamp (by omega), hv]
    exact xA_in (qf_refl M) hI
  have enk : nI n - nI k = nI (n - k) := pk_sub (by omega)
  refine ax_iload_n dX9_loaded_31 rfl ?_
  refine ax_i2l dX9_loaded_32 ?_
  refine ax_bipush (v := 12) dX9_loaded_33 (by decide) ?_
  refine ax_iload_n dX9_loaded_35 rfl ?_
  refine ax_callS (As := _) (c1 := 0) (n1 := 0) (x_power (d := 6) (M := M) _ (n := k) (by omega) rfl) dX9_loaded_36 mX9_power wd_1381 rfl (by omega) (by omega) (by omega) rfl rfl (fun _ _ h => by cases h.1) ?_
  rintro r M9 ⟨h1, h9⟩; cases h1; rw [h9]; clear h9 M9
  refine ax_lmul dX9_loaded_39 ?_
  refine ax_iconst (v := 4) dX9_loaded_40 (by decide) ?_
  refine ax_iload_n dX9_loaded_41 rfl ?_
  refine ax_iload_n dX9_loaded_42 rfl ?_
  refine ax_isub dX9_loaded_43 ?_
  rw [enk]
  refine ax_callS (As := _) (c1 := 0) (n1 := 0) (x_power (d := 6) (M := M) _ (n := n - k) (by omega) rfl) dX9_loaded_44 mX9_power wd_1381 rfl (by omega) (by omega) (by omega) rfl rfl (fun _ _ h => by cases h.1) ?_
  rintro r M9 ⟨h1, h9⟩; cases h1; rw [h9]; clear h9 M9
  refine ax_lmul dX9_loaded_47 ?_
  refine ax_lstore dX9_loaded_48 (by decide) rfl ?_
  refine ax_lload dX9_loaded_50 rfl ?_
  refine ax_bipush (v := 16) dX9_loaded_52 (by decide) ?_
  refine ax_iload_n dX9_loaded_54 rfl ?_
  refine ax_isub dX9_loaded_55 ?_
  refine ax_i2l dX9_loaded_56 ?_
  refine ax_iconst (v := 5) dX9_loaded_57 (by decide) ?_
  refine ax_iload_n dX9_loaded_58 rfl ?_
  refine ax_callS (As := _) (c1 := 0) (n1 := 0) (x_power (d := 6) (M := M) _ (n := k) (by omega) rfl) dX9_loaded_59 mX9_power wd_1381 rfl (by omega) (by omega) (by omega) rfl rfl (fun _ _ h => by cases h.1) ?_
  rintro r M9 ⟨h1, h9⟩; cases h1; rw [h9]; clear h9 M9
  refine ax_lmul dX9_loaded_62 ?_
  refine ax_bipush (v := 11) dX9_loaded_63 (by decide) ?_
  refine ax_iload_n dX9_loaded_65 rfl ?_
  refine ax_iload_n dX9_loaded_66 rfl ?_
  refine ax_isub dX9_loaded_67 ?_
  rw [enk]
  refine ax_callS (As := _) (c1 := 0) (n1 := 0) (x_power (d := 6) (M := M) _ (n := n - k) (by omega) rfl) dX9_loaded_68 mX9_power wd_1381 rfl (by omega) (by omega) (by omega) rfl rfl (fun _ _ h => by cases h.1) ?_
  rintro r M9 ⟨h1, h9⟩; cases h1; rw [h9]; clear h9 M9
  have eu : (nI f).toInt64 * pw (Int32.toInt64 12) k * pw (Int32.toInt64 4) (n - k) = ld_u f n k := rfl
  refine ax_lmul dX9_loaded_71 ?_
  refine ax_ladd dX9_loaded_72 ?_
  rw [eu]
  have el : ld_u f n k + (16 - nI f).toInt64 * pw (Int32.toInt64 5) k * pw (Int32.toInt64 11) (n - k) = ld_l f n k := rfl
  rw [el]
  refine ax_lstore dX9_loaded_73 (by decide) rfl ?_
  refine ax_lload dX9_loaded_75 rfl ?_
  refine ax_lload dX9_loaded_77 rfl ?_
  refine ax_callS (As := _) (c1 := 0) (n1 := 0) (x_cd (d := 6) (M := M) (ld_u f n k) (ld_l f n k)) dX9_loaded_79 mX9_commonDivisor wd_1384 rfl (by omega) (by omega) (by omega) rfl rfl (fun _ _ h => by cases h.1) ?_
  rintro r M9 ⟨h1, h9⟩; cases h1; rw [h9]; clear h9 M9
  rw [hcl]
  obtain ⟨g, hg⟩ : ∃ g, g = (gd 30 (ld_l f n k) (ld_u f n k)).1 := ⟨_, rfl⟩
  rw [← hg] at hfin ⊢
  refine ax_lstore dX9_loaded_82 (by decide) rfl ?_
  refine ax_lload dX9_loaded_84 rfl ?_
  refine ax_lconst (v := 0) dX9_loaded_86 (by decide) ?_
  refine ax_lcmp dX9_loaded_87 ?_
  refine ax_if_ne (tgt := 93) dX9_loaded_88 (by decide) (fun hc => ?_) (fun hc => ?_)
  · clear hc
    have hp0 : nI q = 0 ↔ q = 0 := nI_eq (b := 0) (by omega) (by omega)
    refine ax_iload dX9_loaded_93 rfl ?_
    refine ax_if_ne (tgt := 106) dX9_loaded_95 (by decide) (fun hc => ?_) (fun hc => ?_)
    · refine ax_lload dX9_loaded_106 rfl ?_
      refine ax_lload dX9_loaded_108 rfl ?_
      refine ax_ldiv dX9_loaded_110 hfin.2 ?_
      refine ax_lret dX9_loaded_111 rfl ?_
      refine e _ ?_
      unfold qv_loaded; rw [if_neg (fun z => hc (hp0.mpr z)), hg]
    · refine ax_lload dX9_loaded_98 rfl ?_
      refine ax_lload dX9_loaded_100 rfl ?_
      refine ax_ldiv dX9_loaded_102 hfin.2 ?_
      refine ax_goto (tgt := 111) dX9_loaded_103 (by decide) ?_
      refine ax_lret dX9_loaded_111 rfl ?_
      refine e _ ?_
      unfold qv_loaded; rw [if_pos (hp0.mp hc), hg]
  · exact absurd ((lg_cmp_eq _ _).mp hc) hfin.2
end X89

