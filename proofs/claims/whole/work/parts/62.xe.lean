/-! ===== the class reads a road, whole ===== -/
theorem xg_sk {M : ax_M} {z a : Nat} {B : Nat → Int32} (h : xg M z B (a, none)) : xg M z B (tx_sk B z a, none) := by
  obtain ⟨h1, h2, ⟨a1, a2, a3, a4⟩, h4⟩ := h
  refine ⟨h1, ⟨tx_sk_z h2.1, fun e q => by cases q⟩, ⟨?_, ?_, ?_, ?_⟩, h4⟩
  · show _ = nI (tx_sk B z (tx_sk B z a)); rw [tx_sk_sk]; exact a1
  · show _ = nI (tk B z (tx_sk B z (tx_sk B z a))); rw [tx_sk_sk]; exact a2
  · show _ = nI (ta B z (tx_sk B z (tx_sk B z a))); rw [tx_sk_sk]; exact a3
  · show _ = nI (xn B (tk B z (tx_sk B z (tx_sk B z a))) (z - tx_sk B z (tx_sk B z a)) (tx_sk B z (tx_sk B z a)) 0); rw [tx_sk_sk]; exact a4
theorem ta_wd {B : Nat → Int32} {z b : Nat} (hB : ps_B B z) (hb : b ≤ z) (hz : z ≤ 600) (hw : tx_wd B z b ≠ []) : ta B z b = b + (tx_wd B z b).length := by
  have h1 : tx_sm (B b) = true := by
    unfold tx_wd at hw
    cases e : z - b with
    | zero => rw [e] at hw; exact absurd rfl hw
    | succ n =>
      rw [e, tx_w_s] at hw
      by_cases c : tx_sm (B b) = true
      · exact c
      · rw [if_neg c] at hw; exact absurd rfl hw
  have h2 := (tk_sm (b := b) hB (by omega)).mpr h1
  unfold ta tx_wd
  rw [if_neg (by omega), h2, tx_w_len]
  exact tx_run_p tkc_2 _ _ _
theorem kd_ne {w : List Nat} (h : ¬ kd w = 8) : w ≠ [] := by
  intro c; subst c; exact h rfl
theorem xkd_8 {k : Nat} (h : k ≤ 8) : xkd k = -1 ↔ k = 8 := by
  rcases (show k = 0 ∨ k = 1 ∨ k = 2 ∨ k = 3 ∨ k = 4 ∨ k = 5 ∨ k = 6 ∨ k = 7 ∨ k = 8 by omega) with rfl | rfl | rfl | rfl | rfl | rfl | rfl | rfl | rfl <;> decide
theorem xkd_0 {k : Nat} (h : k ≤ 8) : xkd k = 0 ↔ k = 0 := by
  rcases (show k = 0 ∨ k = 1 ∨ k = 2 ∨ k = 3 ∨ k = 4 ∨ k = 5 ∨ k = 6 ∨ k = 7 ∨ k = 8 by omega) with rfl | rfl | rfl | rfl | rfl | rfl | rfl | rfl | rfl <;> decide
section XE
variable {l : Launch} {G : ax_G} {M : ax_M} {z : Nat} {B : Nat → Int32} {S : Nat} {q : Nat → Int}
theorem c_xempty {d : Nat} (hok : lo_ok M.2) (hS : xh_R S) (q : Nat → Int) : ax_Met l G kX5_empty d 0 0 M [av_r S] (fun o M2 => o = .inl none ∧ (M2.2 = M.2 ∧ ∀ n i, ¬ (S ≤ n ∧ n ≤ S + 7) → M2.1 n i = M.1 n i) ∧ xr M2 S (qt q)) := by
  refine ax_body (by decide) (Nat.le_of_ble_eq_true rfl) ?_
  refine ax_aload_n dX5_empty_0 rfl ?_
  refine ax_bipush (v := 40) dX5_empty_1 (by decide) ?_
  refine ax_putI (f := 0) dX5_empty_3 acl_5 wd_252 (by decide) rfl rfl (ax_nfI rfl) (xs_R_0 hS hok) ?_
  refine ax_aload_n dX5_empty_6 rfl ?_
  refine ax_iconst (v := 0) dX5_empty_7 (by decide) ?_
  refine ax_putI (f := 2) dX5_empty_8 acl_5 wd_255 (by decide) rfl rfl (ax_nfI rfl) (xs_R_0 hS hok) ?_
  refine ax_aload_n dX5_empty_11 rfl ?_
  refine ax_iconst (v := 0) dX5_empty_12 (by decide) ?_
  refine ax_putI (f := 3) dX5_empty_13 acl_5 wd_257 (by decide) rfl rfl (ax_nfI rfl) (xs_R_0 hS hok) ?_
  refine ax_gen (fun M1 hM1 => ?_)
  have hok : lo_ok M1.2 := by rw [hM1]; exact hok
  have m1 : M1.1 S 0 = 40 ∧ M1.1 S 2 = 0 ∧ M1.1 S 3 = 0 := by
    rw [hM1]; simp (disch := omega) only [ax_pa, ax_pn]; exact ⟨trivial, trivial, trivial⟩
  have f1 : ∀ n i, n ≠ S → M1.1 n i = M.1 n i := fun n i c => by rw [hM1]; simp (disch := omega) only [ax_pn]
  have e12 : M1.2 = M.2 := by rw [hM1]; rfl
  clear hM1
  refine ax_iconst (v := 0) dX5_empty_16 (by decide) ?_
  refine ax_istore_n dX5_empty_17 (by decide) rfl ?_
  refine ax_for 60 (fun i N L => L = [some (av_r S), some (av_i (nI i))] ∧ N.2 = M1.2 ∧ (∀ n j, n ≠ S + 2 → N.1 n j = M1.1 n j) ∧ ∀ x, x < i → N.1 (S + 2) x = 0) 18 ?_ ?_ (i := 0) (by omega) ⟨rfl, rfl, fun _ _ _ => rfl, fun x hx => by omega⟩
  · rintro i N L hi ⟨rfl, e1, e2, e3⟩ next
    have hok : lo_ok N.2 := by rw [e1]; exact hok
    refine ax_iload_n dX5_empty_18 rfl ?_
    refine ax_bipush (v := 60) dX5_empty_19 (by decide) ?_
    refine ax_icmp_ge (tgt := 37) dX5_empty_21 (by decide) (fun hc => absurd ((nI_leI (a := 60) (by omega) (by omega)).mp hc) (by omega)) (fun hc => ?_)
    refine ax_aload_n dX5_empty_24 rfl ?_
    refine ax_getK (f := 4) (S + 2) dX5_empty_25 acl_5 wd_258 (by decide) rfl (xs_R_0 hS hok) (xr_R_4 hS hok) ?_
    refine ax_iload_n dX5_empty_28 rfl ?_
    refine ax_iconst (v := 0) dX5_empty_29 (by decide) ?_
    refine ax_iastN (i) dX5_empty_30 (xs_R_2 hS hok) (by decide) (by first | with_reducible rfl | assumption | exact ax_nix (by simp only [nx_0, nx_1, nx_2, nx_3, nx_4, nx_10, nx_20, nx_21, nx_100, nI_add, pk_mul] <;> rfl) (by omega) | decide) (by omega) ?_
    refine ax_gen (fun N2 hN2 => ?_)
    have hok : lo_ok N2.2 := by rw [hN2]; exact hok
    refine ax_iinc (v := 1) dX5_empty_31 rfl (by decide) (by decide) rfl ?_
    refine ax_goto (tgt := 18) dX5_empty_34 (by decide) ?_
    rw [nI_1]
    refine next _ _ ⟨rfl, by rw [hN2]; exact e1, fun n j hn => by rw [hN2, ax_pn (by omega)]; exact e2 n j hn, fun x hx => ?_⟩
    rw [hN2]
    by_cases c : x = i
    · subst c; rw [ax_pa]
    · rw [ax_pn (by omega)]; exact e3 x (by omega)
  · rintro N L ⟨rfl, e1, e2, e3⟩
    have hok : lo_ok N.2 := by rw [e1]; exact hok
    refine ax_iload_n dX5_empty_18 rfl ?_
    refine ax_bipush (v := 60) dX5_empty_19 (by decide) ?_
    refine ax_icmp_ge (tgt := 37) dX5_empty_21 (by decide) (fun hc => ?_) (fun hc => absurd ((nI_leI (a := 60) (by omega) (by omega)).mpr (by omega)) hc)
    refine ax_aload_n dX5_empty_37 rfl ?_
    refine ax_iconst (v := 0) dX5_empty_38 (by decide) ?_
    refine ax_putI (f := 5) dX5_empty_39 acl_5 wd_259 (by decide) rfl rfl (ax_nfI rfl) (xs_R_0 hS hok) ?_
    refine ax_aload_n dX5_empty_42 rfl ?_
    refine ax_iconst (v := 0) dX5_empty_43 (by decide) ?_
    refine ax_putI (f := 8) dX5_empty_44 acl_5 wd_268 (by decide) rfl rfl (ax_nfI rfl) (xs_R_0 hS hok) ?_
    refine ax_aload_n dX5_empty_47 rfl ?_
    refine ax_iconst (v := 0) dX5_empty_48 (by decide) ?_
    refine ax_putI (f := 9) dX5_empty_49 acl_5 wd_271 (by decide) rfl rfl (ax_nfI rfl) (xs_R_0 hS hok) ?_
    refine ax_aload_n dX5_empty_52 rfl ?_
    refine ax_iconst (v := 4) dX5_empty_53 (by decide) ?_
    refine ax_putI (f := 10) dX5_empty_54 acl_5 wd_276 (by decide) rfl rfl (ax_nfI rfl) (xs_R_0 hS hok) ?_
    refine ax_aload_n dX5_empty_57 rfl ?_
    refine ax_bipush (v := 20) dX5_empty_58 (by decide) ?_
    refine ax_putI (f := 11) dX5_empty_60 acl_5 wd_279 (by decide) rfl rfl (ax_nfI rfl) (xs_R_0 hS hok) ?_
    refine ax_aload_n dX5_empty_63 rfl ?_
    refine ax_bipush (v := 6) dX5_empty_64 (by decide) ?_
    refine ax_putI (f := 12) dX5_empty_66 acl_5 wd_281 (by decide) rfl rfl (ax_nfI rfl) (xs_R_0 hS hok) ?_
    refine ax_aload_n dX5_empty_69 rfl ?_
    refine ax_iconst (v := 0) dX5_empty_70 (by decide) ?_
    refine ax_putI (f := 16) dX5_empty_71 acl_5 wd_294 (by decide) rfl rfl (ax_nfI rfl) (xs_R_0 hS hok) ?_
    refine ax_gen (fun N2 hN2 => ?_)
    have hok : lo_ok N2.2 := by rw [hN2]; exact hok
    refine ax_vret dX5_empty_74 rfl ?_
    have g : ∀ n i, ¬ (n = S ∧ (i = 5 ∨ (8 ≤ i ∧ i ≤ 12) ∨ i = 16)) → N2.1 n i = N.1 n i := fun n i c => by rw [hN2]; simp (disch := omega) only [ax_pn]
    have k0 : N2.1 S 0 = 40 := by rw [g S 0 (by omega), e2 S 0 (by omega)]; exact m1.1
    have k2 : N2.1 S 2 = 0 := by rw [g S 2 (by omega), e2 S 2 (by omega)]; exact m1.2.1
    have k3 : N2.1 S 3 = 0 := by rw [g S 3 (by omega), e2 S 3 (by omega)]; exact m1.2.2
    refine ⟨rfl, ⟨by rw [hN2]; exact e1.trans e12, fun n i c => by rw [g n i (by omega), e2 n i (by omega)]; exact f1 n i (by omega)⟩, ⟨k0, ?_, ?_, k3, ?_, ?_, ?_, ?_, ?_⟩, fun c hc => ?_, fun k hk => ?_, fun x hx => ?_, 0, fun _ => 0, ⟨by omega, ?_⟩, k2, fun i hi => by omega, fun i j a b => by omega, fun i hi => by omega, fun k hk => ?_⟩
    · rw [hN2]; simp (disch := omega) only [ax_pa, ax_pn]; rfl
    · rw [hN2]; simp (disch := omega) only [ax_pa, ax_pn]; rfl
    · rw [hN2]; simp (disch := omega) only [ax_pa, ax_pn]; rfl
    · rw [hN2]; simp (disch := omega) only [ax_pa, ax_pn]; rfl
    · rw [hN2]; simp (disch := omega) only [ax_pa, ax_pn]; rfl
    · rw [hN2]; simp (disch := omega) only [ax_pa, ax_pn]; rfl
    · rw [hN2]; simp (disch := omega) only [ax_pa, ax_pn]; rfl
    · have : qt q 1 = 0 := rfl
      omega
    · have : qt q 2 = 0 := rfl
      omega
    · rw [g _ _ (by omega), e3 x hx]
      have : rd_wet (qt q) (x : Int) = false := rfl
      rw [this]; rfl
    · show (0 : Int) ≤ 0; omega
    · have : qt q 3 = 0 := rfl
      omega
set_option maxHeartbeats 2000000 in
theorem c_readClause (hS : xh_R S) {a : Nat} (hg : xg M z B (a, none)) (hr : xr M S q) (ho : rd_ok q) {k : Nat} (hk : k < 8) (hnf : ¬ fl_k q k) (hz0 : k = 0 → q 1 = 0 ∧ q 2 = 0 ∧ q 3 = 0 ∧ q 4 = 0) : ax_Met l G kX5_readClause 4 0 0 M [av_r S, av_i (xkd k), av_r 2] (fun o M2 => o = .inl (some (av_i (if (ca B z q k (a, none)).1.2 = none then 1 else 0))) ∧ wf S M M2 ∧ xg M2 z B (ca B z q k (a, none)).1 ∧ ((ca B z q k (a, none)).1.2 = none → xr M2 S (cn (ca B z q k (a, none)).2 k (ca B z q k (a, none)).1))) := by
  have hok := hg.1.1
  have h0 := ho.1
  have neg1 : ∀ v : Nat, v < 1000 → ¬ nI v = -1 := fun v hv c => by
    rw [iI_nI, show (-1 : Int32) = iI (-1) from rfl, iI_eq (by unfold iI_b; omega) (by unfold iI_b; omega)] at c
    omega
  have zb : ∀ (p : Prop) [Decidable p], (if p then (1 : Int32) else 0) = 0 ∨ (if p then (1 : Int32) else 0) = 1 := fun p _ => by split; exact Or.inr rfl; exact Or.inl rfl
  refine ax_body (by decide) (Nat.le_of_ble_eq_true rfl) ?_
  refine ax_iload_n dX5_readClause_0 rfl ?_
  rcases (show k = 0 ∨ k = 1 ∨ k = 2 ∨ k = 3 ∨ k = 4 ∨ k = 5 ∨ k = 6 ∨ k = 7 by omega) with rfl | rfl | rfl | rfl | rfl | rfl | rfl | rfl
  · refine ax_tableIn (off := 43) (tgt := 44) dX5_readClause_1 (by decide) (by decide) rfl (by decide) ?_
    have e : ca B z q 0 (a, none) = ((rk_num B z 10 60 (a, none)).1, if (rk_num B z 10 60 (a, none)).1.2 = none then up q 0 (rk_num B z 10 60 (a, none)).2 else q) := rfl
    rw [e]
    refine ax_aload_n dX5_readClause_44 rfl ?_
    refine ax_aload_n dX5_readClause_45 rfl ?_
    refine ax_bipush (v := 10) dX5_readClause_46 (by decide) ?_
    refine ax_bipush (v := 60) dX5_readClause_48 (by decide) ?_
    refine ax_callVN (As := _) (d2 := _) (c1 := 0) (n1 := 0) (c_takeNumber (M := M) (m := 60) (hi := 60) hg rfl (by omega)) dX5_readClause_50 mX6_takeNumber wd_959 acl_6 (lo_s hok 2 rfl) rfl (by omega) (by omega) (by omega) rfl rfl (fun _ _ h => by cases h.1) ?_
    rintro o9 M1 ⟨h1, f1, g1⟩; cases h1
    have v1 := rk_num_le (B := B) (z := z) (lo := 10) (hi := 60) (s := (a, none)) (m := 60) rfl (by omega)
    generalize rk_num B z 10 60 (a, none) = x1 at *
    have hok := g1.1.1
    have r1 := xr_af hS hr f1
    by_cases n1 : x1.1.2 = none
    · have ev : (if x1.1.2 = none then nI x1.2 else (-1 : Int32)) = nI x1.2 := if_pos n1
      rw [ev]
      refine ax_putI (f := 0) dX5_readClause_53 acl_5 wd_252 (by decide) rfl rfl (ax_nfI rfl) (xs_R_0 hS hok) ?_
      refine ax_gen (fun M2 hM2 => ?_)
      have hok : lo_ok M2.2 := by rw [hM2]; exact hok
      have g2 := xg_p hS g1 (by omega) hM2
      have w2 : wf S M M2 := wf_tr (wf_af f1) (by rw [hM2]; exact wf_p (by omega))
      refine ax_aload_n dX5_readClause_56 rfl ?_
      refine ax_getI (f := 0) dX5_readClause_57 acl_5 wd_252 (by decide) rfl (xs_R_0 hS hok) ?_
      rw [hM2, ax_pa, ← hM2]
      refine ax_iconst (v := (-1)) dX5_readClause_60 (by decide) ?_
      refine ax_icmp_eq (tgt := 68) dX5_readClause_61 (by decide) (fun hc => ?_) (fun hc => ?_)
      · exact absurd hc (neg1 _ (by omega))
      · refine ax_iconst (v := 1) dX5_readClause_64 (by decide) ?_
        refine ax_goto (tgt := 69) dX5_readClause_65 (by decide) ?_
        refine ax_zret dX5_readClause_69 rfl ?_ ?_
        · exact Or.inr rfl
        · refine ⟨by rw [if_pos n1], w2, g2, fun _ => ?_⟩
          rw [rd_cn0 (by omega)]
          show xr M2 S (if x1.1.2 = none then _ else _)
          rw [if_pos n1]
          exact xr_len (M2 := M2) r1 (hz0 rfl) (by rw [hM2, iI_nI])
    · have ev : (if x1.1.2 = none then nI x1.2 else (-1 : Int32)) = -1 := if_neg n1
      rw [ev]
      refine ax_putI (f := 0) dX5_readClause_53 acl_5 wd_252 (by decide) rfl rfl (ax_nfI rfl) (xs_R_0 hS hok) ?_
      refine ax_gen (fun M2 hM2 => ?_)
      have hok : lo_ok M2.2 := by rw [hM2]; exact hok
      have g2 := xg_p hS g1 (by omega) hM2
      have w2 : wf S M M2 := wf_tr (wf_af f1) (by rw [hM2]; exact wf_p (by omega))
      refine ax_aload_n dX5_readClause_56 rfl ?_
      refine ax_getI (f := 0) dX5_readClause_57 acl_5 wd_252 (by decide) rfl (xs_R_0 hS hok) ?_
      rw [hM2, ax_pa, ← hM2]
      refine ax_iconst (v := (-1)) dX5_readClause_60 (by decide) ?_
      refine ax_icmp_eq (tgt := 68) dX5_readClause_61 (by decide) (fun hc => ?_) (fun hc => ?_)
      · refine ax_iconst (v := 0) dX5_readClause_68 (by decide) ?_
        refine ax_zret dX5_readClause_69 rfl ?_ ?_
        · exact Or.inl rfl
        · exact ⟨by rw [if_neg n1], w2, g2, fun c => absurd c n1⟩
      · exact absurd rfl hc
  · refine ax_tableOut (tgt := 144) dX5_readClause_1 (by decide) (by decide) ?_
    refine ax_aload_n dX5_readClause_144 rfl ?_
    refine ax_aload_n dX5_readClause_145 rfl ?_
    refine ax_callV (As := _) (d2 := _) (c1 := 0) (n1 := 0) (c_readCar (M := M) hS hg hr ho hnf) dX5_readClause_146 mX5_readCar wd_984 acl_5 (xs_R_0 hS hok) rfl (by omega) (by omega) (by omega) rfl rfl (fun _ _ h => by cases h.1) ?_
    rintro o9 M1 ⟨h1, h2⟩; cases h1
    refine ax_zret dX5_readClause_149 rfl ?_ ?_
    · exact zb _
    · exact ⟨rfl, h2⟩
  · refine ax_tableIn (off := 81) (tgt := 82) dX5_readClause_1 (by decide) (by decide) rfl (by decide) ?_
    refine ax_aload_n dX5_readClause_82 rfl ?_
    refine ax_aload_n dX5_readClause_83 rfl ?_
    refine ax_callV (As := _) (d2 := _) (c1 := 0) (n1 := 0) (c_readCoat (M := M) hS hg hr ho hnf) dX5_readClause_84 mX5_readCoat wd_976 acl_5 (xs_R_0 hS hok) rfl (by omega) (by omega) (by omega) rfl rfl (fun _ _ h => by cases h.1) ?_
    rintro o9 M1 ⟨h1, h2⟩; cases h1
    refine ax_zret dX5_readClause_87 rfl ?_ ?_
    · exact zb _
    · exact ⟨rfl, h2⟩
  · refine ax_tableIn (off := 69) (tgt := 70) dX5_readClause_1 (by decide) (by decide) rfl (by decide) ?_
    refine ax_aload_n dX5_readClause_70 rfl ?_
    refine ax_aload_n dX5_readClause_71 rfl ?_
    refine ax_callV (As := _) (d2 := _) (c1 := 0) (n1 := 0) (c_readBend (M := M) hS hg hr ho hnf) dX5_readClause_72 mX5_readBend wd_968 acl_5 (xs_R_0 hS hok) rfl (by omega) (by omega) (by omega) rfl rfl (fun _ _ h => by cases h.1) ?_
    rintro o9 M1 ⟨h1, h2⟩; cases h1
    refine ax_zret dX5_readClause_75 rfl ?_ ?_
    · exact zb _
    · exact ⟨rfl, h2⟩
  · refine ax_tableIn (off := 75) (tgt := 76) dX5_readClause_1 (by decide) (by decide) rfl (by decide) ?_
    refine ax_aload_n dX5_readClause_76 rfl ?_
    refine ax_aload_n dX5_readClause_77 rfl ?_
    refine ax_callV (As := _) (d2 := _) (c1 := 0) (n1 := 0) (c_readWet (M := M) hS hg hr ho hnf) dX5_readClause_78 mX5_readWet wd_972 acl_5 (xs_R_0 hS hok) rfl (by omega) (by omega) (by omega) rfl rfl (fun _ _ h => by cases h.1) ?_
    rintro o9 M1 ⟨h1, h2⟩; cases h1
    refine ax_zret dX5_readClause_81 rfl ?_ ?_
    · exact zb _
    · exact ⟨rfl, h2⟩
  · refine ax_tableIn (off := 137) (tgt := 138) dX5_readClause_1 (by decide) (by decide) rfl (by decide) ?_
    refine ax_aload_n dX5_readClause_138 rfl ?_
    refine ax_aload_n dX5_readClause_139 rfl ?_
    refine ax_callV (As := _) (d2 := _) (c1 := 0) (n1 := 0) (c_readReach (M := M) hS hg hr ho hnf) dX5_readClause_140 mX5_readReach wd_980 acl_5 (xs_R_0 hS hok) rfl (by omega) (by omega) (by omega) rfl rfl (fun _ _ h => by cases h.1) ?_
    rintro o9 M1 ⟨h1, h2⟩; cases h1
    refine ax_zret dX5_readClause_143 rfl ?_ ?_
    · exact zb _
    · exact ⟨rfl, h2⟩
  · refine ax_tableIn (off := 87) (tgt := 88) dX5_readClause_1 (by decide) (by decide) rfl (by decide) ?_
    have e : ca B z q 6 (a, none) = ((rk_num B z 0 9 (a, none)).1, if (rk_num B z 0 9 (a, none)).1.2 = none then up q 34 (rk_num B z 0 9 (a, none)).2 else q) := rfl
    rw [e]
    refine ax_aload_n dX5_readClause_88 rfl ?_
    refine ax_aload_n dX5_readClause_89 rfl ?_
    refine ax_iconst (v := 0) dX5_readClause_90 (by decide) ?_
    refine ax_bipush (v := 9) dX5_readClause_91 (by decide) ?_
    refine ax_callVN (As := _) (d2 := _) (c1 := 0) (n1 := 0) (c_takeNumber (M := M) (m := 9) (hi := 9) hg rfl (by omega)) dX5_readClause_93 mX6_takeNumber wd_959 acl_6 (lo_s hok 2 rfl) rfl (by omega) (by omega) (by omega) rfl rfl (fun _ _ h => by cases h.1) ?_
    rintro o9 M1 ⟨h1, f1, g1⟩; cases h1
    have v1 := rk_num_le (B := B) (z := z) (lo := 0) (hi := 9) (s := (a, none)) (m := 9) rfl (by omega)
    generalize rk_num B z 0 9 (a, none) = x1 at *
    have hok := g1.1.1
    have r1 := xr_af hS hr f1
    by_cases n1 : x1.1.2 = none
    · have ev : (if x1.1.2 = none then nI x1.2 else (-1 : Int32)) = nI x1.2 := if_pos n1
      rw [ev]
      refine ax_putI (f := 9) dX5_readClause_96 acl_5 wd_271 (by decide) rfl rfl (ax_nfI rfl) (xs_R_0 hS hok) ?_
      refine ax_gen (fun M2 hM2 => ?_)
      have hok : lo_ok M2.2 := by rw [hM2]; exact hok
      have g2 := xg_p hS g1 (by omega) hM2
      have w2 : wf S M M2 := wf_tr (wf_af f1) (by rw [hM2]; exact wf_p (by omega))
      refine ax_aload_n dX5_readClause_99 rfl ?_
      refine ax_getI (f := 9) dX5_readClause_100 acl_5 wd_271 (by decide) rfl (xs_R_0 hS hok) ?_
      rw [hM2, ax_pa, ← hM2]
      refine ax_iconst (v := (-1)) dX5_readClause_103 (by decide) ?_
      refine ax_icmp_eq (tgt := 111) dX5_readClause_104 (by decide) (fun hc => ?_) (fun hc => ?_)
      · exact absurd hc (neg1 _ (by omega))
      · refine ax_iconst (v := 1) dX5_readClause_107 (by decide) ?_
        refine ax_goto (tgt := 112) dX5_readClause_108 (by decide) ?_
        refine ax_zret dX5_readClause_112 rfl ?_ ?_
        · exact Or.inr rfl
        · refine ⟨by rw [if_pos n1], w2, g2, fun _ => ?_⟩
          rw [rd_cn0 (by omega)]
          show xr M2 S (if x1.1.2 = none then _ else _)
          rw [if_pos n1]
          exact xr_fld (M2 := M2) (f := 9) r1 ho (by omega) (by rw [hM2, iI_nI])
    · have ev : (if x1.1.2 = none then nI x1.2 else (-1 : Int32)) = -1 := if_neg n1
      rw [ev]
      refine ax_putI (f := 9) dX5_readClause_96 acl_5 wd_271 (by decide) rfl rfl (ax_nfI rfl) (xs_R_0 hS hok) ?_
      refine ax_gen (fun M2 hM2 => ?_)
      have hok : lo_ok M2.2 := by rw [hM2]; exact hok
      have g2 := xg_p hS g1 (by omega) hM2
      have w2 : wf S M M2 := wf_tr (wf_af f1) (by rw [hM2]; exact wf_p (by omega))
      refine ax_aload_n dX5_readClause_99 rfl ?_
      refine ax_getI (f := 9) dX5_readClause_100 acl_5 wd_271 (by decide) rfl (xs_R_0 hS hok) ?_
      rw [hM2, ax_pa, ← hM2]
      refine ax_iconst (v := (-1)) dX5_readClause_103 (by decide) ?_
      refine ax_icmp_eq (tgt := 111) dX5_readClause_104 (by decide) (fun hc => ?_) (fun hc => ?_)
      · refine ax_iconst (v := 0) dX5_readClause_111 (by decide) ?_
        refine ax_zret dX5_readClause_112 rfl ?_ ?_
        · exact Or.inl rfl
        · exact ⟨by rw [if_neg n1], w2, g2, fun c => absurd c n1⟩
      · exact absurd rfl hc
  · refine ax_tableIn (off := 112) (tgt := 113) dX5_readClause_1 (by decide) (by decide) rfl (by decide) ?_
    have e : ca B z q 7 (a, none) = ((rk_num B z 0 9 (a, none)).1, if (rk_num B z 0 9 (a, none)).1.2 = none then up q 35 (rk_num B z 0 9 (a, none)).2 else q) := rfl
    rw [e]
    refine ax_aload_n dX5_readClause_113 rfl ?_
    refine ax_aload_n dX5_readClause_114 rfl ?_
    refine ax_iconst (v := 0) dX5_readClause_115 (by decide) ?_
    refine ax_bipush (v := 9) dX5_readClause_116 (by decide) ?_
    refine ax_callVN (As := _) (d2 := _) (c1 := 0) (n1 := 0) (c_takeNumber (M := M) (m := 9) (hi := 9) hg rfl (by omega)) dX5_readClause_118 mX6_takeNumber wd_959 acl_6 (lo_s hok 2 rfl) rfl (by omega) (by omega) (by omega) rfl rfl (fun _ _ h => by cases h.1) ?_
    rintro o9 M1 ⟨h1, f1, g1⟩; cases h1
    have v1 := rk_num_le (B := B) (z := z) (lo := 0) (hi := 9) (s := (a, none)) (m := 9) rfl (by omega)
    generalize rk_num B z 0 9 (a, none) = x1 at *
    have hok := g1.1.1
    have r1 := xr_af hS hr f1
    by_cases n1 : x1.1.2 = none
    · have ev : (if x1.1.2 = none then nI x1.2 else (-1 : Int32)) = nI x1.2 := if_pos n1
      rw [ev]
      refine ax_putI (f := 10) dX5_readClause_121 acl_5 wd_276 (by decide) rfl rfl (ax_nfI rfl) (xs_R_0 hS hok) ?_
      refine ax_gen (fun M2 hM2 => ?_)
      have hok : lo_ok M2.2 := by rw [hM2]; exact hok
      have g2 := xg_p hS g1 (by omega) hM2
      have w2 : wf S M M2 := wf_tr (wf_af f1) (by rw [hM2]; exact wf_p (by omega))
      refine ax_aload_n dX5_readClause_124 rfl ?_
      refine ax_getI (f := 10) dX5_readClause_125 acl_5 wd_276 (by decide) rfl (xs_R_0 hS hok) ?_
      rw [hM2, ax_pa, ← hM2]
      refine ax_iconst (v := (-1)) dX5_readClause_128 (by decide) ?_
      refine ax_icmp_eq (tgt := 136) dX5_readClause_129 (by decide) (fun hc => ?_) (fun hc => ?_)
      · exact absurd hc (neg1 _ (by omega))
      · refine ax_iconst (v := 1) dX5_readClause_132 (by decide) ?_
        refine ax_goto (tgt := 137) dX5_readClause_133 (by decide) ?_
        refine ax_zret dX5_readClause_137 rfl ?_ ?_
        · exact Or.inr rfl
        · refine ⟨by rw [if_pos n1], w2, g2, fun _ => ?_⟩
          rw [rd_cn0 (by omega)]
          show xr M2 S (if x1.1.2 = none then _ else _)
          rw [if_pos n1]
          exact xr_fld (M2 := M2) (f := 10) r1 ho (by omega) (by rw [hM2, iI_nI])
    · have ev : (if x1.1.2 = none then nI x1.2 else (-1 : Int32)) = -1 := if_neg n1
      rw [ev]
      refine ax_putI (f := 10) dX5_readClause_121 acl_5 wd_276 (by decide) rfl rfl (ax_nfI rfl) (xs_R_0 hS hok) ?_
      refine ax_gen (fun M2 hM2 => ?_)
      have hok : lo_ok M2.2 := by rw [hM2]; exact hok
      have g2 := xg_p hS g1 (by omega) hM2
      have w2 : wf S M M2 := wf_tr (wf_af f1) (by rw [hM2]; exact wf_p (by omega))
      refine ax_aload_n dX5_readClause_124 rfl ?_
      refine ax_getI (f := 10) dX5_readClause_125 acl_5 wd_276 (by decide) rfl (xs_R_0 hS hok) ?_
      rw [hM2, ax_pa, ← hM2]
      refine ax_iconst (v := (-1)) dX5_readClause_128 (by decide) ?_
      refine ax_icmp_eq (tgt := 136) dX5_readClause_129 (by decide) (fun hc => ?_) (fun hc => ?_)
      · refine ax_iconst (v := 0) dX5_readClause_136 (by decide) ?_
        refine ax_zret dX5_readClause_137 rfl ?_ ?_
        · exact Or.inl rfl
        · exact ⟨by rw [if_neg n1], w2, g2, fun c => absurd c n1⟩
      · exact absurd rfl hc
set_option maxHeartbeats 2000000 in
theorem c_xroadFrom (hS : xh_R S) (hg : xg M z B (0, none)) (hq : rd_ok q) : ax_Met l G kX5_readFrom 6 0 0 M [av_r S, av_r 2] (fun o M2 => o = .inl (some (av_i (if (rd_text B z (qt q)).1.2 = none then 1 else 0))) ∧ wf S M M2 ∧ xg M2 z B (rd_text B z (qt q)).1 ∧ ((rd_text B z (qt q)).1.2 = none → xr M2 S (rd_text B z (qt q)).2 ∧ rd_ok (rd_text B z (qt q)).2)) := by
  have hok := hg.1.1
  have hB := hg.1.2.2.2.1
  have h600 := hg.1.2.2.1
  generalize hQ : (fun (o : ax_O) (M2 : ax_M) => o = .inl (some (av_i (if (rd_text B z (qt q)).1.2 = none then 1 else 0))) ∧ wf S M M2 ∧ xg M2 z B (rd_text B z (qt q)).1 ∧ ((rd_text B z (qt q)).1.2 = none → xr M2 S (rd_text B z (qt q)).2 ∧ rd_ok (rd_text B z (qt q)).2)) = Q
  have bad : ∀ (N : ax_M) (s : rk), (rd_text B z (qt q)).1 = s → ¬ s.2 = none → wf S M N → xg N z B s → Q (.inl (some (av_i 0))) N := by
    intro N s h1 h2 h3 h4
    rw [← hQ]
    subst h1
    exact ⟨by rw [if_neg h2], h3, h4, fun c => absurd c h2⟩
  have good : ∀ (N : ax_M) (s : rk) (q2 : Nat → Int), rd_text B z (qt q) = (s, q2) → s.2 = none → wf S M N → xg N z B s → xr N S q2 → rd_ok q2 → Q (.inl (some (av_i 1))) N := by
    intro N s q2 h1 h2 h3 h4 h5 h6
    rw [← hQ, h1]
    exact ⟨by rw [if_pos h2], h3, h4, fun _ => ⟨h5, h6⟩⟩
  have loop : ∀ (f n a : Nat) (q2 : Nat → Int) (N : ax_M) (y3 : Option ax_V), n + f = 62 → n ≤ 60 → tx_sk B z a = a → xg N z B (a, none) → xr N S q2 → rd_ok q2 → wf S M N → (n = 0 → q2 1 = 0 ∧ q2 2 = 0 ∧ q2 3 = 0 ∧ q2 4 = 0) → rd_run B z f n q2 (a, none) = rd_text B z (qt q) → ax_W l G kX5_readFrom (ax_FQ G Q) 6 0 0 N 6 [some (av_r S), some (av_r 2), some (av_i (nI n)), y3] [] := by
    intro f
    induction f with
    | zero => intro n a q2 N y3 h1 h2; omega
    | succ f ih =>
      intro n a q2 N y3 hnf hn ha hgN hrN hoN hwN hz0 hR
      have hok := hgN.1.1
      obtain ⟨ht, h7, h8, haz⟩ := xg_t hgN
      have t5 := ht.2.1
      rw [ha] at t5
      refine ax_iload_n dX5_readFrom_6 rfl ?_
      refine ax_bipush (v := 60) dX5_readFrom_7 (by decide) ?_
      refine ax_icmp_gt (tgt := 101) dX5_readFrom_9 (by decide) (fun hc => ?_) (fun hc => ?_)
      · have := (nI_ltI (a := 60) (by omega) (by omega)).mp hc
        omega
      clear hc
      refine ax_aload_n dX5_readFrom_12 rfl ?_
      refine ax_getIN (f := 5) dX5_readFrom_13 acl_6 wd_213 (by decide) rfl (lo_s hok 2 rfl) ?_
      rw [t5]
      refine ax_if_ne (tgt := 21) dX5_readFrom_16 (by decide) (fun hc => ?_) (fun hc => ?_)
      rotate_left
      · have ht0 : tk B z a = 0 := (nI_eq (b := 0) (by have := tk_3 (B := B) (z := z) (b := a); omega) (by omega)).mp hc
        have hge : ¬ a < z := fun c => by
          unfold tk at ht0
          rw [if_pos c] at ht0
          have := (tkc_b (B a)).1
          omega
        refine ax_iconst (v := 1) dX5_readFrom_19 (by decide) ?_
        refine ax_zret dX5_readFrom_20 rfl ?_ ?_
        · exact Or.inr rfl
        · exact good N (a, none) q2 (by rw [← hR]; exact rd_stop (fun c => hge c.2) _) rfl hwN hgN hrN hoN
      have hlt : a < z := by
        by_cases c : a < z
        · exact c
        · exact absurd (by unfold tk; rw [if_neg c]; rfl) hc
      clear hc
      have hR2 : rd_run B z f (n + 1) (cl B z n q2 a).2 (rk_bl B z (cl B z n q2 a).1) = rd_text B z (qt q) := by rw [← hR]; exact (if_pos ⟨rfl, hlt⟩).symm
      -- with a FAULT
      have flt : ∀ (N2 : ax_M) (e : Nat × Nat) (p : Nat) (q3 : Nat → Int), cl B z n q2 a = ((p, some e), q3) → wf S N N2 → (∀ a2, a2 ≤ z → xg N2 z B (a2, some e)) → p ≤ z → Q (.inl (some (av_i 0))) N2 := by
        intro N2 e p q3 h1 h2 h3 h4
        rw [h1] at hR2
        have h5 : rd_run B z f (n + 1) q3 (rk_bl B z (p, some e)) = (rk_bl B z (p, some e), q3) := rd_stop (fun c => by cases c.1) f
        rw [h5] at hR2
        exact bad N2 (rk_bl B z (p, some e)) (by rw [← hR2]) (Option.some_ne_none _) (wf_tr hwN h2) (h3 _ (tx_sk_z h4))
      unfold cl at flt hR2
      rw [ha] at flt hR2
      refine ax_aload_n dX5_readFrom_21 rfl ?_
      refine ax_callS (As := _) (c1 := 0) (n1 := 0) (c_clauseOf (M := N) hgN) dX5_readFrom_22 mX5_clauseOf wd_883 rfl (by omega) (by omega) (by omega) rfl rfl (fun _ _ h => by cases h.1) ?_
      rintro r M9 ⟨h1, h9⟩; cases h1; rw [h9]; clear h9 M9
      rw [ha]
      generalize hw : tx_wd B z a = w at *
      have h8k := kd_8 w
      refine ax_istore_n dX5_readFrom_25 (by decide) rfl ?_
      refine ax_iload_n dX5_readFrom_26 rfl ?_
      refine ax_iconst (v := (-1)) dX5_readFrom_27 (by decide) ?_
      refine ax_icmp_ne (tgt := 37) dX5_readFrom_28 (by decide) (fun hc => ?_) (fun hc => ?_)
      rotate_left
      · have k8 := (xkd_8 h8k).mp hc
        simp only [if_pos k8] at flt
        refine ax_aload_n dX5_readFrom_31 rfl ?_
        refine ax_iconst (v := 1) dX5_readFrom_32 (by decide) ?_
        refine ax_callVN (As := _) (d2 := _) (c1 := 0) (n1 := 0) (c_fail (d := 0) (M := N) hgN (k := 1) (by omega) rfl) dX5_readFrom_33 mX6_fail wd_946 acl_6 (lo_s hok 2 rfl) rfl (by omega) (by omega) (by omega) rfl rfl (fun _ _ h => by cases h.1) ?_
        rintro o9 N2 ⟨h1, f2, g2⟩; cases h1
        rw [ha] at g2
        refine ax_zret dX5_readFrom_36 rfl ?_ ?_
        · exact Or.inl rfl
        · exact flt N2 _ _ _ rfl (wf_af f2) g2 haz
      have k8 : ¬ kd w = 8 := fun c => hc ((xkd_8 h8k).mpr c)
      clear hc
      simp only [if_neg k8] at flt hR2
      have full : (n = 60 ∨ fl_k q2 (kd w)) → ax_W l G kX5_readFrom (ax_FQ G Q) 6 0 0 N 51 [some (av_r S), some (av_r 2), some (av_i (nI n)), some (av_i (xkd (kd w)))] [] := by
        intro hf
        simp only [if_pos hf] at flt
        refine ax_aload_n dX5_readFrom_51 rfl ?_
        refine ax_iconst (v := 3) dX5_readFrom_52 (by decide) ?_
        refine ax_callVN (As := _) (d2 := _) (c1 := 0) (n1 := 0) (c_fail (d := 0) (M := N) hgN (k := 3) (by omega) rfl) dX5_readFrom_53 mX6_fail wd_946 acl_6 (lo_s hok 2 rfl) rfl (by omega) (by omega) (by omega) rfl rfl (fun _ _ h => by cases h.1) ?_
        rintro o9 N2 ⟨h1, f2, g2⟩; cases h1
        rw [ha] at g2
        refine ax_zret dX5_readFrom_56 rfl ?_ ?_
        · exact Or.inl rfl
        · exact flt N2 _ _ _ rfl (wf_af f2) g2 haz
      refine ax_iload_n dX5_readFrom_37 rfl ?_
      refine ax_bipush (v := 60) dX5_readFrom_38 (by decide) ?_
      refine ax_icmp_eq (tgt := 51) dX5_readFrom_40 (by decide) (fun hc => ?_) (fun hc => ?_)
      · exact full (Or.inl ((nI_eq (b := 60) (by omega) (by omega)).mp hc))
      have hn60 : ¬ n = 60 := fun c => hc (by rw [c]; rfl)
      clear hc
      refine ax_aload_n dX5_readFrom_43 rfl ?_
      refine ax_iload_n dX5_readFrom_44 rfl ?_
      refine ax_callV (As := _) (d2 := _) (c1 := 0) (n1 := 0) (c_hasRoomFor (d := 0) (M := N) hok hS hrN hoN (k := kd w) (by omega)) dX5_readFrom_45 mX5_hasRoomFor wd_950 acl_5 (xs_R_0 hS hok) rfl (by omega) (by omega) (by omega) rfl rfl (fun _ _ h => by cases h.1) ?_
      rintro r M9 ⟨h1, h9⟩; cases h1; rw [h9]; clear h9 M9
      by_cases hfl : fl_k q2 (kd w)
      · rw [if_pos hfl]
        refine ax_if_ne (tgt := 57) dX5_readFrom_48 (by decide) (fun hc => ?_) (fun hc => ?_)
        · exact absurd rfl hc
        · exact full (Or.inr hfl)
      rw [if_neg hfl]
      refine ax_if_ne (tgt := 57) dX5_readFrom_48 (by decide) (fun hc => ?_) (fun hc => ?_)
      rotate_left
      · exact absurd hc (by decide)
      clear hc
      simp only [if_neg (show ¬ (n = 60 ∨ fl_k q2 (kd w)) from fun c => by rcases c with c | c; exact hn60 c; exact hfl c)] at flt hR2
      have body : ¬ (kd w = 0 ∧ 0 < n) → ax_W l G kX5_readFrom (ax_FQ G Q) 6 0 0 N 71 [some (av_r S), some (av_r 2), some (av_i (nI n)), some (av_i (xkd (kd w)))] [] := by
        intro hk0
        simp only [if_neg hk0] at flt hR2
        have hwz := tx_wd_z (B := B) haz
        have htw := ta_wd hB haz h600 (by rw [hw]; exact kd_ne k8)
        rw [hw] at hwz htw
        have t3 := ht.2.2.1
        rw [ha, htw] at t3
        have hcn := ca_ok (B := B) (z := z) (s := (a + w.length, none)) hoN hfl (by omega) (fun c => hz0 (by omega))
        refine ax_aload_n dX5_readFrom_71 rfl ?_
        refine ax_callVN (As := _) (d2 := _) (c1 := 0) (n1 := 0) (c_adv (M := N) (a := a + w.length) hgN t3 hwz) dX5_readFrom_72 mX6_advance wd_954 acl_6 (lo_s hok 2 rfl) rfl (by omega) (by omega) (by omega) rfl rfl (fun _ _ h => by cases h.1) ?_
        rintro o9 N2 ⟨h1, f2, g2⟩; cases h1
        have hok := g2.1.1
        refine ax_aload_n dX5_readFrom_75 rfl ?_
        refine ax_iload_n dX5_readFrom_76 rfl ?_
        refine ax_aload_n dX5_readFrom_77 rfl ?_
        refine ax_callV (As := _) (d2 := _) (c1 := 0) (n1 := 0) (c_readClause (M := N2) hS g2 (xr_af hS hrN f2) hoN (k := kd w) (by omega) hfl (fun c => hz0 (by omega))) dX5_readFrom_78 mX5_readClause wd_955 acl_5 (xs_R_0 hS hok) rfl (by omega) (by omega) (by omega) rfl rfl (fun _ _ h => by cases h.1) ?_
        rintro o9 N3 ⟨h1, f3, g3, r3⟩; cases h1
        generalize ca B z q2 (kd w) (a + w.length, none) = y at *
        have hok := g3.1.1
        have wA : wf S N N3 := wf_tr (wf_af f2) f3
        by_cases n3 : y.1.2 = none
        rotate_left
        · rw [if_neg n3]
          refine ax_if_eq (tgt := 93) dX5_readFrom_81 (by decide) (fun hc => ?_) (fun hc => ?_)
          · refine ax_iconst (v := 0) dX5_readFrom_93 (by decide) ?_
            refine ax_zret dX5_readFrom_94 rfl ?_ ?_
            · exact Or.inl rfl
            · rw [rk_sign_F n3] at flt
              obtain ⟨e, he⟩ := Option.ne_none_iff_exists'.mp n3
              have hy : y.1 = (y.1.1, some e) := Prod.ext rfl he
              rw [hy] at flt g3
              have g4 := g3.2.2
              simp only [] at g4
              exact flt N3 e y.1.1 _ rfl wA (fun a2 ha2 => ⟨g3.1, ⟨ha2, fun e2 c => g3.2.1.2 e2 c⟩, g4⟩) g3.2.1.1
          · exact absurd rfl hc
        rw [if_pos n3]
        refine ax_if_eq (tgt := 93) dX5_readFrom_81 (by decide) (fun hc => ?_) (fun hc => ?_)
        · exact absurd hc (by decide)
        clear hc
        have r4 := r3 n3
        rw [rk_e n3] at g3
        refine ax_aload_n dX5_readFrom_84 rfl ?_
        refine ax_bipush (v := 59) dX5_readFrom_85 (by decide) ?_
        refine ax_callVN (As := _) (d2 := _) (c1 := 0) (n1 := 0) (c_takeSign (M := N3) (c := 59) g3 ⟨rfl, by decide⟩) dX5_readFrom_87 mX6_takeSign wd_988 acl_6 (lo_s hok 2 rfl) rfl (by omega) (by omega) (by omega) rfl rfl (fun _ _ h => by cases h.1) ?_
        rintro o9 N4 ⟨h1, f4, g4⟩; cases h1
        rw [← rk_e n3] at g4
        rw [← rk_e n3]
        have hok := g4.1.1
        by_cases n4 : (rk_sign B z 59 y.1).2 = none
        rotate_left
        · rw [if_neg n4]
          refine ax_if_ne (tgt := 95) dX5_readFrom_90 (by decide) (fun hc => ?_) (fun hc => ?_)
          · exact absurd rfl hc
          · refine ax_iconst (v := 0) dX5_readFrom_93 (by decide) ?_
            refine ax_zret dX5_readFrom_94 rfl ?_ ?_
            · exact Or.inl rfl
            · obtain ⟨e, he⟩ := Option.ne_none_iff_exists'.mp n4
              have hy : rk_sign B z 59 y.1 = ((rk_sign B z 59 y.1).1, some e) := Prod.ext rfl he
              rw [hy] at flt g4
              have g5 := g4.2.2
              simp only [] at g5
              exact flt N4 e _ _ rfl (wf_tr wA (wf_af f4)) (fun a2 ha2 => ⟨g4.1, ⟨ha2, fun e2 c => g4.2.1.2 e2 c⟩, g5⟩) g4.2.1.1
        rw [if_pos n4]
        refine ax_if_ne (tgt := 95) dX5_readFrom_90 (by decide) (fun hc => ?_) (fun hc => ?_)
        · refine ax_iinc (v := 1) dX5_readFrom_95 rfl (by decide) (by decide) rfl ?_
          refine ax_goto (tgt := 6) dX5_readFrom_98 (by decide) ?_
          rw [nI_1]
          rw [rk_e n4] at g4
          have g6 := xg_sk g4
          refine ih (n + 1) (tx_sk B z (rk_sign B z 59 y.1).1) _ N4 _ (by omega) (by omega) (tx_sk_sk _ _ _) g6 (xr_af hS r4 f4) hcn (wf_tr hwN (wf_tr wA (wf_af f4))) (fun c => by omega) ?_
          rw [← hR2]
          have : rk_bl B z (rk_sign B z 59 y.1) = (tx_sk B z (rk_sign B z 59 y.1).1, none) := Prod.ext rfl n4
          rw [this]
        · exact absurd hc (by decide)
      refine ax_iload_n dX5_readFrom_57 rfl ?_
      refine ax_if_ne (tgt := 71) dX5_readFrom_58 (by decide) (fun hc => ?_) (fun hc => ?_)
      · exact body (fun c => hc ((xkd_0 h8k).mpr c.1))
      have hk0 := (xkd_0 h8k).mp hc
      clear hc
      refine ax_iload_n dX5_readFrom_61 rfl ?_
      refine ax_if_le (tgt := 71) dX5_readFrom_62 (by decide) (fun hc => ?_) (fun hc => ?_)
      · have := (nI_leI (b := 0) (by omega) (by omega)).mp hc
        exact body (by omega)
      have hn0 : 0 < n := Nat.lt_of_not_le (fun c => hc ((nI_leI (b := 0) (by omega) (by omega)).mpr c))
      clear hc body
      simp only [if_pos (show kd w = 0 ∧ 0 < n from ⟨hk0, hn0⟩)] at flt
      refine ax_aload_n dX5_readFrom_65 rfl ?_
      refine ax_iconst (v := 4) dX5_readFrom_66 (by decide) ?_
      refine ax_callVN (As := _) (d2 := _) (c1 := 0) (n1 := 0) (c_fail (d := 0) (M := N) hgN (k := 4) (by omega) rfl) dX5_readFrom_67 mX6_fail wd_946 acl_6 (lo_s hok 2 rfl) rfl (by omega) (by omega) (by omega) rfl rfl (fun _ _ h => by cases h.1) ?_
      rintro o9 N2 ⟨h1, f2, g2⟩; cases h1
      rw [ha] at g2
      refine ax_zret dX5_readFrom_70 rfl ?_ ?_
      · exact Or.inl rfl
      · exact flt N2 _ _ _ rfl (wf_af f2) g2 haz
  refine ax_body (by decide) (Nat.le_of_ble_eq_true rfl) ?_
  refine ax_aload_n dX5_readFrom_0 rfl ?_
  refine ax_callV (As := _) (d2 := _) (c1 := 0) (n1 := 0) (c_xempty (d := 0) (M := M) hok hS q) dX5_readFrom_1 mX5_empty wd_879 acl_5 (xs_R_0 hS hok) rfl (by omega) (by omega) (by omega) rfl rfl (fun _ _ h => by cases h.1) ?_
  rintro o9 M1 ⟨h1, ⟨f1, f2⟩, r1⟩; cases h1
  refine ax_iconst (v := 0) dX5_readFrom_4 (by decide) ?_
  refine ax_istore_n dX5_readFrom_5 (by decide) rfl ?_
  have w1 : wf S M M1 := ⟨f1, fun n i _ c => f2 n i c⟩
  have g1 : xg M1 z B (0, none) := xg_fr hg f1 (fun n i hn => f2 n i (by unfold xh_R at hS; omega))
  exact loop 62 0 (tx_sk B z 0) (qt q) M1 _ (by omega) (by omega) (tx_sk_sk _ _ _) (xg_sk g1) r1 (qt_ok hq) w1 (fun _ => ⟨rfl, rfl, rfl, rfl⟩) rfl
end XE

