/-! ===== the road is read: the reference ===== -/
def rp (M : ax_M) (q : Nat → Int) : Prop := (∀ k, k < 7 → M.1 93 k = iI (q k)) ∧ (∀ k, k < 26 → M.1 99 k = iI (q (10 + k))) ∧ (∀ k, k < 2 → M.1 95 k = iI (q (40 + k))) ∧ (∀ k, k < 6 → M.1 97 k = iI (q (50 + k))) ∧ ∀ k, k < 4 → M.1 (102 + k) 0 = iI (q (60 + 2 * k)) ∧ M.1 (102 + k) 1 = iI (q (61 + 2 * k))
def cf (M M2 : ax_M) : Prop := M2.2 = M.2 ∧ ∀ n i, ¬ (n = 90 ∧ 4 ≤ i ∧ i ≤ 7) → ¬ (n = 93 ∨ n = 95 ∨ n = 97 ∨ n = 99 ∨ (102 ≤ n ∧ n ≤ 105)) → M2.1 n i = M.1 n i
theorem cf_tr {M M1 M2 : ax_M} (h1 : cf M M1) (h2 : cf M1 M2) : cf M M2 := ⟨h2.1.trans h1.1, fun n i q1 q2 => (h2.2 n i q1 q2).trans (h1.2 n i q1 q2)⟩
theorem cf_gf {M M2 : ax_M} (h : gf M M2) : cf M M2 := ⟨h.1, fun n i q1 _ => h.2 n i (by omega)⟩
theorem cf_p {M : ax_M} {n i : Nat} {x : Int32} (h : (n = 90 ∧ 4 ≤ i ∧ i ≤ 7) ∨ (n = 93 ∨ n = 95 ∨ n = 97 ∨ n = 99 ∨ (102 ≤ n ∧ n ≤ 105))) : cf M (ax_pI M n i x) := ⟨rfl, fun m j q1 q2 => ax_pn (by omega)⟩
theorem rp_fr {M M2 : ax_M} {q : Nat → Int} (h : rp M q) (hf : ∀ n i, n = 93 ∨ n = 95 ∨ n = 97 ∨ n = 99 ∨ (102 ≤ n ∧ n ≤ 105) → M2.1 n i = M.1 n i) : rp M2 q :=
  ⟨fun k z => (hf 93 k (by omega)).trans (h.1 k z), fun k z => (hf 99 k (by omega)).trans (h.2.1 k z), fun k z => (hf 95 k (by omega)).trans (h.2.2.1 k z), fun k z => (hf 97 k (by omega)).trans (h.2.2.2.1 k z), fun k z => ⟨(hf (102 + k) 0 (by omega)).trans (h.2.2.2.2 k z).1, (hf (102 + k) 1 (by omega)).trans (h.2.2.2.2 k z).2⟩⟩
theorem rp_at {M : ax_M} {q : Nat → Int} {n i j : Nat} {v : Int} (h : rp M q) (hj : (n = 93 ∧ i < 7 ∧ j = i) ∨ (n = 99 ∧ i < 26 ∧ j = 10 + i) ∨ (n = 95 ∧ i < 2 ∧ j = 40 + i) ∨ (n = 97 ∧ i < 6 ∧ j = 50 + i) ∨ (102 ≤ n ∧ n ≤ 105 ∧ i < 2 ∧ j = 60 + 2 * (n - 102) + i)) : rp (ax_pI M n i (iI v)) (up q j v) := by
  have key : ∀ m k p, M.1 m k = iI (q p) → (m = n ∧ k = i ↔ p = j) → (ax_pI M n i (iI v)).1 m k = iI (up q j v p) := by
    intro m k p h1 h2
    by_cases e : p = j
    · obtain ⟨e1, e2⟩ := h2.mpr e
      subst e e1 e2
      rw [ax_pa, up_a]
    · rw [ax_pn (fun z => e (h2.mp z)), up_n e, h1]
  refine ⟨fun k z => key _ _ _ (h.1 k z) (by omega), fun k z => key _ _ _ (h.2.1 k z) (by omega), fun k z => key _ _ _ (h.2.2.1 k z) (by omega), fun k z => key _ _ _ (h.2.2.2.1 k z) (by omega), fun k z => ⟨key _ _ _ (h.2.2.2.2 k z).1 (by omega), key _ _ _ (h.2.2.2.2 k z).2 (by omega)⟩⟩
def ci (M N : ax_M) (z : Nat) (B : Nat → Int32) (s : rk) (q : Nat → Int) (n : Nat) : Prop := rg N z B s ∧ rp N q ∧ cf M N ∧ N.1 90 7 = nI n
theorem ci_gf {M N N2 : ax_M} {z : Nat} {B : Nat → Int32} {s s2 : rk} {q : Nat → Int} {n : Nat} (h : ci M N z B s q n) (hg : gf N N2) (hr : rg N2 z B s2) : ci M N2 z B s2 q n := ⟨hr, rp_fr h.2.1 (fun n i q => hg.2 n i (by omega)), cf_tr h.2.2.1 (cf_gf hg), (hg.2 90 7 (by omega)).trans h.2.2.2⟩
theorem ci_at {M N N2 : ax_M} {z : Nat} {B : Nat → Int32} {s : rk} {q : Nat → Int} {n m i j : Nat} {v : Int} {x : Int32} (h : ci M N z B s q n) (e : N2 = ax_pI N m i x) (hx : x = iI v) (hj : (m = 93 ∧ i < 7 ∧ j = i) ∨ (m = 99 ∧ i < 26 ∧ j = 10 + i) ∨ (m = 95 ∧ i < 2 ∧ j = 40 + i) ∨ (m = 97 ∧ i < 6 ∧ j = 50 + i) ∨ (102 ≤ m ∧ m ≤ 105 ∧ i < 2 ∧ j = 60 + 2 * (m - 102) + i)) : ci M N2 z B s (up q j v) n := by
  subst e hx
  exact ⟨rg_fr h.1 rfl (fun k z => ax_pn (by omega)) (fun k => ax_pn (by omega)), rp_at h.2.1 hj, cf_tr h.2.2.1 (cf_p (by omega)), (ax_pn (by omega)).trans h.2.2.2⟩
section RDC
variable {l : Launch} {G : ax_G} {M : ax_M} {z : Nat} {B : Nat → Int32}
theorem c_cellHere (hB : ps_B B z) {s : rk} (h : rg M z B s) {q : Nat → Int} (hq : rp M q) : ax_Met l G kX10_cellHere 3 0 0 M [av_r 90] (fun o M2 => o = .inl (some (av_i (nI (rk_num B z 0 (iI (q 0 - 1)) s).2))) ∧ gf M M2 ∧ rg M2 z B (rk_num B z 0 (iI (q 0 - 1)) s).1) := by
  have hok := h.1
  refine ax_body (by decide) (Nat.le_of_ble_eq_true rfl) ?_
  refine ax_aload_n dX10_cellHere_0 rfl ?_
  refine ax_iconst (v := 0) dX10_cellHere_1 (by decide) ?_
  refine ax_aload_n dX10_cellHere_2 rfl ?_
  refine ax_getK (f := 11) 93 dX10_cellHere_3 acl_10 wd_1611 (by decide) rfl (lo_s hok 90 rfl) (lo_r hok 82 rfl) ?_
  refine ax_iconst (v := 0) dX10_cellHere_6 (by decide) ?_
  refine ax_ialdN (0) dX10_cellHere_7 (lo_s hok 93 rfl) (by decide) (by decide) (by decide) ?_
  rw [hq.1 0 (by decide)]
  refine ax_iconst (v := 1) dX10_cellHere_8 (by decide) ?_
  refine ax_isub dX10_cellHere_9 ?_
  rw [show (1 : Int32) = iI 1 from rfl, iI_sub]
  refine ax_callV (As := _) (d2 := _) (c1 := 0) (n1 := 0) (c_gnum (M := M) hB h _ _) dX10_cellHere_10 mX10_number wd_1825 acl_10 (lo_s hok 90 rfl) rfl (by omega) (by omega) (by omega) rfl rfl (fun _ _ h => by cases h.1) ?_
  rintro o9 M1 ⟨h1, f1, g1⟩; cases h1
  refine ax_iret dX10_cellHere_13 rfl ?_
  exact ⟨rfl, f1, g1⟩
theorem c_gskip {s : Nat} (h : rg M z B (s, none)) : ax_Met l G kX10_skipWord 1 0 0 M [av_r 90] (fun o M2 => o = .inl none ∧ gf M M2 ∧ rg M2 z B (s + (tx_wd B z s).length, none)) := by
  have hz := h.2.1.2
  have hst := rg_st h
  refine ax_mono (c_X10_skipWord h.1 h.2.1 h.2.2.2.2.1 (by have := h.2.2.2.1.1; omega)) ?_
  rintro o M2 ⟨h1, h2⟩
  rw [h.2.2.1] at h2
  have hg : gf M M2 := ⟨by rw [h2]; rfl, fun n i q => by rw [h2, ax_pn (by omega)]⟩
  refine ⟨h1, hg, rg_B h hg ⟨tx_wd_z h.2.2.2.1.1, fun e q => by cases q⟩ (by rw [h2, ax_pa]) ?_⟩
  show M2.1 90 5 = 0
  rw [h2, ax_pn (by omega)]; exact hst.2.2.2.2
theorem c_gkind {s : Nat} (h : rg M z B (s, none)) : ax_Met l G kX10_kindHere 4 0 0 M [av_r 90] (fun o M2 => o = .inl (some (av_i (if kd (tx_wd B z (tx_sk B z s)) = 8 then -1 else nI (kd (tx_wd B z (tx_sk B z s)))))) ∧ gf M M2 ∧ rg M2 z B (tx_sk B z s, none)) := by
  have hz := h.2.1.2
  have hst := rg_st h
  refine ax_mono (c_X10_kindHere hst) ?_
  rintro o M2 ⟨h1, h2⟩
  rw [h.2.2.1] at h1 h2
  rw [kd_ix8] at h1
  have hg : gf M M2 := ⟨by rw [h2]; rfl, fun n i q => by rw [h2, ax_pn (by omega)]⟩
  refine ⟨h1, hg, rg_B h hg ⟨tx_sk_z h.2.2.2.1.1, fun e q => by cases q⟩ (by rw [h2, ax_pa]) ?_⟩
  show M2.1 90 5 = 0
  rw [h2, ax_pn (by omega)]; exact hst.2.2.2.2
set_option maxHeartbeats 4000000 in
theorem c_clause (hB : ps_B B z) {a n : Nat} {q : Nat → Int} (hi : ci M M z B (a, none) q n) (hq : rd_ok q) (hn : n ≤ 60) (h0 : n = 0 → q 1 = 0 ∧ q 2 = 0 ∧ q 3 = 0 ∧ q 4 = 0) : ax_Met l G kX10_clause 5 0 0 M [av_r 90] (fun o M2 => o = .inl none ∧ ∃ q2 n2, ci M M2 z B (cl B z n q a).1 q2 n2 ∧ q2 = (cl B z n q a).2 ∧ rd_ok q2 ∧ ((cl B z n q a).1.2 = none → n2 = n + 1 ∧ n < 60)) := by
  have hok := hi.1.1
  have hz := hi.1.2.1.2
  have ho := hq.1
  refine ax_body (by decide) (Nat.le_of_ble_eq_true rfl) ?_
  generalize hQ : (fun (o : ax_O) (M2 : ax_M) => o = .inl none ∧ ∃ q2 n2, ci M M2 z B (cl B z n q a).1 q2 n2 ∧ q2 = (cl B z n q a).2 ∧ rd_ok q2 ∧ ((cl B z n q a).1.2 = none → n2 = n + 1 ∧ n < 60)) = Q
  have done : ∀ (M2 : ax_M) (x : rk × (Nat → Int)) (n2 : Nat), cl B z n q a = x → ci M M2 z B x.1 x.2 n2 → rd_ok x.2 → (x.1.2 = none → n2 = n + 1 ∧ n < 60) → Q (.inl none) M2 := by
    intro M2 x n2 h1 h2 h3 h4
    rw [← hQ]
    exact ⟨rfl, x.2, n2, by rw [h1]; exact h2, by rw [h1], h3, by rw [h1]; exact h4⟩
  refine ax_aload_n dX10_clause_0 rfl ?_
  refine ax_callV (As := _) (d2 := _) (c1 := 0) (n1 := 0) (c_gkind (M := M) hi.1) dX10_clause_1 mX10_kindHere wd_1795 acl_10 (lo_s hok 90 rfl) rfl (by omega) (by omega) (by omega) rfl rfl (fun _ _ h => by cases h.1) ?_
  rintro o9 M1 ⟨h1, f1, g1⟩; cases h1
  have hi1 := ci_gf hi f1 g1
  have hok := g1.1
  have hsz := g1.2.2.2.1.1
  have hat := g1.2.2.2.2.1
  simp only [] at hsz hat
  unfold cl at done
  generalize hw : tx_wd B z (tx_sk B z a) = w at *
  generalize ha1 : tx_sk B z a = a1 at *
  have h8 := kd_8 w
  -- a FAULT: at 71 with one
  have bad : ∀ (M2 : ax_M) (e : Nat) (y1 : Option ax_V), rg M2 z B (a1, some (e, a1)) → gf M1 M2 → 1 ≤ e → e ≤ 4 → (∀ x, x = ((a1, some (e, a1)), q) → ∀ n2, ci M M2 z B x.1 x.2 n2 → rd_ok x.2 → (x.1.2 = none → n2 = n + 1 ∧ n < 60) → Q (.inl none) M2) → ax_W l G kX10_clause (ax_FQ G Q) 5 0 0 M2 71 [some (av_r 90), y1, none, none] [] := by
    intro M2 e y1 g2 f2 he1 he4 dn2
    have hok := g2.1
    have hne : ¬ M2.1 90 5 = 0 := fun c => by cases (rg_0 g2).mp c
    refine ax_aload_n dX10_clause_71 rfl ?_
    refine ax_getI (f := 5) dX10_clause_72 acl_10 wd_1605 (by decide) rfl (lo_s hok 90 rfl) ?_
    refine ax_if_eq (tgt := 79) dX10_clause_75 (by decide) (fun hc => ?_) (fun hc => ?_)
    · exact absurd hc hne
    · refine ax_vret dX10_clause_78 rfl ?_
      exact dn2 _ rfl n (ci_gf hi1 f2 g2) hq (fun c => by cases c)
  by_cases k8 : kd w = 8
  · rw [if_pos k8]
    simp only [if_pos k8] at done
    refine ax_istore_n dX10_clause_4 (by decide) rfl ?_
    refine ax_iload_n dX10_clause_5 rfl ?_
    refine ax_iconst (v := (-1)) dX10_clause_6 (by decide) ?_
    refine ax_icmp_ne (tgt := 22) dX10_clause_7 (by decide) (fun hc => ?_) (fun hc => ?_)
    · exact absurd rfl hc
    · refine ax_aload_n dX10_clause_10 rfl ?_
      refine ax_iconst (v := 1) dX10_clause_11 (by decide) ?_
      refine ax_aload_n dX10_clause_12 rfl ?_
      refine ax_getI (f := 4) dX10_clause_13 acl_10 wd_1604 (by decide) rfl (lo_s hok 90 rfl) ?_
      rw [hat]
      refine ax_callV (As := _) (d2 := _) (c1 := 0) (n1 := 0) (c_gwrong (d := 0) (M := M1) g1 (f := 1) (p := a1) (by decide) hsz rfl rfl) dX10_clause_16 mX10_wrong wd_1813 acl_10 (lo_s hok 90 rfl) rfl (by omega) (by omega) (by omega) rfl rfl (fun _ _ h => by cases h.1) ?_
      rintro o9 M2 ⟨h1, f2, g2⟩; cases h1
      refine ax_goto (tgt := 71) dX10_clause_19 (by decide) ?_
      exact bad M2 1 _ g2 f2 (by omega) (by omega) (fun x hx n2 => done M2 x n2 hx.symm)
  rw [if_neg k8]
  simp only [if_neg k8] at done
  generalize hk : kd w = k at *
  have hk8 : k < 8 := by omega
  have e7 := hi1.2.2.2
  -- behind the number of CLAUSES
  have full : (n = 60 ∨ fl_k q k) → ax_W l G kX10_clause (ax_FQ G Q) 5 0 0 M1 39 [some (av_r 90), some (av_i (nI k)), none, none] [] := by
    intro hf
    simp only [if_pos hf] at done
    refine ax_aload_n dX10_clause_39 rfl ?_
    refine ax_iconst (v := 3) dX10_clause_40 (by decide) ?_
    refine ax_aload_n dX10_clause_41 rfl ?_
    refine ax_getI (f := 4) dX10_clause_42 acl_10 wd_1604 (by decide) rfl (lo_s hok 90 rfl) ?_
    rw [hat]
    refine ax_callV (As := _) (d2 := _) (c1 := 0) (n1 := 0) (c_gwrong (d := 0) (M := M1) g1 (f := 3) (p := a1) (by decide) hsz rfl rfl) dX10_clause_45 mX10_wrong wd_1813 acl_10 (lo_s hok 90 rfl) rfl (by omega) (by omega) (by omega) rfl rfl (fun _ _ h => by cases h.1) ?_
    rintro o9 M2 ⟨h1, f2, g2⟩; cases h1
    refine ax_goto (tgt := 71) dX10_clause_48 (by decide) ?_
    exact bad M2 3 _ g2 f2 (by omega) (by omega) (fun x hx n2 => done M2 x n2 hx.symm)
  have fe : ((nI k = 1 ∧ M1.1 93 1 = 2) ∨ (nI k = 2 ∧ M1.1 93 2 = 10) ∨ (nI k = 3 ∧ M1.1 93 3 = 6) ∨ (nI k = 4 ∧ M1.1 93 4 = 4)) ↔ fl_k q k := by
    rw [hi1.2.1.1 1 (by decide), hi1.2.1.1 2 (by decide), hi1.2.1.1 3 (by decide), hi1.2.1.1 4 (by decide)]
    rw [show (1 : Int32) = nI 1 from rfl, show (2 : Int32) = nI 2 from rfl, show (3 : Int32) = nI 3 from rfl, show (4 : Int32) = nI 4 from rfl, nI_eq (by omega) (by omega), nI_eq (by omega) (by omega), nI_eq (by omega) (by omega), nI_eq (by omega) (by omega)]
    rw [show nI 2 = iI 2 from rfl, show nI 4 = iI 4 from rfl, show (10 : Int32) = iI 10 from rfl, show (6 : Int32) = iI 6 from rfl, iI_eq (by unfold iI_b; omega) (by unfold iI_b; omega), iI_eq (by unfold iI_b; omega) (by unfold iI_b; omega), iI_eq (by unfold iI_b; omega) (by unfold iI_b; omega), iI_eq (by unfold iI_b; omega) (by unfold iI_b; omega)]
  refine ax_istore_n dX10_clause_4 (by decide) rfl ?_
  refine ax_iload_n dX10_clause_5 rfl ?_
  refine ax_iconst (v := (-1)) dX10_clause_6 (by decide) ?_
  refine ax_icmp_ne (tgt := 22) dX10_clause_7 (by decide) (fun hc => ?_) (fun hc => ?_)
  rotate_left
  · exact absurd hc (by rw [iI_nI, show (-1 : Int32) = iI (-1) from rfl, iI_eq (by unfold iI_b; omega) (by unfold iI_b; omega)]; omega)
  refine ax_aload_n dX10_clause_22 rfl ?_
  refine ax_getI (f := 7) dX10_clause_23 acl_10 wd_1607 (by decide) rfl (lo_s hok 90 rfl) ?_
  refine ax_bipush (v := 60) dX10_clause_26 (by decide) ?_
  rw [e7]
  refine ax_icmp_eq (tgt := 39) dX10_clause_28 (by decide) (fun hc => ?_) (fun hc => ?_)
  · exact full (Or.inl ((nI_eq (b := 60) (by omega) (by omega)).mp hc))
  have hn60 : ¬ n = 60 := fun c => hc (by rw [c]; rfl)
  clear hc
  refine ax_aload_n dX10_clause_31 rfl ?_
  refine ax_iload_n dX10_clause_32 rfl ?_
  refine ax_callV (As := _) (d2 := _) (c1 := 0) (n1 := 0) (c_X10_isFull (d := 0) (M := M1) hok _) dX10_clause_33 mX10_isFull wd_1817 acl_10 (lo_s hok 90 rfl) rfl (by omega) (by omega) (by omega) rfl rfl (fun _ _ h => by cases h.1) ?_
  rintro r M9 ⟨h1, h9⟩; cases h1; rw [h9]; clear h9 M9
  refine ax_ifB_eq (tgt := 51) dX10_clause_36 (by decide) (fun hc => ?_) (fun hc => ?_)
  rotate_left
  · exact full (Or.inr (fe.mp hc))
  have hnf : ¬ fl_k q k := fun c => hc (fe.mpr c)
  clear hc
  simp only [if_neg (show ¬ (n = 60 ∨ fl_k q k) from fun c => by rcases c with c | c; exact hn60 c; exact hnf c)] at done
  -- from 71 on, without FAULT
  have good : ¬ (k = 0 ∧ 0 < n) → ax_W l G kX10_clause (ax_FQ G Q) 5 0 0 M1 71 [some (av_r 90), some (av_i (nI k)), none, none] [] := by
    intro hk0
    simp only [if_neg hk0] at done
    have h00 : k = 0 → q 1 = 0 ∧ q 2 = 0 ∧ q 3 = 0 ∧ q 4 = 0 := fun c => h0 (by omega)
    have hca := ca_ok (B := B) (z := z) (s := (a1 + w.length, none)) hq hnf hk8 h00
    have hz0 : M1.1 90 5 = 0 := (rg_0 g1).mpr rfl
    refine ax_aload_n dX10_clause_71 rfl ?_
    refine ax_getI (f := 5) dX10_clause_72 acl_10 wd_1605 (by decide) rfl (lo_s hok 90 rfl) ?_
    refine ax_if_eq (tgt := 79) dX10_clause_75 (by decide) (fun hc => ?_) (fun hc => ?_)
    rotate_left
    · exact absurd hz0 hc
    refine ax_aload_n dX10_clause_79 rfl ?_
    refine ax_callV (As := _) (d2 := _) (c1 := 0) (n1 := 0) (c_gskip (M := M1) g1) dX10_clause_80 mX10_skipWord wd_1821 acl_10 (lo_s hok 90 rfl) rfl (by omega) (by omega) (by omega) rfl rfl (fun _ _ h => by cases h.1) ?_
    rintro o9 M2 ⟨h1, f2, g2⟩; cases h1
    rw [hw] at g2
    have hok := g2.1
    have e72 : M2.1 90 7 = nI n := (f2.2 90 7 (by omega)).trans e7
    refine ax_aload_n dX10_clause_83 rfl ?_
    refine ax_dup dX10_clause_84 (by first | rfl | exact ax_crf _) ?_
    refine ax_getI (f := 7) dX10_clause_85 acl_10 wd_1607 (by decide) rfl (lo_s hok 90 rfl) ?_
    refine ax_iconst (v := 1) dX10_clause_88 (by decide) ?_
    refine ax_iadd dX10_clause_89 ?_
    refine ax_putI (f := 7) dX10_clause_90 acl_10 wd_1607 (by decide) rfl rfl (ax_nfI rfl) (lo_s hok 90 rfl) ?_
    rw [e72, nI_1]
    refine ax_gen (fun M3 hM3 => ?_)
    have hok : lo_ok M3.2 := by rw [hM3]; exact hok
    have g3 : rg M3 z B (a1 + w.length, none) := rg_fr g2 (by rw [hM3]; rfl) (fun i c => by rw [hM3, ax_pn (by omega)]) (fun i => by rw [hM3, ax_pn (by omega)])
    have i3 : ci M M3 z B (a1 + w.length, none) q (n + 1) := ⟨g3, rp_fr hi1.2.1 (fun m i c => by rw [hM3, ax_pn (by omega)]; exact f2.2 m i (by omega)), cf_tr hi1.2.2.1 (cf_tr (cf_gf f2) (by rw [hM3]; exact cf_p (by omega))), by rw [hM3, ax_pa]⟩
    clear hM3
    -- behind the numbers
    have last : ∀ (N : ax_M) (s2 : rk) (q2 : Nat → Int) (y2 y3 : Option ax_V), ci M N z B s2 q2 (n + 1) → ca B z q k (a1 + w.length, none) = (s2, q2) → ax_W l G kX10_clause (ax_FQ G Q) 5 0 0 N 399 [some (av_r 90), some (av_i (nI k)), y2, y3] [] := by
      intro N s2 q2 y2 y3 hN hR
      rw [hR] at hca done
      simp only [] at hca done
      have hok := hN.1.1
      have fin : ∀ (N2 : ax_M), ci M N2 z B s2 (cn q2 k s2) (n + 1) → ax_W l G kX10_clause (ax_FQ G Q) 5 0 0 N2 429 [some (av_r 90), some (av_i (nI k)), y2, y3] [] := by
        intro N2 h2
        have hok := h2.1.1
        refine ax_aload_n dX10_clause_429 rfl ?_
        refine ax_bipush (v := 59) dX10_clause_430 (by decide) ?_
        refine ax_callV (As := _) (d2 := _) (c1 := 0) (n1 := 0) (c_gsign (M := N2) hB h2.1 59 (by decide)) dX10_clause_432 mX10_sign wd_1837 acl_10 (lo_s hok 90 rfl) rfl (by omega) (by omega) (by omega) rfl rfl (fun _ _ h => by cases h.1) ?_
        rintro o9 N3 ⟨h1, f3, g3⟩; cases h1
        refine ax_vret dX10_clause_435 rfl ?_
        exact done N3 _ (n + 1) rfl (ci_gf h2 f3 g3) hca (fun _ => ⟨rfl, by omega⟩)
      refine ax_iload_n dX10_clause_399 rfl ?_
      refine ax_if_le (tgt := 429) dX10_clause_400 (by decide) (fun hc => ?_) (fun hc => ?_)
      · have hk1 := (nI_leI (b := 0) (by omega) (by omega)).mp hc
        rw [rd_cn0 (by omega)] at fin
        exact fin N hN
      have hk1 : 0 < k := Nat.lt_of_not_le (fun c => hc ((nI_leI (b := 0) (by omega) (by omega)).mpr c))
      clear hc
      refine ax_iload_n dX10_clause_403 rfl ?_
      refine ax_iconst (v := 5) dX10_clause_404 (by decide) ?_
      refine ax_icmp_ge (tgt := 429) dX10_clause_405 (by decide) (fun hc => ?_) (fun hc => ?_)
      · have hk5 := (nI_leI (a := 5) (by omega) (by omega)).mp hc
        rw [rd_cn0 (by omega)] at fin
        exact fin N hN
      have hk5 : k < 5 := Nat.lt_of_not_le (fun c => hc ((nI_leI (a := 5) (by omega) (by omega)).mpr c))
      clear hc
      rw [rd_cn ⟨hk1, hk5⟩] at fin
      refine ax_aload_n dX10_clause_408 rfl ?_
      refine ax_getK (f := 11) 93 dX10_clause_409 acl_10 wd_1611 (by decide) rfl (lo_s hok 90 rfl) (lo_r hok 82 rfl) ?_
      refine ax_iload_n dX10_clause_412 rfl ?_
      refine ax_dup2 dX10_clause_413 (by first | rfl | exact ax_crf _) (by first | rfl | exact ax_crf _) ?_
      refine ax_ialdN k dX10_clause_414 (lo_s hok 93 rfl) (by decide) rfl (by omega) ?_
      rw [hN.2.1.1 k (by omega)]
      refine ax_aload_n dX10_clause_415 rfl ?_
      refine ax_getI (f := 5) dX10_clause_416 acl_10 wd_1605 (by decide) rfl (lo_s hok 90 rfl) ?_
      refine ax_join1 (s2.2 = none) 427 (1) (0) ?_ (fun ja jb => ?_)
      rotate_left
      · refine ax_if_ne (tgt := 426) dX10_clause_419 (by decide) (fun h419 => ?_) (fun h419 => ?_)
        · refine ax_iconst (v := 0) dX10_clause_426 (by decide) ?_
          first | exact ja ((rg_0 hN.1).mp h419) | exact jb (fun c => h419 ((rg_0 hN.1).mpr c)) | exact ja ((rg_0 hN.1).mp (by simpa using h419)) | exact jb (fun c => (by simpa using h419 : ¬ _) ((rg_0 hN.1).mpr c))
        · refine ax_iconst (v := 1) dX10_clause_422 (by decide) ?_
          refine ax_goto (tgt := 427) dX10_clause_423 (by decide) ?_
          first | exact ja ((rg_0 hN.1).mp h419) | exact jb (fun c => h419 ((rg_0 hN.1).mpr c)) | exact ja ((rg_0 hN.1).mp (by simpa using h419)) | exact jb (fun c => (by simpa using h419 : ¬ _) ((rg_0 hN.1).mpr c))
      refine ax_iadd dX10_clause_427 ?_
      refine ax_iastN k dX10_clause_428 (lo_s hok 93 rfl) (by decide) rfl (by omega) ?_
      refine ax_gen (fun N2 hN2 => ?_)
      refine fin N2 (ci_at hN hN2 ?_ (Or.inl ⟨rfl, by omega, rfl⟩))
      rw [show (if s2.2 = none then (1 : Int32) else 0) = iI (if s2.2 = none then 1 else 0) by split <;> rfl, iI_add]
    unfold ca at last
    rcases (show k = 0 ∨ k = 1 ∨ k = 2 ∨ k = 3 ∨ k = 4 ∨ k = 5 ∨ k = 6 ∨ k = 7 by omega) with rfl | rfl | rfl | rfl | rfl | rfl | rfl | rfl
    · simp only [if_true] at last
      refine ax_iload_n dX10_clause_93 rfl ?_
      refine ax_tableIn (off := 38) (tgt := 132) dX10_clause_94 (by decide) (by decide) rfl (by decide) ?_
      refine ax_aload_n dX10_clause_132 rfl ?_
      refine ax_bipush (v := 10) dX10_clause_133 (by decide) ?_
      refine ax_bipush (v := 60) dX10_clause_135 (by decide) ?_
      refine ax_callV (As := _) (d2 := _) (c1 := 0) (n1 := 0) (c_gnum (M := M3) hB g3 _ _) dX10_clause_137 mX10_number wd_1825 acl_10 (lo_s hok 90 rfl) rfl (by omega) (by omega) (by omega) rfl rfl (fun _ _ h => by cases h.1) ?_
      rintro o9 N ⟨h1, f4, g4⟩; cases h1
      have i4 := ci_gf i3 f4 g4
      have hok := g4.1
      refine ax_istore_n dX10_clause_140 (by decide) rfl ?_
      refine ax_aload_n dX10_clause_141 rfl ?_
      refine ax_getI (f := 5) dX10_clause_142 acl_10 wd_1605 (by decide) rfl (lo_s hok 90 rfl) ?_
      refine ax_if_ne (tgt := 399) dX10_clause_145 (by decide) (fun hc => ?_) (fun hc => ?_)
      · exact last N _ _ _ _ i4 (by rw [if_neg (fun c => hc ((rg_0 g4).mpr c))])
      · have hnn := (rg_0 g4).mp (by simpa using hc)
        refine ax_aload_n dX10_clause_148 rfl ?_
        refine ax_getK (f := 11) 93 dX10_clause_149 acl_10 wd_1611 (by decide) rfl (lo_s hok 90 rfl) (lo_r hok 82 rfl) ?_
        refine ax_iconst (v := 0) dX10_clause_152 (by decide) ?_
        refine ax_iload_n dX10_clause_153 rfl ?_
        refine ax_iastN (0) dX10_clause_154 (lo_s hok 93 rfl) (by decide) (by decide) (by decide) ?_
        refine ax_gen (fun N2 hN2 => ?_)
        have hok : lo_ok N2.2 := by rw [hN2]; exact hok
        refine ax_goto (tgt := 399) dX10_clause_155 (by decide) ?_
        exact last N2 _ _ _ _ (ci_at (j := 0) i4 hN2 (iI_nI _) (Or.inl ⟨rfl, by omega, rfl⟩)) (by rw [if_pos hnn])
    · simp only [if_neg (show ¬ 1 = 0 by decide), if_true] at last
      have hq1 : ¬ q 1 = 2 := fun c => hnf (Or.inl ⟨rfl, c⟩)
      have e1 : iI (q 1) = nI (q 1).toNat := iI_tn (by omega)
      refine ax_iload_n dX10_clause_93 rfl ?_
      refine ax_tableIn (off := 64) (tgt := 158) dX10_clause_94 (by decide) (by decide) rfl (by decide) ?_
      refine ax_aload_n dX10_clause_158 rfl ?_
      refine ax_getK (f := 11) 93 dX10_clause_159 acl_10 wd_1611 (by decide) rfl (lo_s hok 90 rfl) (lo_r hok 82 rfl) ?_
      refine ax_iconst (v := 1) dX10_clause_162 (by decide) ?_
      refine ax_ialdN (1) dX10_clause_163 (lo_s hok 93 rfl) (by decide) (by decide) (by decide) ?_
      rw [i3.2.1.1 1 (by decide), e1]
      generalize hc0 : (q 1).toNat = c0 at *
      have hc2 : c0 < 2 := by omega
      refine ax_istore_n dX10_clause_164 (by decide) rfl ?_
      refine ax_aload_n dX10_clause_165 rfl ?_
      refine ax_getK (f := 13) 95 dX10_clause_166 acl_10 wd_1613 (by decide) rfl (lo_s hok 90 rfl) (lo_r hok 84 rfl) ?_
      refine ax_iload_n dX10_clause_169 rfl ?_
      refine ax_aload_n dX10_clause_170 rfl ?_
      refine ax_bipush (v := 17) dX10_clause_171 (by decide) ?_
      refine ax_bipush (v := 99) dX10_clause_173 (by decide) ?_
      refine ax_callV (As := _) (d2 := _) (c1 := 0) (n1 := 0) (c_gnum (M := M3) hB g3 _ _) dX10_clause_175 mX10_number wd_1825 acl_10 (lo_s hok 90 rfl) rfl (by omega) (by omega) (by omega) rfl rfl (fun _ _ h => by cases h.1) ?_
      rintro o9 N ⟨h1, f4, g4⟩; cases h1
      have i4 := ci_gf i3 f4 g4
      have hok := g4.1
      refine ax_iastN (c0) dX10_clause_178 (lo_s hok 95 rfl) (by decide) (by first | with_reducible rfl | assumption | exact ax_nix (by simp only [nx_0, nx_1, nx_2, nx_3, nx_4, nx_10, nx_20, nx_21, nx_100, nI_add, pk_mul] <;> rfl) (by omega) | decide) (by omega) ?_
      refine ax_gen (fun N2 hN2 => ?_)
      have hok : lo_ok N2.2 := by rw [hN2]; exact hok
      have i5 := ci_at (j := 40 + c0) i4 hN2 (iI_nI _) (by omega)
      refine ax_aload_n dX10_clause_179 rfl ?_
      refine ax_getK (f := 17) 99 dX10_clause_180 acl_10 wd_1617 (by decide) rfl (lo_s hok 90 rfl) (lo_r hok 88 rfl) ?_
      refine ax_iconst (v := 0) dX10_clause_183 (by decide) ?_
      refine ax_iconst (v := 2) dX10_clause_184 (by decide) ?_
      refine ax_iload_n dX10_clause_185 rfl ?_
      refine ax_imul dX10_clause_186 ?_
      refine ax_iadd dX10_clause_187 ?_
      refine ax_aload_n dX10_clause_188 rfl ?_
      refine ax_iconst (v := 1) dX10_clause_189 (by decide) ?_
      refine ax_iconst (v := 3) dX10_clause_190 (by decide) ?_
      refine ax_callV (As := _) (d2 := _) (c1 := 0) (n1 := 0) (c_gnum (M := N2) hB i5.1 _ _) dX10_clause_191 mX10_number wd_1825 acl_10 (lo_s hok 90 rfl) rfl (by omega) (by omega) (by omega) rfl rfl (fun _ _ h => by cases h.1) ?_
      rintro o9 N3 ⟨h1, f6, g6⟩; cases h1
      have i6 := ci_gf i5 f6 g6
      have hok := g6.1
      refine ax_iastN (2 * c0) dX10_clause_194 (lo_s hok 99 rfl) (by decide) (by first | with_reducible rfl | assumption | exact ax_nix (by simp only [nx_0, nx_1, nx_2, nx_3, nx_4, nx_10, nx_20, nx_21, nx_100, nI_add, pk_mul] <;> rfl) (by omega) | decide) (by omega) ?_
      refine ax_gen (fun N4 hN4 => ?_)
      have hok : lo_ok N4.2 := by rw [hN4]; exact hok
      have i7 := ci_at (j := 10 + 2 * c0) i6 hN4 (iI_nI _) (by omega)
      refine ax_aload_n dX10_clause_195 rfl ?_
      refine ax_getK (f := 17) 99 dX10_clause_196 acl_10 wd_1617 (by decide) rfl (lo_s hok 90 rfl) (lo_r hok 88 rfl) ?_
      refine ax_iconst (v := 0) dX10_clause_199 (by decide) ?_
      refine ax_iconst (v := 2) dX10_clause_200 (by decide) ?_
      refine ax_iload_n dX10_clause_201 rfl ?_
      refine ax_imul dX10_clause_202 ?_
      refine ax_iadd dX10_clause_203 ?_
      refine ax_iconst (v := 1) dX10_clause_204 (by decide) ?_
      refine ax_iadd dX10_clause_205 ?_
      refine ax_aload_n dX10_clause_206 rfl ?_
      refine ax_iconst (v := 0) dX10_clause_207 (by decide) ?_
      refine ax_bipush (v := 9) dX10_clause_208 (by decide) ?_
      refine ax_callV (As := _) (d2 := _) (c1 := 0) (n1 := 0) (c_gnum (M := N4) hB i7.1 _ _) dX10_clause_210 mX10_number wd_1825 acl_10 (lo_s hok 90 rfl) rfl (by omega) (by omega) (by omega) rfl rfl (fun _ _ h => by cases h.1) ?_
      rintro o9 N5 ⟨h1, f8, g8⟩; cases h1
      have i8 := ci_gf i7 f8 g8
      have hok := g8.1
      refine ax_iastN (2 * c0 + 1) dX10_clause_213 (lo_s hok 99 rfl) (by decide) (by first | with_reducible rfl | assumption | exact ax_nix (by simp only [nx_0, nx_1, nx_2, nx_3, nx_4, nx_10, nx_20, nx_21, nx_100, nI_add, pk_mul] <;> rfl) (by omega) | decide) (by omega) ?_
      refine ax_gen (fun N6 hN6 => ?_)
      have hok : lo_ok N6.2 := by rw [hN6]; exact hok
      have i9 := ci_at (j := 11 + 2 * c0) i8 hN6 (iI_nI _) (by omega)
      refine ax_goto (tgt := 399) dX10_clause_214 (by decide) ?_
      exact last N6 _ _ _ _ i9 rfl
    · simp only [if_neg (show ¬ 2 = 0 by decide), if_neg (show ¬ 2 = 1 by decide), if_true] at last
      have hq1 : ¬ q 2 = 10 := fun c => hnf (Or.inr (Or.inl ⟨rfl, c⟩))
      have e1 : iI (q 2) = nI (q 2).toNat := iI_tn (by omega)
      refine ax_iload_n dX10_clause_93 rfl ?_
      refine ax_tableIn (off := 123) (tgt := 217) dX10_clause_94 (by decide) (by decide) rfl (by decide) ?_
      refine ax_aload_n dX10_clause_217 rfl ?_
      refine ax_getK (f := 11) 93 dX10_clause_218 acl_10 wd_1611 (by decide) rfl (lo_s hok 90 rfl) (lo_r hok 82 rfl) ?_
      refine ax_iconst (v := 2) dX10_clause_221 (by decide) ?_
      refine ax_ialdN (2) dX10_clause_222 (lo_s hok 93 rfl) (by decide) (by decide) (by decide) ?_
      rw [i3.2.1.1 2 (by decide), e1]
      generalize hc0 : (q 2).toNat = c0 at *
      have hc2 : c0 < 10 := by omega
      refine ax_istore_n dX10_clause_223 (by decide) rfl ?_
      refine ax_aload_n dX10_clause_224 rfl ?_
      refine ax_getK (f := 17) 99 dX10_clause_225 acl_10 wd_1617 (by decide) rfl (lo_s hok 90 rfl) (lo_r hok 88 rfl) ?_
      refine ax_iconst (v := 4) dX10_clause_228 (by decide) ?_
      refine ax_iconst (v := 2) dX10_clause_229 (by decide) ?_
      refine ax_iload_n dX10_clause_230 rfl ?_
      refine ax_imul dX10_clause_231 ?_
      refine ax_iadd dX10_clause_232 ?_
      refine ax_aload_n dX10_clause_233 rfl ?_
      refine ax_callV (As := _) (d2 := _) (c1 := 0) (n1 := 0) (c_cellHere (M := M3) hB g3 i3.2.1) dX10_clause_234 mX10_cellHere wd_1833 acl_10 (lo_s hok 90 rfl) rfl (by omega) (by omega) (by omega) rfl rfl (fun _ _ h => by cases h.1) ?_
      rintro o9 N ⟨h1, f4, g4⟩; cases h1
      have i4 := ci_gf i3 f4 g4
      have hok := g4.1
      refine ax_iastN (4 + 2 * c0) dX10_clause_237 (lo_s hok 99 rfl) (by decide) (by first | with_reducible rfl | assumption | exact ax_nix (by simp only [nx_0, nx_1, nx_2, nx_3, nx_4, nx_10, nx_20, nx_21, nx_100, nI_add, pk_mul] <;> rfl) (by omega) | decide) (by omega) ?_
      refine ax_gen (fun N2 hN2 => ?_)
      have hok : lo_ok N2.2 := by rw [hN2]; exact hok
      have i5 := ci_at (j := 14 + 2 * c0) i4 hN2 (iI_nI _) (by omega)
      refine ax_aload_n dX10_clause_238 rfl ?_
      refine ax_getK (f := 17) 99 dX10_clause_239 acl_10 wd_1617 (by decide) rfl (lo_s hok 90 rfl) (lo_r hok 88 rfl) ?_
      refine ax_iconst (v := 4) dX10_clause_242 (by decide) ?_
      refine ax_iconst (v := 2) dX10_clause_243 (by decide) ?_
      refine ax_iload_n dX10_clause_244 rfl ?_
      refine ax_imul dX10_clause_245 ?_
      refine ax_iadd dX10_clause_246 ?_
      refine ax_iconst (v := 1) dX10_clause_247 (by decide) ?_
      refine ax_iadd dX10_clause_248 ?_
      refine ax_aload_n dX10_clause_249 rfl ?_
      refine ax_iconst (v := 0) dX10_clause_250 (by decide) ?_
      refine ax_bipush (v := 9) dX10_clause_251 (by decide) ?_
      refine ax_callV (As := _) (d2 := _) (c1 := 0) (n1 := 0) (c_gnum (M := N2) hB i5.1 _ _) dX10_clause_253 mX10_number wd_1825 acl_10 (lo_s hok 90 rfl) rfl (by omega) (by omega) (by omega) rfl rfl (fun _ _ h => by cases h.1) ?_
      rintro o9 N3 ⟨h1, f6, g6⟩; cases h1
      have i6 := ci_gf i5 f6 g6
      have hok := g6.1
      refine ax_iastN (4 + 2 * c0 + 1) dX10_clause_256 (lo_s hok 99 rfl) (by decide) (by first | with_reducible rfl | assumption | exact ax_nix (by simp only [nx_0, nx_1, nx_2, nx_3, nx_4, nx_10, nx_20, nx_21, nx_100, nI_add, pk_mul] <;> rfl) (by omega) | decide) (by omega) ?_
      refine ax_gen (fun N4 hN4 => ?_)
      have hok : lo_ok N4.2 := by rw [hN4]; exact hok
      have i7 := ci_at (j := 15 + 2 * c0) i6 hN4 (iI_nI _) (by omega)
      refine ax_goto (tgt := 399) dX10_clause_257 (by decide) ?_
      exact last N4 _ _ _ _ i7 rfl
    · simp only [if_neg (show ¬ 3 = 0 by decide), if_neg (show ¬ 3 = 1 by decide), if_neg (show ¬ 3 = 2 by decide), if_true] at last
      have hq1 : ¬ q 3 = 6 := fun c => hnf (Or.inr (Or.inr (Or.inl ⟨rfl, c⟩)))
      have e1 : iI (q 3) = nI (q 3).toNat := iI_tn (by omega)
      refine ax_iload_n dX10_clause_93 rfl ?_
      refine ax_tableIn (off := 166) (tgt := 260) dX10_clause_94 (by decide) (by decide) rfl (by decide) ?_
      refine ax_aload_n dX10_clause_260 rfl ?_
      refine ax_getK (f := 15) 97 dX10_clause_261 acl_10 wd_1615 (by decide) rfl (lo_s hok 90 rfl) (lo_r hok 86 rfl) ?_
      refine ax_aload_n dX10_clause_264 rfl ?_
      refine ax_getK (f := 11) 93 dX10_clause_265 acl_10 wd_1611 (by decide) rfl (lo_s hok 90 rfl) (lo_r hok 82 rfl) ?_
      refine ax_iconst (v := 3) dX10_clause_268 (by decide) ?_
      refine ax_ialdN (3) dX10_clause_269 (lo_s hok 93 rfl) (by decide) (by decide) (by decide) ?_
      rw [i3.2.1.1 3 (by decide), e1]
      generalize hc0 : (q 3).toNat = c0 at *
      have hc2 : c0 < 6 := by omega
      refine ax_aload_n dX10_clause_270 rfl ?_
      refine ax_callV (As := _) (d2 := _) (c1 := 0) (n1 := 0) (c_cellHere (M := M3) hB g3 i3.2.1) dX10_clause_271 mX10_cellHere wd_1833 acl_10 (lo_s hok 90 rfl) rfl (by omega) (by omega) (by omega) rfl rfl (fun _ _ h => by cases h.1) ?_
      rintro o9 N ⟨h1, f4, g4⟩; cases h1
      have i4 := ci_gf i3 f4 g4
      have hok := g4.1
      refine ax_iastN (c0) dX10_clause_274 (lo_s hok 97 rfl) (by decide) (by first | with_reducible rfl | assumption | exact ax_nix (by simp only [nx_0, nx_1, nx_2, nx_3, nx_4, nx_10, nx_20, nx_21, nx_100, nI_add, pk_mul] <;> rfl) (by omega) | decide) (by omega) ?_
      refine ax_gen (fun N2 hN2 => ?_)
      have hok : lo_ok N2.2 := by rw [hN2]; exact hok
      have i5 := ci_at (j := 50 + c0) i4 hN2 (iI_nI _) (by omega)
      refine ax_goto (tgt := 399) dX10_clause_275 (by decide) ?_
      exact last N2 _ _ _ _ i5 rfl
    · simp only [if_neg (show ¬ 4 = 0 by decide), if_neg (show ¬ 4 = 1 by decide), if_neg (show ¬ 4 = 2 by decide), if_neg (show ¬ 4 = 3 by decide), if_true] at last
      have hq1 : ¬ q 4 = 4 := fun c => hnf (Or.inr (Or.inr (Or.inr ⟨rfl, c⟩)))
      have e1 : iI (q 4) = nI (q 4).toNat := iI_tn (by omega)
      refine ax_iload_n dX10_clause_93 rfl ?_
      refine ax_tableIn (off := 184) (tgt := 278) dX10_clause_94 (by decide) (by decide) rfl (by decide) ?_
      refine ax_aload_n dX10_clause_278 rfl ?_
      refine ax_getK (f := 19) 101 dX10_clause_279 acl_10 wd_1619 (by decide) rfl (lo_s hok 90 rfl) (lo_r hok 90 rfl) ?_
      refine ax_aload_n dX10_clause_282 rfl ?_
      refine ax_getK (f := 11) 93 dX10_clause_283 acl_10 wd_1611 (by decide) rfl (lo_s hok 90 rfl) (lo_r hok 82 rfl) ?_
      refine ax_iconst (v := 4) dX10_clause_286 (by decide) ?_
      refine ax_ialdN (4) dX10_clause_287 (lo_s hok 93 rfl) (by decide) (by decide) (by decide) ?_
      rw [i3.2.1.1 4 (by decide), e1]
      generalize hc0 : (q 4).toNat = c0 at *
      have hc2 : c0 < 4 := by omega
      refine ax_aaldN2 (102 + (c0)) (c0) dX10_clause_288 (lo_s hok 101 rfl) (by decide) (by first | with_reducible rfl | assumption | exact ax_nix (by simp only [nx_0, nx_1, nx_2, nx_3, nx_4, nx_10, nx_20, nx_21, nx_100, nI_add, pk_mul] <;> rfl) (by omega) | decide) (by omega) (lo_w_m_readWet hok (by omega)) ?_
      refine ax_astore_n dX10_clause_289 (by decide) rfl ?_
      refine ax_aload_n dX10_clause_290 rfl ?_
      refine ax_iconst (v := 0) dX10_clause_291 (by decide) ?_
      refine ax_aload_n dX10_clause_292 rfl ?_
      refine ax_callV (As := _) (d2 := _) (c1 := 0) (n1 := 0) (c_cellHere (M := M3) hB g3 i3.2.1) dX10_clause_293 mX10_cellHere wd_1833 acl_10 (lo_s hok 90 rfl) rfl (by omega) (by omega) (by omega) rfl rfl (fun _ _ h => by cases h.1) ?_
      rintro o9 N ⟨h1, f4, g4⟩; cases h1
      have i4 := ci_gf i3 f4 g4
      have hok := g4.1
      refine ax_iastN (0) dX10_clause_296 (by first | assumption | exact lo_tz hok (by omega) (by omega) | exact lo_z_m_wet hok (by omega) | exact lo_z_m_readWet hok (by omega) | exact lo_z_m_law hok (by omega) | exact lo_z_m_book hok (by omega) | exact lo_z_m_readBook hok (by omega) | exact lo_z_m_before hok (by omega) | exact lo_z_m_kept hok (by omega) | exact lo_z_m_seenAt hok (by omega) | exact lo_z_m_seenIn hok (by omega) | exact lo_z_m_t0 hok (by omega) | exact lo_z_m_t1 hok (by omega) | exact lo_z_m_c0 hok (by omega) | exact lo_z_m_c1 hok (by omega) | exact lo_z_x_kept hok (by omega)) (by decide) (by decide) (by decide) ?_
      refine ax_gen (fun N2 hN2 => ?_)
      have hok : lo_ok N2.2 := by rw [hN2]; exact hok
      have i5 := ci_at (j := 60 + 2 * c0) i4 hN2 (iI_nI _) (by omega)
      refine ax_aload_n dX10_clause_297 rfl ?_
      refine ax_iconst (v := 1) dX10_clause_298 (by decide) ?_
      refine ax_aload_n dX10_clause_299 rfl ?_
      refine ax_aload_n dX10_clause_300 rfl ?_
      refine ax_iconst (v := 0) dX10_clause_301 (by decide) ?_
      refine ax_ialdN (0) dX10_clause_302 (by first | assumption | exact lo_tz hok (by omega) (by omega) | exact lo_z_m_wet hok (by omega) | exact lo_z_m_readWet hok (by omega) | exact lo_z_m_law hok (by omega) | exact lo_z_m_book hok (by omega) | exact lo_z_m_readBook hok (by omega) | exact lo_z_m_before hok (by omega) | exact lo_z_m_kept hok (by omega) | exact lo_z_m_seenAt hok (by omega) | exact lo_z_m_seenIn hok (by omega) | exact lo_z_m_t0 hok (by omega) | exact lo_z_m_t1 hok (by omega) | exact lo_z_m_c0 hok (by omega) | exact lo_z_m_c1 hok (by omega) | exact lo_z_x_kept hok (by omega)) (by decide) (by decide) (by decide) ?_
      refine ax_aload_n dX10_clause_303 rfl ?_
      refine ax_getK (f := 11) 93 dX10_clause_304 acl_10 wd_1611 (by decide) rfl (lo_s hok 90 rfl) (lo_r hok 82 rfl) ?_
      refine ax_iconst (v := 0) dX10_clause_307 (by decide) ?_
      refine ax_ialdN (0) dX10_clause_308 (lo_s hok 93 rfl) (by decide) (by decide) (by decide) ?_
      rw [hN2, ax_pa, ← hN2, i5.2.1.1 0 (by decide), up_n (by omega)]
      refine ax_iconst (v := 1) dX10_clause_309 (by decide) ?_
      refine ax_isub dX10_clause_310 ?_
      rw [show (1 : Int32) = iI 1 from rfl, iI_sub]
      refine ax_callV (As := _) (d2 := _) (c1 := 0) (n1 := 0) (c_gnum (M := N2) hB i5.1 _ _) dX10_clause_311 mX10_number wd_1825 acl_10 (lo_s hok 90 rfl) rfl (by omega) (by omega) (by omega) rfl rfl (fun _ _ h => by cases h.1) ?_
      rintro o9 N3 ⟨h1, f6, g6⟩; cases h1
      have i6 := ci_gf i5 f6 g6
      have hok := g6.1
      refine ax_iastN (1) dX10_clause_314 (by first | assumption | exact lo_tz hok (by omega) (by omega) | exact lo_z_m_wet hok (by omega) | exact lo_z_m_readWet hok (by omega) | exact lo_z_m_law hok (by omega) | exact lo_z_m_book hok (by omega) | exact lo_z_m_readBook hok (by omega) | exact lo_z_m_before hok (by omega) | exact lo_z_m_kept hok (by omega) | exact lo_z_m_seenAt hok (by omega) | exact lo_z_m_seenIn hok (by omega) | exact lo_z_m_t0 hok (by omega) | exact lo_z_m_t1 hok (by omega) | exact lo_z_m_c0 hok (by omega) | exact lo_z_m_c1 hok (by omega) | exact lo_z_x_kept hok (by omega)) (by decide) (by decide) (by decide) ?_
      refine ax_gen (fun N4 hN4 => ?_)
      have hok : lo_ok N4.2 := by rw [hN4]; exact hok
      have i7 := ci_at (j := 61 + 2 * c0) i6 hN4 (iI_nI _) (by omega)
      refine ax_goto (tgt := 399) dX10_clause_315 (by decide) ?_
      exact last N4 _ _ _ _ i7 rfl
    · simp only [if_neg (show ¬ 5 = 0 by decide), if_neg (show ¬ 5 = 1 by decide), if_neg (show ¬ 5 = 2 by decide), if_neg (show ¬ 5 = 3 by decide), if_neg (show ¬ 5 = 4 by decide), if_true] at last
      refine ax_iload_n dX10_clause_93 rfl ?_
      refine ax_tableIn (off := 224) (tgt := 318) dX10_clause_94 (by decide) (by decide) rfl (by decide) ?_
      refine ax_aload_n dX10_clause_318 rfl ?_
      refine ax_iconst (v := 1) dX10_clause_319 (by decide) ?_
      refine ax_bipush (v := 40) dX10_clause_320 (by decide) ?_
      refine ax_callV (As := _) (d2 := _) (c1 := 0) (n1 := 0) (c_gnum (M := M3) hB g3 _ _) dX10_clause_322 mX10_number wd_1825 acl_10 (lo_s hok 90 rfl) rfl (by omega) (by omega) (by omega) rfl rfl (fun _ _ h => by cases h.1) ?_
      rintro o9 N ⟨h1, f4, g4⟩; cases h1
      have i4 := ci_gf i3 f4 g4
      have hok := g4.1
      refine ax_istore_n dX10_clause_325 (by decide) rfl ?_
      refine ax_aload_n dX10_clause_326 rfl ?_
      refine ax_iconst (v := 1) dX10_clause_327 (by decide) ?_
      refine ax_bipush (v := 20) dX10_clause_328 (by decide) ?_
      refine ax_callV (As := _) (d2 := _) (c1 := 0) (n1 := 0) (c_gnum (M := N) hB g4 _ _) dX10_clause_330 mX10_number wd_1825 acl_10 (lo_s hok 90 rfl) rfl (by omega) (by omega) (by omega) rfl rfl (fun _ _ h => by cases h.1) ?_
      rintro o9 N3 ⟨h1, f6, g6⟩; cases h1
      have i6 := ci_gf i4 f6 g6
      have hok := g6.1
      refine ax_istore_n dX10_clause_333 (by decide) rfl ?_
      refine ax_aload_n dX10_clause_334 rfl ?_
      refine ax_getI (f := 5) dX10_clause_335 acl_10 wd_1605 (by decide) rfl (lo_s hok 90 rfl) ?_
      refine ax_if_eq (tgt := 344) dX10_clause_338 (by decide) (fun hc => ?_) (fun hc => ?_)
      · have hnn := (rg_0 g6).mp hc
        refine ax_aload_n dX10_clause_344 rfl ?_
        refine ax_getK (f := 11) 93 dX10_clause_345 acl_10 wd_1611 (by decide) rfl (lo_s hok 90 rfl) (lo_r hok 82 rfl) ?_
        refine ax_iconst (v := 5) dX10_clause_348 (by decide) ?_
        refine ax_iload_n dX10_clause_349 rfl ?_
        refine ax_iastN (5) dX10_clause_350 (lo_s hok 93 rfl) (by decide) (by decide) (by decide) ?_
        refine ax_gen (fun N4 hN4 => ?_)
        have hok : lo_ok N4.2 := by rw [hN4]; exact hok
        have i7 := ci_at (j := 5) i6 hN4 (iI_nI _) (by omega)
        refine ax_aload_n dX10_clause_351 rfl ?_
        refine ax_getK (f := 11) 93 dX10_clause_352 acl_10 wd_1611 (by decide) rfl (lo_s hok 90 rfl) (lo_r hok 82 rfl) ?_
        refine ax_bipush (v := 6) dX10_clause_355 (by decide) ?_
        refine ax_iload_n dX10_clause_357 rfl ?_
        refine ax_iastN (6) dX10_clause_358 (lo_s hok 93 rfl) (by decide) (by decide) (by decide) ?_
        refine ax_gen (fun N5 hN5 => ?_)
        have hok : lo_ok N5.2 := by rw [hN5]; exact hok
        have i8 := ci_at (j := 6) i7 hN5 (iI_nI _) (by omega)
        refine ax_goto (tgt := 399) dX10_clause_359 (by decide) ?_
        exact last N5 _ _ _ _ i8 (by rw [if_pos hnn])
      · refine ax_goto (tgt := 399) dX10_clause_341 (by decide) ?_
        exact last N3 _ _ _ _ i6 (by rw [if_neg (fun c => hc ((rg_0 g6).mpr c))])
    · simp only [if_neg (show ¬ 6 = 0 by decide), if_neg (show ¬ 6 = 1 by decide), if_neg (show ¬ 6 = 2 by decide), if_neg (show ¬ 6 = 3 by decide), if_neg (show ¬ 6 = 4 by decide), if_neg (show ¬ 6 = 5 by decide), if_true] at last
      refine ax_iload_n dX10_clause_93 rfl ?_
      refine ax_tableOut (tgt := 362) dX10_clause_94 (by decide) (by decide) ?_
      refine ax_aload_n dX10_clause_362 rfl ?_
      refine ax_iconst (v := 0) dX10_clause_363 (by decide) ?_
      refine ax_bipush (v := 9) dX10_clause_364 (by decide) ?_
      refine ax_callV (As := _) (d2 := _) (c1 := 0) (n1 := 0) (c_gnum (M := M3) hB g3 _ _) dX10_clause_366 mX10_number wd_1825 acl_10 (lo_s hok 90 rfl) rfl (by omega) (by omega) (by omega) rfl rfl (fun _ _ h => by cases h.1) ?_
      rintro o9 N ⟨h1, f4, g4⟩; cases h1
      have i4 := ci_gf i3 f4 g4
      have hok := g4.1
      refine ax_istore_n dX10_clause_369 (by decide) rfl ?_
      refine ax_aload_n dX10_clause_370 rfl ?_
      refine ax_getI (f := 5) dX10_clause_371 acl_10 wd_1605 (by decide) rfl (lo_s hok 90 rfl) ?_
      refine ax_if_ne (tgt := 399) dX10_clause_374 (by decide) (fun hc => ?_) (fun hc => ?_)
      · exact last N _ _ _ _ i4 (by rw [if_neg (fun c => hc ((rg_0 g4).mpr c))])
      · have hnn := (rg_0 g4).mp (by simpa using hc)
        refine ax_aload_n dX10_clause_377 rfl ?_
        refine ax_getK (f := 17) 99 dX10_clause_378 acl_10 wd_1617 (by decide) rfl (lo_s hok 90 rfl) (lo_r hok 88 rfl) ?_
        refine ax_iload_n dX10_clause_381 rfl ?_
        refine ax_bipush (v := 6) dX10_clause_382 (by decide) ?_
        refine ax_icmp_ne (tgt := 392) dX10_clause_384 (by decide) (fun hc => ?_) (fun hc => ?_)
        · exact absurd rfl hc
        · refine ax_bipush (v := 24) dX10_clause_387 (by decide) ?_
          refine ax_goto (tgt := 394) dX10_clause_389 (by decide) ?_
          refine ax_iload_n dX10_clause_394 rfl ?_
          refine ax_iastN 24 dX10_clause_395 (lo_s hok 99 rfl) (by decide) rfl (by decide) ?_
          refine ax_gen (fun N2 hN2 => ?_)
          have hok : lo_ok N2.2 := by rw [hN2]; exact hok
          refine ax_goto (tgt := 399) dX10_clause_396 (by decide) ?_
          exact last N2 _ _ _ _ (ci_at (j := 34) i4 hN2 (iI_nI _) (by omega)) (by rw [if_pos hnn])
    · simp only [if_neg (show ¬ 7 = 0 by decide), if_neg (show ¬ 7 = 1 by decide), if_neg (show ¬ 7 = 2 by decide), if_neg (show ¬ 7 = 3 by decide), if_neg (show ¬ 7 = 4 by decide), if_neg (show ¬ 7 = 5 by decide), if_neg (show ¬ 7 = 6 by decide)] at last
      refine ax_iload_n dX10_clause_93 rfl ?_
      refine ax_tableOut (tgt := 362) dX10_clause_94 (by decide) (by decide) ?_
      refine ax_aload_n dX10_clause_362 rfl ?_
      refine ax_iconst (v := 0) dX10_clause_363 (by decide) ?_
      refine ax_bipush (v := 9) dX10_clause_364 (by decide) ?_
      refine ax_callV (As := _) (d2 := _) (c1 := 0) (n1 := 0) (c_gnum (M := M3) hB g3 _ _) dX10_clause_366 mX10_number wd_1825 acl_10 (lo_s hok 90 rfl) rfl (by omega) (by omega) (by omega) rfl rfl (fun _ _ h => by cases h.1) ?_
      rintro o9 N ⟨h1, f4, g4⟩; cases h1
      have i4 := ci_gf i3 f4 g4
      have hok := g4.1
      refine ax_istore_n dX10_clause_369 (by decide) rfl ?_
      refine ax_aload_n dX10_clause_370 rfl ?_
      refine ax_getI (f := 5) dX10_clause_371 acl_10 wd_1605 (by decide) rfl (lo_s hok 90 rfl) ?_
      refine ax_if_ne (tgt := 399) dX10_clause_374 (by decide) (fun hc => ?_) (fun hc => ?_)
      · exact last N _ _ _ _ i4 (by rw [if_neg (fun c => hc ((rg_0 g4).mpr c))])
      · have hnn := (rg_0 g4).mp (by simpa using hc)
        refine ax_aload_n dX10_clause_377 rfl ?_
        refine ax_getK (f := 17) 99 dX10_clause_378 acl_10 wd_1617 (by decide) rfl (lo_s hok 90 rfl) (lo_r hok 88 rfl) ?_
        refine ax_iload_n dX10_clause_381 rfl ?_
        refine ax_bipush (v := 6) dX10_clause_382 (by decide) ?_
        refine ax_icmp_ne (tgt := 392) dX10_clause_384 (by decide) (fun hc => ?_) (fun hc => ?_)
        · refine ax_bipush (v := 25) dX10_clause_392 (by decide) ?_
          refine ax_iload_n dX10_clause_394 rfl ?_
          refine ax_iastN 25 dX10_clause_395 (lo_s hok 99 rfl) (by decide) rfl (by decide) ?_
          refine ax_gen (fun N2 hN2 => ?_)
          have hok : lo_ok N2.2 := by rw [hN2]; exact hok
          refine ax_goto (tgt := 399) dX10_clause_396 (by decide) ?_
          exact last N2 _ _ _ _ (ci_at (j := 35) i4 hN2 (iI_nI _) (by omega)) (by rw [if_pos hnn])
        · exact absurd hc (by decide)
  refine ax_iload_n dX10_clause_51 rfl ?_
  refine ax_if_ne (tgt := 71) dX10_clause_52 (by decide) (fun hc => ?_) (fun hc => ?_)
  · exact good (fun c => hc (by rw [c.1]; rfl))
  have hk0 : k = 0 := (nI_eq (b := 0) (by omega) (by omega)).mp hc
  clear hc
  refine ax_aload_n dX10_clause_55 rfl ?_
  refine ax_getI (f := 7) dX10_clause_56 acl_10 wd_1607 (by decide) rfl (lo_s hok 90 rfl) ?_
  rw [e7]
  refine ax_if_le (tgt := 71) dX10_clause_59 (by decide) (fun hc => ?_) (fun hc => ?_)
  · have := (nI_leI (b := 0) (by omega) (by omega)).mp hc
    exact good (by omega)
  have hn0 : 0 < n := Nat.lt_of_not_le (fun c => hc ((nI_leI (b := 0) (by omega) (by omega)).mpr c))
  clear hc good
  simp only [if_pos (show k = 0 ∧ 0 < n from ⟨hk0, hn0⟩)] at done
  refine ax_aload_n dX10_clause_62 rfl ?_
  refine ax_iconst (v := 4) dX10_clause_63 (by decide) ?_
  refine ax_aload_n dX10_clause_64 rfl ?_
  refine ax_getI (f := 4) dX10_clause_65 acl_10 wd_1604 (by decide) rfl (lo_s hok 90 rfl) ?_
  rw [hat]
  refine ax_callV (As := _) (d2 := _) (c1 := 0) (n1 := 0) (c_gwrong (d := 0) (M := M1) g1 (f := 4) (p := a1) (by decide) hsz rfl rfl) dX10_clause_68 mX10_wrong wd_1813 acl_10 (lo_s hok 90 rfl) rfl (by omega) (by omega) (by omega) rfl rfl (fun _ _ h => by cases h.1) ?_
  rintro o9 M2 ⟨h1, f2, g2⟩; cases h1
  exact bad M2 4 _ g2 f2 (by omega) (by omega) (fun x hx n2 => done M2 x n2 hx.symm)
end RDC

