/-! ===== the class between its calls; its meeting as told ===== -/
def qs (n i : Nat) : Prop := fs n ∨ n = 22 ∨ (40 ≤ n ∧ n ≤ 78) ∨ (n = 1 ∧ (i = 7 ∨ i = 10))
def qf (M M2 : ax_M) : Prop := M2.2 = M.2 ∧ ∀ n i, ¬ qs n i → M2.1 n i = M.1 n i
theorem qf_refl (M : ax_M) : qf M M := ⟨rfl, fun _ _ _ => rfl⟩
theorem qf_trans {A B C : ax_M} (h : qf A B) (h2 : qf B C) : qf A C := ⟨h2.1.trans h.1, fun n i q => (h2.2 n i q).trans (h.2 n i q)⟩
theorem qf_uf {U : Nat} {A B : ax_M} (hU : xh_U U) (h : uf U A B) : qf A B := ⟨h.1, fun n i q => h.2 n i (fun z => q (Or.inl z)) (fun z => q (Or.inr (Or.inl z))) (fun z => q (Or.inr (Or.inr (Or.inl (by unfold xh_U at hU; omega)))))⟩
theorem qf_vf {A B : ax_M} (h : vf A B) : qf A B := ⟨h.1, fun n i q => h.2 n i (fun z => q (Or.inl z)) (fun z => q (Or.inr (Or.inl z)))⟩
/-- what the class holds of the told things -/
def xT (M : ax_M) (p : Nat → Nat) (r : Nat → Int) (lw : mt_L) (es : List (Nat × Nat)) : Prop := xk M.2 p ∧ xr M (p 0) r ∧ rd_ok r ∧ xlw M p lw ∧ xbk M (p 6) es
theorem xbk_fr {M M2 : ax_M} {K : Nat} {es : List (Nat × Nat)} (h : xbk M K es) (hf : ∀ n i, K ≤ n ∧ n ≤ K + 2 → M2.1 n i = M.1 n i) : xbk M2 K es :=
  ⟨(hf _ _ (by omega)).trans h.1, h.2.1, fun j q hj => ⟨(h.2.2 j q hj).1, (hf _ _ (by omega)).trans (h.2.2 j q hj).2.1, (hf _ _ (by omega)).trans (h.2.2 j q hj).2.2⟩⟩
theorem xT_qf {M M2 : ax_M} {p : Nat → Nat} {r : Nat → Int} {lw : mt_L} {es : List (Nat × Nat)} (h : xT M p r lw es) (hf : qf M M2) : xT M2 p r lw es := by
  obtain ⟨h1, h2, h3, h4, h5⟩ := h
  have b0 := xk_b0 h1
  have b6 : xh_K (p 6) := xk_b6 h1
  refine ⟨by rw [hf.1]; exact h1, xr_fr h2 (fun n i a b => hf.2 n i ?_), h3, xlw_fr h1.2.1 h4 (fun n i a b c => hf.2 n i ?_), xbk_fr h5 (fun n i a => hf.2 n i ?_)⟩
  · unfold xh_R at b0; unfold qs fs; omega
  · unfold fs at b; unfold qs fs; omega
  · unfold xh_K at b6; unfold qs fs; omega
/-- what the duel's table holds -/
def xD (M : ax_M) (r : Nat → Int) (lw : mt_L) : Prop := M.1 1 10 = -1 ∨ ∃ n, n ≤ 20 ∧ M.1 1 10 = nI n ∧ ∀ i j, i ≤ n → j ≤ n → M.1 73 (i * 21 + j) = nI (mt_cost r lw (mt_d (nI i) (nI j)) 0) ∧ M.1 74 (i * 21 + j) = nI (mt_cost r lw (mt_d (nI i) (nI j)) 1)
theorem xD_fr {M M2 : ax_M} {r : Nat → Int} {lw : mt_L} (h : xD M r lw) (e : M2.1 1 10 = M.1 1 10) (hf : ∀ n i, n = 73 ∨ n = 74 → M2.1 n i = M.1 n i) : xD M2 r lw := by
  rcases h with h | ⟨n, h1, h2, h3⟩
  · exact Or.inl (e.trans h)
  · exact Or.inr ⟨n, h1, e.trans h2, fun i j a b => ⟨(hf _ _ (Or.inl rfl)).trans (h3 i j a b).1, (hf _ _ (Or.inr rfl)).trans (h3 i j a b).2⟩⟩
def xF (M : ax_M) (r : Nat → Int) (lw : mt_L) : Prop := M.1 1 7 = 0 ∨ (M.1 1 7 = 1 ∧ xmt M 40 r lw mt_n)
def xI (M : ax_M) (p : Nat → Nat) (r : Nat → Int) (lw : mt_L) (es : List (Nat × Nat)) : Prop := xT M p r lw es ∧ (xw M 40 ∧ xw M 56) ∧ xF M r lw ∧ xD M r lw
theorem xw_fr {M M2 : ax_M} {U : Nat} (h : xw M U) (hf : ∀ n i, U ≤ n ∧ n ≤ U + 15 → M2.1 n i = M.1 n i) : xw M2 U := ⟨(hf _ _ (by omega)).trans h.1, (hf _ _ (by omega)).trans h.2.1, (hf _ _ (by omega)).trans h.2.2.1, (hf _ _ (by omega)).trans h.2.2.2⟩
theorem xw_xmt {M : ax_M} {U : Nat} {r : Nat → Int} {lw : mt_L} {d : Nat → Int32} (h : xmt M U r lw d) : xw M U := by
  have h0 := (h.2.2.2 0 (by omega)).1
  have h1 := (h.2.2.2 1 (by omega)).1
  exact ⟨h0.1, h0.2.1, h1.1, h1.2.1⟩
theorem xmt_fr {M M2 : ax_M} {U : Nat} {r : Nat → Int} {lw : mt_L} {d : Nat → Int32} (h : xmt M U r lw d) (hf : ∀ n i, U ≤ n ∧ n ≤ U + 15 → M2.1 n i = M.1 n i) : xmt M2 U r lw d := by
  obtain ⟨h1, h2, h3, h4⟩ := h
  refine ⟨(hf _ _ (by omega)).trans h1, (hf _ _ (by omega)).trans h2, fun u hu => (hf _ _ (by omega)).trans (h3 u hu), fun c hc => ?_⟩
  obtain ⟨a, b, g⟩ := h4 c hc
  refine ⟨⟨(hf _ _ (by omega)).trans a.1, (hf _ _ (by omega)).trans a.2.1, (hf _ _ (by omega)).trans a.2.2.1, fun z => ?_⟩, (hf _ _ (by omega)).trans b, fun u hu => ?_⟩
  · have := a.2.2.2 z
    exact ⟨(hf _ _ (by omega)).trans this.1, (hf _ _ (by omega)).trans this.2.1, (hf _ _ (by omega)).trans this.2.2⟩
  · obtain ⟨g1, g2, g3, g4, g5, g6⟩ := g u hu
    exact ⟨(hf _ _ (by omega)).trans g1, (hf _ _ (by omega)).trans g2, (hf _ _ (by omega)).trans g3, (hf _ _ (by omega)).trans g4, (hf _ _ (by omega)).trans g5, (hf _ _ (by omega)).trans g6⟩
/-- the trial's meeting gone through anew: the rest stands -/
theorem xI_uf {M M2 : ax_M} {p : Nat → Nat} {r : Nat → Int} {lw : mt_L} {es : List (Nat × Nat)} {r2 : Nat → Int} {d : Nat → Int32} (h : xI M p r lw es) (hf : uf 56 M M2) (hm : xmt M2 56 r2 lw d) : xI M2 p r lw es := by
  obtain ⟨h1, h2, h3, h4⟩ := h
  have e : ∀ n i, 40 ≤ n ∧ n ≤ 40 + 15 → M2.1 n i = M.1 n i := fun n i q => hf.2 n i (by unfold fs; omega) (by omega) (by omega)
  refine ⟨xT_qf h1 (qf_uf (Or.inr rfl) hf), ⟨xw_fr h2.1 e, xw_xmt hm⟩, ?_, xD_fr h4 (hf.2 1 10 (by unfold fs; omega) (by omega) (by omega)) (fun n i q => hf.2 n i (by unfold fs; omega) (by omega) (by omega))⟩
  have e7 := hf.2 1 7 (by unfold fs; omega) (by omega) (by omega)
  rcases h3 with h3 | ⟨h3, h5⟩
  · exact Or.inl (e7.trans h3)
  · exact Or.inr ⟨e7.trans h3, xmt_fr h5 e⟩
theorem xI_vf {M M2 : ax_M} {p : Nat → Nat} {r : Nat → Int} {lw : mt_L} {es : List (Nat × Nat)} (h : xI M p r lw es) (hf : vf M M2) : xI M2 p r lw es := by
  obtain ⟨h1, h2, h3, h4⟩ := h
  have e : ∀ U, xh_U U → ∀ n i, U ≤ n ∧ n ≤ U + 15 → M2.1 n i = M.1 n i := fun U hU n i q => hf.2 n i (by unfold xh_U at hU; unfold fs; omega) (by unfold xh_U at hU; omega)
  have e7 := hf.2 1 7 (by unfold fs; omega) (by omega)
  refine ⟨xT_qf h1 (qf_vf hf), ⟨xw_fr h2.1 (e 40 (Or.inl rfl)), xw_fr h2.2 (e 56 (Or.inr rfl))⟩, ?_, xD_fr h4 (hf.2 1 10 (by unfold fs; omega) (by omega)) (fun n i q => hf.2 n i (by unfold fs; omega) (by omega))⟩
  rcases h3 with h3 | ⟨h3, h5⟩
  · exact Or.inl (e7.trans h3)
  · exact Or.inr ⟨e7.trans h3, xmt_fr h5 (e 40 (Or.inl rfl))⟩
/-- an answer of the class: the value, or the refusal; what is told stands -/
def xA (p : Nat → Nat) (r : Nat → Int) (lw : mt_L) (es : List (Nat × Nat)) (M : ax_M) (x : ax_V ⊕ (Nat × Nat)) : ax_O → ax_M → Prop := fun o M2 => match x with
  | .inl v => o = .inl (some v) ∧ qf M M2 ∧ xI M2 p r lw es
  | .inr q => o = .inr (cz_n q.2) ∧ xre M M2 q.2
section XX9
variable {l : Launch} {G : ax_G} {M : ax_M} {p : Nat → Nat} {r : Nat → Int} {lw : mt_L} {es : List (Nat × Nat)}
theorem xA_in {v : ax_V} {M2 : ax_M} (h1 : qf M M2) (h2 : xI M2 p r lw es) : xA p r lw es M (.inl v) (.inl (some v)) M2 := ⟨rfl, h1, h2⟩
theorem xA_ex {P : Prop} {k w : Nat} {E : String} {M2 : ax_M} (h : xN M P k (.inr E) M2) {x : ax_V ⊕ (Nat × Nat)} (hx : ¬ P → x = .inr (w, k)) : xA p r lw es M x (.inr E) M2 := by
  obtain ⟨h1, rfl, h3⟩ := xN_ex h
  rw [hx h1]
  exact ⟨rfl, h3⟩
theorem c_freshMeeting (hI : xI M p r lw es) : ax_Met l G kX9_freshMeeting 5 0 0 M [av_r 1] (fun o M2 => o = .inl (some (av_r 40)) ∧ qf M M2 ∧ xI M2 p r lw es ∧ M2.1 1 7 = 1 ∧ xmt M2 40 r lw mt_n ∧ M2.1 1 10 = M.1 1 10) := by
  have hx := hI.1.1
  have hok := hx.1
  refine ax_body (by decide) (Nat.le_of_ble_eq_true rfl) ?_
  refine ax_aload_n dX9_freshMeeting_0 rfl ?_
  refine ax_getI (f := 7) dX9_freshMeeting_1 acl_9 wd_554 (by decide) rfl (lo_s hok 1 rfl) ?_
  refine ax_if_ne (tgt := 25) dX9_freshMeeting_4 (by decide) (fun hc => ?_) (fun hc => ?_)
  · refine ax_aload_n dX9_freshMeeting_25 rfl ?_
    refine ax_getK (f := 6) 40 dX9_freshMeeting_26 acl_9 wd_553 (by decide) rfl (lo_s hok 1 rfl) (lo_r hok 2 rfl) ?_
    refine ax_aret dX9_freshMeeting_29 rfl (Or.inl ⟨_, rfl⟩) ?_
    rcases hI.2.2.1 with h | h
    · exact absurd h hc
    · exact ⟨rfl, qf_refl M, hI, h.1, h.2, rfl⟩
  · refine ax_aload_n dX9_freshMeeting_7 rfl ?_
    refine ax_getK (f := 6) 40 dX9_freshMeeting_8 acl_9 wd_553 (by decide) rfl (lo_s hok 1 rfl) (lo_r hok 2 rfl) ?_
    refine ax_aload_n dX9_freshMeeting_11 rfl ?_
    refine ax_getK (f := 1) 4 dX9_freshMeeting_12 acl_9 wd_548 (by decide) rfl (lo_s hok 1 rfl) (lo_r hok 1 rfl) ?_
    refine ax_iconst (v := (-1)) dX9_freshMeeting_15 (by decide) ?_
    refine ax_iconst (v := (-1)) dX9_freshMeeting_16 (by decide) ?_
    refine ax_callVN (As := _) (d2 := _) (c1 := 0) (n1 := 0) (c_run (M := M) hx (Or.inl rfl) hI.1.2.1 hI.1.2.2.1 hI.1.2.2.2.1 hI.2.1.1 (-1) (-1)) dX9_freshMeeting_17 mX4_run wd_613 acl_4 (lo_s hok 40 rfl) rfl (by omega) (by omega) (by omega) rfl rfl (fun _ _ h => by cases h.1) ?_
    rintro _ M1 ⟨h1, h2, h3⟩
    cases h1
    have hok : lo_ok M1.2 := by rw [h2.1]; exact hok
    refine ax_aload_n dX9_freshMeeting_20 rfl ?_
    refine ax_iconst (v := 1) dX9_freshMeeting_21 (by decide) ?_
    refine ax_putI (f := 7) dX9_freshMeeting_22 acl_9 wd_554 (by decide) rfl rfl (ax_nfZ rfl (by first | decide | (split <;> decide))) (lo_s hok 1 rfl) ?_
    refine ax_aload_n dX9_freshMeeting_25 rfl ?_
    refine ax_getK (f := 6) 40 dX9_freshMeeting_26 acl_9 wd_553 (by decide) rfl (lo_s hok 1 rfl) (lo_r hok 2 rfl) ?_
    refine ax_aret dX9_freshMeeting_29 rfl (Or.inl ⟨_, rfl⟩) ?_
    have f2 : ∀ n i, ¬ (n = 1 ∧ i = 7) → (ax_pI M1 1 7 1).1 n i = M1.1 n i := fun n i q => if_neg q
    have f3 : qf M (ax_pI M1 1 7 1) := qf_trans (qf_uf (Or.inl rfl) h2) ⟨rfl, fun n i q => f2 n i (fun z => q (Or.inr (Or.inr (Or.inr ⟨z.1, Or.inl z.2⟩))))⟩
    have m3 : xmt (ax_pI M1 1 7 1) 40 r lw mt_n := xmt_fr h3 (fun n i q => f2 n i (by omega))
    have e10 : (ax_pI M1 1 7 1).1 1 10 = M.1 1 10 := (f2 1 10 (by omega)).trans (h2.2 1 10 (by unfold fs; omega) (by omega) (by omega))
    refine ⟨rfl, f3, ⟨xT_qf hI.1 f3, ⟨xw_xmt m3, xw_fr hI.2.1.2 (fun n i q => (f2 n i (by omega)).trans (h2.2 n i (by unfold fs; omega) (by omega) (by omega)))⟩, Or.inr ⟨rfl, m3⟩, xD_fr hI.2.2.2 e10 (fun n i q => (f2 n i (by omega)).trans (h2.2 n i (by unfold fs; omega) (by omega) (by omega)))⟩, rfl, m3, e10⟩
end XX9

