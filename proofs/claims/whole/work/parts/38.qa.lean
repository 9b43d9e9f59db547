/-! ===== asks: how the reference answers and refuses ===== -/
/-- places that no answer shows -/
def rs (n i : Nat) : Prop := (n = 90 ∧ (i = 35 ∨ (46 ≤ i ∧ i ≤ 52))) ∨ n = 117 ∨ n = 118 ∨ (170 ≤ n ∧ n ≤ 431)
def sf (M M2 : ax_M) : Prop := M2.2 = M.2 ∧ ∀ n i, ¬ rs n i → M2.1 n i = M.1 n i
def rq (M M2 : ax_M) (o : ax_O) (x : ax_V ⊕ (Nat × Nat)) : Prop := M2.2 = M.2 ∧ (∀ n i, ¬ rs n i → ¬ (n = 90 ∧ i = 0) → n ≠ 92 → M2.1 n i = M.1 n i) ∧ match x with
  | .inl v => o = .inl (some v) ∧ M2.1 90 0 = 0 ∧ ∀ i, M2.1 92 i = M.1 92 i
  | .inr q => (∃ u, o = .inl (some (av_i u))) ∧ M2.1 90 0 = nI q.1 ∧ ∀ i, M2.1 92 i = if i = q.2 then M.1 92 i + 1 else M.1 92 i
def rql (M M2 : ax_M) (o : ax_O) (x : ax_V ⊕ (Nat × Nat)) : Prop := M2.2 = M.2 ∧ (∀ n i, ¬ rs n i → ¬ (n = 90 ∧ i = 0) → n ≠ 92 → M2.1 n i = M.1 n i) ∧ match x with
  | .inl v => o = .inl (some v) ∧ M2.1 90 0 = 0 ∧ ∀ i, M2.1 92 i = M.1 92 i
  | .inr q => (∃ u, o = .inl (some (av_l u))) ∧ M2.1 90 0 = nI q.1 ∧ ∀ i, M2.1 92 i = if i = q.2 then M.1 92 i + 1 else M.1 92 i
theorem sf_tr {M M1 M2 : ax_M} (h1 : sf M M1) (h2 : sf M1 M2) : sf M M2 := ⟨h2.1.trans h1.1, fun n i q => (h2.2 n i q).trans (h1.2 n i q)⟩
theorem sf_0 (M : ax_M) : sf M M := ⟨rfl, fun _ _ _ => rfl⟩
theorem sf_mt {M M2 : ax_M} (h : mt_fr M M2) : sf M M2 := ⟨h.1, fun n i q => h.2 n i (fun z => q (Or.inl ⟨z.1, by omega⟩)) (fun z => q (by unfold rs; omega)) (fun z => q (by unfold rs; omega)) (fun z => q (by unfold rs; omega))⟩
theorem sf_rr {M M2 : ax_M} {r : Nat → Int} (h : sf M M2) (hr : rr M r) : rr M2 r := rr_fr hr (fun n i q => h.2 n i (by unfold rs; omega))
theorem sf_law {M M2 : ax_M} {w : Nat} {lw : Option (List (Int32 × Int32))} (h : sf M M2) (hw : w < 3) (hl : ml_law M w lw) : ml_law M2 w lw := ml_law_fr hl (fun n i q => h.2 n i (by unfold rs; omega))
theorem sf_law0 {M : ax_M} {w : Nat} {lw : Option (List (Int32 × Int32))} (hw : w < 3) (hl : ml_law M w lw) : ml_law (ax_pI M 90 0 0) w lw := ml_law_fr hl (fun n i q => ax_pn (by omega))
theorem sf_ev {M M2 : ax_M} (h : ev_fr M M2) : sf M M2 := ⟨h.1, fun n i q => h.2 n i (fun z => q (by unfold rs; omega))⟩
theorem sf_p {M : ax_M} {n i : Nat} {x : Int32} (h : rs n i) : sf M (ax_pI M n i x) := ⟨rfl, fun m j q => ax_pn (fun z => q (by rw [z.1, z.2]; exact h))⟩
theorem rq_sf {M M0 M2 : ax_M} {v : ax_V} {x : ax_V ⊕ (Nat × Nat)} (hM0 : M0 = ax_pI M 90 0 0) (h : sf M0 M2) (e : x = .inl v) : rq M M2 (.inl (some v)) x := by
  subst hM0 e
  refine ⟨h.1, fun n i a b _ => (h.2 n i a).trans (ax_pn b), rfl, (h.2 90 0 (by unfold rs; omega)).trans (ax_pa _ _ _ _), fun i => (h.2 92 i (by unfold rs; omega)).trans (ax_pn (by omega))⟩
theorem rq_bad {M M0 : ax_M} {u : Int32} {x : Int32} {w k : Nat} {y : ax_V ⊕ (Nat × Nat)} (hM0 : M0 = ax_pI M 90 0 0) (hx : x = nI w) (e : y = .inr (w, k)) : rq M (mk_bad M0 x k) (.inl (some (av_i u))) y := by
  subst hM0 e hx
  refine ⟨rfl, fun n i _ b c => ?_, ⟨u, rfl⟩, ?_, fun i => ?_⟩
  · show (ax_pI (ax_pI (ax_pI M 90 0 0) 90 0 _) 92 k _).1 n i = _
    rw [ax_pn (by omega), ax_pn b, ax_pn b]
  · show (ax_pI (ax_pI (ax_pI M 90 0 0) 90 0 _) 92 k _).1 90 0 = _
    rw [ax_pn (by omega), ax_pa]
  · show (ax_pI (ax_pI (ax_pI M 90 0 0) 90 0 _) 92 k _).1 92 i = _
    by_cases q : i = k
    · subst q; rw [ax_pa, if_pos rfl, ax_pn (by omega)]
    · rw [ax_pn (by omega), ax_pn (by omega), ax_pn (by omega), if_neg q]
theorem rql_sf {M M0 M2 : ax_M} {v : ax_V} {x : ax_V ⊕ (Nat × Nat)} (hM0 : M0 = ax_pI M 90 0 0) (h : sf M0 M2) (e : x = .inl v) : rql M M2 (.inl (some v)) x := by
  subst hM0 e
  refine ⟨h.1, fun n i a b _ => (h.2 n i a).trans (ax_pn b), rfl, (h.2 90 0 (by unfold rs; omega)).trans (ax_pa _ _ _ _), fun i => (h.2 92 i (by unfold rs; omega)).trans (ax_pn (by omega))⟩
theorem rql_bad {M M0 : ax_M} {u : Int64} {x : Int32} {w k : Nat} {y : ax_V ⊕ (Nat × Nat)} (hM0 : M0 = ax_pI M 90 0 0) (hx : x = nI w) (e : y = .inr (w, k)) : rql M (mk_bad M0 x k) (.inl (some (av_l u))) y := by
  subst hM0 e hx
  refine ⟨rfl, fun n i _ b c => ?_, ⟨u, rfl⟩, ?_, fun i => ?_⟩
  · show (ax_pI (ax_pI (ax_pI M 90 0 0) 90 0 _) 92 k _).1 n i = _
    rw [ax_pn (by omega), ax_pn b, ax_pn b]
  · show (ax_pI (ax_pI (ax_pI M 90 0 0) 90 0 _) 92 k _).1 90 0 = _
    rw [ax_pn (by omega), ax_pa]
  · show (ax_pI (ax_pI (ax_pI M 90 0 0) 90 0 _) 92 k _).1 92 i = _
    by_cases q : i = k
    · subst q; rw [ax_pa, if_pos rfl, ax_pn (by omega)]
    · rw [ax_pn (by omega), ax_pn (by omega), ax_pn (by omega), if_neg q]
theorem in_nat {x K : Int32} {n : Nat} (h : 0 ≤ x ∧ x ≤ K) (hK : K = nI n) (hn : n < 2 ^ 31) : ∃ j, j ≤ n ∧ x = nI j := nI_of2 (M := K) (n := n) (by rw [hK, nI_toInt hn]) (fun z => absurd h.1 (Int32.not_le.mpr z)) h.2
theorem dn {p : Prop} [Decidable p] (h : ¬ ¬ p) : p := Decidable.byContradiction h
/-- one of the first n -/
theorem in_car {x : Int32} {z : Int} (h : 0 ≤ x ∧ x ≤ iI z - 1) (hz : 0 ≤ z) (hz2 : z ≤ 100) : ∃ j : Nat, (j : Int) < z ∧ x = nI j := by
  rw [show (1 : Int32) = iI 1 from rfl, iI_sub, iv_le, iv_le, iI_t (by unfold iI_b; omega), show (0 : Int32).toInt = 0 from rfl] at h
  refine ⟨x.toInt.toNat, by omega, ?_⟩
  rw [iI_nI, Int.toNat_of_nonneg h.1, iI_of]
section QA
variable {l : Launch} {G : ax_G} {M : ax_M} {r : Nat → Int}
theorem c_badP {d : Nat} {p : Prop} [Decidable p] (hok : lo_ok M.2) (h0 : M.1 90 0 = 0) {w k : Nat} (hw : 0 < w) (hw2 : w < 100) (hk : k < 3) {x y : Int32} (hx : x = nI w) (hy : y = nI k) : ax_Met l G kX10_bad d 0 0 M [av_r 90, av_i (if p then 1 else 0), av_i x, av_i y] (fun o M2 => (p ∧ o = .inl (some (av_i 1)) ∧ M2 = mk_bad M x k) ∨ (¬ p ∧ o = .inl (some (av_i 0)) ∧ M2 = M)) := by
  by_cases q : p
  · rw [if_pos q]
    exact ax_mono (c_X10_bad1 hok h0 (by decide) (by rw [hx]; exact nI_ne0 hw (by omega)) hk hy) (fun o M2 h => Or.inl ⟨q, h.1, h.2⟩)
  · rw [if_neg q]
    exact ax_mono (c_X10_bad0 hok h0 rfl hk hy) (fun o M2 h => Or.inr ⟨q, h.1, h.2⟩)
theorem c_rIsCar (hok : lo_ok M.2) (hr : rr M r) (x : Int32) : ax_Met l G kX10_isCar 1 0 0 M [av_r 90, av_i x] (ax_p (av_i (if 0 ≤ x ∧ x ≤ iI (r 1) - 1 then 1 else 0)) M) := by
  refine ax_body (by decide) (Nat.le_of_ble_eq_true rfl) ?_
  refine ax_iload_n dX10_isCar_0 rfl ?_
  refine ax_iconst (v := 0) dX10_isCar_1 (by decide) ?_
  refine ax_aload_n dX10_isCar_2 rfl ?_
  refine ax_getK (f := 12) 94 dX10_isCar_3 acl_10 wd_1612 (by decide) rfl (lo_s hok 90 rfl) (lo_r hok 83 rfl) ?_
  refine ax_iconst (v := 1) dX10_isCar_6 (by decide) ?_
  refine ax_ialdN (1) dX10_isCar_7 (lo_s hok 94 rfl) (by decide) (by decide) (by decide) ?_
  rw [hr.1 1 (by decide)]
  refine ax_iconst (v := 1) dX10_isCar_8 (by decide) ?_
  refine ax_isub dX10_isCar_9 ?_
  refine ax_callS (As := _) (c1 := 0) (n1 := 0) (c_X10_in (d := 0) (M := M) _ _ _) dX10_isCar_10 mX10_in wd_1772 rfl (by omega) (by omega) (by omega) rfl rfl (fun _ _ h => by cases h.1) ?_
  rintro r M9 ⟨h1, h9⟩; cases h1; rw [h9]; clear h9 M9
  refine ax_zret dX10_isCar_13 rfl ?_ ?_
  · split
    · exact Or.inr rfl
    · exact Or.inl rfl
  · exact ⟨rfl, rfl⟩
theorem c_rIsCoat (hok : lo_ok M.2) (hr : rr M r) (x : Int32) : ax_Met l G kX10_isCoat 1 0 0 M [av_r 90, av_i x] (ax_p (av_i (if 0 ≤ x ∧ x ≤ iI (r 2) - 1 then 1 else 0)) M) := by
  refine ax_body (by decide) (Nat.le_of_ble_eq_true rfl) ?_
  refine ax_iload_n dX10_isCoat_0 rfl ?_
  refine ax_iconst (v := 0) dX10_isCoat_1 (by decide) ?_
  refine ax_aload_n dX10_isCoat_2 rfl ?_
  refine ax_getK (f := 12) 94 dX10_isCoat_3 acl_10 wd_1612 (by decide) rfl (lo_s hok 90 rfl) (lo_r hok 83 rfl) ?_
  refine ax_iconst (v := 2) dX10_isCoat_6 (by decide) ?_
  refine ax_ialdN (2) dX10_isCoat_7 (lo_s hok 94 rfl) (by decide) (by decide) (by decide) ?_
  rw [hr.1 2 (by decide)]
  refine ax_iconst (v := 1) dX10_isCoat_8 (by decide) ?_
  refine ax_isub dX10_isCoat_9 ?_
  refine ax_callS (As := _) (c1 := 0) (n1 := 0) (c_X10_in (d := 0) (M := M) _ _ _) dX10_isCoat_10 mX10_in wd_1772 rfl (by omega) (by omega) (by omega) rfl rfl (fun _ _ h => by cases h.1) ?_
  rintro r M9 ⟨h1, h9⟩; cases h1; rw [h9]; clear h9 M9
  refine ax_zret dX10_isCoat_13 rfl ?_ ?_
  · split
    · exact Or.inr rfl
    · exact Or.inl rfl
  · exact ⟨rfl, rfl⟩
theorem c_notTwo (hok : lo_ok M.2) (hr : rr M r) (ho : rd_ok r) (h0 : M.1 90 0 = 0) {w : Nat} (hw : 0 < w ∧ w < 100) {x : Int32} (hx : x = nI w) : ax_Met l G kX10_notTwo 1 0 0 M [av_r 90, av_i x] (fun o M2 => (r 1 < 2 ∧ o = .inl (some (av_i 1)) ∧ M2 = mk_bad M x 2) ∨ (¬ r 1 < 2 ∧ o = .inl (some (av_i 0)) ∧ M2 = M)) := by
  have h9 := ho.1
  refine ax_body (by decide) (Nat.le_of_ble_eq_true rfl) ?_
  refine ax_aload_n dX10_notTwo_0 rfl ?_
  refine ax_aload_n dX10_notTwo_1 rfl ?_
  refine ax_getK (f := 12) 94 dX10_notTwo_2 acl_10 wd_1612 (by decide) rfl (lo_s hok 90 rfl) (lo_r hok 83 rfl) ?_
  refine ax_iconst (v := 1) dX10_notTwo_5 (by decide) ?_
  refine ax_ialdN (1) dX10_notTwo_6 (lo_s hok 94 rfl) (by decide) (by decide) (by decide) ?_
  rw [hr.1 1 (by decide)]
  refine ax_iconst (v := 2) dX10_notTwo_7 (by decide) ?_
  refine ax_join2 (r 1 < 2) 16 (1) (0) ?_ (fun ja jb => ?_)
  rotate_left
  · refine ax_icmp_ge (tgt := 15) dX10_notTwo_8 (by decide) (fun h8 => ?_) (fun h8 => ?_)
    · refine ax_iconst (v := 0) dX10_notTwo_15 (by decide) ?_
      first | exact ja (by have : ¬ 2 ≤ r 1 := (fun z => h8 ((iI_le (a := 2) (by unfold iI_b; omega) (by unfold iI_b; omega)).mpr z)); omega) | exact jb (by have := (iI_le (a := 2) (by unfold iI_b; omega) (by unfold iI_b; omega)).mp h8; omega)
    · refine ax_iconst (v := 1) dX10_notTwo_11 (by decide) ?_
      refine ax_goto (tgt := 16) dX10_notTwo_12 (by decide) ?_
      first | exact ja (by have : ¬ 2 ≤ r 1 := (fun z => h8 ((iI_le (a := 2) (by unfold iI_b; omega) (by unfold iI_b; omega)).mpr z)); omega) | exact jb (by have := (iI_le (a := 2) (by unfold iI_b; omega) (by unfold iI_b; omega)).mp h8; omega)
  refine ax_iload_n dX10_notTwo_16 rfl ?_
  refine ax_iconst (v := 2) dX10_notTwo_17 (by decide) ?_
  refine ax_callV (As := _) (d2 := _) (c1 := 0) (n1 := 0) (c_badP (d := 0) (M := M) (p := r 1 < 2) hok h0 (w := w) (k := 2) hw.1 hw.2 (by decide) hx rfl) dX10_notTwo_18 mX10_bad wd_1775 acl_10 (lo_s hok 90 rfl) rfl (by omega) (by omega) (by omega) rfl rfl (fun _ _ h => by rcases h with ⟨_, h, _⟩ | ⟨_, h, _⟩ <;> cases h) ?_
  rintro o9 M9 (⟨g1, h1, h2⟩ | ⟨g1, h1, h2⟩) <;> cases h1 <;> subst h2
  · refine ax_zret dX10_notTwo_21 rfl ?_ ?_
    · exact Or.inr rfl
    · exact Or.inl ⟨g1, rfl, rfl⟩
  · refine ax_zret dX10_notTwo_21 rfl ?_ ?_
    · exact Or.inl rfl
    · exact Or.inr ⟨g1, rfl, rfl⟩
end QA

