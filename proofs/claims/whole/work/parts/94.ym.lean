/-! ===== the duel's table and ask: the class ===== -/
section X94
variable {l : Launch} {G : ax_G} {M : ax_M} {p : Nat → Nat} {r : Nat → Int} {lw : mt_L} {es : List (Nat × Nat)}
theorem x_fillDuel (hI : xI M p r lw es) (h2r : 1 < r 1) (m1 : xmt M 40 r lw mt_n) {n : Nat} (hn : n ≤ 20) {x : Int32} (hxn : x = nI n) : ax_Met l G kX9_fillDuel 8 0 0 M [av_r 1, av_r 40, av_i x] (fun o M2 => o = .inl none ∧ qf M M2 ∧ xI M2 p r lw es ∧ xgm M2 72 (n + 1) (fun i j => nI (du_v r lw 0 i j)) (fun i j => nI (du_v r lw 1 i j))) := by
  subst hxn
  have hx := hI.1.1
  have hok := hx.1
  have ho := hI.1.2.2.1
  have hV : xh_V 72 := Or.inl rfl
  have hb0 := xk_b0 hx
  refine ax_body (by decide) (Nat.le_of_ble_eq_true rfl) ?_
  refine ax_aload_n dX9_fillDuel_0 rfl ?_
  refine ax_getI (f := 10) dX9_fillDuel_1 acl_9 wd_557 (by decide) rfl (lo_s hok 1 rfl) ?_
  refine ax_iload_n dX9_fillDuel_4 rfl ?_
  refine ax_icmp_lt (tgt := 9) dX9_fillDuel_5 (by decide) (fun hc => ?_) (fun hc => ?_)
  rotate_left
  · refine ax_vret dX9_fillDuel_8 rfl ?_
    refine ⟨rfl, qf_refl M, hI, ?_⟩
    rcases hI.2.2.2 with h | ⟨n2, h1, h2, h3⟩
    · exact absurd ((show ∀ n, n < 21 → (-1 : Int32) < nI n by decide) n (by omega)) (by rw [← h]; exact hc)
    · have h4 : n ≤ n2 := by
        by_cases z : n ≤ n2
        · exact z
        · exact absurd (by rw [h2]; exact (nI_ltI (by omega) (by omega)).mpr (by omega)) hc
      exact fun i j hi hj => h3 i j (by omega) (by omega)
  clear hc
  obtain ⟨J, hJ⟩ : ∃ J : ax_M → Prop, ∀ N, J N ↔ (N.2 = M.2 ∧ (∀ m i, ¬ fs m → m ≠ 22 → ¬ (56 ≤ m ∧ m ≤ 56 + 15) → ¬ (m = 73 ∨ m = 74) → N.1 m i = M.1 m i) ∧ xw N 56) := ⟨_, fun _ => Iff.rfl⟩
  have JT : ∀ N, J N → xT N p r lw es ∧ xmt N 40 r lw mt_n := fun N h => by
    obtain ⟨j1, j2, -⟩ := (hJ N).mp h
    exact ⟨xT_qf hI.1 ⟨j1, fun m i z => j2 m i (fun q => z (Or.inl q)) (fun q => z (Or.inr (Or.inl q))) (fun q => z (Or.inr (Or.inr (Or.inl (by omega))))) (fun q => z (Or.inr (Or.inr (Or.inl (by omega)))))⟩, xmt_fr m1 (fun m i z => j2 m i (by unfold fs; omega) (by omega) (by omega) (by omega))⟩
  refine ax_iconst (v := 0) dX9_fillDuel_9 (by decide) ?_
  refine ax_istore_n dX9_fillDuel_10 (by decide) rfl ?_
  refine ax_for (n + 1) (fun i N L => (∃ y4, L = [some (av_r 1), some (av_r 40), some (av_i (nI n)), some (av_i (nI i)), y4]) ∧ J N ∧ ∀ a b, a < i → b ≤ n → N.1 73 (a * 21 + b) = nI (du_v r lw 0 a b) ∧ N.1 74 (a * 21 + b) = nI (du_v r lw 1 a b)) 11 ?_ ?_ (i := 0) (by omega) ⟨⟨_, rfl⟩, (hJ M).mpr ⟨rfl, fun _ _ _ _ _ _ => rfl, hI.2.1.2⟩, fun a b z => by omega⟩
  · rintro i N0 L hi ⟨⟨y4, rfl⟩, jN0, fl0⟩ next
    refine ax_iload_n dX9_fillDuel_11 rfl ?_
    refine ax_iload_n dX9_fillDuel_12 rfl ?_
    refine ax_icmp_gt (tgt := 153) dX9_fillDuel_13 (by decide) (fun hc => absurd ((nI_ltI (by omega) (by omega)).mp hc) (by omega)) (fun hc => ?_)
    refine ax_iconst (v := 0) dX9_fillDuel_16 (by decide) ?_
    refine ax_istore dX9_fillDuel_17 (by decide) rfl ?_
    refine ax_for (n + 1) (fun j N L => L = [some (av_r 1), some (av_r 40), some (av_i (nI n)), some (av_i (nI i)), some (av_i (nI j))] ∧ J N ∧ ∀ a b, (a < i ∧ b ≤ n ∨ a = i ∧ b < j) → N.1 73 (a * 21 + b) = nI (du_v r lw 0 a b) ∧ N.1 74 (a * 21 + b) = nI (du_v r lw 1 a b)) 19 ?_ ?_ (i := 0) (by omega) ⟨rfl, jN0, fun a b z => fl0 a b (by omega) (by omega)⟩
    · clear jN0 fl0
      rintro j N L hj ⟨rfl, jN, fl⟩ next2
      obtain ⟨j1, j2, j3⟩ := (hJ N).mp jN
      obtain ⟨tN, mN⟩ := JT N jN
      have hx := tN.1
      have hok := hx.1
      have fin : ∀ (A B : ax_M) (u0 u1 : Int32), J A → (∀ a b, (a < i ∧ b ≤ n ∨ a = i ∧ b < j) → A.1 73 (a * 21 + b) = nI (du_v r lw 0 a b) ∧ A.1 74 (a * 21 + b) = nI (du_v r lw 1 a b)) → u0 = nI (du_v r lw 0 i j) → u1 = nI (du_v r lw 1 i j) → B = ax_pI (ax_pI A (72 + 1) (i * 21 + j) u0) (72 + 2) (i * 21 + j) u1 → ax_W l G kX9_fillDuel (ax_FQ G (fun o M2 => o = .inl none ∧ qf M M2 ∧ xI M2 p r lw es ∧ xgm M2 72 (n + 1) (fun i j => nI (du_v r lw 0 i j)) (fun i j => nI (du_v r lw 1 i j)))) 8 0 0 B 141 [some (av_r 1), some (av_r 40), some (av_i (nI n)), some (av_i (nI i)), some (av_i (nI j))] [] := by
        intro A B u0 u1 jA fA e0 e1 hB
        obtain ⟨q1, q2, q3⟩ := (hJ A).mp jA
        refine ax_iinc (v := 1) dX9_fillDuel_141 rfl (by decide) (by decide) rfl ?_
        refine ax_goto (tgt := 19) dX9_fillDuel_144 (by decide) ?_
        refine next2 _ _ ⟨by rw [nI_1]; rfl, (hJ B).mpr ⟨by rw [hB]; exact q1, fun m k z1 z2 z3 z4 => by rw [hB, ax_pn (by omega), ax_pn (by omega)]; exact q2 m k z1 z2 z3 z4, xw_fr q3 (fun m k z => by rw [hB, ax_pn (by omega), ax_pn (by omega)])⟩, fun a b z => ?_⟩
        by_cases e : a = i ∧ b = j
        · rw [hB, e.1, e.2, ax_pn (by omega), ax_pa, ax_pa]; exact ⟨e0, e1⟩
        · have hne : a * 21 + b ≠ i * 21 + j := by intro z2; omega
          rw [hB, ax_pn (by omega), ax_pn (by omega), ax_pn (by omega), ax_pn (by omega)]; exact fA a b (by omega)
      have run : ax_W l G kX9_fillDuel (ax_FQ G (fun o M2 => o = .inl none ∧ qf M M2 ∧ xI M2 p r lw es ∧ xgm M2 72 (n + 1) (fun i j => nI (du_v r lw 0 i j)) (fun i j => nI (du_v r lw 1 i j)))) 8 0 0 N 87 [some (av_r 1), some (av_r 40), some (av_i (nI n)), some (av_i (nI i)), some (av_i (nI j))] [] := by
        refine ax_aload_n dX9_fillDuel_87 rfl ?_
        refine ax_getK (f := 8) 56 dX9_fillDuel_88 acl_9 wd_555 (by decide) rfl (lo_s hok 1 rfl) (lo_r hok 3 rfl) ?_
        refine ax_aload_n dX9_fillDuel_91 rfl ?_
        refine ax_getK (f := 1) 4 dX9_fillDuel_92 acl_9 wd_548 (by decide) rfl (lo_s hok 1 rfl) (lo_r hok 1 rfl) ?_
        refine ax_iload_n dX9_fillDuel_95 rfl ?_
        refine ax_iload dX9_fillDuel_96 rfl ?_
        refine ax_callVN (As := _) (d2 := _) (c1 := 0) (n1 := 0) (c_run (M := N) hx (Or.inr rfl) tN.2.1 ho tN.2.2.2.1 j3 (nI i) (nI j)) dX9_fillDuel_98 mX4_run wd_613 acl_4 (lo_s hok 56 rfl) rfl (by omega) (by omega) (by omega) rfl rfl (fun _ _ h => by cases h.1) ?_
        rintro _ A ⟨h1, uA, mA⟩
        cases h1
        have jA : J A := (hJ A).mpr ⟨uA.1.trans j1, fun m k z1 z2 z3 z4 => (uA.2 m k z1 z2 z3).trans (j2 m k z1 z2 z3 z4), xw_xmt mA⟩
        obtain ⟨tA, -⟩ := JT A jA
        have hx := tA.1
        have hok := hx.1
        refine ax_aload_n dX9_fillDuel_101 rfl ?_
        refine ax_getK (f := 9) 72 dX9_fillDuel_102 acl_9 wd_556 (by decide) rfl (lo_s hok 1 rfl) (lo_r hok 4 rfl) ?_
        refine ax_iload_n dX9_fillDuel_105 rfl ?_
        refine ax_iload dX9_fillDuel_106 rfl ?_
        refine ax_aload_n dX9_fillDuel_108 rfl ?_
        refine ax_getK (f := 8) 56 dX9_fillDuel_109 acl_9 wd_555 (by decide) rfl (lo_s hok 1 rfl) (lo_r hok 3 rfl) ?_
        refine ax_aload_n dX9_fillDuel_112 rfl ?_
        refine ax_getK (f := 1) 4 dX9_fillDuel_113 acl_9 wd_548 (by decide) rfl (lo_s hok 1 rfl) (lo_r hok 1 rfl) ?_
        refine ax_getKN (f := 0) (p 0) dX9_fillDuel_116 acl_7 wd_367 (by decide) rfl (lo_s hok 4 rfl) (xk_r0 hx) ?_
        refine ax_iconst (v := 0) dX9_fillDuel_119 (by decide) ?_
        refine ax_callVN (As := _) (d2 := _) (c1 := 0) (n1 := 0) (c_xcostOf (M := A) hok (Or.inr rfl) hb0 tA.2.1 ho mA (c := 0) (by omega) (by omega) rfl) dX9_fillDuel_120 mX4_costOf wd_1274 acl_4 (lo_s hok 56 rfl) rfl (by omega) (by omega) (by omega) rfl rfl (fun _ _ h => by cases h.1) ?_
        rintro r M9 ⟨h1, h9⟩; cases h1; rw [h9]; clear h9 M9
        refine ax_aload_n dX9_fillDuel_123 rfl ?_
        refine ax_getK (f := 8) 56 dX9_fillDuel_124 acl_9 wd_555 (by decide) rfl (lo_s hok 1 rfl) (lo_r hok 3 rfl) ?_
        refine ax_aload_n dX9_fillDuel_127 rfl ?_
        refine ax_getK (f := 1) 4 dX9_fillDuel_128 acl_9 wd_548 (by decide) rfl (lo_s hok 1 rfl) (lo_r hok 1 rfl) ?_
        refine ax_getKN (f := 0) (p 0) dX9_fillDuel_131 acl_7 wd_367 (by decide) rfl (lo_s hok 4 rfl) (xk_r0 hx) ?_
        refine ax_iconst (v := 1) dX9_fillDuel_134 (by decide) ?_
        refine ax_callVN (As := _) (d2 := _) (c1 := 0) (n1 := 0) (c_xcostOf (M := A) hok (Or.inr rfl) hb0 tA.2.1 ho mA (c := 1) (by omega) (by omega) rfl) dX9_fillDuel_135 mX4_costOf wd_1274 acl_4 (lo_s hok 56 rfl) rfl (by omega) (by omega) (by omega) rfl rfl (fun _ _ h => by cases h.1) ?_
        rintro r M9 ⟨h1, h9⟩; cases h1; rw [h9]; clear h9 M9
        refine ax_callVN (As := _) (d2 := _) (c1 := 0) (n1 := 0) (x_gput (M := A) hok hV (a := i) (b := j) (by omega) (by omega) _ _ rfl rfl) dX9_fillDuel_138 mX3_put wd_1312 acl_3 (lo_s hok 72 rfl) rfl (by omega) (by omega) (by omega) rfl rfl (fun _ _ h => by cases h.1) ?_
        rintro _ B ⟨h1, hB⟩
        cases h1
        exact fin A B _ _ jA (fun a b z => by rw [uA.2 73 _ (by unfold fs; omega) (by omega) (by omega), uA.2 74 _ (by unfold fs; omega) (by omega) (by omega)]; exact fl a b z) rfl rfl hB
      have no : ∀ k : Nat, ¬ (mt_first (fun t => mt_view r t && decide (mt_far r t = (k : Int))) (mt_T r)).isSome = true → ∀ t, t < mt_T r → mt_view r t = true → ¬ mt_far r t = (k : Int) := by
        intro k hk t ht v e
        cases hf : mt_first (fun t => mt_view r t && decide (mt_far r t = (k : Int))) (mt_T r) with
        | some u => rw [hf] at hk; exact hk rfl
        | none => have := mt_first_none hf t ht; rw [v, decide_eq_true e] at this; cases this
      have second : ax_W l G kX9_fillDuel (ax_FQ G (fun o M2 => o = .inl none ∧ qf M M2 ∧ xI M2 p r lw es ∧ xgm M2 72 (n + 1) (fun i j => nI (du_v r lw 0 i j)) (fun i j => nI (du_v r lw 1 i j)))) 8 0 0 N 55 [some (av_r 1), some (av_r 40), some (av_i (nI n)), some (av_i (nI i)), some (av_i (nI j))] [] := by
        refine ax_iload dX9_fillDuel_55 rfl ?_
        refine ax_if_le (tgt := 87) dX9_fillDuel_57 (by decide) (fun hc => ?_) (fun hc => ?_)
        · exact run
        have hj0 : ¬ j ≤ 0 := fun z => hc ((nI_leI (b := 0) (by omega) (by omega)).mpr z)
        clear hc
        refine ax_aload_n dX9_fillDuel_60 rfl ?_
        refine ax_iload dX9_fillDuel_61 rfl ?_
        refine ax_callVN (As := _) (d2 := _) (c1 := 0) (n1 := 0) (c_everApartBy (d := 6) (M := N) hok (Or.inl rfl) ho mN (i := j) (by omega) (by omega) rfl) dX9_fillDuel_63 mX4_everApartBy wd_1297 acl_4 (xs_U_0 (Or.inl rfl) hok) rfl (by omega) (by omega) (by omega) rfl rfl (fun _ _ h => by cases h.1) ?_
        rintro r M9 ⟨h1, h9⟩; cases h1; rw [h9]; clear h9 M9
        refine ax_ifB_ne (tgt := 87) dX9_fillDuel_66 (by decide) (fun hc => ?_) (fun hc => ?_)
        · exact run
        · have hno := no j hc
          clear hc
          refine ax_aload_n dX9_fillDuel_69 rfl ?_
          refine ax_getK (f := 9) 72 dX9_fillDuel_70 acl_9 wd_556 (by decide) rfl (lo_s hok 1 rfl) (lo_r hok 4 rfl) ?_
          refine ax_iload_n dX9_fillDuel_73 rfl ?_
          refine ax_iload dX9_fillDuel_74 rfl ?_
          refine ax_iload_n dX9_fillDuel_76 rfl ?_
          refine ax_iload dX9_fillDuel_77 rfl ?_
          refine ax_iconst (v := 1) dX9_fillDuel_79 (by decide) ?_
          refine ax_isub dX9_fillDuel_80 ?_
          rw [show nI j - 1 = nI (j - 1) by rw [show (1 : Int32) = nI 1 from rfl]; exact pk_sub (by omega)]
          refine ax_callVN (As := _) (d2 := _) (c1 := 0) (n1 := 0) (x_gcopy (M := N) hok hV (a := i) (b := j) (a2 := i) (b2 := j - 1) (by omega) (by omega) (by omega) (by omega) rfl rfl rfl rfl) dX9_fillDuel_81 mX3_copy wd_1301 acl_3 (lo_s hok 72 rfl) rfl (by omega) (by omega) (by omega) rfl rfl (fun _ _ h => by cases h.1) ?_
          rintro _ B ⟨h1, hB⟩
          cases h1
          refine ax_goto (tgt := 141) dX9_fillDuel_84 (by decide) ?_
          obtain ⟨f0, f1⟩ := fl i (j - 1) (by omega)
          exact fin N B _ _ jN fl (f0.trans (congrArg nI (cost_j (lw := lw) ho (i := i) (by omega) (by omega) hno (c := 0) (by omega)).symm)) (f1.trans (congrArg nI (cost_j (lw := lw) ho (i := i) (by omega) (by omega) hno (c := 1) (by omega)).symm)) hB
      refine ax_iload dX9_fillDuel_19 rfl ?_
      refine ax_iload_n dX9_fillDuel_21 rfl ?_
      refine ax_icmp_gt (tgt := 147) dX9_fillDuel_22 (by decide) (fun hc => absurd ((nI_ltI (by omega) (by omega)).mp hc) (by omega)) (fun hc => ?_)
      refine ax_iload_n dX9_fillDuel_25 rfl ?_
      refine ax_if_le (tgt := 55) dX9_fillDuel_26 (by decide) (fun hc => ?_) (fun hc => ?_)
      · exact second
      have hi0 : ¬ i ≤ 0 := fun z => hc ((nI_leI (b := 0) (by omega) (by omega)).mpr z)
      clear hc
      refine ax_aload_n dX9_fillDuel_29 rfl ?_
      refine ax_iload_n dX9_fillDuel_30 rfl ?_
      refine ax_callVN (As := _) (d2 := _) (c1 := 0) (n1 := 0) (c_everApartBy (d := 6) (M := N) hok (Or.inl rfl) ho mN (i := i) (by omega) (by omega) rfl) dX9_fillDuel_31 mX4_everApartBy wd_1297 acl_4 (xs_U_0 (Or.inl rfl) hok) rfl (by omega) (by omega) (by omega) rfl rfl (fun _ _ h => by cases h.1) ?_
      rintro r M9 ⟨h1, h9⟩; cases h1; rw [h9]; clear h9 M9
      refine ax_ifB_ne (tgt := 55) dX9_fillDuel_34 (by decide) (fun hc => ?_) (fun hc => ?_)
      · exact second
      · have hno := no i hc
        clear hc
        refine ax_aload_n dX9_fillDuel_37 rfl ?_
        refine ax_getK (f := 9) 72 dX9_fillDuel_38 acl_9 wd_556 (by decide) rfl (lo_s hok 1 rfl) (lo_r hok 4 rfl) ?_
        refine ax_iload_n dX9_fillDuel_41 rfl ?_
        refine ax_iload dX9_fillDuel_42 rfl ?_
        refine ax_iload_n dX9_fillDuel_44 rfl ?_
        refine ax_iconst (v := 1) dX9_fillDuel_45 (by decide) ?_
        refine ax_isub dX9_fillDuel_46 ?_
        rw [show nI i - 1 = nI (i - 1) by rw [show (1 : Int32) = nI 1 from rfl]; exact pk_sub (by omega)]
        refine ax_iload dX9_fillDuel_47 rfl ?_
        refine ax_callVN (As := _) (d2 := _) (c1 := 0) (n1 := 0) (x_gcopy (M := N) hok hV (a := i) (b := j) (a2 := i - 1) (b2 := j) (by omega) (by omega) (by omega) (by omega) rfl rfl rfl rfl) dX9_fillDuel_49 mX3_copy wd_1301 acl_3 (lo_s hok 72 rfl) rfl (by omega) (by omega) (by omega) rfl rfl (fun _ _ h => by cases h.1) ?_
        rintro _ B ⟨h1, hB⟩
        cases h1
        refine ax_goto (tgt := 141) dX9_fillDuel_52 (by decide) ?_
        obtain ⟨f0, f1⟩ := fl (i - 1) j (by omega)
        exact fin N B _ _ jN fl (f0.trans (congrArg nI (cost_i (lw := lw) ho (j := j) (by omega) (by omega) hno (c := 0) (by omega)).symm)) (f1.trans (congrArg nI (cost_i (lw := lw) ho (j := j) (by omega) (by omega) hno (c := 1) (by omega)).symm)) hB
    · clear jN0 fl0
      rintro N L ⟨rfl, jN, fl⟩
      refine ax_iload dX9_fillDuel_19 rfl ?_
      refine ax_iload_n dX9_fillDuel_21 rfl ?_
      refine ax_icmp_gt (tgt := 147) dX9_fillDuel_22 (by decide) (fun hc => ?_) (fun hc => absurd ((nI_ltI (by omega) (by omega)).mpr (by omega)) hc)
      refine ax_iinc (v := 1) dX9_fillDuel_147 rfl (by decide) (by decide) rfl ?_
      refine ax_goto (tgt := 11) dX9_fillDuel_150 (by decide) ?_
      exact next _ _ ⟨⟨_, by rw [nI_1]; rfl⟩, jN, fun a b ha hb => fl a b (by omega)⟩
  · rintro N L ⟨⟨y4, rfl⟩, jN, fl⟩
    obtain ⟨j1, j2, j3⟩ := (hJ N).mp jN
    obtain ⟨tN, mN⟩ := JT N jN
    have hx := tN.1
    have hok := hx.1
    refine ax_iload_n dX9_fillDuel_11 rfl ?_
    refine ax_iload_n dX9_fillDuel_12 rfl ?_
    refine ax_icmp_gt (tgt := 153) dX9_fillDuel_13 (by decide) (fun hc => ?_) (fun hc => absurd ((nI_ltI (by omega) (by omega)).mpr (by omega)) hc)
    refine ax_aload_n dX9_fillDuel_153 rfl ?_
    refine ax_iload_n dX9_fillDuel_154 rfl ?_
    refine ax_putI (f := 10) dX9_fillDuel_155 acl_9 wd_557 (by decide) rfl rfl (ax_nfI rfl) (lo_s hok 1 rfl) ?_
    refine ax_vret dX9_fillDuel_158 rfl ?_
    obtain ⟨B, hB⟩ : ∃ B, B = ax_pI N 1 10 (nI n) := ⟨_, rfl⟩
    rw [← hB]
    have b9 : ∀ m i, ¬ (m = 1 ∧ i = 10) → B.1 m i = N.1 m i := fun m i z => by rw [hB, ax_pn (by omega)]
    have b10 : B.1 1 10 = nI n := by rw [hB, ax_pa]
    have f : qf M B := ⟨by rw [hB]; exact j1, fun m i z => (b9 m i (fun q => z (Or.inr (Or.inr (Or.inr ⟨q.1, Or.inr q.2⟩))))).trans (j2 m i (fun q => z (Or.inl q)) (fun q => z (Or.inr (Or.inl q))) (fun q => z (Or.inr (Or.inr (Or.inl (by omega))))) (fun q => z (Or.inr (Or.inr (Or.inl (by omega))))))⟩
    have g : ∀ m i, 40 ≤ m ∧ m ≤ 40 + 15 → B.1 m i = M.1 m i := fun m i z => (b9 m i (by omega)).trans (j2 m i (by unfold fs; omega) (by omega) (by omega) (by omega))
    have e7 : B.1 1 7 = M.1 1 7 := (b9 1 7 (by omega)).trans (j2 1 7 (by unfold fs; omega) (by omega) (by omega) (by omega))
    have tb : ∀ i j, i ≤ n → j ≤ n → B.1 73 (i * 21 + j) = nI (du_v r lw 0 i j) ∧ B.1 74 (i * 21 + j) = nI (du_v r lw 1 i j) := fun i j a b => by
      rw [b9 73 _ (by omega), b9 74 _ (by omega)]; exact fl i j (by omega) b
    refine ⟨rfl, f, ⟨xT_qf hI.1 f, ⟨xw_fr hI.2.1.1 g, xw_fr j3 (fun m i z => b9 m i (by omega))⟩, ?_, Or.inr ⟨n, hn, b10, tb⟩⟩, fun i j a b => tb i j (by omega) (by omega)⟩
    rcases hI.2.2.1 with h | ⟨h, h5⟩
    · exact Or.inl (e7.trans h)
    · exact Or.inr ⟨e7.trans h, xmt_fr h5 g⟩
theorem x_duel (hl9 : l.stackTraces = false) (hI : xI M p r lw es) (x y : Int32) : ax_Met l G kX9_duel 9 3 18 M [av_r 1, av_i x, av_i y] (xA p r lw es M (qa_duel r lw x y)) := by
  have hx := hI.1.1
  have hok := hx.1
  have hr := hI.1.2.1
  have ho := hI.1.2.2.1
  have h0 := ho.1
  refine ax_body (by decide) (Nat.le_of_ble_eq_true rfl) ?_
  refine ax_aload_n dX9_duel_0 rfl ?_
  refine ax_iload_n dX9_duel_1 rfl ?_
  refine ax_iconst (v := 0) dX9_duel_2 (by decide) ?_
  refine ax_bipush (v := 20) dX9_duel_3 (by decide) ?_
  refine ax_callVX (As := _) (d2 := _) (c1 := 2) (n1 := 12) (c_needRange (M := M) hl9 hok) dX9_duel_5 mX9_needRange wd_1121 acl_9 (lo_s hok 1 rfl) rfl (by omega) (by omega) (by omega) rfl rfl (fun E M2 h => xA_ex h (fun z => by unfold qa_duel; rw [if_pos (Or.inl z)])) ?_
  refine xN_k (fun g1 => ?_)
  refine ax_aload_n dX9_duel_8 rfl ?_
  refine ax_iload_n dX9_duel_9 rfl ?_
  refine ax_iconst (v := 0) dX9_duel_10 (by decide) ?_
  refine ax_iconst (v := 3) dX9_duel_11 (by decide) ?_
  refine ax_callVX (As := _) (d2 := _) (c1 := 1) (n1 := 6) (c_needRange (M := M) hl9 hok) dX9_duel_12 mX9_needRange wd_1121 acl_9 (lo_s hok 1 rfl) rfl (by omega) (by omega) (by omega) rfl rfl (fun E M2 h => xA_ex h (fun z => by unfold qa_duel; rw [if_pos (Or.inr z)])) ?_
  refine xN_k (fun g2 => ?_)
  refine ax_aload_n dX9_duel_15 rfl ?_
  refine ax_callVX (As := _) (d2 := _) (c1 := 0) (n1 := 0) (c_needTwoCars (M := M) hl9 hx hr ho) dX9_duel_16 mX9_needTwoCars wd_1254 acl_9 (lo_s hok 1 rfl) rfl (by omega) (by omega) (by omega) rfl rfl (fun E M2 h => xA_ex h (fun z => by unfold qa_duel; rw [if_neg (fun q => q.elim (fun t => t g1) (fun t => t g2)), if_pos (dn z)])) ?_
  refine xN_k (fun g3 => ?_)
  obtain ⟨n, hn, rfl⟩ := in_nat g1 (n := 20) rfl (by decide)
  obtain ⟨k, hk, rfl⟩ := in_nat g2 (n := 3) rfl (by decide)
  have hV : xh_V 72 := Or.inl rfl
  refine ax_aload_n dX9_duel_19 rfl ?_
  refine ax_aload_n dX9_duel_20 rfl ?_
  refine ax_callV (As := _) (d2 := _) (c1 := 0) (n1 := 0) (c_freshMeeting (M := M) hI) dX9_duel_21 mX9_freshMeeting wd_609 acl_9 (lo_s hok 1 rfl) rfl (by omega) (by omega) (by omega) rfl rfl (fun _ _ h => by cases h.1) ?_
  rintro _ M1 ⟨h1, f1, I1, -, m1, -⟩
  cases h1
  have hx := I1.1.1
  have hok := hx.1
  have hr := I1.1.2.1
  refine ax_iload_n dX9_duel_24 rfl ?_
  refine ax_callV (As := _) (d2 := _) (c1 := 0) (n1 := 0) (x_fillDuel (M := M1) I1 (by omega) m1 hn rfl) dX9_duel_25 mX9_fillDuel wd_1293 acl_9 (lo_s hok 1 rfl) rfl (by omega) (by omega) (by omega) rfl rfl (fun _ _ h => by cases h.1) ?_
  rintro _ N ⟨h1, f2, I, hg⟩
  cases h1
  have hx := I.1.1
  have hok := hx.1
  have f := qf_trans f1 f2
  have e : ∀ v, v = qv_duel r lw n k → xA p r lw es M (qa_duel r lw (nI n) (nI k)) (.inl (some (av_i v))) N := fun v hv => by
    unfold qa_duel
    rw [if_neg (fun z => z.elim (fun q => q g1) (fun q => q g2)), if_neg g3, nI_clamp (by omega), nI_clamp (by omega), hv]
    exact xA_in f I
  have cg : (fun a b => grt (fun i j => nI (du_v r lw 0 i j)) (fun i j => nI (du_v r lw 1 i j)) a b (n + 1)) = du_R r lw n := by
    funext a b
    exact xgm_du (n + 1)
  have hs : ∀ i j, du_s r lw i j ≤ 1000 := fun i j => by
    have a := du_le r lw 0 i j
    have b := du_le r lw 1 i j
    unfold du_s; omega
  have hsum : ∀ i j, i ≤ n → j ≤ n → N.1 (72 + 1) (i * 21 + j) + N.1 (72 + 2) (i * 21 + j) = nI (du_s r lw i j) := fun i j a b => by
    rw [(hg i j (by omega) (by omega)).1, (hg i j (by omega) (by omega)).2]
    show nI (du_v r lw 0 i j) + nI (du_v r lw 1 i j) = _
    rw [nI_add]; rfl
  have kl := ka_le (du_s r lw) n (n + 1) (Nat.le_refl _)
  refine ax_iload_n dX9_duel_28 rfl ?_
  refine ax_iconst (v := 1) dX9_duel_29 (by decide) ?_
  refine ax_iadd dX9_duel_30 ?_
  rw [nI_1]
  refine ax_istore_n dX9_duel_31 (by decide) rfl ?_
  refine ax_iload_n dX9_duel_32 rfl ?_
  rcases (show k = 0 ∨ k = 1 ∨ k = 2 ∨ k = 3 by omega) with rfl | rfl | rfl | rfl
  · refine ax_tableIn (off := 27) (tgt := 60) dX9_duel_33 (by decide) (by decide) rfl (by decide) ?_
    refine ax_aload_n dX9_duel_60 rfl ?_
    refine ax_getK (f := 9) 72 dX9_duel_61 acl_9 wd_556 (by decide) rfl (lo_s hok 1 rfl) (lo_r hok 4 rfl) ?_
    refine ax_iload_n dX9_duel_64 rfl ?_
    refine ax_callVN (As := _) (d2 := _) (c1 := 0) (n1 := 0) (x_restsOf (M := N) hok hV (n := n + 1) (by omega) hg rfl) dX9_duel_65 mX3_restsOf wd_1313 acl_3 (lo_s hok 72 rfl) rfl (by omega) (by omega) (by omega) rfl rfl (fun _ _ h => by cases h.1) ?_
    rintro r M9 ⟨h1, h9⟩; cases h1; rw [h9]; clear h9 M9
    refine ax_iret dX9_duel_68 rfl ?_
    exact e _ (by rw [cg]; rfl)
  · refine ax_tableIn (off := 36) (tgt := 69) dX9_duel_33 (by decide) (by decide) rfl (by decide) ?_
    refine ax_aload_n dX9_duel_69 rfl ?_
    refine ax_getK (f := 9) 72 dX9_duel_70 acl_9 wd_556 (by decide) rfl (lo_s hok 1 rfl) (lo_r hok 4 rfl) ?_
    refine ax_iload_n dX9_duel_73 rfl ?_
    refine ax_callVN (As := _) (d2 := _) (c1 := 0) (n1 := 0) (x_firstRest (M := N) hok hV (n := n + 1) (by omega) hg rfl) dX9_duel_74 mX3_firstRest wd_1321 acl_3 (lo_s hok 72 rfl) rfl (by omega) (by omega) (by omega) rfl rfl (fun _ _ h => by cases h.1) ?_
    rintro r M9 ⟨h1, h9⟩; cases h1; rw [h9]; clear h9 M9
    refine ax_iconst (v := 0) dX9_duel_77 (by decide) ?_
    refine ax_callS (As := _) (c1 := 0) (n1 := 0) (x_pairNumber (d := 6) (M := N) 0 (by omega) _ (fun q z => by have := rf_le _ (n + 1) (n + 1) (Nat.le_refl _) q z; omega) rfl) dX9_duel_78 mX9_pairNumber wd_1325 rfl (by omega) (by omega) (by omega) rfl rfl (fun _ _ h => by cases h.1) ?_
    rintro r M9 ⟨h1, h9⟩; cases h1; rw [h9]; clear h9 M9
    refine ax_iret dX9_duel_81 rfl ?_
    exact e _ (by rw [cg]; rfl)
  · refine ax_tableIn (off := 49) (tgt := 82) dX9_duel_33 (by decide) (by decide) rfl (by decide) ?_
    refine ax_aload_n dX9_duel_82 rfl ?_
    refine ax_getK (f := 9) 72 dX9_duel_83 acl_9 wd_556 (by decide) rfl (lo_s hok 1 rfl) (lo_r hok 4 rfl) ?_
    refine ax_iload_n dX9_duel_86 rfl ?_
    refine ax_callVN (As := _) (d2 := _) (c1 := 0) (n1 := 0) (x_kindest (M := N) hok hV (n := n) (by omega) hs hsum rfl) dX9_duel_87 mX3_kindest wd_1328 acl_3 (lo_s hok 72 rfl) rfl (by omega) (by omega) (by omega) rfl rfl (fun _ _ h => by cases h.1) ?_
    rintro r M9 ⟨h1, h9⟩; cases h1; rw [h9]; clear h9 M9
    refine ax_iconst (v := 0) dX9_duel_90 (by decide) ?_
    refine ax_callS (As := _) (c1 := 0) (n1 := 0) (x_pairNumber (d := 6) (M := N) 0 (by omega) (some (ka (du_s r lw) n (n + 1))) (fun q z => by cases z; omega) rfl) dX9_duel_91 mX9_pairNumber wd_1325 rfl (by omega) (by omega) (by omega) rfl rfl (fun _ _ h => by cases h.1) ?_
    rintro r M9 ⟨h1, h9⟩; cases h1; rw [h9]; clear h9 M9
    refine ax_iret dX9_duel_94 rfl ?_
    exact e _ rfl
  · refine ax_tableOut (tgt := 95) dX9_duel_33 (by decide) (by decide) ?_
    refine ax_aload_n dX9_duel_95 rfl ?_
    refine ax_getK (f := 9) 72 dX9_duel_96 acl_9 wd_556 (by decide) rfl (lo_s hok 1 rfl) (lo_r hok 4 rfl) ?_
    refine ax_aload_n dX9_duel_99 rfl ?_
    refine ax_getK (f := 9) 72 dX9_duel_100 acl_9 wd_556 (by decide) rfl (lo_s hok 1 rfl) (lo_r hok 4 rfl) ?_
    refine ax_iload_n dX9_duel_103 rfl ?_
    refine ax_callVN (As := _) (d2 := _) (c1 := 0) (n1 := 0) (x_kindest (M := N) hok hV (n := n) (by omega) hs hsum rfl) dX9_duel_104 mX3_kindest wd_1328 acl_3 (lo_s hok 72 rfl) rfl (by omega) (by omega) (by omega) rfl rfl (fun _ _ h => by cases h.1) ?_
    rintro r M9 ⟨h1, h9⟩; cases h1; rw [h9]; clear h9 M9
    refine ax_callVN (As := _) (d2 := _) (c1 := 0) (n1 := 0) (x_together (d := 6) (M := N) hok hV (q := (ka (du_s r lw) n (n + 1)).1 * 21 + (ka (du_s r lw) n (n + 1)).2) (by omega) rfl) dX9_duel_107 mX3_together wd_1336 acl_3 (lo_s hok 72 rfl) rfl (by omega) (by omega) (by omega) rfl rfl (fun _ _ h => by cases h.1) ?_
    rintro r M9 ⟨h1, h9⟩; cases h1; rw [h9]; clear h9 M9
    rw [hsum _ _ kl.1 kl.2]
    refine ax_iret dX9_duel_110 rfl ?_
    exact e _ rfl
end X94

