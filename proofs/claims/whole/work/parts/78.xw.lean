/-! ===== the class's guards ===== -/
def xre (M M2 : ax_M) (k : Nat) : Prop := (∀ n i, M2.1 n i = if n = 89 ∧ i = k then M.1 89 k + 1 else M.1 n i) ∧ M2.2.1 = M.2.1 ∧ M2.2.2.1 = M.2.2.1 ∧ M2.2.2.2.1 = M.2.2.2.1 ∧ M.2.2.2.2 ≤ M2.2.2.2.2
def xN (M : ax_M) (P : Prop) (k : Nat) : ax_O → ax_M → Prop := fun o M2 => (P ∧ o = .inl none ∧ M2 = M) ∨ (¬ P ∧ o = .inr (cz_n k) ∧ xre M M2 k)
theorem cz_l0 : Cond.classLink RX9 411 (cz_n 0) ∈ tables_1 ∧ Cond.initialized (cz_n 0) ∈ tables_1 := by decide +kernel
theorem cz_l1 : Cond.classLink RX9 418 (cz_n 1) ∈ tables_1 ∧ Cond.initialized (cz_n 1) ∈ tables_1 := by decide +kernel
theorem cz_l2 : Cond.classLink RX9 423 (cz_n 2) ∈ tables_1 ∧ Cond.initialized (cz_n 2) ∈ tables_1 := by decide +kernel
theorem cz_up {w : Cond} (h : w ∈ tables_1) : w ∈ lw_tbl := List.mem_append.mpr (Or.inr h)
theorem cz_gd {own : String} {ik ic ix : Nat} {E : String} {bs : ByteArray} (h : ∀ w ∈ cz_ws own ic E ix bs, w ∈ tables_1 ∧ ax_okw w = true ∧ vx_ot w = true) : ∀ w ∈ Cond.classLink own ik E :: Cond.initialized E :: cz_ws own ic E ix bs, vx_ot w = true := by
  intro w hw
  rcases List.mem_cons.mp hw with rfl | hw
  · rfl
  · rcases List.mem_cons.mp hw with rfl | hw
    · rfl
    · exact (h w hw).2.2
theorem xN_in {M : ax_M} {P : Prop} {k : Nat} {v : Option ax_V} {M2 : ax_M} (h : xN M P k (.inl v) M2) : P ∧ v = none ∧ M2 = M := by
  rcases h with h | h
  · exact ⟨h.1, by have := h.2.1; cases this; rfl, h.2.2⟩
  · exact absurd h.2.1 (by intro z; cases z)
theorem xN_ex {M : ax_M} {P : Prop} {k : Nat} {E : String} {M2 : ax_M} (h : xN M P k (.inr E) M2) : ¬ P ∧ E = cz_n k ∧ xre M M2 k := by
  rcases h with h | h
  · exact absurd h.2.1 (by intro z; cases z)
  · exact ⟨h.1, by have := h.2.1; cases this; rfl, h.2.2⟩
theorem xN_iff {M : ax_M} {P P2 : Prop} {k : Nat} {o : ax_O} {M2 : ax_M} (e : P ↔ P2) (h : xN M P k o M2) : xN M P2 k o M2 := by
  rcases h with h | h
  · exact Or.inl ⟨e.mp h.1, h.2⟩
  · exact Or.inr ⟨fun z => h.1 (e.mpr z), h.2⟩
section XW9
variable {l : Launch} {G : ax_G} {M : ax_M} {p : Nat → Nat}
theorem c_needElement (hl9 : l.stackTraces = false) (hok : lo_ok M.2) {b : Prop} [Decidable b] {w : Int32} (hw : w = if b then 1 else 0) : ax_Met l G kX9_needElement 6 1 6 M [av_r 1, av_i w] (xN M b 0) := by
  refine ax_body (by decide) (Nat.le_of_ble_eq_true rfl) ?_
  refine ax_iload_n dX9_needElement_0 rfl ?_
  refine ax_if_ne (tgt := 25) dX9_needElement_1 (by decide) (fun hc => ?_) (fun hc => ?_)
  · refine ax_vret dX9_needElement_25 rfl ?_
    exact Or.inl ⟨by by_cases h : b; exact h; rw [hw, if_neg h] at hc; exact absurd rfl hc, rfl, rfl⟩
  · refine ax_aload_n dX9_needElement_4 rfl ?_
    refine ax_getK (f := 14) 89 dX9_needElement_5 acl_9 wd_561 (by decide) rfl (lo_s hok 1 rfl) (lo_r hok 8 rfl) ?_
    refine ax_iconst (v := 0) dX9_needElement_8 (by decide) ?_
    refine ax_dup2 dX9_needElement_9 (by first | rfl | exact ax_crf _) (by first | rfl | exact ax_crf _) ?_
    refine ax_ialdN (0) dX9_needElement_10 (lo_s hok 89 rfl) (by decide) (by decide) (by decide) ?_
    refine ax_iconst (v := 1) dX9_needElement_11 (by decide) ?_
    refine ax_iadd dX9_needElement_12 ?_
    refine ax_iastN (0) dX9_needElement_13 (lo_s hok 89 rfl) (by decide) (by decide) (by decide) ?_
    refine cz_throw (E := cz_n 0) (j := 23) (ix := 13) (bs := cz_13) hl9 (by decide +kernel) (by decide +kernel) (by decide +kernel) (by decide +kernel) (by decide +kernel) (cz_up cz_l0.1) (cz_up cz_l0.2) rfl rfl rfl (fun w hw => ⟨cz_up (cz_t0 w hw).1, (cz_t0 w hw).2.1⟩) (cz_gd cz_t0) dX9_needElement_14 dX9_needElement_17 dX9_needElement_18 dX9_needElement_21 dX9_needElement_24 (by omega) (by omega) (by omega) rfl (fun M2 e1 e2 e3 e4 e5 => Or.inr ⟨?_, rfl, ?_⟩)
    · intro h; rw [hw, if_pos h] at hc; exact absurd hc (by decide)
    · refine ⟨fun n i => ?_, e2, e3, e4, e5⟩
      rw [e1]
      rfl
theorem c_needArgument (hl9 : l.stackTraces = false) (hok : lo_ok M.2) {b : Prop} [Decidable b] {w : Int32} (hw : w = if b then 1 else 0) : ax_Met l G kX9_needArgument 6 1 6 M [av_r 1, av_i w] (xN M b 1) := by
  refine ax_body (by decide) (Nat.le_of_ble_eq_true rfl) ?_
  refine ax_iload_n dX9_needArgument_0 rfl ?_
  refine ax_if_ne (tgt := 25) dX9_needArgument_1 (by decide) (fun hc => ?_) (fun hc => ?_)
  · refine ax_vret dX9_needArgument_25 rfl ?_
    exact Or.inl ⟨by by_cases h : b; exact h; rw [hw, if_neg h] at hc; exact absurd rfl hc, rfl, rfl⟩
  · refine ax_aload_n dX9_needArgument_4 rfl ?_
    refine ax_getK (f := 14) 89 dX9_needArgument_5 acl_9 wd_561 (by decide) rfl (lo_s hok 1 rfl) (lo_r hok 8 rfl) ?_
    refine ax_iconst (v := 1) dX9_needArgument_8 (by decide) ?_
    refine ax_dup2 dX9_needArgument_9 (by first | rfl | exact ax_crf _) (by first | rfl | exact ax_crf _) ?_
    refine ax_ialdN (1) dX9_needArgument_10 (lo_s hok 89 rfl) (by decide) (by decide) (by decide) ?_
    refine ax_iconst (v := 1) dX9_needArgument_11 (by decide) ?_
    refine ax_iadd dX9_needArgument_12 ?_
    refine ax_iastN (1) dX9_needArgument_13 (lo_s hok 89 rfl) (by decide) (by decide) (by decide) ?_
    refine cz_throw (E := cz_n 1) (j := 0) (ix := 7) (bs := Bundle.six) hl9 (by decide +kernel) (by decide +kernel) (by decide +kernel) (by decide +kernel) (by decide +kernel) (cz_up cz_l1.1) (cz_up cz_l1.2) rfl rfl rfl (fun w hw => ⟨cz_up (cz_t1 w hw).1, (cz_t1 w hw).2.1⟩) (cz_gd cz_t1) dX9_needArgument_14 dX9_needArgument_17 dX9_needArgument_18 dX9_needArgument_21 dX9_needArgument_24 (by omega) (by omega) (by omega) rfl (fun M2 e1 e2 e3 e4 e5 => Or.inr ⟨?_, rfl, ?_⟩)
    · intro h; rw [hw, if_pos h] at hc; exact absurd hc (by decide)
    · refine ⟨fun n i => ?_, e2, e3, e4, e5⟩
      rw [e1]
      rfl
theorem c_needTwoCars {r : Nat → Int} (hl9 : l.stackTraces = false) (hx : xk M.2 p) (hr : xr M (p 0) r) (ho : rd_ok r) : ax_Met l G kX9_needTwoCars 6 1 6 M [av_r 1] (xN M (¬ r 1 < 2) 2) := by
  have hok := hx.1
  have h0 := ho.1
  have hk : (M.1 (p 0) 16 = 2) ↔ ¬ r 1 < 2 := by
    rw [hr.1.2.1]
    refine Iff.trans (iI_eq (b := 2) (by unfold iI_b; omega) (by unfold iI_b; omega)) ?_
    omega
  refine ax_body (by decide) (Nat.le_of_ble_eq_true rfl) ?_
  refine ax_aload_n dX9_needTwoCars_0 rfl ?_
  refine ax_getK (f := 1) 4 dX9_needTwoCars_1 acl_9 wd_548 (by decide) rfl (lo_s hok 1 rfl) (lo_r hok 1 rfl) ?_
  refine ax_getKN (f := 0) (p 0) dX9_needTwoCars_4 acl_7 wd_367 (by decide) rfl (lo_s hok 4 rfl) (xk_r0 hx) ?_
  refine ax_getIN (f := 16) dX9_needTwoCars_7 acl_5 wd_296 (by decide) rfl (xs_R_0 (xk_b0 hx) hok) ?_
  refine ax_iconst (v := 2) dX9_needTwoCars_10 (by decide) ?_
  refine ax_icmp_eq (tgt := 35) dX9_needTwoCars_11 (by decide) (fun hc => ?_) (fun hc => ?_)
  · refine ax_vret dX9_needTwoCars_35 rfl ?_
    exact Or.inl ⟨hk.mp hc, rfl, rfl⟩
  · refine ax_aload_n dX9_needTwoCars_14 rfl ?_
    refine ax_getK (f := 14) 89 dX9_needTwoCars_15 acl_9 wd_561 (by decide) rfl (lo_s hok 1 rfl) (lo_r hok 8 rfl) ?_
    refine ax_iconst (v := 2) dX9_needTwoCars_18 (by decide) ?_
    refine ax_dup2 dX9_needTwoCars_19 (by first | rfl | exact ax_crf _) (by first | rfl | exact ax_crf _) ?_
    refine ax_ialdN (2) dX9_needTwoCars_20 (lo_s hok 89 rfl) (by decide) (by decide) (by decide) ?_
    refine ax_iconst (v := 1) dX9_needTwoCars_21 (by decide) ?_
    refine ax_iadd dX9_needTwoCars_22 ?_
    refine ax_iastN (2) dX9_needTwoCars_23 (lo_s hok 89 rfl) (by decide) (by decide) (by decide) ?_
    refine cz_throw (E := cz_n 2) (j := 24) (ix := 7) (bs := Bundle.six) hl9 (by decide +kernel) (by decide +kernel) (by decide +kernel) (by decide +kernel) (by decide +kernel) (cz_up cz_l2.1) (cz_up cz_l2.2) rfl rfl rfl (fun w hw => ⟨cz_up (cz_t2 w hw).1, (cz_t2 w hw).2.1⟩) (cz_gd cz_t2) dX9_needTwoCars_24 dX9_needTwoCars_27 dX9_needTwoCars_28 dX9_needTwoCars_31 dX9_needTwoCars_34 (by omega) (by omega) (by omega) rfl (fun M2 e1 e2 e3 e4 e5 => Or.inr ⟨?_, rfl, ?_⟩)
    · intro h; exact hc (hk.mpr h)
    · refine ⟨fun n i => ?_, e2, e3, e4, e5⟩
      rw [e1]
      rfl
theorem c_needCar {r : Nat → Int} (hl9 : l.stackTraces = false) (hx : xk M.2 p) (hr : xr M (p 0) r) (ho : rd_ok r) {x : Int32} : ax_Met l G kX9_needCar 7 1 6 M [av_r 1, av_i x] (xN M (0 ≤ x ∧ x ≤ iI (r 1) - 1) 0) := by
  have hok := hx.1
  have h0 := ho.1
  have hk : ¬ x < 0 → (M.1 (p 0) 16 ≤ x ↔ ¬ x ≤ iI (r 1) - 1) := by
    intro h
    rw [hr.1.2.1]
    have e1 : (iI (r 1)).toInt = r 1 := iI_t (by unfold iI_b; omega)
    have e2 : (iI (r 1) - 1).toInt = r 1 - 1 := by rw [show (1 : Int32) = iI 1 from rfl, iI_sub]; exact iI_t (by unfold iI_b; omega)
    rw [Int32.le_iff_toInt_le, Int32.le_iff_toInt_le, e1, e2]
    omega
  have call : ∀ (b : Prop) [Decidable b] (w : Int32), (w = if b then 1 else 0) → (b ↔ (0 ≤ x ∧ x ≤ iI (r 1) - 1)) → ax_W l G kX9_needCar (ax_FQ G (xN M (0 ≤ x ∧ x ≤ iI (r 1) - 1) 0)) 7 1 6 M 24 [some (av_r 1), some (av_i x)] [av_i w, av_r 1] := by
    intro b _ w hw hb
    refine ax_callVX (As := _) (d2 := _) (c1 := 0) (n1 := 0) (c_needElement (b := b) (M := M) hl9 hok hw) dX9_needCar_24 mX9_needElement wd_1066 acl_9 (lo_s hok 1 rfl) rfl (by omega) (by omega) (by omega) rfl rfl (fun E M2 h => xN_iff hb h) ?_
    intro r9 M2 h
    obtain ⟨hb1, rfl, rfl⟩ := xN_in h
    refine ax_vret dX9_needCar_27 rfl ?_
    exact Or.inl ⟨hb.mp hb1, rfl, rfl⟩
  refine ax_body (by decide) (Nat.le_of_ble_eq_true rfl) ?_
  refine ax_aload_n dX9_needCar_0 rfl ?_
  refine ax_iload_n dX9_needCar_1 rfl ?_
  refine ax_if_lt (tgt := 23) dX9_needCar_2 (by decide) (fun hc => ?_) (fun hc => ?_)
  · refine ax_iconst (v := 0) dX9_needCar_23 (by decide) ?_
    exact call False _ rfl (iff_of_false id (fun z => absurd hc (by have := z.1; rw [iv_le] at this; rw [iv_lt]; omega)))
  · have hn := hc
    clear hc
    refine ax_iload_n dX9_needCar_5 rfl ?_
    refine ax_aload_n dX9_needCar_6 rfl ?_
    refine ax_getK (f := 1) 4 dX9_needCar_7 acl_9 wd_548 (by decide) rfl (lo_s hok 1 rfl) (lo_r hok 1 rfl) ?_
    refine ax_getKN (f := 0) (p 0) dX9_needCar_10 acl_7 wd_367 (by decide) rfl (lo_s hok 4 rfl) (xk_r0 hx) ?_
    refine ax_getIN (f := 16) dX9_needCar_13 acl_5 wd_296 (by decide) rfl (xs_R_0 (xk_b0 hx) hok) ?_
    refine ax_icmp_ge (tgt := 23) dX9_needCar_16 (by decide) (fun hc => ?_) (fun hc => ?_)
    · refine ax_iconst (v := 0) dX9_needCar_23 (by decide) ?_
      exact call False _ rfl (iff_of_false id (fun z => (hk hn).mp hc z.2))
    · refine ax_iconst (v := 1) dX9_needCar_19 (by decide) ?_
      refine ax_goto (tgt := 24) dX9_needCar_20 (by decide) ?_
      exact call True _ rfl (iff_of_true trivial ⟨by rw [iv_le]; rw [iv_lt] at hn; omega, by by_cases z : x ≤ iI (r 1) - 1; exact z; exact absurd ((hk hn).mpr z) hc⟩)
theorem c_needCoat {r : Nat → Int} (hl9 : l.stackTraces = false) (hx : xk M.2 p) (hr : xr M (p 0) r) (ho : rd_ok r) {x : Int32} : ax_Met l G kX9_needCoat 7 1 6 M [av_r 1, av_i x] (xN M (0 ≤ x ∧ x ≤ iI (r 2) - 1) 0) := by
  have hok := hx.1
  have h0 := ho.1
  have hk : ¬ x < 0 → (M.1 (p 0) 8 ≤ x ↔ ¬ x ≤ iI (r 2) - 1) := by
    intro h
    rw [hr.1.2.2.1]
    have e1 : (iI (r 2)).toInt = r 2 := iI_t (by unfold iI_b; omega)
    have e2 : (iI (r 2) - 1).toInt = r 2 - 1 := by rw [show (1 : Int32) = iI 1 from rfl, iI_sub]; exact iI_t (by unfold iI_b; omega)
    rw [Int32.le_iff_toInt_le, Int32.le_iff_toInt_le, e1, e2]
    omega
  have call : ∀ (b : Prop) [Decidable b] (w : Int32), (w = if b then 1 else 0) → (b ↔ (0 ≤ x ∧ x ≤ iI (r 2) - 1)) → ax_W l G kX9_needCoat (ax_FQ G (xN M (0 ≤ x ∧ x ≤ iI (r 2) - 1) 0)) 7 1 6 M 24 [some (av_r 1), some (av_i x)] [av_i w, av_r 1] := by
    intro b _ w hw hb
    refine ax_callVX (As := _) (d2 := _) (c1 := 0) (n1 := 0) (c_needElement (b := b) (M := M) hl9 hok hw) dX9_needCoat_24 mX9_needElement wd_1066 acl_9 (lo_s hok 1 rfl) rfl (by omega) (by omega) (by omega) rfl rfl (fun E M2 h => xN_iff hb h) ?_
    intro r9 M2 h
    obtain ⟨hb1, rfl, rfl⟩ := xN_in h
    refine ax_vret dX9_needCoat_27 rfl ?_
    exact Or.inl ⟨hb.mp hb1, rfl, rfl⟩
  refine ax_body (by decide) (Nat.le_of_ble_eq_true rfl) ?_
  refine ax_aload_n dX9_needCoat_0 rfl ?_
  refine ax_iload_n dX9_needCoat_1 rfl ?_
  refine ax_if_lt (tgt := 23) dX9_needCoat_2 (by decide) (fun hc => ?_) (fun hc => ?_)
  · refine ax_iconst (v := 0) dX9_needCoat_23 (by decide) ?_
    exact call False _ rfl (iff_of_false id (fun z => absurd hc (by have := z.1; rw [iv_le] at this; rw [iv_lt]; omega)))
  · have hn := hc
    clear hc
    refine ax_iload_n dX9_needCoat_5 rfl ?_
    refine ax_aload_n dX9_needCoat_6 rfl ?_
    refine ax_getK (f := 1) 4 dX9_needCoat_7 acl_9 wd_548 (by decide) rfl (lo_s hok 1 rfl) (lo_r hok 1 rfl) ?_
    refine ax_getKN (f := 0) (p 0) dX9_needCoat_10 acl_7 wd_367 (by decide) rfl (lo_s hok 4 rfl) (xk_r0 hx) ?_
    refine ax_getIN (f := 8) dX9_needCoat_13 acl_5 wd_269 (by decide) rfl (xs_R_0 (xk_b0 hx) hok) ?_
    refine ax_icmp_ge (tgt := 23) dX9_needCoat_16 (by decide) (fun hc => ?_) (fun hc => ?_)
    · refine ax_iconst (v := 0) dX9_needCoat_23 (by decide) ?_
      exact call False _ rfl (iff_of_false id (fun z => (hk hn).mp hc z.2))
    · refine ax_iconst (v := 1) dX9_needCoat_19 (by decide) ?_
      refine ax_goto (tgt := 24) dX9_needCoat_20 (by decide) ?_
      exact call True _ rfl (iff_of_true trivial ⟨by rw [iv_le]; rw [iv_lt] at hn; omega, by by_cases z : x ≤ iI (r 2) - 1; exact z; exact absurd ((hk hn).mpr z) hc⟩)
theorem c_needRange (hl9 : l.stackTraces = false) (hok : lo_ok M.2) {x y z : Int32} : ax_Met l G kX9_needRange 7 1 6 M [av_r 1, av_i x, av_i y, av_i z] (xN M (y ≤ x ∧ x ≤ z) 1) := by
  have call : ∀ (b : Prop) [Decidable b] (w : Int32), (w = if b then 1 else 0) → (b ↔ (y ≤ x ∧ x ≤ z)) → ax_W l G kX9_needRange (ax_FQ G (xN M (y ≤ x ∧ x ≤ z) 1)) 7 1 6 M 16 [some (av_r 1), some (av_i x), some (av_i y), some (av_i z)] [av_i w, av_r 1] := by
    intro b _ w hw hb
    refine ax_callVX (As := _) (d2 := _) (c1 := 0) (n1 := 0) (c_needArgument (b := b) (M := M) hl9 hok hw) dX9_needRange_16 mX9_needArgument wd_790 acl_9 (lo_s hok 1 rfl) rfl (by omega) (by omega) (by omega) rfl rfl (fun E M2 h => xN_iff hb h) ?_
    intro r9 M2 h
    obtain ⟨hb1, rfl, rfl⟩ := xN_in h
    refine ax_vret dX9_needRange_19 rfl ?_
    exact Or.inl ⟨hb.mp hb1, rfl, rfl⟩
  refine ax_body (by decide) (Nat.le_of_ble_eq_true rfl) ?_
  refine ax_aload_n dX9_needRange_0 rfl ?_
  refine ax_iload_n dX9_needRange_1 rfl ?_
  refine ax_iload_n dX9_needRange_2 rfl ?_
  refine ax_icmp_lt (tgt := 15) dX9_needRange_3 (by decide) (fun hc => ?_) (fun hc => ?_)
  · refine ax_iconst (v := 0) dX9_needRange_15 (by decide) ?_
    exact call False _ rfl (iff_of_false id (fun q => absurd hc (by have := q.1; rw [iv_le] at this; rw [iv_lt]; omega)))
  · have hn := hc
    clear hc
    refine ax_iload_n dX9_needRange_6 rfl ?_
    refine ax_iload_n dX9_needRange_7 rfl ?_
    refine ax_icmp_gt (tgt := 15) dX9_needRange_8 (by decide) (fun hc => ?_) (fun hc => ?_)
    · refine ax_iconst (v := 0) dX9_needRange_15 (by decide) ?_
      exact call False _ rfl (iff_of_false id (fun q => absurd hc (by have := q.2; rw [iv_le] at this; rw [iv_lt]; omega)))
    · refine ax_iconst (v := 1) dX9_needRange_11 (by decide) ?_
      refine ax_goto (tgt := 16) dX9_needRange_12 (by decide) ?_
      exact call True _ rfl (iff_of_true trivial ⟨by rw [iv_le]; rw [iv_lt] at hn; omega, by rw [iv_le]; rw [iv_lt] at hc; omega⟩)
end XW9

