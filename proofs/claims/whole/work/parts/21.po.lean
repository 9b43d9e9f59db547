/-! ===== the grammar goes on; one ===== -/
def ps_ok1 (z a : Nat) (x : ps_R) : Prop := match x with
  | .inl e => 1 ≤ e.1 ∧ e.1 ≤ 4 ∧ e.2 ≤ z
  | .inr q => a + q.2.length ≤ q.1 ∧ q.1 ≤ z ∧ a < q.1
theorem ps_gd_iff {z : Nat} {u : Nat → ps_R} : ps_gd z u ↔ ∀ a, a ≤ z → ps_ok1 z a (u a) := Iff.rfl
theorem ps_ok_many {B : Nat → Int32} {z : Nat} {u : Nat → ps_R} {s1 s2 h1 h2 : Int32} (hB : ps_B B z) (hz : z ≤ 600) (hu : ps_gd z u) (e1 : s1 ≠ -1) (e2 : s2 ≠ -1) : ∀ (n a b : Nat) (cs : List (Int32 × Int32)), a + cs.length ≤ b → b ≤ z → a < b → ps_ok1 z a (ps_many B z u s1 s2 h1 h2 n b cs)
  | 0, a, b, cs, q1, q2, q3 => ⟨q1, q2, q3⟩
  | n + 1, a, b, cs, q1, q2, q3 => by
    have hk : b ≤ tx_sk B z b := tx_sk_ge
    have hk2 := tx_sk_z (B := B) q2
    have step : ∀ h : Int32, B (tx_sk B z b) ≠ -1 → ps_ok1 z a (ps_th (u (tx_sk B z b + 1)) (fun b2 ds => ps_many B z u s1 s2 h1 h2 n b2 (cs ++ ds ++ [(h, 0)]))) := by
      intro h hne
      have hlt := ps_in_z hB (by omega) hne
      have hg := ps_gd_iff.mp hu (tx_sk B z b + 1) (by omega)
      cases hx : u (tx_sk B z b + 1) with
      | inl e =>
        rw [hx] at hg
        exact hg
      | inr q =>
        obtain ⟨b2, ds⟩ := q
        rw [hx] at hg
        obtain ⟨g1, g2, g3⟩ := hg
        have g1 : tx_sk B z b + 1 + ds.length ≤ b2 := g1
        have g2 : b2 ≤ z := g2
        rw [ps_th_r]
        exact ps_ok_many hB hz hu e1 e2 n a b2 _ (by simp only [List.length_append, List.length_cons, List.length_nil]; omega) g2 (by omega)
    show ps_ok1 z a (if _ then _ else if _ then _ else _)
    by_cases c1 : B (tx_sk B z b) = s1
    · rw [if_pos c1]
      exact step h1 (by rw [c1]; exact e1)
    · rw [if_neg c1]
      by_cases c2 : B (tx_sk B z b) = s2
      · rw [if_pos c2]
        exact step h2 (by rw [c2]; exact e2)
      · rw [if_neg c2]
        exact ⟨by show a + cs.length ≤ tx_sk B z b; omega, hk2, by show a < tx_sk B z b; omega⟩
theorem ps_gd_rep {B : Nat → Int32} {z : Nat} {u : Nat → ps_R} {s1 s2 h1 h2 : Int32} (hB : ps_B B z) (hz : z ≤ 600) (hu : ps_gd z u) (e1 : s1 ≠ -1) (e2 : s2 ≠ -1) : ps_gd z (fun a => ps_th (u a) (fun b cs => ps_many B z u s1 s2 h1 h2 ps_fu b cs)) := by
  rw [ps_gd_iff] at *
  intro a ha
  have hg := hu a ha
  show ps_ok1 z a (ps_th (u a) _)
  cases hx : u a with
  | inl e => rw [hx] at hg; exact hg
  | inr q =>
    obtain ⟨b, cs⟩ := q
    rw [hx] at hg
    rw [ps_th_r]
    exact ps_ok_many hB hz (ps_gd_iff.mpr hu) e1 e2 _ a b cs hg.1 hg.2.1 hg.2.2
theorem ps_gd_prod {B : Nat → Int32} {z : Nat} {u : Nat → ps_R} (hB : ps_B B z) (hz : z ≤ 600) (hu : ps_gd z u) : ps_gd z (ps_prod B z u) := ps_gd_rep hB hz hu (by decide) (by decide)
theorem ps_gd_sum {B : Nat → Int32} {z : Nat} {u : Nat → ps_R} (hB : ps_B B z) (hz : z ≤ 600) (hu : ps_gd z u) : ps_gd z (ps_sum B z u) := ps_gd_rep hB hz (ps_gd_prod hB hz hu) (by decide) (by decide)
theorem ps_ok_sign {B : Nat → Int32} {z a b : Nat} {c : Int32} {cs : List (Int32 × Int32)} (hB : ps_B B z) (hz : z ≤ 600) (hc : c ≠ -1) (h1 : a + cs.length ≤ b + 1) (hb : b ≤ z) (h3 : a ≤ b) : ps_ok1 z a (ps_sign B z c b cs) := by
  have hk : b ≤ tx_sk B z b := tx_sk_ge
  have hk2 := tx_sk_z (B := B) hb
  unfold ps_sign
  split
  · rename_i e
    have := ps_in_z hB (i := tx_sk B z b) (by omega) (by rw [e]; exact hc)
    exact ⟨by show a + cs.length ≤ tx_sk B z b + 1; omega, by show tx_sk B z b + 1 ≤ z; omega, by show a < tx_sk B z b + 1; omega⟩
  · exact ⟨Nat.le_of_ble_eq_true rfl, Nat.le_of_ble_eq_true rfl, hk2⟩
theorem ps_ok_le {z a b : Nat} {x : ps_R} (h : ps_ok1 z b x) (hab : a ≤ b) : ps_ok1 z a x := by
  cases x with
  | inl e => exact h
  | inr q =>
    obtain ⟨h1, h2, h3⟩ := h
    exact ⟨by omega, h2, by omega⟩
theorem ps_ok_th {z a : Nat} {x : ps_R} {f : Nat → List (Int32 × Int32) → ps_R} (hx : ps_ok1 z a x) (hf : ∀ b cs, a + cs.length ≤ b → b ≤ z → a < b → ps_ok1 z a (f b cs)) : ps_ok1 z a (ps_th x f) := by
  cases x with
  | inl e => exact hx
  | inr q => exact hf q.1 q.2 hx.1 hx.2.1 hx.2.2
theorem tx_sk_run {B : Nat → Int32} {z a : Nat} (h : tx_dg (B a) = true) (ha : a < z) : a < tx_run tx_dg B (z - a) a ∧ tx_run tx_dg B (z - a) a ≤ z := by
  have h1 := tx_run_le tx_dg B (z - a) a
  refine ⟨?_, by omega⟩
  cases hn : z - a with
  | zero => omega
  | succ n =>
    rw [tx_run_s, if_pos h]
    have := tx_run_le tx_dg B n (a + 1)
    omega
theorem ps_ok_num {B : Nat → Int32} {z a : Nat} {lo hi : Int32} (hB : ps_B B z) (hz : z ≤ 600) (ha : a ≤ z) : ((tx_num B z lo hi a).2.1 = 0 → a < (tx_num B z lo hi a).1 ∧ (tx_num B z lo hi a).1 ≤ z) ∧ (tx_num B z lo hi a).2.1 ≤ 2 ∧ (tx_num B z lo hi a).2.2.1 ≤ z ∧ (tx_num B z lo hi a).1 ≤ z := by
  have e : tx_run tx_bl B (z - a) a = tx_sk B z a := rfl
  have hk : a ≤ tx_sk B z a := tx_sk_ge
  have hk2 := tx_sk_z (B := B) ha
  unfold tx_num
  rw [e]
  by_cases c1 : tx_dg (B (tx_sk B z a)) = true
  · have hlt : tx_sk B z a < z := ps_in_z hB (by omega) (by intro q; rw [q] at c1; exact absurd c1 (by decide))
    obtain ⟨r1, r2⟩ := tx_sk_run c1 hlt
    simp only [c1, if_true]
    split
    · exact ⟨fun _ => ⟨by show a < tx_run tx_dg B _ _; omega, r2⟩, Nat.le_of_ble_eq_true rfl, Nat.zero_le _, r2⟩
    · exact ⟨fun q => absurd q (show ¬ (2 : Nat) = 0 by decide), Nat.le_of_ble_eq_true rfl, hk2, r2⟩
  · simp only []
    rw [if_neg c1]
    exact ⟨fun q => absurd q (show ¬ (1 : Nat) = 0 by decide), Nat.le_of_ble_eq_true rfl, hk2, hk2⟩
theorem tx_wd_z {B : Nat → Int32} {z a : Nat} (ha : a ≤ z) : a + (tx_wd B z a).length ≤ z := by
  have h1 := tx_w_len B (z - a) a
  have h2 := tx_run_le tx_sm B (z - a) a
  unfold tx_wd
  omega
theorem ps_ok_atom {B : Nat → Int32} {z a : Nat} (hB : ps_B B z) (hz : z ≤ 600) (ha : a ≤ z) : ps_ok1 z a (ps_atom B z a) := by
  have hw := tx_wd_z (B := B) ha
  have hn := ps_ok_num (lo := 0) (hi := 999) hB hz ha
  unfold ps_atom
  split
  · rename_i h
    have h1 : 1 ≤ (tx_wd B z a).length := (show ∀ w ∈ tx_knowns, 1 ≤ w.length by decide) _ h
    exact ⟨by show a + 1 ≤ a + _; omega, hw, by show a < a + _; omega⟩
  · split
    · rename_i h
      have := hn.1 h
      exact ⟨by show a + 1 ≤ _; omega, this.2, this.1⟩
    · rename_i h
      exact ⟨by show 1 ≤ (tx_num B z 0 999 a).2.1; omega, by have := hn.2.1; show (tx_num B z 0 999 a).2.1 ≤ 4; omega, hn.2.2.1⟩
theorem ps_ok_pair {B : Nat → Int32} {z a : Nat} {u : Nat → ps_R} {h : Int32} (hB : ps_B B z) (hz : z ≤ 600) (hu : ps_gd z u) (ha : a ≤ z) : ps_ok1 z a (ps_pair B z u h a) := by
  unfold ps_pair
  refine ps_ok_th (ps_ok_sign hB hz (by decide) (by show a + 0 ≤ a + 1; omega) ha (Nat.le_refl _)) (fun b _ q1 q2 q3 => ?_)
  refine ps_ok_th (ps_ok_le (ps_gd_iff.mp hu b q2) (by omega)) (fun c cs r1 r2 r3 => ?_)
  refine ps_ok_th (ps_ok_sign hB hz (by decide) (by omega) r2 (by omega)) (fun e ds s1 s2 s3 => ?_)
  have hg := ps_gd_iff.mp hu e s2
  cases hx : u e with
  | inl x => rw [hx] at hg; exact hg
  | inr q =>
    obtain ⟨f, fs⟩ := q
    rw [hx] at hg
    obtain ⟨g1, g2, g3⟩ := hg
    have g1 : e + fs.length ≤ f := g1
    rw [ps_th_r]
    exact ps_ok_sign hB hz (by decide) (by simp only [List.length_append, List.length_cons, List.length_nil]; omega) g2 (by omega)
theorem ps_ok_par {B : Nat → Int32} {z a : Nat} {u : Nat → ps_R} (hB : ps_B B z) (hz : z ≤ 600) (hu : ps_gd z u) (ha : a ≤ z) : ps_ok1 z a (ps_par B z u a) := by
  unfold ps_par
  exact ps_ok_th (ps_gd_iff.mp hu a ha) (fun b cs q1 q2 q3 => ps_ok_sign hB hz (by decide) (by omega) q2 (by omega))
theorem ps_gd_one {B : Nat → Int32} {z : Nat} (hB : ps_B B z) (hz : z ≤ 600) : ∀ r, ps_gd z (ps_one B z r)
  | 0 => by
    rw [ps_gd_iff]
    intro a ha
    have hk2 := tx_sk_z (B := B) ha
    show ps_ok1 z a (if _ then _ else _)
    split
    · exact ⟨Nat.le_of_ble_eq_true rfl, Nat.le_of_ble_eq_true rfl, hk2⟩
    · exact ps_ok_le (ps_ok_atom hB hz hk2) tx_sk_ge
  | r + 1 => by
    have ih := ps_gd_sum hB hz (ps_gd_one hB hz r)
    rw [ps_gd_iff]
    intro a ha
    have hk : a ≤ tx_sk B z a := tx_sk_ge
    have hk2 := tx_sk_z (B := B) ha
    have hw := tx_wd_z (B := B) hk2
    show ps_ok1 z a (if _ then _ else if _ then _ else if _ then _ else _)
    split
    · rename_i e
      rw [e] at hw
      have hw : tx_sk B z a + 5 ≤ z := hw
      exact ps_ok_le (ps_ok_pair hB hz ih hw) (by omega)
    · split
      · rename_i e
        rw [e] at hw
        have hw : tx_sk B z a + 4 ≤ z := hw
        exact ps_ok_le (ps_ok_pair hB hz ih hw) (by omega)
      · split
        · rename_i e
          have := ps_in_z hB (i := tx_sk B z a) (by omega) (by rw [e]; decide)
          exact ps_ok_le (ps_ok_par hB hz ih (by omega)) (by omega)
        · exact ps_ok_le (ps_ok_atom hB hz hk2) hk

theorem ps_o_sign {B : Nat → Int32} {M M1 M2 : ax_M} {z k r b : Nat} {c : Int32} {cs : List (Int32 × Int32)} (hB : ps_B B z) (hc : c ≠ -1) (h : ps_o B M M1 z k r (.inr (b, cs))) (h2 : M2 = tx_put M1 (tx_sg (tx_B M1) z c b).1 (tx_sg (tx_B M1) z c b).2.1 (tx_sg (tx_B M1) z c b).2.2) : ps_o B M M2 z k r (ps_sign B z c b cs) := by
  have hi := h.2.1
  have hbz : b ≤ z := hi.2.2.1
  have h150 := hi.2.2.2.1
  have hk : b ≤ tx_sk B z b := tx_sk_ge
  have hk2 := tx_sk_z (B := B) hbz
  rw [hi.2.1] at h2
  unfold ps_sign
  unfold tx_sg at h2
  by_cases e : B (tx_sk B z b) = c
  · rw [if_pos e] at h2 ⊢
    have := ps_in_z hB (i := tx_sk B z b) (by omega) (by rw [e]; exact hc)
    exact ps_o_at h (by omega) (by omega) h2
  · rw [if_neg e] at h2 ⊢
    have h3 : M2 = ax_pI (ax_pI (ax_pI M1 90 4 (nI (tx_sk B z b))) 90 5 (nI 1)) 90 6 (nI (tx_sk B z b)) := h2
    subst h3
    exact ⟨ps_fr_tr h.1 (ps_fr_tr (ps_fr_tr (ps_fr_p (by omega)) (ps_fr_p (by omega))) (ps_fr_p (by omega))), by rw [ax_pn (by decide)]; exact ax_pa _ _ _ _, ax_pa _ _ _ _, tx_sk B z b, by omega, by rw [ax_pn (by decide), ax_pn (by decide)]; exact ax_pa _ _ _ _⟩
theorem ps_o_lv {B : Nat → Int32} {M M1 M2 M3 : ax_M} {z k r : Nat} {x : ps_R} (hr : r + 1 ≤ 6) (hf : ps_fr M M1) (h16 : ∀ j, M1.1 116 j = M.1 116 j) (h : ps_o B M1 M2 z k r x) (h3 : M3 = ax_pI M2 90 8 (nI (6 - (r + 1)))) : ps_o B M M3 z k (r + 1) x := by
  subst h3
  refine ⟨ps_fr_tr (ps_fr_tr hf h.1) (ps_fr_p (by omega)), ?_⟩
  cases x with
  | inl e =>
    obtain ⟨q, q1, q2⟩ := h.2.2.2
    exact ⟨by rw [ax_pn (by decide)]; exact h.2.1, by rw [ax_pn (by decide)]; exact h.2.2.1, q, q1, by rw [ax_pn (by decide)]; exact q2⟩
  | inr q =>
    obtain ⟨-, ⟨⟨q1, q2, q3, q4, q5⟩, p2, p3, p4, p5, p6, p7, p8⟩, h4, h5⟩ := h
    exact ⟨⟨⟨q1, q2, by rw [ax_pn (by decide)]; exact q3, q4, by rw [ax_pn (by decide)]; exact q5⟩, p2, p3, p4, ax_pa _ _ _ _, hr, by rw [ax_pn (by decide)]; exact p7, p8⟩, fun j hj => by rw [ax_pn (by omega), h4 j hj, h16 j], fun j w hw => by rw [ax_pn (by omega), ax_pn (by omega)]; exact h5 j w hw⟩
theorem ps_six1 : tx_six 12 5 1 19 20 0 ps_least := ⟨⟨by decide, by decide⟩, by decide⟩
theorem ps_six2 : tx_six 13 15 19 20 0 0 ps_most := ⟨⟨by decide, by decide⟩, by decide⟩
section PO
variable {l : Launch} {G : ax_G} {d : Nat} {M : ax_M}
theorem c_X10_opens (hok : lo_ok M.2) (hf : M.1 90 5 = 0) {r : Nat} (hr : r ≤ 6) (ho : M.1 90 8 = nI (6 - r)) : ax_Met l G kX10_opens 1 0 0 M [av_r 90] (fun o M2 => o = .inl (some (av_i (if r = 0 then 0 else 1))) ∧ M2 = if r = 0 then ax_pI (ax_pI M 90 5 3) 90 6 (M.1 90 4) else ax_pI M 90 8 (nI (6 - r + 1))) := by
  have key : M.1 90 8 = 6 ↔ r = 0 := by
    rw [ho, show (6 : Int32) = nI 6 from rfl, nI_eq (by omega) (by omega)]
    omega
  refine ax_body (by decide) (Nat.le_of_ble_eq_true rfl) ?_
  refine ax_aload_n dX10_opens_0 rfl ?_
  refine ax_getI (f := 5) dX10_opens_1 acl_10 wd_1605 (by decide) rfl (lo_s hok 90 rfl) ?_
  refine ax_if_ne (tgt := 28) dX10_opens_4 (by decide) (fun hc => ?_) (fun hc => ?_)
  · exact absurd hf hc
  · refine ax_aload_n dX10_opens_7 rfl ?_
    refine ax_getI (f := 8) dX10_opens_8 acl_10 wd_1608 (by decide) rfl (lo_s hok 90 rfl) ?_
    refine ax_bipush (v := 6) dX10_opens_11 (by decide) ?_
    refine ax_icmp_ne (tgt := 28) dX10_opens_13 (by decide) (fun hc => ?_) (fun hc => ?_)
    · have hr0 : ¬ r = 0 := fun q => hc (key.mpr q)
      refine ax_aload_n dX10_opens_28 rfl ?_
      refine ax_getI (f := 5) dX10_opens_29 acl_10 wd_1605 (by decide) rfl (lo_s hok 90 rfl) ?_
      refine ax_if_ne (tgt := 45) dX10_opens_32 (by decide) (fun hc => ?_) (fun hc => ?_)
      · exact absurd hf hc
      · refine ax_aload_n dX10_opens_35 rfl ?_
        refine ax_dup dX10_opens_36 (by first | rfl | exact ax_crf _) ?_
        refine ax_getI (f := 8) dX10_opens_37 acl_10 wd_1608 (by decide) rfl (lo_s hok 90 rfl) ?_
        refine ax_iconst (v := 1) dX10_opens_40 (by decide) ?_
        refine ax_iadd dX10_opens_41 ?_
        refine ax_putI (f := 8) dX10_opens_42 acl_10 wd_1608 (by decide) rfl rfl (ax_nfI rfl) (lo_s hok 90 rfl) ?_
        refine ax_aload_n dX10_opens_45 rfl ?_
        refine ax_getI (f := 5) dX10_opens_46 acl_10 wd_1605 (by decide) rfl (lo_s hok 90 rfl) ?_
        refine ax_if_ne (tgt := 56) dX10_opens_49 (by decide) (fun hc => ?_) (fun hc => ?_)
        · exact absurd (by rw [ax_pn (by decide)]; exact hf) hc
        · refine ax_iconst (v := 1) dX10_opens_52 (by decide) ?_
          refine ax_goto (tgt := 57) dX10_opens_53 (by decide) ?_
          refine ax_zret dX10_opens_57 rfl ?_ ?_
          · exact Or.inr rfl
          · rw [if_neg hr0, if_neg hr0, ho, nI_1]; exact ⟨rfl, rfl⟩
    · have hr0 : r = 0 := key.mp hc
      refine ax_aload_n dX10_opens_16 rfl ?_
      refine ax_iconst (v := 3) dX10_opens_17 (by decide) ?_
      refine ax_aload_n dX10_opens_18 rfl ?_
      refine ax_getI (f := 4) dX10_opens_19 acl_10 wd_1604 (by decide) rfl (lo_s hok 90 rfl) ?_
      refine ax_callV (As := _) (d2 := _) (c1 := 0) (n1 := 0) (c_X10_wrong (d := 0) (M := M) hok _ _) dX10_opens_22 mX10_wrong wd_1813 acl_10 (lo_s hok 90 rfl) rfl (by omega) (by omega) (by omega) rfl rfl (fun _ _ h => by cases h.1) ?_
      rintro q M1 ⟨h1, hM1⟩; cases h1
      rw [if_pos hf] at hM1
      have hok1 : lo_ok M1.2 := by rw [hM1]; exact hok
      have hok := hok1
      have e5 : M1.1 90 5 = 3 := by rw [hM1, ax_pn (by decide)]; exact ax_pa _ _ _ _
      refine ax_goto (tgt := 45) dX10_opens_25 (by decide) ?_
      refine ax_aload_n dX10_opens_45 rfl ?_
      refine ax_getI (f := 5) dX10_opens_46 acl_10 wd_1605 (by decide) rfl (lo_s hok 90 rfl) ?_
      refine ax_if_ne (tgt := 56) dX10_opens_49 (by decide) (fun hc => ?_) (fun hc => ?_)
      · refine ax_iconst (v := 0) dX10_opens_56 (by decide) ?_
        refine ax_zret dX10_opens_57 rfl ?_ ?_
        · exact Or.inl rfl
        · rw [if_pos hr0, if_pos hr0]; exact ⟨rfl, hM1⟩
      · rw [e5] at hc; exact absurd hc (by decide)
end PO

