/-! ===== changes, images: the class ===== -/
def cpl (k c : Nat) : Nat := if k = 0 then 2 * c else if k = 1 then 4 + 2 * c else 24
def ru (r : Nat → Int) (k c : Nat) (a b : Int) (j : Nat) : Int := if j = 10 + cpl k c then a else if j = 11 + cpl k c then b else r j
def ch_ok (t : Nat → Int) (k c : Nat) : Prop := k < 3 ∧ (k = 0 → (c : Int) < t 1) ∧ (k = 1 → (c : Int) < t 2)
theorem ru_or (r : Nat → Int) (k c : Nat) (a b : Int) (j : Nat) : (j = 10 + cpl k c ∧ ru r k c a b j = a) ∨ (j = 11 + cpl k c ∧ ru r k c a b j = b) ∨ (j ≠ 10 + cpl k c ∧ j ≠ 11 + cpl k c ∧ ru r k c a b j = r j) := by
  unfold ru
  by_cases h : j = 10 + cpl k c
  · exact Or.inl ⟨h, if_pos h⟩
  · by_cases h2 : j = 11 + cpl k c
    · exact Or.inr (Or.inl ⟨h2, by rw [if_neg h, if_pos h2]⟩)
    · exact Or.inr (Or.inr ⟨h, h2, by rw [if_neg h, if_neg h2]⟩)
theorem cpl_b {r : Nat → Int} {k c : Nat} (ho : rd_ok r) (hk : ch_ok r k c) : cpl k c ≤ 24 ∧ ck k c := by
  have h0 := ho.1
  obtain ⟨h1, h2, h3⟩ := hk
  rcases (show k = 0 ∨ k = 1 ∨ k = 2 by omega) with rfl | rfl | rfl
  · have := h2 rfl
    exact ⟨by show 2 * c ≤ 24; omega, by omega, fun _ => by omega, fun h => by omega⟩
  · have := h3 rfl
    exact ⟨by show 4 + 2 * c ≤ 24; omega, by omega, fun h => by omega, fun _ => by omega⟩
  · exact ⟨Nat.le_refl _, by omega, fun h => by omega, fun h => by omega⟩
theorem ru_out {r : Nat → Int} {k c : Nat} {a b : Int} (ho : rd_ok r) (hk : ch_ok r k c) {j : Nat} (hj : j < 10 ∨ 36 ≤ j) : ru r k c a b j = r j := by
  have := (cpl_b ho hk).1
  rcases ru_or r k c a b j with h | h | h
  · omega
  · omega
  · exact h.2.2
def ch_b (r : Nat → Int) (k : Nat) (a b : Int) : Prop := (k = 0 → 1 ≤ a ∧ a ≤ 3) ∧ (k = 1 → 0 ≤ a ∧ a < r 0) ∧ (k = 2 → 0 ≤ a ∧ a ≤ 9) ∧ 0 ≤ b ∧ b ≤ 9
theorem ru_ok {r : Nat → Int} {k c : Nat} {a b : Int} (ho : rd_ok r) (hk : ch_ok r k c) (hb : ch_b r k a b) : rd_ok (ru r k c a b) := by
  have o : ∀ j, j < 10 ∨ 36 ≤ j → ru r k c a b j = r j := fun j hj => ru_out ho hk hj
  have hk0 := hk
  obtain ⟨h1, h2, h3⟩ := hk
  obtain ⟨r0, r1, r2, r3, r4⟩ := id ho
  obtain ⟨b0, b1, b2, b3, b4⟩ := hb
  have q0 := o 0 (by omega)
  have q1 := o 1 (by omega)
  have q2 := o 2 (by omega)
  have q3 := o 3 (by omega)
  have q4 := o 4 (by omega)
  have q5 := o 5 (by omega)
  have q6 := o 6 (by omega)
  have e : (k = 0 ∧ cpl k c = 2 * c) ∨ (k = 1 ∧ cpl k c = 4 + 2 * c) ∨ (k = 2 ∧ cpl k c = 24) := by
    rcases (show k = 0 ∨ k = 1 ∨ k = 2 by omega) with rfl | rfl | rfl
    · exact Or.inl ⟨rfl, rfl⟩
    · exact Or.inr (Or.inl ⟨rfl, rfl⟩)
    · exact Or.inr (Or.inr ⟨rfl, rfl⟩)
  refine ⟨?_, fun i hi => ?_, fun i hi => ?_, fun i hi => ?_, fun i hi => ?_⟩
  · rw [q0, q1, q2, q3, q4, q5, q6]
    have c1 := ru_or r k c a b 34
    have c2 := ru_or r k c a b 35
    omega
  · have hi2 := r1 i hi
    unfold rd_oc at hi2 ⊢
    rw [q1, o (40 + i) (by omega)]
    have c1 := ru_or r k c a b (10 + 2 * i)
    have c2 := ru_or r k c a b (11 + 2 * i)
    omega
  · have hi2 := r2 i hi
    rw [q2, q0]
    have c1 := ru_or r k c a b (14 + 2 * i)
    have c2 := ru_or r k c a b (15 + 2 * i)
    omega
  · rw [q3, q0, o (50 + i) (by omega)]
    exact r3 i hi
  · rw [q4, q0, o (60 + 2 * i) (by omega), o (61 + 2 * i) (by omega)]
    exact r4 i hi
theorem rd_wet_st {r r2 : Nat → Int} (ho : rd_ok r) (ho2 : rd_ok r2) (e : ∀ j, j < 10 ∨ 36 ≤ j → r2 j = r j) (x : Int) : rd_wet r2 x = rd_wet r x := by
  apply Bool.eq_iff_iff.mpr
  rw [rd_wet_iff ho, rd_wet_iff ho2, e 4 (by omega)]
  constructor
  · rintro ⟨k, h1, h2⟩
    rw [e (60 + 2 * k) (by omega), e (61 + 2 * k) (by omega)] at h2
    exact ⟨k, h1, h2⟩
  · rintro ⟨k, h1, h2⟩
    refine ⟨k, h1, ?_⟩
    rw [e (60 + 2 * k) (by omega), e (61 + 2 * k) (by omega)]
    exact h2
/-- the road with another state -/
theorem xr_st {M N : ax_M} {R : Nat} {r r2 : Nat → Int} (h : xr M R r) (ho : rd_ok r) (ho2 : rd_ok r2) (e : ∀ j, j < 10 ∨ 36 ≤ j → r2 j = r j) (hf : ∀ n i, R ≤ n → n ≤ R + 7 → n ≠ R + 3 → n ≠ R + 4 → n ≠ R + 6 → n ≠ R + 7 → ¬ (n = R ∧ (i = 9 ∨ i = 10)) → N.1 n i = M.1 n i) (h9 : N.1 R 9 = iI (r2 34)) (h10 : N.1 R 10 = iI (r2 35)) (hc : ∀ c : Nat, (c : Int) < r 1 → N.1 (R + 6) c = iI (r2 (10 + 2 * c)) ∧ N.1 (R + 7) c = iI (r2 (11 + 2 * c))) (hk : ∀ k : Nat, (k : Int) < r 2 → N.1 (R + 3) k = iI (r2 (14 + 2 * k)) ∧ N.1 (R + 4) k = iI (r2 (15 + 2 * k))) : xr N R r2 := by
  obtain ⟨⟨a0, a1, a2, a3, a4, a5, a6, a7, a8⟩, h2, h3, h4, nb, bs, b1, b2, b3, b4, b5, b6⟩ := h
  have g : ∀ i, i ≠ 9 → i ≠ 10 → N.1 R i = M.1 R i := fun i z1 z2 => hf R i (by omega) (by omega) (by omega) (by omega) (by omega) (by omega) (by omega)
  refine ⟨⟨?_, ?_, ?_, ?_, ?_, ?_, ?_, h9, h10⟩, fun c hc1 => ?_, fun k hk1 => ?_, fun x hx => ?_, nb, bs, ?_, ?_, fun i hi => ?_, b4, fun i hi => ?_, fun k hk1 => ?_⟩
  · rw [g 0 (by omega) (by omega), e 0 (by omega)]; exact a0
  · rw [g 16 (by omega) (by omega), e 1 (by omega)]; exact a1
  · rw [g 8 (by omega) (by omega), e 2 (by omega)]; exact a2
  · rw [g 3 (by omega) (by omega), e 3 (by omega)]; exact a3
  · rw [g 5 (by omega) (by omega), e 4 (by omega)]; exact a4
  · rw [g 11 (by omega) (by omega), e 5 (by omega)]; exact a5
  · rw [g 12 (by omega) (by omega), e 6 (by omega)]; exact a6
  · rw [e 1 (by omega)] at hc1
    have o0 := ho.1
    refine ⟨?_, hc c hc1⟩
    rw [hf (R + 5) c (by omega) (by omega) (by omega) (by omega) (by omega) (by omega) (by omega), e (40 + c) (by omega)]
    exact (h2 c hc1).1
  · rw [e 2 (by omega)] at hk1
    exact hk k hk1
  · rw [hf (R + 2) x (by omega) (by omega) (by omega) (by omega) (by omega) (by omega) (by omega), rd_wet_st ho ho2 e]
    exact h4 x hx
  · rw [e 3 (by omega)]; exact b1
  · rw [g 2 (by omega) (by omega)]; exact b2
  · rw [hf (R + 1) i (by omega) (by omega) (by omega) (by omega) (by omega) (by omega) (by omega), e 0 (by omega)]
    exact b3 i hi
  · obtain ⟨k, z1, z2⟩ := b5 i hi
    exact ⟨k, by rw [e 3 (by omega)]; exact z1, by rw [e (50 + k) (by omega)]; exact z2⟩
  · rw [e 3 (by omega)] at hk1
    obtain ⟨i, z1, z2⟩ := b6 k hk1
    exact ⟨i, z1, by rw [e (50 + k) (by omega)]; exact z2⟩
theorem mk_put_0 (M : ax_M) (R c : Nat) (f s : Int32) : mk_put M R 0 c f s = ax_pI (ax_pI M (R + 6) c f) (R + 7) c s := rfl
theorem mk_put_1 (M : ax_M) (R c : Nat) (f s : Int32) : mk_put M R 1 c f s = ax_pI (ax_pI M (R + 3) c f) (R + 4) c s := rfl
theorem mk_put_2 (M : ax_M) (R c : Nat) (f s : Int32) : mk_put M R 2 c f s = ax_pI (ax_pI M R 9 f) R 10 s := rfl
theorem ru_0 {r : Nat → Int} {k c : Nat} {a b : Int} {j : Nat} (h : j = 10 + cpl k c) : ru r k c a b j = a := if_pos h
theorem ru_1 {r : Nat → Int} {k c : Nat} {a b : Int} {j : Nat} (h : j = 11 + cpl k c) : ru r k c a b j = b := by unfold ru; rw [if_neg (by omega), if_pos h]
theorem ru_2 {r : Nat → Int} {k c : Nat} {a b : Int} {j : Nat} (h : j ≠ 10 + cpl k c) (h2 : j ≠ 11 + cpl k c) : ru r k c a b j = r j := by unfold ru; rw [if_neg h, if_neg h2]
theorem xr_put {M : ax_M} {R k c : Nat} {r : Nat → Int} {a b : Int} (h : xr M R r) (ho : rd_ok r) (hk : ch_ok r k c) (ho2 : rd_ok (ru r k c a b)) : xr (mk_put M R k c (iI a) (iI b)) R (ru r k c a b) := by
  have o : ∀ j, j < 10 ∨ 36 ≤ j → ru r k c a b j = r j := fun j hj => ru_out ho hk hj
  have o0 := ho.1
  have hk0 := hk
  have hh := h
  obtain ⟨k1, k2, k3⟩ := hk
  obtain ⟨⟨-, -, -, -, -, -, -, a7, a8⟩, h2, h3, -⟩ := h
  rcases (show k = 0 ∨ k = 1 ∨ k = 2 by omega) with rfl | rfl | rfl
  · have hc9 := k2 rfl
    have ec : cpl 0 c = 2 * c := rfl
    rw [mk_put_0]
    refine xr_st hh ho ho2 o (fun n i z1 z2 z3 z4 z5 z6 z7 => by rw [ax_pn (by omega), ax_pn (by omega)]) ?_ ?_ (fun d hd => ⟨?_, ?_⟩) (fun d hd => ⟨?_, ?_⟩)
    · rw [ax_pn (by omega), ax_pn (by omega), ru_2 (by omega) (by omega)]; exact a7
    · rw [ax_pn (by omega), ax_pn (by omega), ru_2 (by omega) (by omega)]; exact a8
    · rw [ax_pn (by omega)]
      by_cases z : d = c
      · subst z; rw [ax_pa, ru_0 (by omega)]
      · rw [ax_pn (by omega), ru_2 (by omega) (by omega)]; exact (h2 d hd).2.1
    · by_cases z : d = c
      · subst z; rw [ax_pa, ru_1 (by omega)]
      · rw [ax_pn (by omega), ax_pn (by omega), ru_2 (by omega) (by omega)]; exact (h2 d hd).2.2
    · rw [ax_pn (by omega), ax_pn (by omega), ru_2 (by omega) (by omega)]; exact (h3 d hd).1
    · rw [ax_pn (by omega), ax_pn (by omega), ru_2 (by omega) (by omega)]; exact (h3 d hd).2
  · have hc9 := k3 rfl
    have ec : cpl 1 c = 4 + 2 * c := rfl
    rw [mk_put_1]
    refine xr_st hh ho ho2 o (fun n i z1 z2 z3 z4 z5 z6 z7 => by rw [ax_pn (by omega), ax_pn (by omega)]) ?_ ?_ (fun d hd => ⟨?_, ?_⟩) (fun d hd => ⟨?_, ?_⟩)
    · rw [ax_pn (by omega), ax_pn (by omega), ru_2 (by omega) (by omega)]; exact a7
    · rw [ax_pn (by omega), ax_pn (by omega), ru_2 (by omega) (by omega)]; exact a8
    · rw [ax_pn (by omega), ax_pn (by omega), ru_2 (by omega) (by omega)]; exact (h2 d hd).2.1
    · rw [ax_pn (by omega), ax_pn (by omega), ru_2 (by omega) (by omega)]; exact (h2 d hd).2.2
    · rw [ax_pn (by omega)]
      by_cases z : d = c
      · subst z; rw [ax_pa, ru_0 (by omega)]
      · rw [ax_pn (by omega), ru_2 (by omega) (by omega)]; exact (h3 d hd).1
    · by_cases z : d = c
      · subst z; rw [ax_pa, ru_1 (by omega)]
      · rw [ax_pn (by omega), ax_pn (by omega), ru_2 (by omega) (by omega)]; exact (h3 d hd).2
  · have ec : cpl 2 c = 24 := rfl
    rw [mk_put_2]
    refine xr_st hh ho ho2 o (fun n i z1 z2 z3 z4 z5 z6 z7 => by rw [ax_pn (by omega), ax_pn (by omega)]) ?_ ?_ (fun d hd => ⟨?_, ?_⟩) (fun d hd => ⟨?_, ?_⟩)
    · rw [ax_pn (by omega), ax_pa, ru_0 (by omega)]
    · rw [ax_pa, ru_1 (by omega)]
    · rw [ax_pn (by omega), ax_pn (by omega), ru_2 (by omega) (by omega)]; exact (h2 d hd).2.1
    · rw [ax_pn (by omega), ax_pn (by omega), ru_2 (by omega) (by omega)]; exact (h2 d hd).2.2
    · rw [ax_pn (by omega), ax_pn (by omega), ru_2 (by omega) (by omega)]; exact (h3 d hd).1
    · rw [ax_pn (by omega), ax_pn (by omega), ru_2 (by omega) (by omega)]; exact (h3 d hd).2
/-- the class behind a changed state -/
theorem xI_st {M N : ax_M} {p : Nat → Nat} {r r2 : Nat → Int} {lw : mt_L} {es : List (Nat × Nat)} (hI : xI M p r lw es) (e2 : N.2 = M.2) (hr : xr N (p 0) r2) (ho2 : rd_ok r2) (hf : ∀ n i, n ≠ 1 → ¬ (p 0 ≤ n ∧ n ≤ p 0 + 7) → n < 79 → N.1 n i = M.1 n i) (h7 : N.1 1 7 = 0) (h10 : N.1 1 10 = -1) : xI N p r2 lw es := by
  obtain ⟨⟨t1, t2, t3, t4, t5⟩, h2, h3, h4⟩ := hI
  have hp := t1.2.1
  have p0 := hp.1
  have p6 := hp.2.1
  obtain ⟨f2, f3, f4, f5⟩ := hp.2.2.1
  have c2 : p 2 = 13 ∨ p 2 = 16 ∨ p 2 = 19 ∨ p 2 = 31 := f2
  have c3 : p 3 = 13 ∨ p 3 = 16 ∨ p 3 = 19 ∨ p 3 = 31 := f3
  have c4 : p 4 = 13 ∨ p 4 = 16 ∨ p 4 = 19 ∨ p 4 = 31 := f4
  exact xI_new ⟨by rw [e2]; exact t1, hr, ho2, ⟨xfm_fr t4.1 (fun n i z => hf n i (by omega) (by omega) (by omega)), xfm_fr t4.2.1 (fun n i z => hf n i (by omega) (by omega) (by omega)), xfm_fr t4.2.2 (fun n i z => hf n i (by omega) (by omega) (by omega))⟩, xbk_fr t5 (fun n i a => hf n i (by omega) (by omega) (by omega))⟩ (xw_fr h2.1 (fun n i z => hf n i (by omega) (by omega) (by omega))) (xw_fr h2.2 (fun n i z => hf n i (by omega) (by omega) (by omega))) h7 h10
theorem mk_put_n {M : ax_M} {R k c : Nat} {f s : Int32} {n i : Nat} (h : ¬ (R ≤ n ∧ n ≤ R + 7)) : (mk_put M R k c f s).1 n i = M.1 n i := by
  have : (R ≤ (cq1 R k c).1 ∧ (cq1 R k c).1 ≤ R + 7) ∧ (R ≤ (cq2 R k c).1 ∧ (cq2 R k c).1 ≤ R + 7) := by
    unfold cq1 cq2
    constructor
    · split
      · show R ≤ R + 6 ∧ R + 6 ≤ R + 7; omega
      · split
        · show R ≤ R + 3 ∧ R + 3 ≤ R + 7; omega
        · show R ≤ R ∧ R ≤ R + 7; omega
    · split
      · show R ≤ R + 7 ∧ R + 7 ≤ R + 7; omega
      · split
        · show R ≤ R + 4 ∧ R + 4 ≤ R + 7; omega
        · show R ≤ R ∧ R ≤ R + 7; omega
  unfold mk_put
  rw [ax_pn (by omega), ax_pn (by omega)]
theorem mk_rec_n {M : ax_M} {R j k c : Nat} {n i : Nat} (h : n < 79 ∨ 83 < n) : (mk_rec M R j k c).1 n i = M.1 n i := by
  unfold mk_rec
  rw [ax_pn (by omega), ax_pn (by omega), ax_pn (by omega), ax_pn (by omega), ax_pn (by omega)]
theorem xI_lo {M C : ax_M} {p : Nat → Nat} {r : Nat → Int} {lw : mt_L} {es : List (Nat × Nat)} (h : xI M p r lw es) (e2 : C.2 = M.2) (hf : ∀ n i, n < 79 → C.1 n i = M.1 n i) : xI C p r lw es := by
  obtain ⟨⟨t1, t2, t3, t4, t5⟩, h2, h3, h4⟩ := h
  have hp := t1.2.1
  have p0 := hp.1
  have p6 := hp.2.1
  refine ⟨⟨by rw [e2]; exact t1, xr_fr t2 (fun n i a b => hf n i (by omega)), t3, xlw_fr hp t4 (fun n i a _ _ => hf n i (by omega)), xbk_fr t5 (fun n i a => hf n i (by omega))⟩, ⟨xw_fr h2.1 (fun n i z => hf n i (by omega)), xw_fr h2.2 (fun n i z => hf n i (by omega))⟩, ?_, xD_fr h4 (hf _ _ (by omega)) (fun n i z => hf n i (by omega))⟩
  rcases h3 with h3 | ⟨h3, h5⟩
  · exact Or.inl ((hf 1 7 (by omega)).trans h3)
  · exact Or.inr ⟨(hf 1 7 (by omega)).trans h3, xmt_fr h5 (fun n i z => hf n i (by omega))⟩
section X99d
variable {l : Launch} {G : ax_G} {M : ax_M} {p : Nat → Nat} {r : Nat → Int} {lw : mt_L} {es : List (Nat × Nat)}
def mk_chg (M : ax_M) (R n k c : Nat) (f s : Int32) : ax_M := ax_pI (ax_pI (mk_put (mk_rec M R n k c) R k c f s) 1 7 0) 1 10 (-1)
def mk_und (M : ax_M) (R n k c : Nat) (f s : Int32) : ax_M := ax_pI (ax_pI (mk_put (ax_pI M 79 4 (nI (n - 1))) R k c f s) 1 7 0) 1 10 (-1)
def xch (M M2 : ax_M) (p : Nat → Nat) (r : Nat → Int) (lw : mt_L) (es : List (Nat × Nat)) (n k c : Nat) (a b : Int) (o : ax_O) : Prop := (n = 20 ∧ o = .inl (some (av_i 0)) ∧ M2 = M) ∨ (n < 20 ∧ o = .inl (some (av_i 1)) ∧ M2 = mk_chg M (p 0) n k c (iI a) (iI b) ∧ xI M2 p (ru r k c a b) lw es)
theorem x_change (hI : xI M p r lw es) {n : Nat} (hn : M.1 79 4 = nI n) (hn2 : n ≤ 20) {k c : Nat} (hk : ch_ok r k c) {a b : Int} (hab : ch_b r k a b) {x1 x2 f s : Int32} (e1 : x1 = nI k) (e2 : x2 = nI c) (e3 : f = iI a) (e4 : s = iI b) : ax_Met l G kX9_change 2 0 0 M [av_r 1, av_i x1, av_i x2, av_i f, av_i s] (fun o M2 => xch M M2 p r lw es n k c a b o) := by
  subst e1 e2 e3 e4
  have hx := hI.1.1
  have hok := hx.1
  have hr := hI.1.2.1
  have ho := hI.1.2.2.1
  have p0 := hx.2.1.1
  have ho2 := ru_ok ho hk hab
  refine ax_body (by decide) (Nat.le_of_ble_eq_true rfl) ?_
  refine ax_aload_n dX9_change_0 rfl ?_
  refine ax_getK (f := 13) 79 dX9_change_1 acl_9 wd_560 (by decide) rfl (lo_s hok 1 rfl) (lo_r hok 7 rfl) ?_
  refine ax_aload_n dX9_change_4 rfl ?_
  refine ax_getK (f := 1) 4 dX9_change_5 acl_9 wd_548 (by decide) rfl (lo_s hok 1 rfl) (lo_r hok 1 rfl) ?_
  refine ax_getKN (f := 0) (p 0) dX9_change_8 acl_7 wd_367 (by decide) rfl (lo_s hok 4 rfl) (xk_r0 hx) ?_
  refine ax_iload_n dX9_change_11 rfl ?_
  refine ax_iload_n dX9_change_12 rfl ?_
  refine ax_iload_n dX9_change_13 rfl ?_
  refine ax_iload dX9_change_14 rfl ?_
  refine ax_callVN (As := _) (d2 := _) (c1 := 0) (n1 := 0) (c_xmake (M := M) hok (xk_b0 hx) hn hn2 (cpl_b ho hk).2 (iI a) (iI b)) dX9_change_16 mX1_make wd_1556 acl_1 (lo_s hok 79 rfl) rfl (by omega) (by omega) (by omega) rfl rfl (fun E M9 h9 => by rcases h9 with h9 | h9 <;> cases h9.2.1) ?_
  rintro v A (⟨hn3, q, hA⟩ | ⟨hn3, q, hA⟩)
  · cases q
    refine ax_if_ne (tgt := 24) dX9_change_19 (by decide) (fun hc => ?_) (fun hc => ?_)
    · exact absurd rfl hc
    · refine ax_iconst (v := 0) dX9_change_22 (by decide) ?_
      refine ax_iret dX9_change_23 rfl ?_
      exact Or.inl ⟨hn3, rfl, hA⟩
  · cases q
    have hok : lo_ok A.2 := by rw [hA]; exact hok
    refine ax_if_ne (tgt := 24) dX9_change_19 (by decide) (fun hc => ?_) (fun hc => ?_)
    · refine ax_aload_n dX9_change_24 rfl ?_
      refine ax_callV (As := _) (d2 := _) (c1 := 0) (n1 := 0) (x_meetingChanged (d := 1) (M := A) hok) dX9_change_25 mX9_meetingChanged wd_741 acl_9 (lo_s hok 1 rfl) rfl (by omega) (by omega) (by omega) rfl rfl (fun _ _ h => by cases h.1) ?_
      rintro v D ⟨q, hD⟩
      cases q
      refine ax_iconst (v := 1) dX9_change_28 (by decide) ?_
      refine ax_iret dX9_change_29 rfl ?_
      have hD2 : D = mk_chg M (p 0) n k c (iI a) (iI b) := by rw [hD, hA]; rfl
      refine Or.inr ⟨hn3, rfl, hD2, xI_st hI (by rw [hD2]; rfl) ?_ ho2 (fun m i z1 z2 z3 => ?_) ?_ ?_⟩
      · have h9 : xr (mk_put (mk_rec M (p 0) n k c) (p 0) k c (iI a) (iI b)) (p 0) (ru r k c a b) := xr_put (xr_fr hr (fun m i z1 z2 => mk_rec_n (by omega))) ho hk ho2
        rw [hD, hA]
        exact xr_fr h9 (fun m i z1 z2 => by rw [ax_pn (by omega), ax_pn (by omega)])
      · rw [hD, ax_pn (by omega), ax_pn (by omega), hA, mk_put_n z2, mk_rec_n (by omega)]
      · rw [hD, ax_pn (by omega), ax_pa]
      · rw [hD, ax_pa]
    · exact absurd hc (by decide)
/-- how a change is answered -/
def xcg (g1 g2 : Prop) (M M2 : ax_M) (p : Nat → Nat) (r : Nat → Int) (lw : mt_L) (es : List (Nat × Nat)) (n k : Nat) (x f s : Int32) (o : ax_O) : Prop := (¬ g1 ∧ o = .inr (cz_n 0) ∧ xre M M2 0) ∨ (g1 ∧ ¬ g2 ∧ o = .inr (cz_n 1) ∧ xre M M2 1) ∨ (g1 ∧ g2 ∧ ∃ (c : Nat) (a b : Int), x = nI c ∧ f = iI a ∧ s = iI b ∧ ch_ok r k c ∧ ch_b r k a b ∧ xch M M2 p r lw es n k c a b o)
theorem iv_b {x : Int32} {m n : Int} (h : (iI m) ≤ x ∧ x ≤ iI n) (hm : iI_b m) (hn : iI_b n) : m ≤ x.toInt ∧ x.toInt ≤ n := by
  obtain ⟨h1, h2⟩ := h
  rw [iv_le, iI_t hm] at h1
  rw [iv_le, iI_t hn] at h2
  exact ⟨h1, h2⟩
theorem x_drives (hl9 : l.stackTraces = false) (hI : xI M p r lw es) {n : Nat} (hn : M.1 79 4 = nI n) (hn2 : n ≤ 20) (x y z : Int32) : ax_Met l G kX9_drives 8 3 18 M [av_r 1, av_i x, av_i y, av_i z] (fun o M2 => xcg (0 ≤ x ∧ x ≤ iI (r 1) - 1) ((1 ≤ y ∧ y ≤ 3) ∧ (0 ≤ z ∧ z ≤ 9)) M M2 p r lw es n 0 x y z o) := by
  have hx := hI.1.1
  have hok := hx.1
  have hr := hI.1.2.1
  have ho := hI.1.2.2.1
  have h0 := ho.1
  refine ax_body (by decide) (Nat.le_of_ble_eq_true rfl) ?_
  refine ax_aload_n dX9_drives_0 rfl ?_
  refine ax_iload_n dX9_drives_1 rfl ?_
  refine ax_callVX (As := _) (d2 := _) (c1 := 2) (n1 := 12) (c_needCar (M := M) hl9 hx hr ho) dX9_drives_2 mX9_needCar wd_1136 acl_9 (lo_s hok 1 rfl) rfl (by omega) (by omega) (by omega) rfl rfl (fun E M2 h => by obtain ⟨h1, h2, h3⟩ := xN_ex h; exact Or.inl ⟨h1, by rw [h2], h3⟩) ?_
  refine xN_k (fun g1 => ?_)
  refine ax_aload_n dX9_drives_5 rfl ?_
  refine ax_iload_n dX9_drives_6 rfl ?_
  refine ax_iconst (v := 1) dX9_drives_7 (by decide) ?_
  refine ax_iconst (v := 3) dX9_drives_8 (by decide) ?_
  refine ax_callVX (As := _) (d2 := _) (c1 := 1) (n1 := 6) (c_needRange (M := M) hl9 hok) dX9_drives_9 mX9_needRange wd_1121 acl_9 (lo_s hok 1 rfl) rfl (by omega) (by omega) (by omega) rfl rfl (fun E M2 h => by obtain ⟨h1, h2, h3⟩ := xN_ex h; exact Or.inr (Or.inl ⟨g1, fun q => h1 q.1, by rw [h2], h3⟩)) ?_
  refine xN_k (fun g2 => ?_)
  refine ax_aload_n dX9_drives_12 rfl ?_
  refine ax_iload_n dX9_drives_13 rfl ?_
  refine ax_iconst (v := 0) dX9_drives_14 (by decide) ?_
  refine ax_bipush (v := 9) dX9_drives_15 (by decide) ?_
  refine ax_callVX (As := _) (d2 := _) (c1 := 0) (n1 := 0) (c_needRange (M := M) hl9 hok) dX9_drives_17 mX9_needRange wd_1121 acl_9 (lo_s hok 1 rfl) rfl (by omega) (by omega) (by omega) rfl rfl (fun E M2 h => by obtain ⟨h1, h2, h3⟩ := xN_ex h; exact Or.inr (Or.inl ⟨g1, fun q => h1 q.2, by rw [h2], h3⟩)) ?_
  refine xN_k (fun g3 => ?_)
  obtain ⟨c, hc1, rfl⟩ := in_car g1 (by omega) (by omega)
  have hk : ch_ok r 0 c := ⟨by omega, fun _ => hc1, fun q => by omega⟩
  have b1 := iv_b (m := 1) (n := 3) g2 (by unfold iI_b; omega) (by unfold iI_b; omega)
  have b2 := iv_b (m := 0) (n := 9) g3 (by unfold iI_b; omega) (by unfold iI_b; omega)
  have hb : ch_b r 0 y.toInt z.toInt := ⟨fun _ => b1, fun q => by omega, fun q => by omega, b2⟩
  refine ax_aload_n dX9_drives_20 rfl ?_
  refine ax_iconst (v := 0) dX9_drives_21 (by decide) ?_
  refine ax_iload_n dX9_drives_22 rfl ?_
  refine ax_iload_n dX9_drives_23 rfl ?_
  refine ax_iload_n dX9_drives_24 rfl ?_
  refine ax_callV (As := _) (d2 := _) (c1 := 0) (n1 := 0) (x_change (M := M) hI hn hn2 hk hb rfl rfl (iI_of y).symm (iI_of z).symm) dX9_drives_25 mX9_change wd_1552 acl_9 (lo_s hok 1 rfl) rfl (by omega) (by omega) (by omega) rfl rfl (fun E M9 h9 => by rcases h9 with h9 | h9 <;> cases h9.2.1) ?_
  rintro v A h
  obtain ⟨u, rfl⟩ : ∃ u, v = some (av_i u) := by rcases h with h | h; exact ⟨_, Sum.inl.inj h.2.1⟩; exact ⟨_, Sum.inl.inj h.2.1⟩
  refine ax_iret dX9_drives_28 rfl ?_
  exact Or.inr (Or.inr ⟨g1, ⟨g2, g3⟩, c, _, _, rfl, (iI_of y).symm, (iI_of z).symm, hk, hb, h⟩)
theorem x_stands (hl9 : l.stackTraces = false) (hI : xI M p r lw es) {n : Nat} (hn : M.1 79 4 = nI n) (hn2 : n ≤ 20) (x y z : Int32) : ax_Met l G kX9_stands 8 3 18 M [av_r 1, av_i x, av_i y, av_i z] (fun o M2 => xcg (0 ≤ x ∧ x ≤ iI (r 2) - 1) ((0 ≤ y ∧ y ≤ iI (r 0) - 1) ∧ (0 ≤ z ∧ z ≤ 9)) M M2 p r lw es n 1 x y z o) := by
  have hx := hI.1.1
  have hok := hx.1
  have hr := hI.1.2.1
  have ho := hI.1.2.2.1
  have h0 := ho.1
  refine ax_body (by decide) (Nat.le_of_ble_eq_true rfl) ?_
  refine ax_aload_n dX9_stands_0 rfl ?_
  refine ax_iload_n dX9_stands_1 rfl ?_
  refine ax_callVX (As := _) (d2 := _) (c1 := 2) (n1 := 12) (c_needCoat (M := M) hl9 hx hr ho) dX9_stands_2 mX9_needCoat wd_1148 acl_9 (lo_s hok 1 rfl) rfl (by omega) (by omega) (by omega) rfl rfl (fun E M2 h => by obtain ⟨h1, h2, h3⟩ := xN_ex h; exact Or.inl ⟨h1, by rw [h2], h3⟩) ?_
  refine xN_k (fun g1 => ?_)
  refine ax_aload_n dX9_stands_5 rfl ?_
  refine ax_iload_n dX9_stands_6 rfl ?_
  refine ax_iconst (v := 0) dX9_stands_7 (by decide) ?_
  refine ax_aload_n dX9_stands_8 rfl ?_
  refine ax_getK (f := 1) 4 dX9_stands_9 acl_9 wd_548 (by decide) rfl (lo_s hok 1 rfl) (lo_r hok 1 rfl) ?_
  refine ax_getKN (f := 0) (p 0) dX9_stands_12 acl_7 wd_367 (by decide) rfl (lo_s hok 4 rfl) (xk_r0 hx) ?_
  refine ax_getIN (f := 0) dX9_stands_15 acl_5 wd_253 (by decide) rfl (xs_R_0 (xk_b0 hx) hok) ?_
  rw [hr.1.1]
  refine ax_iconst (v := 1) dX9_stands_18 (by decide) ?_
  refine ax_isub dX9_stands_19 ?_
  refine ax_callVX (As := _) (d2 := _) (c1 := 1) (n1 := 6) (c_needRange (M := M) hl9 hok) dX9_stands_20 mX9_needRange wd_1121 acl_9 (lo_s hok 1 rfl) rfl (by omega) (by omega) (by omega) rfl rfl (fun E M2 h => by obtain ⟨h1, h2, h3⟩ := xN_ex h; exact Or.inr (Or.inl ⟨g1, fun q => h1 q.1, by rw [h2], h3⟩)) ?_
  refine xN_k (fun g2 => ?_)
  refine ax_aload_n dX9_stands_23 rfl ?_
  refine ax_iload_n dX9_stands_24 rfl ?_
  refine ax_iconst (v := 0) dX9_stands_25 (by decide) ?_
  refine ax_bipush (v := 9) dX9_stands_26 (by decide) ?_
  refine ax_callVX (As := _) (d2 := _) (c1 := 0) (n1 := 0) (c_needRange (M := M) hl9 hok) dX9_stands_28 mX9_needRange wd_1121 acl_9 (lo_s hok 1 rfl) rfl (by omega) (by omega) (by omega) rfl rfl (fun E M2 h => by obtain ⟨h1, h2, h3⟩ := xN_ex h; exact Or.inr (Or.inl ⟨g1, fun q => h1 q.2, by rw [h2], h3⟩)) ?_
  refine xN_k (fun g3 => ?_)
  obtain ⟨c, hc1, rfl⟩ := in_car g1 (by omega) (by omega)
  have hk : ch_ok r 1 c := ⟨by omega, fun q => by omega, fun _ => hc1⟩
  have b1 := iv_b (m := 0) (n := r 0 - 1) (x := y) ⟨g2.1, by rw [← iI_sub]; exact g2.2⟩ (by unfold iI_b; omega) (by unfold iI_b; omega)
  have b2 := iv_b (m := 0) (n := 9) g3 (by unfold iI_b; omega) (by unfold iI_b; omega)
  have hb : ch_b r 1 y.toInt z.toInt := ⟨fun q => by omega, fun _ => by omega, fun q => by omega, b2⟩
  refine ax_aload_n dX9_stands_31 rfl ?_
  refine ax_iconst (v := 1) dX9_stands_32 (by decide) ?_
  refine ax_iload_n dX9_stands_33 rfl ?_
  refine ax_iload_n dX9_stands_34 rfl ?_
  refine ax_iload_n dX9_stands_35 rfl ?_
  refine ax_callV (As := _) (d2 := _) (c1 := 0) (n1 := 0) (x_change (M := M) hI hn hn2 hk hb rfl rfl (iI_of y).symm (iI_of z).symm) dX9_stands_36 mX9_change wd_1552 acl_9 (lo_s hok 1 rfl) rfl (by omega) (by omega) (by omega) rfl rfl (fun E M9 h9 => by rcases h9 with h9 | h9 <;> cases h9.2.1) ?_
  rintro v A h
  obtain ⟨u, rfl⟩ : ∃ u, v = some (av_i u) := by rcases h with h | h; exact ⟨_, Sum.inl.inj h.2.1⟩; exact ⟨_, Sum.inl.inj h.2.1⟩
  refine ax_iret dX9_stands_39 rfl ?_
  exact Or.inr (Or.inr ⟨g1, ⟨g2, g3⟩, c, _, _, rfl, (iI_of y).symm, (iI_of z).symm, hk, hb, h⟩)
theorem x_weather (hl9 : l.stackTraces = false) (hI : xI M p r lw es) {n : Nat} (hn : M.1 79 4 = nI n) (hn2 : n ≤ 20) (y z : Int32) : ax_Met l G kX9_weather 8 2 12 M [av_r 1, av_i y, av_i z] (fun o M2 => xcg True ((0 ≤ y ∧ y ≤ 9) ∧ (0 ≤ z ∧ z ≤ 9)) M M2 p r lw es n 2 0 y z o) := by
  have hx := hI.1.1
  have hok := hx.1
  have hr := hI.1.2.1
  have ho := hI.1.2.2.1
  have h0 := ho.1
  refine ax_body (by decide) (Nat.le_of_ble_eq_true rfl) ?_
  refine ax_aload_n dX9_weather_0 rfl ?_
  refine ax_iload_n dX9_weather_1 rfl ?_
  refine ax_iconst (v := 0) dX9_weather_2 (by decide) ?_
  refine ax_bipush (v := 9) dX9_weather_3 (by decide) ?_
  refine ax_callVX (As := _) (d2 := _) (c1 := 1) (n1 := 6) (c_needRange (M := M) hl9 hok) dX9_weather_5 mX9_needRange wd_1121 acl_9 (lo_s hok 1 rfl) rfl (by omega) (by omega) (by omega) rfl rfl (fun E M2 h => by obtain ⟨h1, h2, h3⟩ := xN_ex h; exact Or.inr (Or.inl ⟨trivial, fun q => h1 q.1, by rw [h2], h3⟩)) ?_
  refine xN_k (fun g2 => ?_)
  refine ax_aload_n dX9_weather_8 rfl ?_
  refine ax_iload_n dX9_weather_9 rfl ?_
  refine ax_iconst (v := 0) dX9_weather_10 (by decide) ?_
  refine ax_bipush (v := 9) dX9_weather_11 (by decide) ?_
  refine ax_callVX (As := _) (d2 := _) (c1 := 0) (n1 := 0) (c_needRange (M := M) hl9 hok) dX9_weather_13 mX9_needRange wd_1121 acl_9 (lo_s hok 1 rfl) rfl (by omega) (by omega) (by omega) rfl rfl (fun E M2 h => by obtain ⟨h1, h2, h3⟩ := xN_ex h; exact Or.inr (Or.inl ⟨trivial, fun q => h1 q.2, by rw [h2], h3⟩)) ?_
  refine xN_k (fun g3 => ?_)
  have hk : ch_ok r 2 0 := ⟨by omega, fun q => by omega, fun q => by omega⟩
  have b1 := iv_b (m := 0) (n := 9) g2 (by unfold iI_b; omega) (by unfold iI_b; omega)
  have b2 := iv_b (m := 0) (n := 9) g3 (by unfold iI_b; omega) (by unfold iI_b; omega)
  have hb : ch_b r 2 y.toInt z.toInt := ⟨fun q => by omega, fun q => by omega, fun _ => b1, b2⟩
  refine ax_aload_n dX9_weather_16 rfl ?_
  refine ax_iconst (v := 2) dX9_weather_17 (by decide) ?_
  refine ax_iconst (v := 0) dX9_weather_18 (by decide) ?_
  refine ax_iload_n dX9_weather_19 rfl ?_
  refine ax_iload_n dX9_weather_20 rfl ?_
  refine ax_callV (As := _) (d2 := _) (c1 := 0) (n1 := 0) (x_change (M := M) hI hn hn2 hk hb rfl rfl (iI_of y).symm (iI_of z).symm) dX9_weather_21 mX9_change wd_1552 acl_9 (lo_s hok 1 rfl) rfl (by omega) (by omega) (by omega) rfl rfl (fun E M9 h9 => by rcases h9 with h9 | h9 <;> cases h9.2.1) ?_
  rintro v A h
  obtain ⟨u, rfl⟩ : ∃ u, v = some (av_i u) := by rcases h with h | h; exact ⟨_, Sum.inl.inj h.2.1⟩; exact ⟨_, Sum.inl.inj h.2.1⟩
  refine ax_iret dX9_weather_24 rfl ?_
  exact Or.inr (Or.inr ⟨trivial, ⟨g2, g3⟩, 0, _, _, rfl, (iI_of y).symm, (iI_of z).symm, hk, hb, h⟩)
theorem x_undo (hI : xI M p r lw es) {n : Nat} (hn : M.1 79 4 = nI n) (hn2 : n ≤ 20) {k c : Nat} {a b : Int} (hk : 0 < n → ch_ok r k c ∧ rd_ok (ru r k c a b) ∧ M.1 80 (n - 1) = nI k ∧ M.1 81 (n - 1) = nI c ∧ M.1 82 (n - 1) = iI a ∧ M.1 83 (n - 1) = iI b) : ax_Met l G kX9_undo 2 0 0 M [av_r 1] (fun o M2 => (n = 0 ∧ o = .inl (some (av_i (-1))) ∧ M2 = M) ∨ (0 < n ∧ o = .inl (some (av_i (nI (n - 1)))) ∧ M2 = mk_und M (p 0) n k c (iI a) (iI b) ∧ xI M2 p (ru r k c a b) lw es)) := by
  have hx := hI.1.1
  have hok := hx.1
  have hr := hI.1.2.1
  have ho := hI.1.2.2.1
  have p0 := hx.2.1.1
  refine ax_body (by decide) (Nat.le_of_ble_eq_true rfl) ?_
  refine ax_aload_n dX9_undo_0 rfl ?_
  refine ax_getK (f := 13) 79 dX9_undo_1 acl_9 wd_560 (by decide) rfl (lo_s hok 1 rfl) (lo_r hok 7 rfl) ?_
  refine ax_aload_n dX9_undo_4 rfl ?_
  refine ax_getK (f := 1) 4 dX9_undo_5 acl_9 wd_548 (by decide) rfl (lo_s hok 1 rfl) (lo_r hok 1 rfl) ?_
  refine ax_getKN (f := 0) (p 0) dX9_undo_8 acl_7 wd_367 (by decide) rfl (lo_s hok 4 rfl) (xk_r0 hx) ?_
  refine ax_callVN (As := _) (d2 := _) (c1 := 0) (n1 := 0) (c_takeBack (M := M) hok (xk_b0 hx) hn hn2 (k := k) (c := c) (fun h => ⟨(cpl_b ho (hk h).1).2, (hk h).2.2.1, (hk h).2.2.2.1⟩)) dX9_undo_11 mX1_takeBack wd_734 acl_1 (lo_s hok 79 rfl) rfl (by omega) (by omega) (by omega) rfl rfl (fun E M9 h9 => by rcases h9 with h9 | h9 <;> cases h9.2.1) ?_
  rintro v A (⟨hn3, q, hA⟩ | ⟨hn3, q, hA⟩)
  · cases q
    refine ax_if_ne (tgt := 19) dX9_undo_14 (by decide) (fun hc => ?_) (fun hc => ?_)
    · exact absurd rfl hc
    · refine ax_iconst (v := (-1)) dX9_undo_17 (by decide) ?_
      refine ax_iret dX9_undo_18 rfl ?_
      exact Or.inl ⟨hn3, rfl, hA⟩
  · cases q
    obtain ⟨k1, k2, k3, k4, k5, k6⟩ := hk hn3
    rw [k5, k6] at hA
    have hok : lo_ok A.2 := by rw [hA]; exact hok
    refine ax_if_ne (tgt := 19) dX9_undo_14 (by decide) (fun hc => ?_) (fun hc => ?_)
    · refine ax_aload_n dX9_undo_19 rfl ?_
      refine ax_callV (As := _) (d2 := _) (c1 := 0) (n1 := 0) (x_meetingChanged (d := 1) (M := A) hok) dX9_undo_20 mX9_meetingChanged wd_741 acl_9 (lo_s hok 1 rfl) rfl (by omega) (by omega) (by omega) rfl rfl (fun _ _ h => by cases h.1) ?_
      rintro v D ⟨q, hD⟩
      cases q
      have hok : lo_ok D.2 := by rw [hD]; exact hok
      have hD2 : D = mk_und M (p 0) n k c (iI a) (iI b) := by rw [hD, hA]; rfl
      have e4 : D.1 79 4 = nI (n - 1) := by rw [hD, ax_pn (by omega), ax_pn (by omega), hA, mk_put_n (by omega), ax_pa]
      refine ax_aload_n dX9_undo_23 rfl ?_
      refine ax_getK (f := 13) 79 dX9_undo_24 acl_9 wd_560 (by decide) rfl (lo_s hok 1 rfl) (lo_r hok 7 rfl) ?_
      refine ax_getIN (f := 4) dX9_undo_27 acl_1 wd_525 (by decide) rfl (lo_s hok 79 rfl) ?_
      rw [e4]
      refine ax_iret dX9_undo_30 rfl ?_
      refine Or.inr ⟨hn3, rfl, hD2, xI_st hI (by rw [hD2]; rfl) ?_ k2 (fun m i z1 z2 z3 => ?_) ?_ ?_⟩
      · have h9 : xr (mk_put (ax_pI M 79 4 (nI (n - 1))) (p 0) k c (iI a) (iI b)) (p 0) (ru r k c a b) := xr_put (xr_fr hr (fun m i z1 z2 => by rw [ax_pn (by omega)])) ho k1 k2
        rw [hD, hA]
        exact xr_fr h9 (fun m i z1 z2 => by rw [ax_pn (by omega), ax_pn (by omega)])
      · rw [hD, ax_pn (by omega), ax_pn (by omega), hA, mk_put_n z2, ax_pn (by omega)]
      · rw [hD, ax_pn (by omega), ax_pa]
      · rw [hD, ax_pa]
    · exact absurd hc (by decide)
theorem x_image (hI : xI M p r lw es) {v : Nat} (hv : M.1 79 7 = nI v) (hv2 : v ≤ 3) : ax_Met l G kX9_image 3 0 0 M [av_r 1] (fun o M2 => (v = 3 ∧ o = .inl (some (av_i (-1))) ∧ M2 = M) ∨ (v < 3 ∧ o = .inl (some (av_i (nI (v + 1)))) ∧ M2.2 = M.2 ∧ (∀ n i, n ≠ 85 + v → ¬ (n = 88 ∧ i = v) → ¬ (n = 79 ∧ i = 7) → M2.1 n i = M.1 n i) ∧ im_eq M2 (85 + v) M (p 0) ∧ M2.1 88 v = M.1 79 4 ∧ M2.1 79 7 = nI (v + 1) ∧ xI M2 p r lw es)) := by
  have hx := hI.1.1
  have hok := hx.1
  have p0 := hx.2.1.1
  refine ax_body (by decide) (Nat.le_of_ble_eq_true rfl) ?_
  refine ax_aload_n dX9_image_0 rfl ?_
  refine ax_getK (f := 13) 79 dX9_image_1 acl_9 wd_560 (by decide) rfl (lo_s hok 1 rfl) (lo_r hok 7 rfl) ?_
  refine ax_aload_n dX9_image_4 rfl ?_
  refine ax_getK (f := 1) 4 dX9_image_5 acl_9 wd_548 (by decide) rfl (lo_s hok 1 rfl) (lo_r hok 1 rfl) ?_
  refine ax_getKN (f := 0) (p 0) dX9_image_8 acl_7 wd_367 (by decide) rfl (lo_s hok 4 rfl) (xk_r0 hx) ?_
  refine ax_callVN (As := _) (d2 := _) (c1 := 0) (n1 := 0) (c_keepImage (M := M) hok (xk_b0 hx) hv hv2) dX9_image_11 mX1_keepImage wd_749 acl_1 (lo_s hok 79 rfl) rfl (by omega) (by omega) (by omega) rfl rfl (fun E M9 h9 => by rcases h9 with h9 | h9 <;> cases h9.2.1) ?_
  rintro o9 A (⟨hv3, q, hA⟩ | ⟨hv3, q, hA, fA, iA, a1, a2⟩)
  · cases q
    refine ax_if_eq (tgt := 27) dX9_image_14 (by decide) (fun hc => ?_) (fun hc => ?_)
    · refine ax_iconst (v := (-1)) dX9_image_27 (by decide) ?_
      refine ax_iret dX9_image_28 rfl ?_
      exact Or.inl ⟨hv3, rfl, hA⟩
    · exact absurd rfl hc
  · cases q
    have hok : lo_ok A.2 := by rw [hA]; exact hok
    refine ax_if_eq (tgt := 27) dX9_image_14 (by decide) (fun hc => ?_) (fun hc => ?_)
    · exact absurd hc (by decide)
    · refine ax_aload_n dX9_image_17 rfl ?_
      refine ax_getK (f := 13) 79 dX9_image_18 acl_9 wd_560 (by decide) rfl (lo_s hok 1 rfl) (lo_r hok 7 rfl) ?_
      refine ax_getIN (f := 7) dX9_image_21 acl_1 wd_529 (by decide) rfl (lo_s hok 79 rfl) ?_
      rw [a2]
      refine ax_goto (tgt := 28) dX9_image_24 (by decide) ?_
      refine ax_iret dX9_image_28 rfl ?_
      refine Or.inr ⟨hv3, rfl, hA, fA, iA, a1, a2, ?_⟩
      exact xI_lo hI hA (fun n i z => fA n i (by omega) (by omega) (by omega))
theorem x_restore (hI : xI M p r lw es) {v : Nat} (hv : M.1 79 7 = nI v) (hv2 : v ≤ 3) {r2 : Nat → Int} (hk : 0 < v → rd_ok r2 ∧ (∀ j, j < 10 ∨ 36 ≤ j → r2 j = r j) ∧ (∀ c : Nat, (c : Int) < r 1 → M.1 (84 + v) c = iI (r2 (10 + 2 * c)) ∧ M.1 (84 + v) (2 + c) = iI (r2 (11 + 2 * c))) ∧ (∀ k : Nat, (k : Int) < r 2 → M.1 (84 + v) (4 + k) = iI (r2 (14 + 2 * k)) ∧ M.1 (84 + v) (14 + k) = iI (r2 (15 + 2 * k))) ∧ M.1 (84 + v) 104 = iI (r2 34) ∧ M.1 (84 + v) 105 = iI (r2 35)) : ax_Met l G kX9_restore 3 0 0 M [av_r 1] (fun o M2 => (v = 0 ∧ o = .inl (some (av_i (-1))) ∧ M2 = M) ∨ (0 < v ∧ o = .inl (some (av_i (nI (v - 1)))) ∧ M2.2 = M.2 ∧ (∀ n i, ¬ (n = 79 ∧ (i = 4 ∨ i = 7)) → ¬ (80 ≤ n ∧ n ≤ 83) → ¬ (p 0 ≤ n ∧ n ≤ p 0 + 7) → ¬ (n = 1 ∧ (i = 7 ∨ i = 10)) → M2.1 n i = M.1 n i) ∧ im_eq M (84 + v) M2 (p 0) ∧ M2.1 79 4 = M.1 88 (v - 1) ∧ M2.1 79 7 = nI (v - 1) ∧ xI M2 p r2 lw es)) := by
  have hx := hI.1.1
  have hok := hx.1
  have hr := hI.1.2.1
  have ho := hI.1.2.2.1
  have h0 := ho.1
  have p0 := hx.2.1.1
  refine ax_body (by decide) (Nat.le_of_ble_eq_true rfl) ?_
  refine ax_aload_n dX9_restore_0 rfl ?_
  refine ax_getK (f := 13) 79 dX9_restore_1 acl_9 wd_560 (by decide) rfl (lo_s hok 1 rfl) (lo_r hok 7 rfl) ?_
  refine ax_aload_n dX9_restore_4 rfl ?_
  refine ax_getK (f := 1) 4 dX9_restore_5 acl_9 wd_548 (by decide) rfl (lo_s hok 1 rfl) (lo_r hok 1 rfl) ?_
  refine ax_getKN (f := 0) (p 0) dX9_restore_8 acl_7 wd_367 (by decide) rfl (lo_s hok 4 rfl) (xk_r0 hx) ?_
  refine ax_callVN (As := _) (d2 := _) (c1 := 0) (n1 := 0) (c_bringBack (M := M) hok (xk_b0 hx) hv hv2) dX9_restore_11 mX1_bringBack wd_763 acl_1 (lo_s hok 79 rfl) rfl (by omega) (by omega) (by omega) rfl rfl (fun E M9 h9 => by rcases h9 with h9 | h9 <;> cases h9.2.1) ?_
  rintro o9 A (⟨hv3, q, hA⟩ | ⟨hv3, q, hA, fA, iA, a1, a2⟩)
  · cases q
    refine ax_if_ne (tgt := 19) dX9_restore_14 (by decide) (fun hc => ?_) (fun hc => ?_)
    · exact absurd rfl hc
    · refine ax_iconst (v := (-1)) dX9_restore_17 (by decide) ?_
      refine ax_iret dX9_restore_18 rfl ?_
      exact Or.inl ⟨hv3, rfl, hA⟩
  · cases q
    obtain ⟨k1, k2, k3, k4, k5, k6⟩ := hk hv3
    have hok : lo_ok A.2 := by rw [hA]; exact hok
    refine ax_if_ne (tgt := 19) dX9_restore_14 (by decide) (fun hc => ?_) (fun hc => ?_)
    · refine ax_aload_n dX9_restore_19 rfl ?_
      refine ax_callV (As := _) (d2 := _) (c1 := 0) (n1 := 0) (x_meetingChanged (d := 1) (M := A) hok) dX9_restore_20 mX9_meetingChanged wd_741 acl_9 (lo_s hok 1 rfl) rfl (by omega) (by omega) (by omega) rfl rfl (fun _ _ h => by cases h.1) ?_
      rintro o9 D ⟨q, hD⟩
      cases q
      have hok : lo_ok D.2 := by rw [hD]; exact hok
      have e7 : D.1 79 7 = nI (v - 1) := by rw [hD, ax_pn (by omega), ax_pn (by omega)]; exact a2
      have eD : ∀ n i, n ≠ 1 → D.1 n i = A.1 n i := fun n i z => by rw [hD, ax_pn (by omega), ax_pn (by omega)]
      refine ax_aload_n dX9_restore_23 rfl ?_
      refine ax_getK (f := 13) 79 dX9_restore_24 acl_9 wd_560 (by decide) rfl (lo_s hok 1 rfl) (lo_r hok 7 rfl) ?_
      refine ax_getIN (f := 7) dX9_restore_27 acl_1 wd_529 (by decide) rfl (lo_s hok 79 rfl) ?_
      rw [e7]
      refine ax_iret dX9_restore_30 rfl ?_
      obtain ⟨i1, i2, i3, i4, i5, i6, i7, i8, i9, i10⟩ := iA
      refine Or.inr ⟨hv3, rfl, by rw [hD]; exact hA, fun n i z1 z2 z3 z4 => ?_, ⟨fun j hj => ?_, fun j hj => ?_, fun j hj => ?_, fun j hj => ?_, fun j hj => ?_, fun j hj => ?_, fun j hj => ?_, fun j hj => ?_, ?_, ?_⟩, by rw [eD _ _ (by omega)]; exact a1, e7, ?_⟩
      · rw [hD, ax_pn (by omega), ax_pn (by omega)]; exact fA n i z1 z2 (by omega) (by omega) (by omega) (by omega) (by omega)
      · rw [eD _ _ (by omega)]; exact i1 j hj
      · rw [eD _ _ (by omega)]; exact i2 j hj
      · rw [eD _ _ (by omega)]; exact i3 j hj
      · rw [eD _ _ (by omega)]; exact i4 j hj
      · rw [eD _ _ (by omega)]; exact i5 j hj
      · rw [eD _ _ (by omega)]; exact i6 j hj
      · rw [eD _ _ (by omega)]; exact i7 j hj
      · rw [eD _ _ (by omega)]; exact i8 j hj
      · rw [eD _ _ (by omega)]; exact i9
      · rw [eD _ _ (by omega)]; exact i10
      · refine xI_st hI (by rw [hD]; exact hA) ?_ k1 (fun m i z1 z2 z3 => ?_) ?_ ?_
        · have h9 : xr A (p 0) r2 := by
            refine xr_st hr ho k1 k2 (fun n i z1 z2 z3 z4 z5 z6 z7 => fA n i (by omega) (by omega) z7 z3 z4 z5 z6) ?_ ?_ (fun d hd => ⟨?_, ?_⟩) (fun d hd => ⟨?_, ?_⟩)
            · rw [← i9]; exact k5
            · rw [← i10]; exact k6
            · rw [← i1 d (by omega), Nat.zero_add]; exact (k3 d hd).1
            · rw [← i2 d (by omega)]; exact (k3 d hd).2
            · rw [← i3 d (by omega)]; exact (k4 d hd).1
            · rw [← i4 d (by omega)]; exact (k4 d hd).2
          exact xr_fr h9 (fun m i z1 z2 => eD m i (by omega))
        · rw [eD _ _ z1]; exact fA m i (by omega) (by omega) (by omega) (by omega) (by omega) (by omega) (by omega)
        · rw [hD, ax_pn (by omega), ax_pa]
        · rw [hD, ax_pa]
    · exact absurd hc (by decide)
end X99d

