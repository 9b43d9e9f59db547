/-! ===== coats don't matter to a meeting; one who stands alone: the reference ===== -/
def co (r r' : Nat → Int) : Prop := ∀ i, i ≠ 2 → (i < 14 ∨ 34 ≤ i) → r' i = r i
theorem co_pos {r r' : Nat → Int} (h : co r r') (c t : Nat) : mt_pos r' c t = mt_pos r c t := by
  unfold mt_pos; rw [h 10 (by decide) (by decide), h 0 (by decide) (by decide), h 12 (by decide) (by decide)]
theorem co_on {r r' : Nat → Int} (h : co r r') (c t : Nat) : mt_on r' c t = mt_on r c t := by
  unfold mt_on; rw [co_pos h, h 0 (by decide) (by decide), h 1 (by decide) (by decide)]
theorem co_met {r r' : Nat → Int} (h : co r r') (t : Nat) : mt_met r' t = mt_met r t := by
  unfold mt_met; rw [co_pos h, co_pos h, h 1 (by decide) (by decide)]
theorem co_far {r r' : Nat → Int} (h : co r r') (t : Nat) : mt_far r' t = mt_far r t := by
  unfold mt_far; rw [co_pos h, co_pos h]
theorem co_wt {r r' : Nat → Int} (h : co r r') (x : Int) : ∀ n, rd_wt r' x n = rd_wt r x n
  | 0 => rfl
  | n + 1 => by
    show (rd_wt r' x n || _) = (rd_wt r x n || _)
    rw [co_wt h x n, h (60 + 2 * n) (by omega) (by omega), h (61 + 2 * n) (by omega) (by omega)]
theorem co_hd {r r' : Nat → Int} (h : co r r') (a b : Int) : ∀ n, rd_hd r' a b n = rd_hd r a b n
  | 0 => rfl
  | n + 1 => by
    show (rd_hd r' a b n || _) = (rd_hd r a b n || _)
    rw [co_hd h a b n, h (50 + n) (by omega) (by omega)]
theorem co_wet {r r' : Nat → Int} (h : co r r') (x : Int) : rd_wet r' x = rd_wet r x := by
  unfold rd_wet; rw [co_wt h, h 4 (by decide) (by decide)]
theorem co_hid {r r' : Nat → Int} (h : co r r') (a b : Int) : rd_hid r' a b = rd_hid r a b := by
  unfold rd_hid; rw [co_hd h, h 3 (by decide) (by decide)]
theorem co_view {r r' : Nat → Int} (h : co r r') (t : Nat) : mt_view r' t = mt_view r t := by
  unfold mt_view; rw [co_on h, co_on h, co_met h, co_hid h, co_pos h, co_pos h]
theorem co_kn {r r' : Nat → Int} (h : co r r') {c : Nat} (hc : c < 2) (t : Nat) (b : Int) (f o : Int32) : mt_kn r' c t b f o = mt_kn r c t b f o := by
  funext k
  unfold mt_kn
  rw [h 5 (by decide) (by decide), h 6 (by decide) (by decide), h 34 (by decide) (by decide), h (40 + c) (by omega) (by omega), co_wet h, co_pos h, h (11 + 2 * c) (by omega) (by omega), h (10 + 2 * c) (by omega) (by omega), co_view h, co_far h, co_met h]
theorem co_s {r r' : Nat → Int} (h : co r r') (lw : mt_L) (d : Nat → Int32) : ∀ t c, c < 2 → (mt_s r' lw d t).1 c = (mt_s r lw d t).1 c ∧ (mt_s r' lw d t).2 c = (mt_s r lw d t).2 c
  | 0, c, _ => ⟨rfl, rfl⟩
  | t + 1, c, hc => by
    have ih := co_s h lw d t
    have e1 := ih c hc
    have e2 := ih (1 - c) (by omega)
    have hF : ∀ q, q < 2 → mt_F r' lw d t (mt_s r' lw d t) q = mt_F r lw d t (mt_s r lw d t) q := by
      intro q hq
      unfold mt_F
      rw [co_on h, co_kn h hq, (ih q hq).1, (ih q hq).2, (ih (1 - q) (by omega)).2]
    refine ⟨?_, hF c hc⟩
    show mt_B r' t (mt_s r' lw d t) (mt_F r' lw d t (mt_s r' lw d t)) c = mt_B r t (mt_s r lw d t) (mt_F r lw d t (mt_s r lw d t)) c
    unfold mt_B mt_dz mt_near mt_bf
    rw [co_on h, co_view h, co_far h, hF (1 - c) (by omega), e1.1, h 35 (by decide) (by decide), h (40 + c) (by omega) (by omega), h (11 + 2 * (1 - c)) (by omega) (by omega)]
theorem co_si {r r' : Nat → Int} (h : co r r') (lw : mt_L) (d : Nat → Int32) {c : Nat} (hc : c < 2) (t : Nat) : mt_si r' lw d c t = mt_si r lw d c t := by
  unfold mt_si mt_b mt_f
  rw [co_kn h hc, (co_s h lw d (t + 1) c hc).1, (co_s h lw d (t + 1) c hc).2, (co_s h lw d (t + 1) (1 - c) (by omega)).2]
theorem co_stop {r r' : Nat → Int} (h : co r r') {c : Nat} (hc : c < 2) (t : Nat) : mt_stop r' c t = mt_stop r c t := by
  unfold mt_stop; rw [co_wet h, co_pos h, h (10 + 2 * c) (by omega) (by omega)]
theorem co_aw {r r' : Nat → Int} (h : co r r') (c t : Nat) (x : Int) : mt_aw r' c t x = mt_aw r c t x := by
  unfold mt_aw; rw [co_pos h]
theorem mt_first_cong {p q : Nat → Bool} : ∀ {n : Nat}, (∀ k, k < n → p k = q k) → mt_first p n = mt_first q n
  | 0, _ => rfl
  | n + 1, h => by
    have e : ∀ (s : Nat → Bool), mt_first s (n + 1) = match mt_first s n with
      | some u => some u
      | none => if s n = true then some n else none := fun _ => rfl
    rw [e, e, mt_first_cong (n := n) (fun k hk => h k (by omega)), h n (by omega)]
theorem co_seen {r r' : Nat → Int} (h : co r r') (lw : mt_L) (d : Nat → Int32) {c : Nat} (hc : c < 2) (x y : Int) (t : Nat) : mt_seen r' lw d c x y t = mt_seen r lw d c x y t := by
  unfold mt_seen
  refine mt_first_cong (fun k _ => ?_)
  unfold mt_sees
  rw [co_on h, co_si h lw d hc, co_aw h, co_hid h, co_pos h]
theorem co_hits {r r' : Nat → Int} (h : co r r') (lw : mt_L) (d : Nat → Int32) {c : Nat} (hc : c < 2) (x y : Int) : ∀ t, mt_hits r' lw d c x y t = mt_hits r lw d c x y t
  | 0 => rfl
  | t + 1 => by
    have e : ∀ r : Nat → Int, mt_hits r lw d c x y (t + 1) = (mt_hits r lw d c x y t || (mt_on r c t && (mt_com r c t x && mt_late r c t x (mt_seen r lw d c x y (t + 1))))) := fun _ => rfl
    rw [e, e, co_hits h lw d hc x y t, co_on h, co_seen h lw d hc]
    have e2 : mt_com r' c t x = mt_com r c t x := by unfold mt_com; rw [co_aw h, h (10 + 2 * c) (by omega) (by omega)]
    have e3 : ∀ s, mt_late r' c t x s = mt_late r c t x s := fun s => by
      cases s with
      | none => rfl
      | some u => unfold mt_late; simp only [co_aw h, co_stop h hc]
    rw [e2, e3]
theorem co_T {r r' : Nat → Int} (h : co r r') : mt_T r' = mt_T r := by
  unfold mt_T mt_go
  rw [mt_first_cong (fun k _ => by rw [co_on h, co_on h])]
/-- one who stands in x, bright by h, alone -/
def al (r : Nat → Int) (x h : Int) (i : Nat) : Int := if i = 2 then 1 else if i = 14 then x else if i = 15 then h else r i
theorem al_co (r : Nat → Int) (x h : Int) : co r (al r x h) := fun i h1 h2 => by
  unfold al; rw [if_neg h1, if_neg (by omega), if_neg (by omega)]
theorem al_ok {r : Nat → Int} (ho : rd_ok r) {x h : Int} (hx : 0 ≤ x ∧ x < r 0) (hh : 0 ≤ h ∧ h ≤ 9) : rd_ok (al r x h) := by
  have hc := al_co r x h
  obtain ⟨h1, h2, h3, h4, h5⟩ := ho
  refine ⟨?_, fun c hc2 => ?_, fun k hk => ?_, fun k hk => ?_, fun k hk => ?_⟩
  · rw [hc 0 (by decide) (by decide), hc 1 (by decide) (by decide), hc 3 (by decide) (by decide), hc 4 (by decide) (by decide), hc 5 (by decide) (by decide), hc 6 (by decide) (by decide), hc 34 (by decide) (by decide), hc 35 (by decide) (by decide), show al r x h 2 = 1 from rfl]
    omega
  · have := h2 c hc2
    unfold rd_oc at this ⊢
    rw [hc (10 + 2 * c) (by omega) (by omega), hc (11 + 2 * c) (by omega) (by omega), hc (40 + c) (by omega) (by omega), hc 1 (by decide) (by decide)]
    exact this
  · rw [hc 0 (by decide) (by decide), show al r x h 2 = 1 from rfl]
    have := h3 k hk
    by_cases e : k = 0
    · subst e
      exact ⟨hx.1, by show x ≤ 59; omega, hh.1, hh.2, fun _ => hx.2⟩
    · have e1 : al r x h (14 + 2 * k) = r (14 + 2 * k) := by unfold al; rw [if_neg (by omega), if_neg (by omega), if_neg (by omega)]
      have e2 : al r x h (15 + 2 * k) = r (15 + 2 * k) := by unfold al; rw [if_neg (by omega), if_neg (by omega), if_neg (by omega)]
      rw [e1, e2]
      exact ⟨this.1, this.2.1, this.2.2.1, this.2.2.2.1, fun z => by omega⟩
  · have := h4 k hk
    rw [hc (50 + k) (by omega) (by omega), hc 3 (by decide) (by decide), hc 0 (by decide) (by decide)]
    exact this
  · have := h5 k hk
    rw [hc (60 + 2 * k) (by omega) (by omega), hc (61 + 2 * k) (by omega) (by omega), hc 4 (by decide) (by decide), hc 0 (by decide) (by decide)]
    exact this
/-- HIT by car c, standing in x, bright by h -/
def hx (r : Nat → Int) (lw : mt_L) (c : Nat) (x h : Int) : Bool := mt_hits r lw mt_n c x h (mt_T r)
theorem al_hit {r : Nat → Int} {lw : mt_L} {x h : Int} {c : Nat} (hc : c < 2) : mt_hit (al r x h) lw mt_n c (mt_T (al r x h)) = if hx r lw c x h = true then 1 else 0 := by
  unfold mt_hit
  rw [co_T (al_co r x h)]
  have e0 : (decide (((0 : Nat) : Int) < al r x h 2) && mt_hits (al r x h) lw mt_n c (al r x h (14 + 2 * 0)) (al r x h (15 + 2 * 0)) (mt_T r)) = hx r lw c x h := by
    rw [show al r x h 2 = 1 from rfl, co_hits (al_co r x h) lw mt_n hc]
    simp [hx, al]
  have e1 : mt_or (fun k => decide ((k : Int) < al r x h 2) && mt_hits (al r x h) lw mt_n c (al r x h (14 + 2 * k)) (al r x h (15 + 2 * k)) (mt_T r)) 10 = mt_or (fun k => decide (k = 0) && hx r lw c x h) 10 := by
    refine mt_or_cong 10 (fun k hk => ?_)
    by_cases e : k = 0
    · subst e
      rw [e0]; simp
    · have : ¬ ((k : Int) < al r x h 2) := by rw [show al r x h 2 = 1 from rfl]; omega
      simp [e, this]
  rw [e1]
  by_cases q : hx r lw c x h = true
  · rw [if_pos q, q]; decide
  · rw [if_neg q, mt_nf q]; decide
def hx2 (r : Nat → Int) (lw : mt_L) (x h : Int) : Int32 := (if hx r lw 0 x h = true then 1 else 0) + 2 * (if hx r lw 1 x h = true then 1 else 0)
/-- all but the state stays -/
def sg (M M2 : ax_M) : Prop := M2.2 = M.2 ∧ ∀ n i, ¬ rs n i → ¬ (n = 100 ∧ i < 26) → ¬ (n = 94 ∧ i = 2) → M2.1 n i = M.1 n i
theorem sg_tr {M M1 M2 : ax_M} (h1 : sg M M1) (h2 : sg M1 M2) : sg M M2 := ⟨h2.1.trans h1.1, fun n i a b c => (h2.2 n i a b c).trans (h1.2 n i a b c)⟩
theorem sg_sf {M M2 : ax_M} (h : sf M M2) : sg M M2 := ⟨h.1, fun n i a _ _ => h.2 n i a⟩
theorem sg_p {M : ax_M} {n i : Nat} {x : Int32} (h : rs n i ∨ (n = 100 ∧ i < 26) ∨ (n = 94 ∧ i = 2)) : sg M (ax_pI M n i x) := ⟨rfl, fun m j a b c => ax_pn (fun z => by rcases h with h | h | h; exact a (by rw [z.1, z.2]; exact h); exact b (by omega); exact c (by omega))⟩
theorem sg_law {M M2 : ax_M} {w : Nat} {lw : Option (List (Int32 × Int32))} (h : sg M M2) (hw : w < 3) (hl : ml_law M w lw) : ml_law M2 w lw := ml_law_fr hl (fun n i q => h.2 n i (by unfold rs; omega) (by omega) (by omega))
/-- kept behind puts -/
def kp (M N : ax_M) : Prop := (∀ i, i < 26 → N.1 431 i = M.1 100 i) ∧ N.1 90 52 = M.1 94 2
section QH
variable {l : Launch} {G : ax_G} {M : ax_M} {r : Nat → Int} {lw : mt_L}
theorem c_puts (hok : lo_ok M.2) : ax_Met l G kX10_puts 1 0 0 M [av_r 90] (fun o M2 => o = .inl none ∧ sf M M2 ∧ kp M M2) := by
  refine ax_body (by decide) (Nat.le_of_ble_eq_true rfl) ?_
  refine ax_aload_n dX10_puts_0 rfl ?_
  refine ax_getK (f := 18) 100 dX10_puts_1 acl_10 wd_1618 (by decide) rfl (lo_s hok 90 rfl) (lo_r hok 89 rfl) ?_
  refine ax_aload_n dX10_puts_4 rfl ?_
  refine ax_getK (f := 51) 431 dX10_puts_5 acl_10 wd_1651 (by decide) rfl (lo_s hok 90 rfl) (lo_r hok 114 rfl) ?_
  refine ax_bipush (v := 26) dX10_puts_8 (by decide) ?_
  refine ax_callS (As := _) (c1 := 0) (n1 := 0) (c_X10_copies (d := 0) (M := M) (lf := 26) (lt := 26) (n := 26) (lo_s hok 100 rfl) (lo_s hok 431 rfl) (by omega) (by omega) (by omega) (by omega) (by omega) rfl) dX10_puts_10 mX10_copies wd_1597 rfl (by omega) (by omega) (by omega) rfl rfl (fun _ _ h => by cases h.1) ?_
  rintro r1 M1 ⟨h1, hM1⟩; cases h1
  have hok : lo_ok M1.2 := by rw [hM1]; exact hok
  have s1 : sf M M1 := ⟨by rw [hM1]; rfl, fun n i q => by
    rw [hM1]
    show (if n = 431 ∧ i < 26 then _ else _) = _
    rw [if_neg (fun z => q (by unfold rs; omega))]⟩
  have k1 : ∀ i, i < 26 → M1.1 431 i = M.1 100 i := fun i hi => by
    rw [hM1]
    show (if 431 = 431 ∧ i < 26 then _ else _) = _
    rw [if_pos ⟨rfl, hi⟩]
  refine ax_aload_n dX10_puts_13 rfl ?_
  refine ax_aload_n dX10_puts_14 rfl ?_
  refine ax_getK (f := 12) 94 dX10_puts_15 acl_10 wd_1612 (by decide) rfl (lo_s hok 90 rfl) (lo_r hok 83 rfl) ?_
  refine ax_iconst (v := 2) dX10_puts_18 (by decide) ?_
  refine ax_ialdN (2) dX10_puts_19 (lo_s hok 94 rfl) (by decide) (by decide) (by decide) ?_
  refine ax_putI (f := 52) dX10_puts_20 acl_10 wd_1652 (by decide) rfl rfl (ax_nfI rfl) (lo_s hok 90 rfl) ?_
  refine ax_gen (fun M2 hM2 => ?_)
  have hok : lo_ok M2.2 := by rw [hM2]; exact hok
  refine ax_vret dX10_puts_23 rfl ?_
  exact ⟨rfl, sf_tr s1 (by rw [hM2]; exact sf_p (by unfold rs; omega)), fun i hi => by rw [hM2, ax_pn (by omega)]; exact k1 i hi, by rw [hM2, ax_pa]; exact s1.2 94 2 (by unfold rs; omega)⟩
theorem c_putsBack {M0 : ax_M} (hok : lo_ok M.2) (hs : sg M0 M) (hk : kp M0 M) : ax_Met l G kX10_putsBack 1 0 0 M [av_r 90] (fun o M2 => o = .inl none ∧ sf M0 M2 ∧ ∀ n i, n ≠ 100 → ¬ (n = 94 ∧ i = 2) → M2.1 n i = M.1 n i) := by
  refine ax_body (by decide) (Nat.le_of_ble_eq_true rfl) ?_
  refine ax_aload_n dX10_putsBack_0 rfl ?_
  refine ax_getK (f := 51) 431 dX10_putsBack_1 acl_10 wd_1651 (by decide) rfl (lo_s hok 90 rfl) (lo_r hok 114 rfl) ?_
  refine ax_aload_n dX10_putsBack_4 rfl ?_
  refine ax_getK (f := 18) 100 dX10_putsBack_5 acl_10 wd_1618 (by decide) rfl (lo_s hok 90 rfl) (lo_r hok 89 rfl) ?_
  refine ax_bipush (v := 26) dX10_putsBack_8 (by decide) ?_
  refine ax_callS (As := _) (c1 := 0) (n1 := 0) (c_X10_copies (d := 0) (M := M) (lf := 26) (lt := 26) (n := 26) (lo_s hok 431 rfl) (lo_s hok 100 rfl) (by omega) (by omega) (by omega) (by omega) (by omega) rfl) dX10_putsBack_10 mX10_copies wd_1597 rfl (by omega) (by omega) (by omega) rfl rfl (fun _ _ h => by cases h.1) ?_
  rintro r1 M1 ⟨h1, hM1⟩; cases h1
  have hok : lo_ok M1.2 := by rw [hM1]; exact hok
  have k1 : ∀ n i, M1.1 n i = if n = 100 ∧ i < 26 then M.1 431 i else M.1 n i := fun n i => by rw [hM1]; rfl
  have k2 : M1.2 = M.2 := by rw [hM1]; rfl
  refine ax_aload_n dX10_putsBack_13 rfl ?_
  refine ax_getK (f := 12) 94 dX10_putsBack_14 acl_10 wd_1612 (by decide) rfl (lo_s hok 90 rfl) (lo_r hok 83 rfl) ?_
  refine ax_iconst (v := 2) dX10_putsBack_17 (by decide) ?_
  refine ax_aload_n dX10_putsBack_18 rfl ?_
  refine ax_getI (f := 52) dX10_putsBack_19 acl_10 wd_1652 (by decide) rfl (lo_s hok 90 rfl) ?_
  refine ax_iastN (2) dX10_putsBack_22 (lo_s hok 94 rfl) (by decide) (by decide) (by decide) ?_
  refine ax_gen (fun M2 hM2 => ?_)
  have hok : lo_ok M2.2 := by rw [hM2]; exact hok
  refine ax_vret dX10_putsBack_23 rfl ?_
  have f2 : ∀ n i, n ≠ 100 → ¬ (n = 94 ∧ i = 2) → M2.1 n i = M.1 n i := fun n i a b => by
    rw [hM2, ax_pn (by omega), k1, if_neg (by omega)]
  refine ⟨rfl, ⟨by rw [hM2]; exact k2.trans hs.1, fun n i q => ?_⟩, f2⟩
  by_cases e : n = 100
  · subst e
    rw [hM2, ax_pn (by omega), k1]
    by_cases e2 : i < 26
    · rw [if_pos ⟨rfl, e2⟩]; exact hk.1 i e2
    · rw [if_neg (by omega)]; exact hs.2 100 i q (by omega) (by omega)
  · by_cases e2 : n = 94 ∧ i = 2
    · rw [e2.1, e2.2, hM2, ax_pa, k1, if_neg (by omega)]; exact hk.2
    · rw [f2 n i e e2]; exact hs.2 n i q (by omega) e2
theorem c_hitAlone (hok : lo_ok M.2) (hr : rr M r) (ho : rd_ok r) (hl : ∀ w, w < 3 → ml_law M w (lw w)) {x h : Int} (hx0 : 0 ≤ x ∧ x < r 0) (hh : 0 ≤ h ∧ h ≤ 9) {y z : Int32} (hy : y = iI x) (hz : z = iI h) : ax_Met l G kX10_hitAlone 8 0 0 M [av_r 90, av_i y, av_i z] (fun o M2 => o = .inl (some (av_i (hx2 r lw x h))) ∧ sf M M2) := by
  subst hy hz
  refine ax_body (by decide) (Nat.le_of_ble_eq_true rfl) ?_
  refine ax_aload_n dX10_hitAlone_0 rfl ?_
  refine ax_callV (As := _) (d2 := _) (c1 := 0) (n1 := 0) (c_puts (M := M) hok) dX10_hitAlone_1 mX10_puts wd_2137 acl_10 (lo_s hok 90 rfl) rfl (by omega) (by omega) (by omega) rfl rfl (fun _ _ h => by cases h.1) ?_
  rintro r1 M1 ⟨h1, s1, k1⟩; cases h1
  have hok : lo_ok M1.2 := by rw [s1.1]; exact hok
  refine ax_aload_n dX10_hitAlone_4 rfl ?_
  refine ax_getK (f := 12) 94 dX10_hitAlone_5 acl_10 wd_1612 (by decide) rfl (lo_s hok 90 rfl) (lo_r hok 83 rfl) ?_
  refine ax_iconst (v := 2) dX10_hitAlone_8 (by decide) ?_
  refine ax_iconst (v := 1) dX10_hitAlone_9 (by decide) ?_
  refine ax_iastN (2) dX10_hitAlone_10 (lo_s hok 94 rfl) (by decide) (by decide) (by decide) ?_
  refine ax_aload_n dX10_hitAlone_11 rfl ?_
  refine ax_getK (f := 18) 100 dX10_hitAlone_12 acl_10 wd_1618 (by decide) rfl (lo_s hok 90 rfl) (lo_r hok 89 rfl) ?_
  refine ax_iconst (v := 4) dX10_hitAlone_15 (by decide) ?_
  refine ax_iload_n dX10_hitAlone_16 rfl ?_
  refine ax_iastN (4) dX10_hitAlone_17 (lo_s hok 100 rfl) (by decide) (by decide) (by decide) ?_
  refine ax_aload_n dX10_hitAlone_18 rfl ?_
  refine ax_getK (f := 18) 100 dX10_hitAlone_19 acl_10 wd_1618 (by decide) rfl (lo_s hok 90 rfl) (lo_r hok 89 rfl) ?_
  refine ax_iconst (v := 5) dX10_hitAlone_22 (by decide) ?_
  refine ax_iload_n dX10_hitAlone_23 rfl ?_
  refine ax_iastN (5) dX10_hitAlone_24 (lo_s hok 100 rfl) (by decide) (by decide) (by decide) ?_
  refine ax_gen (fun M2 hM2 => ?_)
  have hok : lo_ok M2.2 := by rw [hM2]; exact hok
  have g2 : sg M1 M2 := by rw [hM2]; exact sg_tr (sg_tr (sg_p (by omega)) (sg_p (by omega))) (sg_p (by omega))
  have gs2 : sg M M2 := sg_tr (sg_sf s1) g2
  have hr1 := sf_rr s1 hr
  have hr2 : rr M2 (al r x h) := by
    have e : ∀ n i, ¬ (n = 94 ∧ i = 2) → ¬ (n = 100 ∧ (i = 4 ∨ i = 5)) → M2.1 n i = M1.1 n i := fun n i a b => by
      rw [hM2, ax_pn (by omega), ax_pn (by omega), ax_pn (by omega)]
    refine ⟨fun k hk => ?_, fun k hk => ?_, fun k hk => ?_, fun k hk => ?_, fun k hk => ?_⟩
    · by_cases q : k = 2
      · subst q; rw [hM2, ax_pn (by omega), ax_pn (by omega), ax_pa]; rfl
      · rw [e 94 k (by omega) (by omega), hr1.1 k hk, (al_co r x h) k q (by omega)]
    · by_cases q : k = 4
      · subst q; rw [hM2, ax_pn (by omega), ax_pa]; rfl
      · by_cases q2 : k = 5
        · subst q2; rw [hM2, ax_pa]; rfl
        · rw [e 100 k (by omega) (by omega), hr1.2.1 k hk]
          unfold al; rw [if_neg (by omega), if_neg (by omega), if_neg (by omega)]
    · rw [e 96 k (by omega) (by omega), hr1.2.2.1 k hk, (al_co r x h) (40 + k) (by omega) (by omega)]
    · rw [e 98 k (by omega) (by omega), hr1.2.2.2.1 k hk, (al_co r x h) (50 + k) (by omega) (by omega)]
    · rw [e (107 + k) 0 (by omega) (by omega), e (107 + k) 1 (by omega) (by omega), (al_co r x h) (60 + 2 * k) (by omega) (by omega), (al_co r x h) (61 + 2 * k) (by omega) (by omega)]
      exact hr1.2.2.2.2 k hk
  refine ax_aload_n dX10_hitAlone_25 rfl ?_
  refine ax_callV (As := _) (d2 := _) (c1 := 0) (n1 := 0) (c_X10_asTold (lw := lw) (M := M2) hok hr2 (al_ok ho hx0 hh) (fun w hw => sg_law gs2 hw (hl w hw))) dX10_hitAlone_26 mX10_asTold wd_1943 acl_10 (lo_s hok 90 rfl) rfl (by omega) (by omega) (by omega) rfl rfl (fun _ _ h => by cases h.1) ?_
  rintro o9 M3 ⟨h1, f1, f2⟩; cases h1
  have hok : lo_ok M3.2 := by rw [f1.1]; exact hok
  have gs3 : sg M M3 := sg_tr gs2 (sg_sf (sf_mt f1))
  have k3 : kp M M3 := ⟨fun i hi => by rw [f1.2 431 i (by omega) (by omega) (by omega) (by omega), hM2, ax_pn (by omega), ax_pn (by omega), ax_pn (by omega)]; exact k1.1 i hi, by rw [f1.2 90 52 (by omega) (by omega) (by omega) (by omega), hM2, ax_pn (by omega), ax_pn (by omega), ax_pn (by omega)]; exact k1.2⟩
  refine ax_aload_n dX10_hitAlone_29 rfl ?_
  refine ax_callV (As := _) (d2 := _) (c1 := 0) (n1 := 0) (c_putsBack (M := M3) hok gs3 k3) dX10_hitAlone_30 mX10_putsBack wd_2142 acl_10 (lo_s hok 90 rfl) rfl (by omega) (by omega) (by omega) rfl rfl (fun _ _ h => by cases h.1) ?_
  rintro o9 M4 ⟨h1, f3, f4⟩; cases h1
  have hok : lo_ok M4.2 := by rw [f3.1]; exact ‹lo_ok M.2›
  refine ax_aload_n dX10_hitAlone_33 rfl ?_
  refine ax_getK (f := 39) 377 dX10_hitAlone_34 acl_10 wd_1639 (by decide) rfl (lo_s hok 90 rfl) (lo_r hok 104 rfl) ?_
  refine ax_iconst (v := 0) dX10_hitAlone_37 (by decide) ?_
  refine ax_ialdN (0) dX10_hitAlone_38 (lo_s hok 377 rfl) (by decide) (by decide) (by decide) ?_
  rw [f4 377 0 (by omega) (by omega), (f2.1 0 (by decide)).2.2.2.2.1]
  refine ax_iconst (v := 2) dX10_hitAlone_39 (by decide) ?_
  refine ax_aload_n dX10_hitAlone_40 rfl ?_
  refine ax_getK (f := 39) 377 dX10_hitAlone_41 acl_10 wd_1639 (by decide) rfl (lo_s hok 90 rfl) (lo_r hok 104 rfl) ?_
  refine ax_iconst (v := 1) dX10_hitAlone_44 (by decide) ?_
  refine ax_ialdN (1) dX10_hitAlone_45 (lo_s hok 377 rfl) (by decide) (by decide) (by decide) ?_
  rw [f4 377 1 (by omega) (by omega), (f2.1 1 (by decide)).2.2.2.2.1]
  refine ax_imul dX10_hitAlone_46 ?_
  refine ax_iadd dX10_hitAlone_47 ?_
  refine ax_iret dX10_hitAlone_48 rfl ?_
  refine ⟨?_, f3⟩
  have a0 := al_hit (r := r) (lw := lw) (x := x) (h := h) (c := 0) (by decide)
  have a1 := al_hit (r := r) (lw := lw) (x := x) (h := h) (c := 1) (by decide)
  unfold mt_n at a0 a1
  rw [a0, a1]
  rfl
end QH
/-! ===== asks of those who stand alone: the reference ===== -/
theorem hx2_ones (a b : Bool) : mt_ones ((if a = true then (1 : Int32) else 0) + 2 * (if b = true then 1 else 0)) 10 = nI ((if a = true then 1 else 0) + (if b = true then 1 else 0)) := by
  cases a <;> cases b <;> decide
theorem hx2_bit (a b : Bool) {c : Nat} (hc : c < 2) : ((if a = true then (1 : Int32) else 0) + 2 * (if b = true then 1 else 0)) >>> (nI c &&& 31) &&& 1 = if (if c = 0 then a else b) = true then 1 else 0 := by
  rcases (show c = 0 ∨ c = 1 by omega) with rfl | rfl <;> cases a <;> cases b <;> decide
theorem hx2_0 (a b : Bool) : (if a = true then (1 : Int32) else 0) + 2 * (if b = true then 1 else 0) = 0 ↔ (!a && !b) = true := by
  cases a <;> cases b <;> decide
def dk_v (r : Nat → Int) (lw : mt_L) (h : Int) (x : Nat) : Nat := (if hx r lw 0 (x : Int) h = true then 1 else 0) + (if hx r lw 1 (x : Int) h = true then 1 else 0)
def dk_s (v : Nat → Nat) : Nat → Int32 × Nat
  | 0 => (-1, 0)
  | x + 1 => if (dk_s v x).2 < v x then (nI x, v x) else dk_s v x
def qa_darkest (r : Nat → Int) (lw : mt_L) (h : Int32) : ax_V ⊕ (Nat × Nat) := if ¬ (0 ≤ h ∧ h ≤ 9) then .inr (1, 1) else .inl (av_i (dk_s (dk_v r lw h.toInt) (r 0).toNat).1)
def qa_dark (r : Nat → Int) (lw : mt_L) (x h : Int32) : ax_V ⊕ (Nat × Nat) := if ¬ (0 ≤ x ∧ x ≤ iI (r 1) - 1) then .inr (1, 0) else if ¬ (0 ≤ h ∧ h ≤ 9) then .inr (2, 1) else .inl (av_i (nI (mt_cnt (fun q => hx r lw x.toNatClampNeg (q : Int) h.toInt) (r 0).toNat)))
def qa_needs (r : Nat → Int) (lw : mt_L) (x : Int32) : ax_V ⊕ (Nat × Nat) := if ¬ (0 ≤ x ∧ x ≤ iI (r 0) - 1) then .inr (1, 1) else .inl (av_i (mt_sb (mt_first (fun h => !hx r lw 0 x.toInt (h : Int) && !hx r lw 1 x.toInt (h : Int)) 10)))
theorem dk_v_le (r : Nat → Int) (lw : mt_L) (h : Int) (x : Nat) : dk_v r lw h x ≤ 2 := by
  unfold dk_v; split <;> split <;> omega
theorem dk_s_le {v : Nat → Nat} (hv : ∀ x, v x ≤ 2) : ∀ x, (dk_s v x).2 ≤ 2
  | 0 => by show 0 ≤ 2; decide
  | x + 1 => by
    unfold dk_s
    split
    · exact hv x
    · exact dk_s_le hv x
section QI
variable {l : Launch} {G : ax_G} {M : ax_M} {r : Nat → Int} {lw : mt_L}
theorem c_darkest (hok : lo_ok M.2) (hr : rr M r) (ho : rd_ok r) (hl : ∀ w, w < 3 → ml_law M w (lw w)) (h : Int32) : ax_Met l G kX10_darkest 9 0 0 M [av_r 90, av_i h] (fun o M2 => rq M M2 o (qa_darkest r lw h)) := by
  have h9 := ho.1
  refine ax_body (by decide) (Nat.le_of_ble_eq_true rfl) ?_
  refine ax_aload_n dX10_darkest_0 rfl ?_
  refine ax_iconst (v := 0) dX10_darkest_1 (by decide) ?_
  refine ax_putI (f := 0) dX10_darkest_2 acl_10 wd_1600 (by decide) rfl rfl (ax_nfI rfl) (lo_s hok 90 rfl) ?_
  refine ax_gen (fun M0 hM0 => ?_)
  have hok : lo_ok M0.2 := by rw [hM0]; exact hok
  have hr0 : rr M0 r := by rw [hM0]; exact rr_fr hr (fun n i q => ax_pn (by omega))
  have h00 : M0.1 90 0 = 0 := by rw [hM0, ax_pa]
  refine ax_aload_n dX10_darkest_5 rfl ?_
  refine ax_join0 (¬ (0 ≤ h ∧ h ≤ 9)) 21 (1) (0) ?_ (fun ja jb => ?_)
  rotate_left
  · refine ax_iload_n dX10_darkest_6 rfl ?_
    refine ax_iconst (v := 0) dX10_darkest_7 (by decide) ?_
    refine ax_bipush (v := 9) dX10_darkest_8 (by decide) ?_
    refine ax_callS (As := _) (c1 := 0) (n1 := 0) (c_X10_in (d := 0) (M := M0) _ _ _) dX10_darkest_10 mX10_in wd_1772 rfl (by omega) (by omega) (by omega) rfl rfl (fun _ _ h => by cases h.1) ?_
    rintro r M9 ⟨h1, h9⟩; cases h1; rw [h9]; clear h9 M9
    refine ax_ifB_ne (tgt := 20) dX10_darkest_13 (by decide) (fun h13 => ?_) (fun h13 => ?_)
    · refine ax_iconst (v := 0) dX10_darkest_20 (by decide) ?_
      first | (refine ja ?_; simp only [h13, and_self, and_true, true_and, not_true_eq_false, not_false_eq_true, or_true, true_or, or_false, false_or, or_self]; done) | (refine jb ?_; simp only [h13, and_self, and_true, true_and, not_true_eq_false, not_false_eq_true, or_true, true_or, or_false, false_or, or_self]; done) | exact ja h13 | exact jb (fun z => z h13) | exact ja (Or.inr h13) | exact ja (Or.inl h13)
    · refine ax_iconst (v := 1) dX10_darkest_16 (by decide) ?_
      refine ax_goto (tgt := 21) dX10_darkest_17 (by decide) ?_
      first | (refine ja ?_; simp only [h13, and_self, and_true, true_and, not_true_eq_false, not_false_eq_true, or_true, true_or, or_false, false_or, or_self]; done) | (refine jb ?_; simp only [h13, and_self, and_true, true_and, not_true_eq_false, not_false_eq_true, or_true, true_or, or_false, false_or, or_self]; done) | exact ja h13 | exact jb (fun z => z h13) | exact ja (Or.inr h13) | exact ja (Or.inl h13)
  refine ax_iconst (v := 1) dX10_darkest_21 (by decide) ?_
  refine ax_iconst (v := 1) dX10_darkest_22 (by decide) ?_
  refine ax_callV (As := _) (d2 := _) (c1 := 0) (n1 := 0) (c_badP (d := 0) (M := M0) (p := ¬ (0 ≤ h ∧ h ≤ 9)) hok h00 (w := 1) (k := 1) (by decide) (by decide) (by decide) rfl rfl) dX10_darkest_23 mX10_bad wd_1775 acl_10 (lo_s hok 90 rfl) rfl (by omega) (by omega) (by omega) rfl rfl (fun _ _ h => by rcases h with ⟨_, h, _⟩ | ⟨_, h, _⟩ <;> cases h) ?_
  rintro o9 M9 (⟨g1, h1, h2⟩ | ⟨g1, h1, h2⟩) <;> cases h1 <;> rw [h2] <;> clear h2 M9
  · refine ax_if_eq (tgt := 31) dX10_darkest_26 (by decide) (fun hc => ?_) (fun hc => ?_)
    · exact absurd hc (by decide)
    · refine ax_iconst (v := 0) dX10_darkest_29 (by decide) ?_
      refine ax_iret dX10_darkest_30 rfl ?_
      exact rq_bad hM0 (w := 1) (k := 1) rfl (by unfold qa_darkest; rw [if_pos g1])
  refine ax_if_eq (tgt := 31) dX10_darkest_26 (by decide) (fun hc => ?_) (fun hc => ?_)
  rotate_left
  · exact absurd rfl hc
  have hh := iv_in (dn g1)
  have h99 : (9 : Int32).toInt = 9 := rfl
  have h00 : (0 : Int32).toInt = 0 := rfl
  have hl0 : ∀ w, w < 3 → ml_law M0 w (lw w) := fun w hw => by rw [hM0]; exact sf_law0 hw (hl w hw)
  obtain ⟨v, hv⟩ : ∃ v, v = dk_v r lw h.toInt := ⟨_, rfl⟩
  have vle : ∀ x, v x ≤ 2 := fun x => by rw [hv]; exact dk_v_le _ _ _ _
  refine ax_iconst (v := (-1)) dX10_darkest_31 (by decide) ?_
  refine ax_istore_n dX10_darkest_32 (by decide) rfl ?_
  refine ax_iconst (v := 0) dX10_darkest_33 (by decide) ?_
  refine ax_istore_n dX10_darkest_34 (by decide) rfl ?_
  refine ax_iconst (v := 0) dX10_darkest_35 (by decide) ?_
  refine ax_istore dX10_darkest_36 (by decide) rfl ?_
  refine ax_for (r 0).toNat (fun x N L => ∃ y5, L = [some (av_r 90), some (av_i h), some (av_i (dk_s v x).1), some (av_i (nI (dk_s v x).2)), some (av_i (nI x)), y5] ∧ sf M0 N) 38 ?_ ?_ (i := 0) (by omega) ⟨_, rfl, sf_0 _⟩
  · rintro x N L hx ⟨y5, rfl, fr⟩ next
    have hok : lo_ok N.2 := by rw [fr.1]; exact hok
    have hrN := sf_rr fr hr0
    have s2 := dk_s_le vle x
    have vx := vle x
    refine ax_iload dX10_darkest_38 rfl ?_
    refine ax_aload_n dX10_darkest_40 rfl ?_
    refine ax_getK (f := 12) 94 dX10_darkest_41 acl_10 wd_1612 (by decide) rfl (lo_s hok 90 rfl) (lo_r hok 83 rfl) ?_
    refine ax_iconst (v := 0) dX10_darkest_44 (by decide) ?_
    refine ax_ialdN (0) dX10_darkest_45 (lo_s hok 94 rfl) (by decide) (by decide) (by decide) ?_
    rw [hrN.1 0 (by decide), iI_tn (show 0 ≤ r 0 by omega)]
    refine ax_icmp_ge (tgt := 82) dX10_darkest_46 (by decide) (fun hc => absurd ((nI_leI (by omega) (by omega)).mp hc) (by omega)) (fun hc => ?_)
    refine ax_aload_n dX10_darkest_49 rfl ?_
    refine ax_iload dX10_darkest_50 rfl ?_
    refine ax_iload_n dX10_darkest_52 rfl ?_
    refine ax_callV (As := _) (d2 := _) (c1 := 0) (n1 := 0) (c_hitAlone (lw := lw) (M := N) hok hrN ho (fun w hw => sf_law fr hw (hl0 w hw)) (x := (x : Int)) (h := h.toInt) (by omega) (by omega) (iI_nI x) (iI_of h).symm) dX10_darkest_53 mX10_hitAlone wd_2150 acl_10 (lo_s hok 90 rfl) rfl (by omega) (by omega) (by omega) rfl rfl (fun _ _ h => by cases h.1) ?_
    rintro o9 N2 ⟨h1, f1⟩; cases h1
    have hok : lo_ok N2.2 := by rw [f1.1]; exact hok
    refine ax_callS (As := _) (c1 := 0) (n1 := 0) (c_X10_ones (d := 0) (M := N2) _) dX10_darkest_56 mX10_ones wd_2041 rfl (by omega) (by omega) (by omega) rfl rfl (fun _ _ h => by cases h.1) ?_
    rintro r M9 ⟨h1, h9⟩; cases h1; rw [h9]; clear h9 M9
    have ev : mt_ones (hx2 r lw (x : Int) h.toInt) 10 = nI (v x) := by rw [hv]; exact hx2_ones _ _
    rw [ev]
    refine ax_istore dX10_darkest_59 (by decide) rfl ?_
    refine ax_iload dX10_darkest_61 rfl ?_
    refine ax_iload_n dX10_darkest_63 rfl ?_
    refine ax_icmp_gt (tgt := 70) dX10_darkest_64 (by decide) (fun hc => ?_) (fun hc => ?_)
    · have hlt := (nI_ltI (by omega) (by omega)).mp hc
      refine ax_iload dX10_darkest_70 rfl ?_
      refine ax_istore_n dX10_darkest_72 (by decide) rfl ?_
      refine ax_iload dX10_darkest_73 rfl ?_
      refine ax_istore_n dX10_darkest_75 (by decide) rfl ?_
      refine ax_iinc (v := 1) dX10_darkest_76 rfl (by decide) (by decide) rfl ?_
      refine ax_goto (tgt := 38) dX10_darkest_79 (by decide) ?_
      have e : dk_s v (x + 1) = (nI x, v x) := if_pos hlt
      exact next _ _ ⟨some (av_i (nI (v x))), by rw [e, nI_1]; rfl, sf_tr fr f1⟩
    · have hlt : ¬ (dk_s v x).2 < v x := fun z => hc ((nI_ltI (by omega) (by omega)).mpr z)
      refine ax_goto (tgt := 76) dX10_darkest_67 (by decide) ?_
      refine ax_iinc (v := 1) dX10_darkest_76 rfl (by decide) (by decide) rfl ?_
      refine ax_goto (tgt := 38) dX10_darkest_79 (by decide) ?_
      have e : dk_s v (x + 1) = dk_s v x := if_neg hlt
      exact next _ _ ⟨some (av_i (nI (v x))), by rw [e, nI_1]; rfl, sf_tr fr f1⟩
  · rintro N L ⟨y5, rfl, fr⟩
    have hok : lo_ok N.2 := by rw [fr.1]; exact hok
    have hrN := sf_rr fr hr0
    refine ax_iload dX10_darkest_38 rfl ?_
    refine ax_aload_n dX10_darkest_40 rfl ?_
    refine ax_getK (f := 12) 94 dX10_darkest_41 acl_10 wd_1612 (by decide) rfl (lo_s hok 90 rfl) (lo_r hok 83 rfl) ?_
    refine ax_iconst (v := 0) dX10_darkest_44 (by decide) ?_
    refine ax_ialdN (0) dX10_darkest_45 (lo_s hok 94 rfl) (by decide) (by decide) (by decide) ?_
    rw [hrN.1 0 (by decide), iI_tn (show 0 ≤ r 0 by omega)]
    refine ax_icmp_ge (tgt := 82) dX10_darkest_46 (by decide) (fun hc => ?_) (fun hc => absurd ((nI_leI (by omega) (by omega)).mpr (by omega)) hc)
    refine ax_iload_n dX10_darkest_82 rfl ?_
    refine ax_iret dX10_darkest_83 rfl ?_
    refine rq_sf hM0 fr ?_
    unfold qa_darkest
    rw [if_neg g1, hv]
theorem c_dark (hok : lo_ok M.2) (hr : rr M r) (ho : rd_ok r) (hl : ∀ w, w < 3 → ml_law M w (lw w)) (x h : Int32) : ax_Met l G kX10_dark 9 0 0 M [av_r 90, av_i x, av_i h] (fun o M2 => rq M M2 o (qa_dark r lw x h)) := by
  have h9 := ho.1
  refine ax_body (by decide) (Nat.le_of_ble_eq_true rfl) ?_
  refine ax_aload_n dX10_dark_0 rfl ?_
  refine ax_iconst (v := 0) dX10_dark_1 (by decide) ?_
  refine ax_putI (f := 0) dX10_dark_2 acl_10 wd_1600 (by decide) rfl rfl (ax_nfI rfl) (lo_s hok 90 rfl) ?_
  refine ax_gen (fun M0 hM0 => ?_)
  have hok : lo_ok M0.2 := by rw [hM0]; exact hok
  have hr0 : rr M0 r := by rw [hM0]; exact rr_fr hr (fun n i q => ax_pn (by omega))
  have h00 : M0.1 90 0 = 0 := by rw [hM0, ax_pa]
  refine ax_aload_n dX10_dark_5 rfl ?_
  refine ax_join0 (¬ (0 ≤ x ∧ x ≤ iI (r 1) - 1)) 19 (1) (0) ?_ (fun ja jb => ?_)
  rotate_left
  · refine ax_aload_n dX10_dark_6 rfl ?_
    refine ax_iload_n dX10_dark_7 rfl ?_
    refine ax_callV (As := _) (d2 := _) (c1 := 0) (n1 := 0) (c_rIsCar (M := M0) hok hr0 _) dX10_dark_8 mX10_isCar wd_1919 acl_10 (lo_s hok 90 rfl) rfl (by omega) (by omega) (by omega) rfl rfl (fun _ _ h => by cases h.1) ?_
    rintro r M9 ⟨h1, h9⟩; cases h1; rw [h9]; clear h9 M9
    refine ax_ifB_ne (tgt := 18) dX10_dark_11 (by decide) (fun h11 => ?_) (fun h11 => ?_)
    · refine ax_iconst (v := 0) dX10_dark_18 (by decide) ?_
      first | (refine ja ?_; simp only [h11, and_self, and_true, true_and, not_true_eq_false, not_false_eq_true, or_true, true_or, or_false, false_or, or_self]; done) | (refine jb ?_; simp only [h11, and_self, and_true, true_and, not_true_eq_false, not_false_eq_true, or_true, true_or, or_false, false_or, or_self]; done) | exact ja h11 | exact jb (fun z => z h11) | exact ja (Or.inr h11) | exact ja (Or.inl h11)
    · refine ax_iconst (v := 1) dX10_dark_14 (by decide) ?_
      refine ax_goto (tgt := 19) dX10_dark_15 (by decide) ?_
      first | (refine ja ?_; simp only [h11, and_self, and_true, true_and, not_true_eq_false, not_false_eq_true, or_true, true_or, or_false, false_or, or_self]; done) | (refine jb ?_; simp only [h11, and_self, and_true, true_and, not_true_eq_false, not_false_eq_true, or_true, true_or, or_false, false_or, or_self]; done) | exact ja h11 | exact jb (fun z => z h11) | exact ja (Or.inr h11) | exact ja (Or.inl h11)
  refine ax_iconst (v := 1) dX10_dark_19 (by decide) ?_
  refine ax_iconst (v := 0) dX10_dark_20 (by decide) ?_
  refine ax_callV (As := _) (d2 := _) (c1 := 0) (n1 := 0) (c_badP (d := 0) (M := M0) (p := ¬ (0 ≤ x ∧ x ≤ iI (r 1) - 1)) hok h00 (w := 1) (k := 0) (by decide) (by decide) (by decide) rfl rfl) dX10_dark_21 mX10_bad wd_1775 acl_10 (lo_s hok 90 rfl) rfl (by omega) (by omega) (by omega) rfl rfl (fun _ _ h => by rcases h with ⟨_, h, _⟩ | ⟨_, h, _⟩ <;> cases h) ?_
  rintro o9 M9 (⟨g1, h1, h2⟩ | ⟨g1, h1, h2⟩) <;> cases h1 <;> rw [h2] <;> clear h2 M9
  · refine ax_if_ne (tgt := 51) dX10_dark_24 (by decide) (fun hc => ?_) (fun hc => ?_)
    · refine ax_iconst (v := 0) dX10_dark_51 (by decide) ?_
      refine ax_iret dX10_dark_52 rfl ?_
      exact rq_bad hM0 (w := 1) (k := 0) rfl (by unfold qa_dark; rw [if_pos g1])
    · exact absurd hc (by decide)
  refine ax_if_ne (tgt := 51) dX10_dark_24 (by decide) (fun hc => ?_) (fun hc => ?_)
  · exact absurd rfl hc
  refine ax_aload_n dX10_dark_27 rfl ?_
  refine ax_join0 (¬ (0 ≤ h ∧ h ≤ 9)) 43 (1) (0) ?_ (fun ja jb => ?_)
  rotate_left
  · refine ax_iload_n dX10_dark_28 rfl ?_
    refine ax_iconst (v := 0) dX10_dark_29 (by decide) ?_
    refine ax_bipush (v := 9) dX10_dark_30 (by decide) ?_
    refine ax_callS (As := _) (c1 := 0) (n1 := 0) (c_X10_in (d := 0) (M := M0) _ _ _) dX10_dark_32 mX10_in wd_1772 rfl (by omega) (by omega) (by omega) rfl rfl (fun _ _ h => by cases h.1) ?_
    rintro r M9 ⟨h1, h9⟩; cases h1; rw [h9]; clear h9 M9
    refine ax_ifB_ne (tgt := 42) dX10_dark_35 (by decide) (fun h35 => ?_) (fun h35 => ?_)
    · refine ax_iconst (v := 0) dX10_dark_42 (by decide) ?_
      first | (refine ja ?_; simp only [h35, and_self, and_true, true_and, not_true_eq_false, not_false_eq_true, or_true, true_or, or_false, false_or, or_self]; done) | (refine jb ?_; simp only [h35, and_self, and_true, true_and, not_true_eq_false, not_false_eq_true, or_true, true_or, or_false, false_or, or_self]; done) | exact ja h35 | exact jb (fun z => z h35) | exact ja (Or.inr h35) | exact ja (Or.inl h35)
    · refine ax_iconst (v := 1) dX10_dark_38 (by decide) ?_
      refine ax_goto (tgt := 43) dX10_dark_39 (by decide) ?_
      first | (refine ja ?_; simp only [h35, and_self, and_true, true_and, not_true_eq_false, not_false_eq_true, or_true, true_or, or_false, false_or, or_self]; done) | (refine jb ?_; simp only [h35, and_self, and_true, true_and, not_true_eq_false, not_false_eq_true, or_true, true_or, or_false, false_or, or_self]; done) | exact ja h35 | exact jb (fun z => z h35) | exact ja (Or.inr h35) | exact ja (Or.inl h35)
  refine ax_iconst (v := 2) dX10_dark_43 (by decide) ?_
  refine ax_iconst (v := 1) dX10_dark_44 (by decide) ?_
  refine ax_callV (As := _) (d2 := _) (c1 := 0) (n1 := 0) (c_badP (d := 0) (M := M0) (p := ¬ (0 ≤ h ∧ h ≤ 9)) hok h00 (w := 2) (k := 1) (by decide) (by decide) (by decide) rfl rfl) dX10_dark_45 mX10_bad wd_1775 acl_10 (lo_s hok 90 rfl) rfl (by omega) (by omega) (by omega) rfl rfl (fun _ _ h => by rcases h with ⟨_, h, _⟩ | ⟨_, h, _⟩ <;> cases h) ?_
  rintro o9 M9 (⟨g2, h1, h2⟩ | ⟨g2, h1, h2⟩) <;> cases h1 <;> rw [h2] <;> clear h2 M9
  · refine ax_if_eq (tgt := 53) dX10_dark_48 (by decide) (fun hc => ?_) (fun hc => ?_)
    · exact absurd hc (by decide)
    · refine ax_iconst (v := 0) dX10_dark_51 (by decide) ?_
      refine ax_iret dX10_dark_52 rfl ?_
      exact rq_bad hM0 (w := 2) (k := 1) rfl (by unfold qa_dark; rw [if_neg g1, if_pos g2])
  refine ax_if_eq (tgt := 53) dX10_dark_48 (by decide) (fun hc => ?_) (fun hc => ?_)
  rotate_left
  · exact absurd rfl hc
  obtain ⟨c, hc2, rfl⟩ := in_car (dn g1) (by omega) (by omega)
  have hh := iv_in (dn g2)
  have h99 : (9 : Int32).toInt = 9 := rfl
  have h00 : (0 : Int32).toInt = 0 := rfl
  have hl0 : ∀ w, w < 3 → ml_law M0 w (lw w) := fun w hw => by rw [hM0]; exact sf_law0 hw (hl w hw)
  refine ax_iconst (v := 0) dX10_dark_53 (by decide) ?_
  refine ax_istore_n dX10_dark_54 (by decide) rfl ?_
  refine ax_iconst (v := 0) dX10_dark_55 (by decide) ?_
  refine ax_istore dX10_dark_56 (by decide) rfl ?_
  refine ax_for (r 0).toNat (fun x N L => L = [some (av_r 90), some (av_i (nI c)), some (av_i h), some (av_i (nI (mt_cnt (fun q => hx r lw c (q : Int) h.toInt) x))), some (av_i (nI x))] ∧ sf M0 N) 58 ?_ ?_ (i := 0) (by omega) ⟨rfl, sf_0 _⟩
  · rintro x N L hx0 ⟨rfl, fr⟩ next
    have hok : lo_ok N.2 := by rw [fr.1]; exact hok
    have hrN := sf_rr fr hr0
    refine ax_iload dX10_dark_58 rfl ?_
    refine ax_aload_n dX10_dark_60 rfl ?_
    refine ax_getK (f := 12) 94 dX10_dark_61 acl_10 wd_1612 (by decide) rfl (lo_s hok 90 rfl) (lo_r hok 83 rfl) ?_
    refine ax_iconst (v := 0) dX10_dark_64 (by decide) ?_
    refine ax_ialdN (0) dX10_dark_65 (lo_s hok 94 rfl) (by decide) (by decide) (by decide) ?_
    rw [hrN.1 0 (by decide), iI_tn (show 0 ≤ r 0 by omega)]
    refine ax_icmp_ge (tgt := 89) dX10_dark_66 (by decide) (fun hc => absurd ((nI_leI (by omega) (by omega)).mp hc) (by omega)) (fun hc => ?_)
    refine ax_iload_n dX10_dark_69 rfl ?_
    refine ax_aload_n dX10_dark_70 rfl ?_
    refine ax_iload dX10_dark_71 rfl ?_
    refine ax_iload_n dX10_dark_73 rfl ?_
    refine ax_callV (As := _) (d2 := _) (c1 := 0) (n1 := 0) (c_hitAlone (lw := lw) (M := N) hok hrN ho (fun w hw => sf_law fr hw (hl0 w hw)) (x := (x : Int)) (h := h.toInt) (by omega) (by omega) (iI_nI x) (iI_of h).symm) dX10_dark_74 mX10_hitAlone wd_2150 acl_10 (lo_s hok 90 rfl) rfl (by omega) (by omega) (by omega) rfl rfl (fun _ _ h => by cases h.1) ?_
    rintro o9 N2 ⟨h1, f1⟩; cases h1
    refine ax_iload_n dX10_dark_77 rfl ?_
    refine ax_ishr dX10_dark_78 ?_
    refine ax_iconst (v := 1) dX10_dark_79 (by decide) ?_
    refine ax_iand dX10_dark_80 ?_
    have eb : hx2 r lw (x : Int) h.toInt >>> (nI c &&& 31) &&& 1 = if hx r lw c (x : Int) h.toInt = true then 1 else 0 := by
      unfold hx2
      rw [hx2_bit _ _ (show c < 2 by omega)]
      rcases (show c = 0 ∨ c = 1 by omega) with rfl | rfl <;> rfl
    rw [eb]
    refine ax_iadd dX10_dark_81 ?_
    rw [nI_cnt (fun q => hx r lw c (q : Int) h.toInt) x]
    refine ax_istore_n dX10_dark_82 (by decide) rfl ?_
    refine ax_iinc (v := 1) dX10_dark_83 rfl (by decide) (by decide) rfl ?_
    refine ax_goto (tgt := 58) dX10_dark_86 (by decide) ?_
    exact next _ _ ⟨by rw [nI_1]; rfl, sf_tr fr f1⟩
  · rintro N L ⟨rfl, fr⟩
    have hok : lo_ok N.2 := by rw [fr.1]; exact hok
    have hrN := sf_rr fr hr0
    refine ax_iload dX10_dark_58 rfl ?_
    refine ax_aload_n dX10_dark_60 rfl ?_
    refine ax_getK (f := 12) 94 dX10_dark_61 acl_10 wd_1612 (by decide) rfl (lo_s hok 90 rfl) (lo_r hok 83 rfl) ?_
    refine ax_iconst (v := 0) dX10_dark_64 (by decide) ?_
    refine ax_ialdN (0) dX10_dark_65 (lo_s hok 94 rfl) (by decide) (by decide) (by decide) ?_
    rw [hrN.1 0 (by decide), iI_tn (show 0 ≤ r 0 by omega)]
    refine ax_icmp_ge (tgt := 89) dX10_dark_66 (by decide) (fun hc => ?_) (fun hc => absurd ((nI_leI (by omega) (by omega)).mpr (by omega)) hc)
    refine ax_iload_n dX10_dark_89 rfl ?_
    refine ax_iret dX10_dark_90 rfl ?_
    refine rq_sf hM0 fr ?_
    unfold qa_dark
    rw [if_neg g1, if_neg g2, nI_clamp (by omega)]
theorem c_needs (hok : lo_ok M.2) (hr : rr M r) (ho : rd_ok r) (hl : ∀ w, w < 3 → ml_law M w (lw w)) (x : Int32) : ax_Met l G kX10_needs 9 0 0 M [av_r 90, av_i x] (fun o M2 => rq M M2 o (qa_needs r lw x)) := by
  have h9 := ho.1
  refine ax_body (by decide) (Nat.le_of_ble_eq_true rfl) ?_
  refine ax_aload_n dX10_needs_0 rfl ?_
  refine ax_iconst (v := 0) dX10_needs_1 (by decide) ?_
  refine ax_putI (f := 0) dX10_needs_2 acl_10 wd_1600 (by decide) rfl rfl (ax_nfI rfl) (lo_s hok 90 rfl) ?_
  refine ax_gen (fun M0 hM0 => ?_)
  have hok : lo_ok M0.2 := by rw [hM0]; exact hok
  have hr0 : rr M0 r := by rw [hM0]; exact rr_fr hr (fun n i q => ax_pn (by omega))
  have h00 : M0.1 90 0 = 0 := by rw [hM0, ax_pa]
  have hl0 : ∀ w, w < 3 → ml_law M0 w (lw w) := fun w hw => by rw [hM0]; exact sf_law0 hw (hl w hw)
  refine ax_aload_n dX10_needs_5 rfl ?_
  refine ax_iload_n dX10_needs_6 rfl ?_
  refine ax_iconst (v := 0) dX10_needs_7 (by decide) ?_
  refine ax_aload_n dX10_needs_8 rfl ?_
  refine ax_getK (f := 12) 94 dX10_needs_9 acl_10 wd_1612 (by decide) rfl (lo_s hok 90 rfl) (lo_r hok 83 rfl) ?_
  refine ax_iconst (v := 0) dX10_needs_12 (by decide) ?_
  refine ax_ialdN (0) dX10_needs_13 (lo_s hok 94 rfl) (by decide) (by decide) (by decide) ?_
  rw [hr0.1 0 (by decide)]
  refine ax_iconst (v := 1) dX10_needs_14 (by decide) ?_
  refine ax_isub dX10_needs_15 ?_
  refine ax_callS (As := _) (c1 := 0) (n1 := 0) (c_X10_in (d := 0) (M := M0) _ _ _) dX10_needs_16 mX10_in wd_1772 rfl (by omega) (by omega) (by omega) rfl rfl (fun _ _ h => by cases h.1) ?_
  rintro r M9 ⟨h1, h9⟩; cases h1; rw [h9]; clear h9 M9
  refine ax_join1 (¬ (0 ≤ x ∧ x ≤ iI (r 0) - 1)) 27 (1) (0) ?_ (fun ja jb => ?_)
  rotate_left
  · refine ax_ifB_ne (tgt := 26) dX10_needs_19 (by decide) (fun h19 => ?_) (fun h19 => ?_)
    · refine ax_iconst (v := 0) dX10_needs_26 (by decide) ?_
      first | exact jb (fun z => z h19) | exact ja h19
    · refine ax_iconst (v := 1) dX10_needs_22 (by decide) ?_
      refine ax_goto (tgt := 27) dX10_needs_23 (by decide) ?_
      first | exact jb (fun z => z h19) | exact ja h19
  refine ax_iconst (v := 1) dX10_needs_27 (by decide) ?_
  refine ax_iconst (v := 1) dX10_needs_28 (by decide) ?_
  refine ax_callV (As := _) (d2 := _) (c1 := 0) (n1 := 0) (c_badP (d := 0) (M := M0) (p := ¬ (0 ≤ x ∧ x ≤ iI (r 0) - 1)) hok h00 (w := 1) (k := 1) (by decide) (by decide) (by decide) rfl rfl) dX10_needs_29 mX10_bad wd_1775 acl_10 (lo_s hok 90 rfl) rfl (by omega) (by omega) (by omega) rfl rfl (fun _ _ h => by rcases h with ⟨_, h, _⟩ | ⟨_, h, _⟩ <;> cases h) ?_
  rintro o9 M9 (⟨g1, h1, h2⟩ | ⟨g1, h1, h2⟩) <;> cases h1 <;> rw [h2] <;> clear h2 M9
  · refine ax_if_eq (tgt := 37) dX10_needs_32 (by decide) (fun hc => ?_) (fun hc => ?_)
    · exact absurd hc (by decide)
    · refine ax_iconst (v := 0) dX10_needs_35 (by decide) ?_
      refine ax_iret dX10_needs_36 rfl ?_
      exact rq_bad hM0 (w := 1) (k := 1) rfl (by unfold qa_needs; rw [if_pos g1])
  refine ax_if_eq (tgt := 37) dX10_needs_32 (by decide) (fun hc => ?_) (fun hc => ?_)
  rotate_left
  · exact absurd rfl hc
  have hx1 := dn g1
  rw [show (1 : Int32) = iI 1 from rfl, iI_sub, iv_le, iv_le, iI_t (by unfold iI_b; omega), show (0 : Int32).toInt = 0 from rfl] at hx1
  refine ax_iconst (v := 0) dX10_needs_37 (by decide) ?_
  refine ax_istore_n dX10_needs_38 (by decide) rfl ?_
  refine ax_for 10 (fun h N L => L = [some (av_r 90), some (av_i x), some (av_i (nI h))] ∧ sf M0 N ∧ ∀ q, q < h → (!hx r lw 0 x.toInt (q : Int) && !hx r lw 1 x.toInt (q : Int)) = false) 39 ?_ ?_ (i := 0) (by omega) ⟨rfl, sf_0 _, fun q z => by omega⟩
  · rintro h N L hh ⟨rfl, fr, hq⟩ next
    have hok : lo_ok N.2 := by rw [fr.1]; exact hok
    have hrN := sf_rr fr hr0
    refine ax_iload_n dX10_needs_39 rfl ?_
    refine ax_bipush (v := 10) dX10_needs_40 (by decide) ?_
    refine ax_icmp_ge (tgt := 62) dX10_needs_42 (by decide) (fun hc => absurd ((nI_leI (a := 10) (by omega) (by omega)).mp hc) (by omega)) (fun hc => ?_)
    refine ax_aload_n dX10_needs_45 rfl ?_
    refine ax_iload_n dX10_needs_46 rfl ?_
    refine ax_iload_n dX10_needs_47 rfl ?_
    refine ax_callV (As := _) (d2 := _) (c1 := 0) (n1 := 0) (c_hitAlone (lw := lw) (M := N) hok hrN ho (fun w hw => sf_law fr hw (hl0 w hw)) (x := x.toInt) (h := (h : Int)) (by omega) (by omega) (iI_of x).symm (iI_nI h)) dX10_needs_48 mX10_hitAlone wd_2150 acl_10 (lo_s hok 90 rfl) rfl (by omega) (by omega) (by omega) rfl rfl (fun _ _ h => by cases h.1) ?_
    rintro o9 N2 ⟨h1, f1⟩; cases h1
    have hz := hx2_0 (hx r lw 0 x.toInt (h : Int)) (hx r lw 1 x.toInt (h : Int))
    refine ax_if_ne (tgt := 56) dX10_needs_51 (by decide) (fun hc => ?_) (fun hc => ?_)
    · refine ax_iinc (v := 1) dX10_needs_56 rfl (by decide) (by decide) rfl ?_
      refine ax_goto (tgt := 39) dX10_needs_59 (by decide) ?_
      refine next _ _ ⟨by rw [nI_1]; rfl, sf_tr fr f1, fun q z => ?_⟩
      by_cases e : q = h
      · subst e; exact mt_nf (fun z => hc (hz.mpr z))
      · exact hq q (by omega)
    · refine ax_iload_n dX10_needs_54 rfl ?_
      refine ax_iret dX10_needs_55 rfl ?_
      refine rq_sf hM0 (sf_tr fr f1) ?_
      unfold qa_needs
      rw [if_neg g1, mt_first_of (p := fun h => !hx r lw 0 x.toInt (h : Int) && !hx r lw 1 x.toInt (h : Int)) (u := h) (hz.mp hc) hq hh]
      rfl
  · rintro N L ⟨rfl, fr, hq⟩
    refine ax_iload_n dX10_needs_39 rfl ?_
    refine ax_bipush (v := 10) dX10_needs_40 (by decide) ?_
    refine ax_icmp_ge (tgt := 62) dX10_needs_42 (by decide) (fun hc => ?_) (fun hc => absurd ((nI_leI (a := 10) (by omega) (by omega)).mpr (by omega)) hc)
    refine ax_iconst (v := (-1)) dX10_needs_62 (by decide) ?_
    refine ax_iret dX10_needs_63 rfl ?_
    refine rq_sf hM0 fr ?_
    unfold qa_needs
    rw [if_neg g1, mt_first_no hq]
    rfl
end QI

