/-! ===== the class's road ===== -/
def xbd (M : ax_M) (R : Nat) (r : Nat → Int) (nb : Nat) (bs : Nat → Int) : Prop := (nb ≤ 6 ∧ (nb : Int) ≤ r 3) ∧ M.1 R 2 = nI nb ∧ (∀ i, i < nb → M.1 (R + 1) i = iI (bs i) ∧ 0 ≤ bs i ∧ bs i < r 0) ∧ (∀ i j, i < j → j < nb → bs i ≠ bs j) ∧ (∀ i, i < nb → ∃ k : Nat, (k : Int) < r 3 ∧ bs i = r (50 + k)) ∧ ∀ k : Nat, (k : Int) < r 3 → ∃ i, i < nb ∧ bs i = r (50 + k)
def xr (M : ax_M) (R : Nat) (r : Nat → Int) : Prop := (M.1 R 0 = iI (r 0) ∧ M.1 R 16 = iI (r 1) ∧ M.1 R 8 = iI (r 2) ∧ M.1 R 3 = iI (r 3) ∧ M.1 R 5 = iI (r 4) ∧ M.1 R 11 = iI (r 5) ∧ M.1 R 12 = iI (r 6) ∧ M.1 R 9 = iI (r 34) ∧ M.1 R 10 = iI (r 35)) ∧ (∀ c : Nat, (c : Int) < r 1 → M.1 (R + 5) c = iI (r (40 + c)) ∧ M.1 (R + 6) c = iI (r (10 + 2 * c)) ∧ M.1 (R + 7) c = iI (r (11 + 2 * c))) ∧ (∀ k : Nat, (k : Int) < r 2 → M.1 (R + 3) k = iI (r (14 + 2 * k)) ∧ M.1 (R + 4) k = iI (r (15 + 2 * k))) ∧ (∀ x : Nat, x < 60 → M.1 (R + 2) x = if rd_wet r x = true then 1 else 0) ∧ ∃ nb bs, xbd M R r nb bs
theorem xr_fr {M M2 : ax_M} {R : Nat} {r : Nat → Int} (h : xr M R r) (hf : ∀ n i, R ≤ n → n ≤ R + 7 → M2.1 n i = M.1 n i) : xr M2 R r := by
  obtain ⟨⟨a0, a1, a2, a3, a4, a5, a6, a7, a8⟩, h2, h3, h4, nb, bs, b1, b2, b3, b4⟩ := h
  refine ⟨⟨(hf R _ (by omega) (by omega)).trans a0, (hf R _ (by omega) (by omega)).trans a1, (hf R _ (by omega) (by omega)).trans a2, (hf R _ (by omega) (by omega)).trans a3, (hf R _ (by omega) (by omega)).trans a4, (hf R _ (by omega) (by omega)).trans a5, (hf R _ (by omega) (by omega)).trans a6, (hf R _ (by omega) (by omega)).trans a7, (hf R _ (by omega) (by omega)).trans a8⟩, fun c hc => ?_, fun k hk => ?_, fun x hx => (hf _ _ (by omega) (by omega)).trans (h4 x hx), nb, bs, b1, (hf R _ (by omega) (by omega)).trans b2, fun i hi => ⟨(hf _ _ (by omega) (by omega)).trans (b3 i hi).1, (b3 i hi).2⟩, b4⟩
  · exact ⟨(hf _ _ (by omega) (by omega)).trans (h2 c hc).1, (hf _ _ (by omega) (by omega)).trans (h2 c hc).2.1, (hf _ _ (by omega) (by omega)).trans (h2 c hc).2.2⟩
  · exact ⟨(hf _ _ (by omega) (by omega)).trans (h3 k hk).1, (hf _ _ (by omega) (by omega)).trans (h3 k hk).2⟩
theorem rd_hd_iff {r : Nat → Int} {a b : Int} : ∀ {n : Nat}, rd_hd r a b n = true ↔ ∃ k, k < n ∧ min a b < r (50 + k) ∧ r (50 + k) < max a b
  | 0 => ⟨fun h => (by cases h), fun ⟨k, h, _⟩ => by omega⟩
  | n + 1 => by
    show (rd_hd r a b n || _) = true ↔ _
    rw [Bool.or_eq_true, rd_hd_iff (n := n), Bool.and_eq_true, decide_eq_true_eq, decide_eq_true_eq]
    constructor
    · rintro (⟨k, h1, h2⟩ | h)
      · exact ⟨k, by omega, h2⟩
      · exact ⟨n, by omega, h⟩
    · rintro ⟨k, h1, h2⟩
      by_cases e : k = n
      · subst e; exact Or.inr h2
      · exact Or.inl ⟨k, by omega, h2⟩
theorem rd_wt_iff {r : Nat → Int} {x : Int} : ∀ {n : Nat}, rd_wt r x n = true ↔ ∃ k, k < n ∧ r (60 + 2 * k) ≤ x ∧ x ≤ r (61 + 2 * k)
  | 0 => ⟨fun h => (by cases h), fun ⟨k, h, _⟩ => by omega⟩
  | n + 1 => by
    show (rd_wt r x n || _) = true ↔ _
    rw [Bool.or_eq_true, rd_wt_iff (n := n), Bool.and_eq_true, decide_eq_true_eq, decide_eq_true_eq]
    constructor
    · rintro (⟨k, h1, h2⟩ | h)
      · exact ⟨k, by omega, h2⟩
      · exact ⟨n, by omega, h⟩
    · rintro ⟨k, h1, h2⟩
      by_cases e : k = n
      · subst e; exact Or.inr h2
      · exact Or.inl ⟨k, by omega, h2⟩
theorem rd_hid_iff {r : Nat → Int} (ho : rd_ok r) {a b : Int} : rd_hid r a b = true ↔ ∃ k : Nat, (k : Int) < r 3 ∧ min a b < r (50 + k) ∧ r (50 + k) < max a b := by
  have := ho.1
  unfold rd_hid
  rw [rd_hd_iff]
  constructor
  · rintro ⟨k, h1, h2⟩; exact ⟨k, by omega, h2⟩
  · rintro ⟨k, h1, h2⟩; exact ⟨k, by omega, h2⟩
theorem rd_wet_iff {r : Nat → Int} (ho : rd_ok r) {x : Int} : rd_wet r x = true ↔ ∃ k : Nat, (k : Int) < r 4 ∧ r (60 + 2 * k) ≤ x ∧ x ≤ r (61 + 2 * k) := by
  have := ho.1
  unfold rd_wet
  rw [rd_wt_iff]
  constructor
  · rintro ⟨k, h1, h2⟩; exact ⟨k, by omega, h2⟩
  · rintro ⟨k, h1, h2⟩; exact ⟨k, by omega, h2⟩
theorem rd_wet_in {r : Nat → Int} (ho : rd_ok r) {x : Int} (h : rd_wet r x = true) : 0 ≤ x ∧ x < r 0 := by
  obtain ⟨k, h1, h2, h3⟩ := (rd_wet_iff ho).mp h
  have h4 := ho.1
  have h5 := ho.2.2.2.2 k (by omega)
  have := h5.2.2.2.2 h1
  omega
theorem xbd_hid {M : ax_M} {R : Nat} {r : Nat → Int} {nb : Nat} {bs : Nat → Int} (ho : rd_ok r) (h : xbd M R r nb bs) {a b : Int} : rd_hid r a b = true ↔ ∃ i, i < nb ∧ min a b < bs i ∧ bs i < max a b := by
  rw [rd_hid_iff ho]
  obtain ⟨-, -, -, -, h5, h6⟩ := h
  constructor
  · rintro ⟨k, h1, h2⟩
    obtain ⟨i, h3, h4⟩ := h6 k h1
    exact ⟨i, h3, by rw [h4]; exact h2⟩
  · rintro ⟨i, h1, h2⟩
    obtain ⟨k, h3, h4⟩ := h5 i h1
    exact ⟨k, h3, by rw [← h4]; exact h2⟩
theorem mt_cnt_0 {p : Nat → Bool} {n : Nat} : ∀ {m : Nat}, n ≤ m → (∀ x, n ≤ x → x < m → p x = false) → mt_cnt p m = mt_cnt p n
  | 0, h, _ => by rw [show n = 0 by omega]
  | m + 1, h, hp => by
    by_cases e : n = m + 1
    · rw [e]
    · show mt_cnt p m + _ = _
      rw [mt_cnt_0 (m := m) (by omega) (fun x h1 h2 => hp x h1 (by omega)), hp m (by omega) (by omega)]
      rfl
theorem cnt_nI {p : Nat → Bool} {i : Nat} : nI (mt_cnt p i) + (if p i = true then 1 else 0) = nI (mt_cnt p (i + 1)) := by
  show _ = nI (mt_cnt p i + _)
  rw [← nI_add]; congr 1; split <;> rfl
/-- one more that fits -/
theorem mt_cnt_one {p q : Nat → Bool} {a : Nat} (hp : p a = false) (hq : q a = true) (hpq : ∀ x, x ≠ a → q x = p x) : ∀ {n : Nat}, mt_cnt q n = mt_cnt p n + if a < n then 1 else 0
  | 0 => by simp [mt_cnt]
  | n + 1 => by
    show mt_cnt q n + _ = mt_cnt p n + _ + _
    rw [mt_cnt_one hp hq hpq (n := n)]
    by_cases e : n = a
    · subst e
      rw [hp, hq, if_neg (Nat.lt_irrefl n), if_pos (show n < n + 1 by omega)]
      simp
    · rw [hpq n e]
      by_cases h : a < n
      · rw [if_pos h, if_pos (show a < n + 1 by omega)]; omega
      · rw [if_neg h, if_neg (show ¬ a < n + 1 by omega)]; omega
def ex_n (bs : Nat → Int) : Nat → Nat → Bool
  | 0, _ => false
  | n + 1, x => ex_n bs n x || decide (bs n = (x : Int))
theorem ex_n_iff {bs : Nat → Int} {x : Nat} : ∀ {n : Nat}, ex_n bs n x = true ↔ ∃ i, i < n ∧ bs i = (x : Int)
  | 0 => ⟨fun h => (by cases h), fun ⟨i, h, _⟩ => by omega⟩
  | n + 1 => by
    show (ex_n bs n x || _) = true ↔ _
    rw [Bool.or_eq_true, ex_n_iff (n := n), decide_eq_true_eq]
    constructor
    · rintro (⟨k, h1, h2⟩ | h)
      · exact ⟨k, by omega, h2⟩
      · exact ⟨n, by omega, h⟩
    · rintro ⟨k, h1, h2⟩
      by_cases e : k = n
      · subst e; exact Or.inr h2
      · exact Or.inl ⟨k, by omega, h2⟩
theorem ex_n_cnt {bs : Nat → Int} {N : Nat} : ∀ {n : Nat}, (∀ i, i < n → 0 ≤ bs i ∧ bs i < N) → (∀ i j, i < j → j < n → bs i ≠ bs j) → mt_cnt (ex_n bs n) N = n
  | 0, _, _ => by
    have : ∀ m, mt_cnt (ex_n bs 0) m = 0 := by
      intro m
      induction m with
      | zero => rfl
      | succ m ih => show mt_cnt (ex_n bs 0) m + _ = 0; rw [ih]; rfl
    exact this N
  | n + 1, h1, h2 => by
    have hn := h1 n (by omega)
    rw [mt_cnt_one (p := ex_n bs n) (a := (bs n).toNat), ex_n_cnt (fun i hi => h1 i (by omega)) (fun i j a b => h2 i j a (by omega)), if_pos (by omega)]
    · apply Bool.eq_false_iff.mpr
      intro c
      obtain ⟨i, h3, h4⟩ := ex_n_iff.mp c
      exact h2 i n h3 (by omega) (by omega)
    · exact ex_n_iff.mpr ⟨n, by omega, by omega⟩
    · intro x hx
      show (ex_n bs n x || _) = _
      rw [decide_eq_false (by omega), Bool.or_false]
theorem xbd_nb {M : ax_M} {R : Nat} {r : Nat → Int} {nb : Nat} {bs : Nat → Int} (ho : rd_ok r) (h : xbd M R r nb bs) : rd_nb r = nb := by
  have h0 := ho.1
  unfold rd_nb
  rw [← ex_n_cnt (bs := bs) (N := (r 0).toNat) (n := nb) (fun i hi => by have := (h.2.2.1 i hi).2; omega) h.2.2.2.1]
  refine mt_cnt_cong (fun x hx => ?_)
  apply Bool.eq_iff_iff.mpr
  rw [xbd_hid ho h, ex_n_iff]
  constructor
  · rintro ⟨i, h1, h2⟩; exact ⟨i, h1, by omega⟩
  · rintro ⟨i, h1, h2⟩; exact ⟨i, h1, by omega⟩
section XR
variable {l : Launch} {G : ax_G} {M : ax_M} {R : Nat} {r : Nat → Int}
theorem c_startOf {d : Nat} (hok : lo_ok M.2) (hR : xh_R R) (hr : xr M R r) {c : Nat} (hc2 : c < 2) {x : Int32} (hx : x = nI c) : ax_Met l G kX5_startOf d 0 0 M [av_r R, av_i x] (ax_p (av_i (iI (mt_pos r c 0))) M) := by
  subst hx
  have e0 := hr.1.1
  refine ax_body (by decide) (Nat.le_of_ble_eq_true rfl) ?_
  refine ax_iload_n dX5_startOf_0 rfl ?_
  rcases (show c = 0 ∨ c = 1 by omega) with rfl | rfl
  · refine ax_if_ne (tgt := 8) dX5_startOf_1 (by decide) (fun hc => ?_) (fun hc => ?_)
    · exact absurd rfl hc
    · refine ax_iconst (v := 0) dX5_startOf_4 (by decide) ?_
      refine ax_goto (tgt := 14) dX5_startOf_5 (by decide) ?_
      refine ax_iret dX5_startOf_14 rfl ?_
      exact ⟨by rw [mt_pos_z0]; rfl, rfl⟩
  · refine ax_if_ne (tgt := 8) dX5_startOf_1 (by decide) (fun hc => ?_) (fun hc => ?_)
    · refine ax_aload_n dX5_startOf_8 rfl ?_
      refine ax_getI (f := 0) dX5_startOf_9 acl_5 wd_252 (by decide) rfl (xs_R_0 hR hok) ?_
      rw [e0]
      refine ax_iconst (v := 1) dX5_startOf_12 (by decide) ?_
      refine ax_isub dX5_startOf_13 ?_
      refine ax_iret dX5_startOf_14 rfl ?_
      exact ⟨by rw [mt_pos_z1, show (1 : Int32) = iI 1 from rfl, iI_sub], rfl⟩
    · exact absurd hc (by decide)
theorem c_has {d : Nat} (hok : lo_ok M.2) (hR : xh_R R) (hr : xr M R r) (ho : rd_ok r) {a : Int} (ha : iI_b a) {x : Int32} (hx : x = iI a) : ax_Met l G kX5_has d 0 0 M [av_r R, av_i x] (ax_p (av_i (if 0 ≤ a ∧ a < r 0 then 1 else 0)) M) := by
  subst hx
  have h0 := ho.1
  have e0 := hr.1.1
  refine ax_body (by decide) (Nat.le_of_ble_eq_true rfl) ?_
  refine ax_iload_n dX5_has_0 rfl ?_
  refine ax_if_lt (tgt := 16) dX5_has_1 (by decide) (fun hc => ?_) (fun hc => ?_)
  · have h1 := (iI_lt (b := 0) ha (by unfold iI_b; omega)).mp hc
    refine ax_iconst (v := 0) dX5_has_16 (by decide) ?_
    refine ax_zret dX5_has_17 rfl ?_ ?_
    · exact Or.inl rfl
    · rw [if_neg (by omega)]; exact ⟨rfl, rfl⟩
  have h1 : ¬ a < 0 := fun q => hc ((iI_lt (b := 0) ha (by unfold iI_b; omega)).mpr q)
  clear hc
  refine ax_iload_n dX5_has_4 rfl ?_
  refine ax_aload_n dX5_has_5 rfl ?_
  refine ax_getI (f := 0) dX5_has_6 acl_5 wd_252 (by decide) rfl (xs_R_0 hR hok) ?_
  rw [e0]
  refine ax_icmp_ge (tgt := 16) dX5_has_9 (by decide) (fun hc => ?_) (fun hc => ?_)
  · have h2 := (iI_le (by unfold iI_b; omega) ha).mp hc
    refine ax_iconst (v := 0) dX5_has_16 (by decide) ?_
    refine ax_zret dX5_has_17 rfl ?_ ?_
    · exact Or.inl rfl
    · rw [if_neg (by omega)]; exact ⟨rfl, rfl⟩
  · have h2 : ¬ r 0 ≤ a := fun q => hc ((iI_le (by unfold iI_b; omega) ha).mpr q)
    refine ax_iconst (v := 1) dX5_has_12 (by decide) ?_
    refine ax_goto (tgt := 17) dX5_has_13 (by decide) ?_
    refine ax_zret dX5_has_17 rfl ?_ ?_
    · exact Or.inr rfl
    · rw [if_pos (by omega)]; exact ⟨rfl, rfl⟩
theorem c_wetAt (hok : lo_ok M.2) (hR : xh_R R) (hr : xr M R r) (ho : rd_ok r) {a : Int} (ha : iI_b a) {x : Int32} (hx : x = iI a) : ax_Met l G kX5_wetAt 1 0 0 M [av_r R, av_i x] (ax_p (av_i (if rd_wet r a = true then 1 else 0)) M) := by
  subst hx
  have h0 := ho.1
  have hw := hr.2.2.2.1
  refine ax_body (by decide) (Nat.le_of_ble_eq_true rfl) ?_
  refine ax_aload_n dX5_wetAt_0 rfl ?_
  refine ax_iload_n dX5_wetAt_1 rfl ?_
  refine ax_callV (As := _) (d2 := _) (c1 := 0) (n1 := 0) (c_has (d := 0) (M := M) hok hR hr ho ha rfl) dX5_wetAt_2 mX5_has wd_675 acl_5 (xs_R_0 hR hok) rfl (by omega) (by omega) (by omega) rfl rfl (fun _ _ h => by cases h.1) ?_
  rintro r M9 ⟨h1, h9⟩; cases h1; rw [h9]; clear h9 M9
  refine ax_ifB_eq (tgt := 23) dX5_wetAt_5 (by decide) (fun hc => ?_) (fun hc => ?_)
  · refine ax_iconst (v := 0) dX5_wetAt_23 (by decide) ?_
    refine ax_iret dX5_wetAt_24 rfl ?_
    rw [if_neg (fun q => hc (rd_wet_in ho q))]; exact ⟨rfl, rfl⟩
  have h1 := hc
  clear hc
  refine ax_iload_n dX5_wetAt_8 rfl ?_
  refine ax_bipush (v := 60) dX5_wetAt_9 (by decide) ?_
  refine ax_icmp_ge (tgt := 23) dX5_wetAt_11 (by decide) (fun hc => ?_) (fun hc => ?_)
  · have := (iI_le (a := 60) (by unfold iI_b; omega) ha).mp hc
    omega
  clear hc
  refine ax_aload_n dX5_wetAt_14 rfl ?_
  refine ax_getK (f := 4) (R + 2) dX5_wetAt_15 acl_5 wd_258 (by decide) rfl (xs_R_0 hR hok) (xr_R_4 hR hok) ?_
  rw [iI_tn h1.1]
  refine ax_iload_n dX5_wetAt_18 rfl ?_
  refine ax_ialdN (a.toNat) dX5_wetAt_19 (xs_R_2 hR hok) (by decide) (by first | with_reducible rfl | assumption | exact ax_nix (by simp only [nx_0, nx_1, nx_2, nx_3, nx_4, nx_10, nx_20, nx_21, nx_100, nI_add, pk_mul] <;> rfl) (by omega) | decide) (by omega) ?_
  refine ax_goto (tgt := 24) dX5_wetAt_20 (by decide) ?_
  refine ax_iret dX5_wetAt_24 rfl ?_
  rw [hw _ (by omega), Int.toNat_of_nonneg h1.1]; exact ⟨rfl, rfl⟩
theorem c_reachBy {d : Nat} (hok : lo_ok M.2) (hR : xh_R R) (hr : xr M R r) (f : Int32) : ax_Met l G kX5_reachBy d 0 0 M [av_r R, av_i f] (ax_p (av_i (iI (if f = 1 then r 5 else r 6))) M) := by
  refine ax_body (by decide) (Nat.le_of_ble_eq_true rfl) ?_
  refine ax_iload_n dX5_reachBy_0 rfl ?_
  refine ax_iconst (v := 1) dX5_reachBy_1 (by decide) ?_
  refine ax_icmp_ne (tgt := 12) dX5_reachBy_2 (by decide) (fun hc => ?_) (fun hc => ?_)
  · refine ax_aload_n dX5_reachBy_12 rfl ?_
    refine ax_getI (f := 12) dX5_reachBy_13 acl_5 wd_281 (by decide) rfl (xs_R_0 hR hok) ?_
    refine ax_iret dX5_reachBy_16 rfl ?_
    rw [if_neg hc, hr.1.2.2.2.2.2.2.1]; exact ⟨rfl, rfl⟩
  · refine ax_aload_n dX5_reachBy_5 rfl ?_
    refine ax_getI (f := 11) dX5_reachBy_6 acl_5 wd_279 (by decide) rfl (xs_R_0 hR hok) ?_
    refine ax_goto (tgt := 16) dX5_reachBy_9 (by decide) ?_
    refine ax_iret dX5_reachBy_16 rfl ?_
    rw [if_pos hc, hr.1.2.2.2.2.2.1]; exact ⟨rfl, rfl⟩
theorem c_blindFor {d : Nat} (hok : lo_ok M.2) (hR : xh_R R) (hr : xr M R r) (y : Int32) : ax_Met l G kX5_blindFor d 0 0 M [av_r R, av_i y] (ax_p (av_i (iI (r 35) + y / 20)) M) := by
  refine ax_body (by decide) (Nat.le_of_ble_eq_true rfl) ?_
  refine ax_aload_n dX5_blindFor_0 rfl ?_
  refine ax_getI (f := 10) dX5_blindFor_1 acl_5 wd_276 (by decide) rfl (xs_R_0 hR hok) ?_
  rw [hr.1.2.2.2.2.2.2.2.2]
  refine ax_iload_n dX5_blindFor_4 rfl ?_
  refine ax_bipush (v := 20) dX5_blindFor_5 (by decide) ?_
  refine ax_idiv dX5_blindFor_7 (by decide) ?_
  refine ax_iadd dX5_blindFor_8 ?_
  refine ax_iret dX5_blindFor_9 rfl ?_
  exact ⟨rfl, rfl⟩
theorem iI_d20 {y : Int} (h0 : 0 ≤ y) (h1 : y ≤ 1000) : iI y / 20 = iI (y / 20) := by
  rw [show (20 : Int32) = iI 20 from rfl, iI_div h0 (by omega) (by decide) (by decide)]
theorem c_wetCells {d : Nat} (hok : lo_ok M.2) (hR : xh_R R) (hr : xr M R r) (ho : rd_ok r) : ax_Met l G kX5_wetCells d 0 0 M [av_r R] (ax_p (av_i (nI (rd_nw r))) M) := by
  have h0 := ho.1
  have hw := hr.2.2.2.1
  have e : rd_nw r = mt_cnt (fun x => rd_wet r (x : Int)) 60 := by
    unfold rd_nw
    refine (mt_cnt_0 (by omega) (fun x h1 h2 => ?_)).symm
    apply Bool.eq_false_iff.mpr
    intro c
    have := rd_wet_in ho c
    omega
  rw [e]
  refine ax_body (by decide) (Nat.le_of_ble_eq_true rfl) ?_
  refine ax_iconst (v := 0) dX5_wetCells_0 (by decide) ?_
  refine ax_istore_n dX5_wetCells_1 (by decide) rfl ?_
  refine ax_iconst (v := 0) dX5_wetCells_2 (by decide) ?_
  refine ax_istore_n dX5_wetCells_3 (by decide) rfl ?_
  refine ax_for 60 (fun i N L => N = M ∧ L = [some (av_r R), some (av_i (nI (mt_cnt (fun x => rd_wet r (x : Int)) i))), some (av_i (nI i))]) 4 ?_ ?_ (i := 0) (by omega) ⟨rfl, rfl⟩
  · rintro i N L hi ⟨rfl, rfl⟩ next
    refine ax_iload_n dX5_wetCells_4 rfl ?_
    refine ax_bipush (v := 60) dX5_wetCells_5 (by decide) ?_
    refine ax_icmp_ge (tgt := 25) dX5_wetCells_7 (by decide) (fun hc => absurd ((nI_leI (a := 60) (by omega) (by omega)).mp hc) (by omega)) (fun hc => ?_)
    refine ax_iload_n dX5_wetCells_10 rfl ?_
    refine ax_aload_n dX5_wetCells_11 rfl ?_
    refine ax_getK (f := 4) (R + 2) dX5_wetCells_12 acl_5 wd_258 (by decide) rfl (xs_R_0 hR hok) (xr_R_4 hR hok) ?_
    refine ax_iload_n dX5_wetCells_15 rfl ?_
    refine ax_ialdN (i) dX5_wetCells_16 (xs_R_2 hR hok) (by decide) (by first | with_reducible rfl | assumption | exact ax_nix (by simp only [nx_0, nx_1, nx_2, nx_3, nx_4, nx_10, nx_20, nx_21, nx_100, nI_add, pk_mul] <;> rfl) (by omega) | decide) (by omega) ?_
    rw [hw i hi]
    refine ax_iadd dX5_wetCells_17 ?_
    refine ax_istore_n dX5_wetCells_18 (by decide) rfl ?_
    refine ax_iinc (v := 1) dX5_wetCells_19 rfl (by decide) (by decide) rfl ?_
    refine ax_goto (tgt := 4) dX5_wetCells_22 (by decide) ?_
    refine next _ _ ⟨rfl, ?_⟩
    rw [nI_1, cnt_nI (p := fun x => rd_wet r (x : Int))]
    rfl
  · rintro N L ⟨rfl, rfl⟩
    refine ax_iload_n dX5_wetCells_4 rfl ?_
    refine ax_bipush (v := 60) dX5_wetCells_5 (by decide) ?_
    refine ax_icmp_ge (tgt := 25) dX5_wetCells_7 (by decide) (fun hc => ?_) (fun hc => absurd ((nI_leI (a := 60) (by omega) (by omega)).mpr (by omega)) hc)
    refine ax_iload_n dX5_wetCells_25 rfl ?_
    refine ax_iret dX5_wetCells_26 rfl ?_
    exact ⟨rfl, rfl⟩
theorem c_cellOfDraw {d : Nat} (hok : lo_ok M.2) (hR : xh_R R) (hr : xr M R r) (ho : rd_ok r) {n : Nat} (hn : n < 1000000) {x : Int32} (hx : x = nI n) : ax_Met l G kX5_cellOfDraw d 0 0 M [av_r R, av_i x] (ax_p (av_i (nI (n % (r 0).toNat))) M) := by
  subst hx
  have h0 := ho.1
  have e0 : M.1 R 0 = nI (r 0).toNat := by rw [hr.1.1, iI_tn (by omega)]
  refine ax_body (by decide) (Nat.le_of_ble_eq_true rfl) ?_
  refine ax_aload_n dX5_cellOfDraw_0 rfl ?_
  refine ax_getI (f := 0) dX5_cellOfDraw_1 acl_5 wd_252 (by decide) rfl (xs_R_0 hR hok) ?_
  rw [e0]
  refine ax_if_le (tgt := 16) dX5_cellOfDraw_4 (by decide) (fun hc => ?_) (fun hc => ?_)
  · have := (nI_leI (b := 0) (by omega) (by omega)).mp hc
    omega
  refine ax_iload_n dX5_cellOfDraw_7 rfl ?_
  refine ax_aload_n dX5_cellOfDraw_8 rfl ?_
  refine ax_getI (f := 0) dX5_cellOfDraw_9 acl_5 wd_252 (by decide) rfl (xs_R_0 hR hok) ?_
  rw [e0]
  refine ax_irem dX5_cellOfDraw_12 (nI_ne0 (by omega) (by omega)) ?_
  rw [pk_div (by omega) (by omega) (by omega), pk_mul, pk_sub (Nat.div_mul_le_self _ _), show n - n / (r 0).toNat * (r 0).toNat = n % (r 0).toNat by rw [Nat.mod_def, Nat.mul_comm]]
  refine ax_goto (tgt := 17) dX5_cellOfDraw_13 (by decide) ?_
  refine ax_iret dX5_cellOfDraw_17 rfl ?_
  exact ⟨rfl, rfl⟩
theorem c_hides (hok : lo_ok M.2) (hR : xh_R R) (hr : xr M R r) (ho : rd_ok r) {a b : Int} (ha : iI_b a) (hb : iI_b b) {x y : Int32} (hx : x = iI a) (hy : y = iI b) : ax_Met l G kX5_hides 1 0 0 M [av_r R, av_i x, av_i y] (ax_p (av_i (if rd_hid r a b = true then 1 else 0)) M) := by
  subst hx hy
  have h0 := ho.1
  obtain ⟨nb, bs, hbd⟩ := hr.2.2.2.2
  have key := xbd_hid (a := a) (b := b) ho hbd
  have hab := ha; have hbb := hb
  unfold iI_b at hab hbb
  refine ax_body (by decide) (Nat.le_of_ble_eq_true rfl) ?_
  refine ax_iload_n dX5_hides_0 rfl ?_
  refine ax_iload_n dX5_hides_1 rfl ?_
  refine ax_mmin dX5_hides_2 wd_641 wd_mins wd_182 wd_minc (by decide) rfl ?_
  rw [show (if iI b < iI a then iI b else iI a) = iI (min a b) by
    by_cases q : b < a
    · rw [if_pos ((iI_lt hb ha).mpr q)]; congr 1; omega
    · rw [if_neg (fun z => q ((iI_lt hb ha).mp z))]; congr 1; omega]
  refine ax_istore_n dX5_hides_5 (by decide) rfl ?_
  refine ax_iload_n dX5_hides_6 rfl ?_
  refine ax_iload_n dX5_hides_7 rfl ?_
  refine ax_mmax dX5_hides_8 wd_644 wd_maxs wd_182 wd_maxc (by decide) rfl ?_
  rw [show (if iI a < iI b then iI b else iI a) = iI (max a b) by
    by_cases q : a < b
    · rw [if_pos ((iI_lt ha hb).mpr q)]; congr 1; omega
    · rw [if_neg (fun z => q ((iI_lt ha hb).mp z))]; congr 1; omega]
  refine ax_istore dX5_hides_11 (by decide) rfl ?_
  refine ax_iconst (v := 0) dX5_hides_13 (by decide) ?_
  refine ax_istore dX5_hides_14 (by decide) rfl ?_
  refine ax_for nb (fun i N L => N = M ∧ L = [some (av_r R), some (av_i (iI a)), some (av_i (iI b)), some (av_i (iI (min a b))), some (av_i (iI (max a b))), some (av_i (nI i))] ∧ ∀ j, j < i → ¬ (min a b < bs j ∧ bs j < max a b)) 16 ?_ ?_ (i := 0) (by omega) ⟨rfl, rfl, fun j hj => by omega⟩
  · rintro i N L hi ⟨rfl, rfl, hq⟩ next
    have h6 := hbd.1
    obtain ⟨e1, e2, e3⟩ := hbd.2.2.1 i hi
    have stay : ¬ (min a b < bs i ∧ bs i < max a b) → ax_W l G kX5_hides (ax_FQ G (ax_p (av_i (if rd_hid r a b = true then 1 else 0)) N)) 1 0 0 N 50 [some (av_r R), some (av_i (iI a)), some (av_i (iI b)), some (av_i (iI (min a b))), some (av_i (iI (max a b))), some (av_i (nI i))] [] := by
      intro hno
      refine ax_iinc (v := 1) dX5_hides_50 rfl (by decide) (by decide) rfl ?_
      refine ax_goto (tgt := 16) dX5_hides_53 (by decide) ?_
      rw [nI_1]
      refine next _ _ ⟨rfl, rfl, fun j hj => ?_⟩
      by_cases e : j = i
      · subst e; exact hno
      · exact hq j (by omega)
    refine ax_iload dX5_hides_16 rfl ?_
    refine ax_aload_n dX5_hides_18 rfl ?_
    refine ax_getI (f := 2) dX5_hides_19 acl_5 wd_255 (by decide) rfl (xs_R_0 hR hok) ?_
    rw [hbd.2.1]
    refine ax_icmp_ge (tgt := 56) dX5_hides_22 (by decide) (fun hc => absurd ((nI_leI (by omega) (by omega)).mp hc) (by omega)) (fun hc => ?_)
    refine ax_aload_n dX5_hides_25 rfl ?_
    refine ax_getK (f := 1) (R + 1) dX5_hides_26 acl_5 wd_254 (by decide) rfl (xs_R_0 hR hok) (xr_R_1 hR hok) ?_
    refine ax_iload dX5_hides_29 rfl ?_
    refine ax_ialdN (i) dX5_hides_31 (xs_R_1 hR hok) (by decide) (by first | with_reducible rfl | assumption | exact ax_nix (by simp only [nx_0, nx_1, nx_2, nx_3, nx_4, nx_10, nx_20, nx_21, nx_100, nI_add, pk_mul] <;> rfl) (by omega) | decide) (by omega) ?_
    rw [e1]
    refine ax_iload_n dX5_hides_32 rfl ?_
    refine ax_icmp_le (tgt := 50) dX5_hides_33 (by decide) (fun hc => ?_) (fun hc => ?_)
    · have := (iI_le (by unfold iI_b; omega) (by unfold iI_b; omega)).mp hc
      exact stay (by omega)
    have h1 : ¬ bs i ≤ min a b := fun q => hc ((iI_le (by unfold iI_b; omega) (by unfold iI_b; omega)).mpr q)
    clear hc
    refine ax_aload_n dX5_hides_36 rfl ?_
    refine ax_getK (f := 1) (R + 1) dX5_hides_37 acl_5 wd_254 (by decide) rfl (xs_R_0 hR hok) (xr_R_1 hR hok) ?_
    refine ax_iload dX5_hides_40 rfl ?_
    refine ax_ialdN (i) dX5_hides_42 (xs_R_1 hR hok) (by decide) (by first | with_reducible rfl | assumption | exact ax_nix (by simp only [nx_0, nx_1, nx_2, nx_3, nx_4, nx_10, nx_20, nx_21, nx_100, nI_add, pk_mul] <;> rfl) (by omega) | decide) (by omega) ?_
    rw [e1]
    refine ax_iload dX5_hides_43 rfl ?_
    refine ax_icmp_ge (tgt := 50) dX5_hides_45 (by decide) (fun hc => ?_) (fun hc => ?_)
    · have := (iI_le (by unfold iI_b; omega) (by unfold iI_b; omega)).mp hc
      exact stay (by omega)
    have h2 : ¬ max a b ≤ bs i := fun q => hc ((iI_le (by unfold iI_b; omega) (by unfold iI_b; omega)).mpr q)
    refine ax_iconst (v := 1) dX5_hides_48 (by decide) ?_
    refine ax_zret dX5_hides_49 rfl ?_ ?_
    · exact Or.inr rfl
    · rw [if_pos (key.mpr ⟨i, hi, by omega, by omega⟩)]; exact ⟨rfl, rfl⟩
  · rintro N L ⟨rfl, rfl, hq⟩
    have h6 := hbd.1
    refine ax_iload dX5_hides_16 rfl ?_
    refine ax_aload_n dX5_hides_18 rfl ?_
    refine ax_getI (f := 2) dX5_hides_19 acl_5 wd_255 (by decide) rfl (xs_R_0 hR hok) ?_
    rw [hbd.2.1]
    refine ax_icmp_ge (tgt := 56) dX5_hides_22 (by decide) (fun hc => ?_) (fun hc => absurd ((nI_leI (by omega) (by omega)).mpr (by omega)) hc)
    refine ax_iconst (v := 0) dX5_hides_56 (by decide) ?_
    refine ax_zret dX5_hides_57 rfl ?_ ?_
    · exact Or.inl rfl
    · rw [if_neg (fun q => by obtain ⟨i, h1, h2⟩ := key.mp q; exact hq i h1 h2)]; exact ⟨rfl, rfl⟩
end XR

