/-! ===== games, odds: the reference ===== -/
def kr (s : Nat → Nat → Nat) (a : Nat) (st : Nat × Nat) : Nat → Nat × Nat
  | 0 => st
  | b + 1 => if s a b < s (kr s a st b).1 (kr s a st b).2 then (a, b) else kr s a st b
/-- of all pairs of the first a rows the first with the least s -/
def ka (s : Nat → Nat → Nat) (n : Nat) : Nat → Nat × Nat
  | 0 => (0, 0)
  | a + 1 => kr s a (ka s n a) (n + 1)
theorem kr_le {s : Nat → Nat → Nat} {a m : Nat} {st : Nat × Nat} (h : st.1 ≤ m ∧ st.2 ≤ m) (ha : a ≤ m) : ∀ b, b ≤ m + 1 → (kr s a st b).1 ≤ m ∧ (kr s a st b).2 ≤ m
  | 0, _ => h
  | b + 1, hb => by
    have ih := kr_le (s := s) h ha b (by omega)
    unfold kr
    split
    · exact ⟨ha, by show b ≤ m; omega⟩
    · exact ih
theorem ka_le (s : Nat → Nat → Nat) (n : Nat) : ∀ a, a ≤ n + 1 → (ka s n a).1 ≤ n ∧ (ka s n a).2 ≤ n
  | 0, _ => ⟨Nat.zero_le _, Nat.zero_le _⟩
  | a + 1, ha => kr_le (ka_le s n a (by omega)) (by omega) (n + 1) (Nat.le_refl _)
/-- neither would have less by another one -/
def rt (v0 v1 : Nat → Nat → Nat) (a b : Nat) : Nat → Bool
  | 0 => true
  | d + 1 => rt v0 v1 a b d && !(decide (v0 d b < v0 a b) || decide (v1 a d < v1 a b))
theorem rt_false {v0 v1 : Nat → Nat → Nat} {a b d : Nat} (h : v0 d b < v0 a b ∨ v1 a d < v1 a b) : ∀ {m : Nat}, d < m → rt v0 v1 a b m = false
  | 0, q => by omega
  | m + 1, q => by
    show (rt v0 v1 a b m && _) = false
    by_cases e : d = m
    · subst e
      rcases h with h | h <;> simp [h]
    · rw [rt_false h (by omega)]; rfl
/-- how many pairs of the first a rows -/
def rn (R : Nat → Nat → Bool) (n : Nat) : Nat → Nat
  | 0 => 0
  | a + 1 => rn R n a + mt_cnt (R a) n
def rfx (R : Nat → Nat → Bool) (f : Option (Nat × Nat)) (a b : Nat) : Option (Nat × Nat) := match f with
  | some p => some p
  | none => (mt_first (R a) b).map (fun j => (a, j))
/-- the first of them -/
def rf (R : Nat → Nat → Bool) (n : Nat) : Nat → Option (Nat × Nat)
  | 0 => none
  | a + 1 => rfx R (rf R n a) a n
def fv (z : Nat) (f : Option (Nat × Nat)) : Int32 := match f with
  | some p => nI (100 * (p.1 + z) + (p.2 + z))
  | none => -1
theorem cnt0 (p : Nat → Bool) : ∀ b, mt_cnt p b = 0 ↔ mt_first p b = none
  | b => by
    constructor
    · intro h
      refine mt_first_no (fun v hv => mt_nf (fun q => ?_))
      have := mt_cnt_ex q hv
      omega
    · intro h
      rcases Nat.eq_zero_or_pos (mt_cnt p b) with q | q
      · exact q
      · exfalso
        have hall := mt_first_none h
        have : mt_cnt p b = mt_cnt (fun _ => false) b := mt_cnt_cong (fun k hk => hall k hk)
        have h0 : ∀ m, mt_cnt (fun _ => false) m = 0 := fun m => by
          induction m with
          | zero => rfl
          | succ m ih => rw [mt_cnt_off rfl, ih]
        rw [h0] at this
        omega
theorem rfx_0 {R : Nat → Nat → Bool} {f : Option (Nat × Nat)} {c a b : Nat} (h : c = 0 ↔ f = none) : c + mt_cnt (R a) b = 0 ↔ rfx R f a b = none := by
  cases f with
  | some p =>
    have : ¬ c = 0 := fun q => by cases h.mp q
    constructor
    · intro q; omega
    · intro q; cases q
  | none =>
    have e : c = 0 := h.mpr rfl
    show _ ↔ (mt_first (R a) b).map _ = none
    rw [e, Nat.zero_add, cnt0, Option.map_eq_none_iff]
theorem rf_0 (R : Nat → Nat → Bool) (n : Nat) : ∀ a, rn R n a = 0 ↔ rf R n a = none
  | 0 => ⟨fun _ => rfl, fun _ => rfl⟩
  | a + 1 => rfx_0 (rf_0 R n a)
theorem rfx_s {R : Nat → Nat → Bool} {f : Option (Nat × Nat)} {a b : Nat} : rfx R f a (b + 1) = match rfx R f a b with
    | some p => some p
    | none => if R a b = true then some (a, b) else none := by
  cases f with
  | some p => rfl
  | none =>
    have e2 : rfx R none a b = (mt_first (R a) b).map (fun j => (a, j)) := rfl
    have e1 : rfx R none a (b + 1) = (mt_first (R a) (b + 1)).map (fun j => (a, j)) := rfl
    have e : mt_first (R a) (b + 1) = match mt_first (R a) b with
      | some u => some u
      | none => if R a b = true then some b else none := rfl
    rw [e1, e2, e]
    cases mt_first (R a) b with
    | some u => rfl
    | none =>
      by_cases q : R a b = true
      · simp [q]
      · simp [q]
theorem mt_cnt_on {p : Nat → Bool} {t : Nat} (h : p t = true) : mt_cnt p (t + 1) = mt_cnt p t + 1 := by
  show mt_cnt p t + (if p t = true then 1 else 0) = _
  rw [if_pos h]
/-- one more pair -/
theorem rf_step {R : Nat → Nat → Bool} {f : Option (Nat × Nat)} {c a b z : Nat} (h : c = 0 ↔ f = none) (hR : R a b = true) : (if c + mt_cnt (R a) b = 0 then nI (100 * (a + z) + (b + z)) else fv z (rfx R f a b)) = fv z (rfx R f a (b + 1)) := by
  have h2 := rfx_0 (R := R) (a := a) (b := b) h
  rw [rfx_s]
  cases e : rfx R f a b with
  | some p => rw [if_neg (fun q => by rw [h2.mp q] at e; cases e)]
  | none => rw [if_pos (h2.mpr e), hR]; rfl
theorem rf_stay {R : Nat → Nat → Bool} {f : Option (Nat × Nat)} {a b : Nat} (hR : R a b = false) : rfx R f a (b + 1) = rfx R f a b := by
  rw [rfx_s]
  cases e : rfx R f a b with
  | some p => rfl
  | none => simp [hR]
theorem rfx_z (R : Nat → Nat → Bool) (f : Option (Nat × Nat)) (a : Nat) : rfx R f a 0 = f := by
  cases f <;> rfl
theorem rn_le (R : Nat → Nat → Bool) (n : Nat) : ∀ a, rn R n a ≤ a * n
  | 0 => by show 0 ≤ _; omega
  | a + 1 => by
    have := rn_le R n a
    have := mt_cnt_le (R a) n
    show rn R n a + _ ≤ _
    rw [Nat.succ_mul]; omega
def du_v (r : Nat → Int) (lw : mt_L) (c a b : Nat) : Nat := mt_cost r lw (mt_d (nI a) (nI b)) c
def du_s (r : Nat → Int) (lw : mt_L) (a b : Nat) : Nat := du_v r lw 0 a b + du_v r lw 1 a b
def du_R (r : Nat → Int) (lw : mt_L) (n a b : Nat) : Bool := rt (du_v r lw 0) (du_v r lw 1) a b (n + 1)
def qv_duel (r : Nat → Int) (lw : mt_L) (n k : Nat) : Int32 := if k = 0 then nI (rn (du_R r lw n) (n + 1) (n + 1)) else if k = 1 then fv 0 (rf (du_R r lw n) (n + 1) (n + 1)) else if k = 2 then nI (100 * (ka (du_s r lw) n (n + 1)).1 + (ka (du_s r lw) n (n + 1)).2) else nI (du_s r lw (ka (du_s r lw) n (n + 1)).1 (ka (du_s r lw) n (n + 1)).2)
def qa_duel (r : Nat → Int) (lw : mt_L) (x y : Int32) : ax_V ⊕ (Nat × Nat) := if ¬ (0 ≤ x ∧ x ≤ 20) ∨ ¬ (0 ≤ y ∧ y ≤ 3) then .inr (1, 1) else if r 1 < 2 then .inr (2, 2) else .inl (av_i (qv_duel r lw x.toNatClampNeg y.toNatClampNeg))
theorem mt_R_fr {M N : ax_M} {r : Nat → Int} {lw : mt_L} {d : Nat → Int32} (h : mt_R M r lw d) (e : ∀ n i, n = 90 ∨ (170 ≤ n ∧ n ≤ 383) → N.1 n i = M.1 n i) : mt_R N r lw d := by
  refine ⟨fun c hc => ?_, (e 90 46 (by omega)).trans h.2.1, (e 90 47 (by omega)).trans h.2.2⟩
  have q := h.1 c hc
  have hTT := mt_T_le r
  rw [e 379 c (by omega), e 380 c (by omega), e 381 c (by omega), e 377 c (by omega), e 378 c (by omega), e 383 c (by omega)]
  exact ⟨q.1, q.2.1, q.2.2.1, mt_sn_fr q.2.2.2.1 (fun k => ⟨e _ _ (by omega), e _ _ (by omega)⟩), q.2.2.2.2.1, q.2.2.2.2.2.1, q.2.2.2.2.2.2.1, fun u hu => mt_rw_fr (q.2.2.2.2.2.2.2 u hu) (fun k => e _ _ (by omega))⟩
/-- costs noted -/
def cs_at (N : ax_M) (r : Nat → Int) (lw : mt_L) (i j : Nat) : Prop := N.1 (386 + i) j = nI (du_v r lw 0 i j) ∧ N.1 (408 + i) j = nI (du_v r lw 1 i j)
theorem du_le (r : Nat → Int) (lw : mt_L) (c a b : Nat) : du_v r lw c a b ≤ 199 := mt_cost_le _ _ _ _
section QE
variable {l : Launch} {G : ax_G} {M : ax_M} {r : Nat → Int} {lw : mt_L}
theorem c_isRest {d : Nat} (hok : lo_ok M.2) {n a b : Nat} (hn : n ≤ 20) (ha : a ≤ n) (hb : b ≤ n) (hv : ∀ i j, i ≤ n → j ≤ n → cs_at M r lw i j) {x y z : Int32} (hx : x = nI a) (hy : y = nI b) (hz : z = nI n) : ax_Met l G kX10_isRest d 0 0 M [av_r 90, av_i x, av_i y, av_i z] (ax_p (av_i (if du_R r lw n a b = true then 1 else 0)) M) := by
  subst hx hy hz
  refine ax_body (by decide) (Nat.le_of_ble_eq_true rfl) ?_
  refine ax_iconst (v := 0) dX10_isRest_0 (by decide) ?_
  refine ax_istore dX10_isRest_1 (by decide) rfl ?_
  refine ax_for (n + 1) (fun d N L => N = M ∧ L = [some (av_r 90), some (av_i (nI a)), some (av_i (nI b)), some (av_i (nI n)), some (av_i (nI d))] ∧ rt (du_v r lw 0) (du_v r lw 1) a b d = true) 3 ?_ ?_ (i := 0) (by omega) ⟨rfl, rfl, rfl⟩
  · rintro q N L hq ⟨rfl, rfl, hrt⟩ next
    have no : (du_v r lw 0 q b < du_v r lw 0 a b ∨ du_v r lw 1 a q < du_v r lw 1 a b) → ax_W l G kX10_isRest (ax_FQ G (ax_p (av_i (if du_R r lw n a b = true then 1 else 0)) N)) d 0 0 N 57 [some (av_r 90), some (av_i (nI a)), some (av_i (nI b)), some (av_i (nI n)), some (av_i (nI q))] [] := by
      intro h
      refine ax_iconst (v := 0) dX10_isRest_57 (by decide) ?_
      refine ax_zret dX10_isRest_58 rfl ?_ ?_
      · exact Or.inl rfl
      · have := rt_false h hq
        unfold du_R; rw [this]; exact ⟨rfl, rfl⟩
    have l1 := du_le r lw 0 q b; have l2 := du_le r lw 0 a b; have l3 := du_le r lw 1 a q; have l4 := du_le r lw 1 a b
    refine ax_iload dX10_isRest_3 rfl ?_
    refine ax_iload_n dX10_isRest_5 rfl ?_
    refine ax_icmp_gt (tgt := 65) dX10_isRest_6 (by decide) (fun hc => absurd ((nI_ltI (by omega) (by omega)).mp hc) (by omega)) (fun hc => ?_)
    refine ax_aload_n dX10_isRest_9 rfl ?_
    refine ax_getK (f := 48) 384 dX10_isRest_10 acl_10 wd_1648 (by decide) rfl (lo_s hok 90 rfl) (lo_r hok 111 rfl) ?_
    refine ax_iconst (v := 0) dX10_isRest_13 (by decide) ?_
    refine ax_aaldN3 385 0 dX10_isRest_14 (lo_s hok 384 rfl) (by decide) (by decide) (by decide) (lo_r hok 377 rfl) ?_
    refine ax_iload dX10_isRest_15 rfl ?_
    refine ax_aaldN2 (386 + (q)) (q) dX10_isRest_17 (lo_s hok 385 rfl) (by decide) (by first | with_reducible rfl | assumption | exact ax_nix (by simp only [nx_0, nx_1, nx_2, nx_3, nx_4, nx_10, nx_20, nx_21, nx_100, nI_add, pk_mul] <;> rfl) (by omega) | decide) (by omega) (lo_w_m_c0 hok (by omega)) ?_
    refine ax_iload_n dX10_isRest_18 rfl ?_
    refine ax_ialdN (b) dX10_isRest_19 (by first | assumption | exact lo_tz hok (by omega) (by omega) | exact lo_z_m_wet hok (by omega) | exact lo_z_m_readWet hok (by omega) | exact lo_z_m_law hok (by omega) | exact lo_z_m_book hok (by omega) | exact lo_z_m_readBook hok (by omega) | exact lo_z_m_before hok (by omega) | exact lo_z_m_kept hok (by omega) | exact lo_z_m_seenAt hok (by omega) | exact lo_z_m_seenIn hok (by omega) | exact lo_z_m_t0 hok (by omega) | exact lo_z_m_t1 hok (by omega) | exact lo_z_m_c0 hok (by omega) | exact lo_z_m_c1 hok (by omega) | exact lo_z_x_kept hok (by omega)) (by decide) (by first | with_reducible rfl | assumption | exact ax_nix (by simp only [nx_0, nx_1, nx_2, nx_3, nx_4, nx_10, nx_20, nx_21, nx_100, nI_add, pk_mul] <;> rfl) (by omega) | decide) (by omega) ?_
    refine ax_aload_n dX10_isRest_20 rfl ?_
    refine ax_getK (f := 48) 384 dX10_isRest_21 acl_10 wd_1648 (by decide) rfl (lo_s hok 90 rfl) (lo_r hok 111 rfl) ?_
    refine ax_iconst (v := 0) dX10_isRest_24 (by decide) ?_
    refine ax_aaldN3 385 0 dX10_isRest_25 (lo_s hok 384 rfl) (by decide) (by decide) (by decide) (lo_r hok 377 rfl) ?_
    refine ax_iload_n dX10_isRest_26 rfl ?_
    refine ax_aaldN2 (386 + (a)) (a) dX10_isRest_27 (lo_s hok 385 rfl) (by decide) (by first | with_reducible rfl | assumption | exact ax_nix (by simp only [nx_0, nx_1, nx_2, nx_3, nx_4, nx_10, nx_20, nx_21, nx_100, nI_add, pk_mul] <;> rfl) (by omega) | decide) (by omega) (lo_w_m_c0 hok (by omega)) ?_
    refine ax_iload_n dX10_isRest_28 rfl ?_
    refine ax_ialdN (b) dX10_isRest_29 (by first | assumption | exact lo_tz hok (by omega) (by omega) | exact lo_z_m_wet hok (by omega) | exact lo_z_m_readWet hok (by omega) | exact lo_z_m_law hok (by omega) | exact lo_z_m_book hok (by omega) | exact lo_z_m_readBook hok (by omega) | exact lo_z_m_before hok (by omega) | exact lo_z_m_kept hok (by omega) | exact lo_z_m_seenAt hok (by omega) | exact lo_z_m_seenIn hok (by omega) | exact lo_z_m_t0 hok (by omega) | exact lo_z_m_t1 hok (by omega) | exact lo_z_m_c0 hok (by omega) | exact lo_z_m_c1 hok (by omega) | exact lo_z_x_kept hok (by omega)) (by decide) (by first | with_reducible rfl | assumption | exact ax_nix (by simp only [nx_0, nx_1, nx_2, nx_3, nx_4, nx_10, nx_20, nx_21, nx_100, nI_add, pk_mul] <;> rfl) (by omega) | decide) (by omega) ?_
    rw [(hv q b (by omega) hb).1, (hv a b ha hb).1]
    refine ax_icmp_lt (tgt := 57) dX10_isRest_30 (by decide) (fun hc => ?_) (fun hc => ?_)
    · exact no (Or.inl ((nI_ltI (by omega) (by omega)).mp hc))
    · have c1 : ¬ du_v r lw 0 q b < du_v r lw 0 a b := fun z => hc ((nI_ltI (by omega) (by omega)).mpr z)
      refine ax_aload_n dX10_isRest_33 rfl ?_
      refine ax_getK (f := 48) 384 dX10_isRest_34 acl_10 wd_1648 (by decide) rfl (lo_s hok 90 rfl) (lo_r hok 111 rfl) ?_
      refine ax_iconst (v := 1) dX10_isRest_37 (by decide) ?_
      refine ax_aaldN3 407 1 dX10_isRest_38 (lo_s hok 384 rfl) (by decide) (by decide) (by decide) (lo_r hok 378 rfl) ?_
      refine ax_iload_n dX10_isRest_39 rfl ?_
      refine ax_aaldN2 (408 + (a)) (a) dX10_isRest_40 (lo_s hok 407 rfl) (by decide) (by first | with_reducible rfl | assumption | exact ax_nix (by simp only [nx_0, nx_1, nx_2, nx_3, nx_4, nx_10, nx_20, nx_21, nx_100, nI_add, pk_mul] <;> rfl) (by omega) | decide) (by omega) (lo_w_m_c1 hok (by omega)) ?_
      refine ax_iload dX10_isRest_41 rfl ?_
      refine ax_ialdN (q) dX10_isRest_43 (by first | assumption | exact lo_tz hok (by omega) (by omega) | exact lo_z_m_wet hok (by omega) | exact lo_z_m_readWet hok (by omega) | exact lo_z_m_law hok (by omega) | exact lo_z_m_book hok (by omega) | exact lo_z_m_readBook hok (by omega) | exact lo_z_m_before hok (by omega) | exact lo_z_m_kept hok (by omega) | exact lo_z_m_seenAt hok (by omega) | exact lo_z_m_seenIn hok (by omega) | exact lo_z_m_t0 hok (by omega) | exact lo_z_m_t1 hok (by omega) | exact lo_z_m_c0 hok (by omega) | exact lo_z_m_c1 hok (by omega) | exact lo_z_x_kept hok (by omega)) (by decide) (by first | with_reducible rfl | assumption | exact ax_nix (by simp only [nx_0, nx_1, nx_2, nx_3, nx_4, nx_10, nx_20, nx_21, nx_100, nI_add, pk_mul] <;> rfl) (by omega) | decide) (by omega) ?_
      refine ax_aload_n dX10_isRest_44 rfl ?_
      refine ax_getK (f := 48) 384 dX10_isRest_45 acl_10 wd_1648 (by decide) rfl (lo_s hok 90 rfl) (lo_r hok 111 rfl) ?_
      refine ax_iconst (v := 1) dX10_isRest_48 (by decide) ?_
      refine ax_aaldN3 407 1 dX10_isRest_49 (lo_s hok 384 rfl) (by decide) (by decide) (by decide) (lo_r hok 378 rfl) ?_
      refine ax_iload_n dX10_isRest_50 rfl ?_
      refine ax_aaldN2 (408 + (a)) (a) dX10_isRest_51 (lo_s hok 407 rfl) (by decide) (by first | with_reducible rfl | assumption | exact ax_nix (by simp only [nx_0, nx_1, nx_2, nx_3, nx_4, nx_10, nx_20, nx_21, nx_100, nI_add, pk_mul] <;> rfl) (by omega) | decide) (by omega) (lo_w_m_c1 hok (by omega)) ?_
      refine ax_iload_n dX10_isRest_52 rfl ?_
      refine ax_ialdN (b) dX10_isRest_53 (by first | assumption | exact lo_tz hok (by omega) (by omega) | exact lo_z_m_wet hok (by omega) | exact lo_z_m_readWet hok (by omega) | exact lo_z_m_law hok (by omega) | exact lo_z_m_book hok (by omega) | exact lo_z_m_readBook hok (by omega) | exact lo_z_m_before hok (by omega) | exact lo_z_m_kept hok (by omega) | exact lo_z_m_seenAt hok (by omega) | exact lo_z_m_seenIn hok (by omega) | exact lo_z_m_t0 hok (by omega) | exact lo_z_m_t1 hok (by omega) | exact lo_z_m_c0 hok (by omega) | exact lo_z_m_c1 hok (by omega) | exact lo_z_x_kept hok (by omega)) (by decide) (by first | with_reducible rfl | assumption | exact ax_nix (by simp only [nx_0, nx_1, nx_2, nx_3, nx_4, nx_10, nx_20, nx_21, nx_100, nI_add, pk_mul] <;> rfl) (by omega) | decide) (by omega) ?_
      rw [(hv a q ha (by omega)).2, (hv a b ha hb).2]
      refine ax_icmp_ge (tgt := 59) dX10_isRest_54 (by decide) (fun hc => ?_) (fun hc => ?_)
      · have c2 := (nI_leI (by omega) (by omega)).mp hc
        refine ax_iinc (v := 1) dX10_isRest_59 rfl (by decide) (by decide) rfl ?_
        refine ax_goto (tgt := 3) dX10_isRest_62 (by decide) ?_
        refine next _ _ ⟨rfl, by rw [nI_1]; rfl, ?_⟩
        show (rt _ _ a b q && _) = true
        rw [hrt]; simp; omega
      · have c2 : ¬ du_v r lw 1 a b ≤ du_v r lw 1 a q := fun z => hc ((nI_leI (by omega) (by omega)).mpr z)
        exact no (Or.inr (by omega))
  · rintro N L ⟨rfl, rfl, hrt⟩
    refine ax_iload dX10_isRest_3 rfl ?_
    refine ax_iload_n dX10_isRest_5 rfl ?_
    refine ax_icmp_gt (tgt := 65) dX10_isRest_6 (by decide) (fun hc => ?_) (fun hc => absurd ((nI_ltI (by omega) (by omega)).mpr (by omega)) hc)
    refine ax_iconst (v := 1) dX10_isRest_65 (by decide) ?_
    refine ax_zret dX10_isRest_66 rfl ?_ ?_
    · exact Or.inr rfl
    · unfold du_R; rw [hrt]; exact ⟨rfl, rfl⟩
set_option maxHeartbeats 1000000 in
theorem c_duel (hok : lo_ok M.2) (hr : rr M r) (ho : rd_ok r) (hl : ∀ w, w < 3 → ml_law M w (lw w)) (x y : Int32) : ax_Met l G kX10_duel 8 0 0 M [av_r 90, av_i x, av_i y] (fun o M2 => rq M M2 o (qa_duel r lw x y)) := by
  have h9 := ho.1
  refine ax_body (by decide) (Nat.le_of_ble_eq_true rfl) ?_
  refine ax_aload_n dX10_duel_0 rfl ?_
  refine ax_iconst (v := 0) dX10_duel_1 (by decide) ?_
  refine ax_putI (f := 0) dX10_duel_2 acl_10 wd_1600 (by decide) rfl rfl (ax_nfI rfl) (lo_s hok 90 rfl) ?_
  refine ax_gen (fun M0 hM0 => ?_)
  have hok : lo_ok M0.2 := by rw [hM0]; exact hok
  have hr0 : rr M0 r := by rw [hM0]; exact rr_fr hr (fun n i q => ax_pn (by omega))
  have h00 : M0.1 90 0 = 0 := by rw [hM0, ax_pa]
  refine ax_aload_n dX10_duel_5 rfl ?_
  refine ax_join0 (¬ (0 ≤ x ∧ x ≤ 20) ∨ ¬ (0 ≤ y ∧ y ≤ 3)) 30 (1) (0) ?_ (fun ja jb => ?_)
  rotate_left
  · refine ax_iload_n dX10_duel_6 rfl ?_
    refine ax_iconst (v := 0) dX10_duel_7 (by decide) ?_
    refine ax_bipush (v := 20) dX10_duel_8 (by decide) ?_
    refine ax_callS (As := _) (c1 := 0) (n1 := 0) (c_X10_in (d := 0) (M := M0) _ _ _) dX10_duel_10 mX10_in wd_1772 rfl (by omega) (by omega) (by omega) rfl rfl (fun _ _ h => by cases h.1) ?_
    rintro r M9 ⟨h1, h9⟩; cases h1; rw [h9]; clear h9 M9
    refine ax_ifB_eq (tgt := 25) dX10_duel_13 (by decide) (fun h13 => ?_) (fun h13 => ?_)
    · refine ax_iconst (v := 1) dX10_duel_25 (by decide) ?_
      refine ax_goto (tgt := 30) dX10_duel_26 (by decide) ?_
      first | (refine ja ?_; simp only [h13, and_self, and_true, true_and, not_true_eq_false, not_false_eq_true, or_true, true_or, or_false, false_or, or_self]; done) | (refine jb ?_; simp only [h13, and_self, and_true, true_and, not_true_eq_false, not_false_eq_true, or_true, true_or, or_false, false_or, or_self]; done) | exact ja h13 | exact jb (fun z => z h13) | exact ja (Or.inr h13) | exact ja (Or.inl h13)
    · refine ax_iload_n dX10_duel_16 rfl ?_
      refine ax_iconst (v := 0) dX10_duel_17 (by decide) ?_
      refine ax_iconst (v := 3) dX10_duel_18 (by decide) ?_
      refine ax_callS (As := _) (c1 := 0) (n1 := 0) (c_X10_in (d := 0) (M := M0) _ _ _) dX10_duel_19 mX10_in wd_1772 rfl (by omega) (by omega) (by omega) rfl rfl (fun _ _ h => by cases h.1) ?_
      rintro r M9 ⟨h1, h9⟩; cases h1; rw [h9]; clear h9 M9
      refine ax_ifB_ne (tgt := 29) dX10_duel_22 (by decide) (fun h22 => ?_) (fun h22 => ?_)
      · refine ax_iconst (v := 0) dX10_duel_29 (by decide) ?_
        first | (refine ja ?_; simp only [h13, h22, and_self, and_true, true_and, not_true_eq_false, not_false_eq_true, or_true, true_or, or_false, false_or, or_self]; done) | (refine jb ?_; simp only [h13, h22, and_self, and_true, true_and, not_true_eq_false, not_false_eq_true, or_true, true_or, or_false, false_or, or_self]; done) | exact ja h22 | exact jb (fun z => z h22) | exact ja (Or.inr h22) | exact ja (Or.inl h22)
      · refine ax_iconst (v := 1) dX10_duel_25 (by decide) ?_
        refine ax_goto (tgt := 30) dX10_duel_26 (by decide) ?_
        first | (refine ja ?_; simp only [h13, h22, and_self, and_true, true_and, not_true_eq_false, not_false_eq_true, or_true, true_or, or_false, false_or, or_self]; done) | (refine jb ?_; simp only [h13, h22, and_self, and_true, true_and, not_true_eq_false, not_false_eq_true, or_true, true_or, or_false, false_or, or_self]; done) | exact ja h22 | exact jb (fun z => z h22) | exact ja (Or.inr h22) | exact ja (Or.inl h22)
  refine ax_iconst (v := 1) dX10_duel_30 (by decide) ?_
  refine ax_iconst (v := 1) dX10_duel_31 (by decide) ?_
  refine ax_callV (As := _) (d2 := _) (c1 := 0) (n1 := 0) (c_badP (d := 0) (M := M0) (p := ¬ (0 ≤ x ∧ x ≤ 20) ∨ ¬ (0 ≤ y ∧ y ≤ 3)) hok h00 (w := 1) (k := 1) (by decide) (by decide) (by decide) rfl rfl) dX10_duel_32 mX10_bad wd_1775 acl_10 (lo_s hok 90 rfl) rfl (by omega) (by omega) (by omega) rfl rfl (fun _ _ h => by rcases h with ⟨_, h, _⟩ | ⟨_, h, _⟩ <;> cases h) ?_
  rintro o9 M9 (⟨g1, h1, h2⟩ | ⟨g1, h1, h2⟩) <;> cases h1 <;> rw [h2] <;> clear h2 M9
  · refine ax_if_ne (tgt := 46) dX10_duel_35 (by decide) (fun hc => ?_) (fun hc => ?_)
    · refine ax_iconst (v := 0) dX10_duel_46 (by decide) ?_
      refine ax_iret dX10_duel_47 rfl ?_
      exact rq_bad hM0 (w := 1) (k := 1) rfl (by unfold qa_duel; rw [if_pos g1])
    · exact absurd hc (by decide)
  refine ax_if_ne (tgt := 46) dX10_duel_35 (by decide) (fun hc => ?_) (fun hc => ?_)
  · exact absurd rfl hc
  refine ax_aload_n dX10_duel_38 rfl ?_
  refine ax_iconst (v := 2) dX10_duel_39 (by decide) ?_
  refine ax_callV (As := _) (d2 := _) (c1 := 0) (n1 := 0) (c_notTwo (M := M0) hok hr0 ho h00 (w := 2) (by decide) rfl) dX10_duel_40 mX10_notTwo wd_2029 acl_10 (lo_s hok 90 rfl) rfl (by omega) (by omega) (by omega) rfl rfl (fun _ _ h => by rcases h with ⟨_, h, _⟩ | ⟨_, h, _⟩ <;> cases h) ?_
  rintro o9 M9 (⟨g2, h1, h2⟩ | ⟨g2, h1, h2⟩) <;> cases h1 <;> rw [h2] <;> clear h2 M9
  · refine ax_if_eq (tgt := 48) dX10_duel_43 (by decide) (fun hc => ?_) (fun hc => ?_)
    · exact absurd hc (by decide)
    · refine ax_iconst (v := 0) dX10_duel_46 (by decide) ?_
      refine ax_iret dX10_duel_47 rfl ?_
      exact rq_bad hM0 (w := 2) (k := 2) rfl (by unfold qa_duel; rw [if_neg g1, if_pos g2])
  refine ax_if_eq (tgt := 48) dX10_duel_43 (by decide) (fun hc => ?_) (fun hc => ?_)
  rotate_left
  · exact absurd rfl hc
  obtain ⟨n, hn, rfl⟩ := in_nat (dn (fun z => g1 (Or.inl z))) (n := 20) rfl (by decide)
  obtain ⟨k, hk, rfl⟩ := in_nat (dn (fun z => g1 (Or.inr z))) (n := 3) rfl (by decide)
  have hl0 : ∀ w, w < 3 → ml_law M0 w (lw w) := fun w hw => by rw [hM0]; exact sf_law0 hw (hl w hw)
  have e : ∀ (N : ax_M) v, sf M0 N → v = qv_duel r lw n k → rq M N (.inl (some (av_i v))) (qa_duel r lw (nI n) (nI k)) := fun N v hs hv => rq_sf hM0 hs (by unfold qa_duel; rw [if_neg g1, if_neg g2, nI_clamp (by omega), nI_clamp (by omega), hv])
  have vle : ∀ c a b, du_v r lw c a b ≤ 199 := fun c a b => du_le r lw c a b
  have sle : ∀ a b, du_s r lw a b ≤ 398 := fun a b => by have := vle 0 a b; have := vle 1 a b; unfold du_s; omega
  -- the second half
  have tail : ∀ (N : ax_M) (y7 y8 : Option ax_V), sf M0 N → (∀ i j, i ≤ n → j ≤ n → cs_at N r lw i j) → ax_W l G kX10_duel (ax_FQ G (fun o M2 => rq M M2 o (qa_duel r lw (nI n) (nI k)))) 8 0 0 N 179 [some (av_r 90), some (av_i (nI n)), some (av_i (nI k)), some (av_i (nI 0)), some (av_i (-1)), some (av_i (nI (100 * (ka (du_s r lw) n (n + 1)).1 + (ka (du_s r lw) n (n + 1)).2))), some (av_i (nI (du_s r lw (ka (du_s r lw) n (n + 1)).1 (ka (du_s r lw) n (n + 1)).2))), y7, y8] [] := by
    intro N y7 y8 hs hv
    have hok : lo_ok N.2 := by rw [hs.1]; exact hok
    generalize hK : nI (100 * (ka (du_s r lw) n (n + 1)).1 + (ka (du_s r lw) n (n + 1)).2) = K
    generalize hE : nI (du_s r lw (ka (du_s r lw) n (n + 1)).1 (ka (du_s r lw) n (n + 1)).2) = E
    refine ax_iconst (v := 0) dX10_duel_179 (by decide) ?_
    refine ax_istore dX10_duel_180 (by decide) rfl ?_
    refine ax_for (n + 1) (fun a N2 L => ∃ y8, N2 = N ∧ L = [some (av_r 90), some (av_i (nI n)), some (av_i (nI k)), some (av_i (nI (rn (du_R r lw n) (n + 1) a))), some (av_i (fv 0 (rf (du_R r lw n) (n + 1) a))), some (av_i K), some (av_i E), some (av_i (nI a)), y8]) 182 ?_ ?_ (i := 0) (by omega) ⟨_, rfl, rfl⟩
    · rintro a N2 L ha ⟨y8, rfl, rfl⟩ next
      refine ax_iload dX10_duel_182 rfl ?_
      refine ax_iload_n dX10_duel_184 rfl ?_
      refine ax_icmp_gt (tgt := 246) dX10_duel_185 (by decide) (fun hc => absurd ((nI_ltI (by omega) (by omega)).mp hc) (by omega)) (fun hc => ?_)
      refine ax_iconst (v := 0) dX10_duel_188 (by decide) ?_
      refine ax_istore dX10_duel_189 (by decide) rfl ?_
      refine ax_for (n + 1) (fun b N3 L => N3 = N2 ∧ L = [some (av_r 90), some (av_i (nI n)), some (av_i (nI k)), some (av_i (nI (rn (du_R r lw n) (n + 1) a + mt_cnt (du_R r lw n a) b))), some (av_i (fv 0 (rfx (du_R r lw n) (rf (du_R r lw n) (n + 1) a) a b))), some (av_i K), some (av_i E), some (av_i (nI a)), some (av_i (nI b))]) 191 ?_ ?_ (i := 0) (by omega) ⟨rfl, by rw [rfx_z]; rfl⟩
      · rintro b N3 L hb ⟨rfl, rfl⟩ next2
        have hcl : rn (du_R r lw n) (n + 1) a + mt_cnt (du_R r lw n a) b < 2 ^ 31 := by
          have h1 := rn_le (du_R r lw n) (n + 1) a
          have h2 := mt_cnt_le (du_R r lw n a) b
          have h3 : a * (n + 1) ≤ 21 * 21 := Nat.mul_le_mul (by omega) (by omega)
          omega
        refine ax_iload dX10_duel_191 rfl ?_
        refine ax_iload_n dX10_duel_193 rfl ?_
        refine ax_icmp_gt (tgt := 240) dX10_duel_194 (by decide) (fun hc => absurd ((nI_ltI (by omega) (by omega)).mp hc) (by omega)) (fun hc => ?_)
        refine ax_aload_n dX10_duel_197 rfl ?_
        refine ax_iload dX10_duel_198 rfl ?_
        refine ax_iload dX10_duel_200 rfl ?_
        refine ax_iload_n dX10_duel_202 rfl ?_
        refine ax_callV (As := _) (d2 := _) (c1 := 0) (n1 := 0) (c_isRest (d := 0) (M := N3) (lw := lw) hok hn (a := a) (b := b) (by omega) (by omega) hv rfl rfl rfl) dX10_duel_203 mX10_isRest wd_2048 acl_10 (lo_s hok 90 rfl) rfl (by omega) (by omega) (by omega) rfl rfl (fun _ _ h => by cases h.1) ?_
        rintro r M9 ⟨h1, h9⟩; cases h1; rw [h9]; clear h9 M9
        refine ax_ifB_ne (tgt := 212) dX10_duel_206 (by decide) (fun hc => ?_) (fun hc => ?_)
        · refine ax_iload_n dX10_duel_212 rfl ?_
          refine ax_join1 (rn (du_R r lw n) (n + 1) a + mt_cnt (du_R r lw n a) b = 0) 229 (nI (100 * (a + 0) + (b + 0))) (fv 0 (rfx (du_R r lw n) (rf (du_R r lw n) (n + 1) a) a b)) ?_ (fun ja jb => ?_)
          rotate_left
          · refine ax_if_ne (tgt := 227) dX10_duel_213 (by decide) (fun h213 => ?_) (fun h213 => ?_)
            · refine ax_iload dX10_duel_227 rfl ?_
              first | (rw [nx_100, pk_mul, nI_add]; exact ja ((nI_eq (b := 0) hcl (by omega)).mp h213)) | exact jb (fun z => h213 (by rw [z]; rfl))
            · refine ax_bipush (v := 100) dX10_duel_216 (by decide) ?_
              refine ax_iload dX10_duel_218 rfl ?_
              refine ax_imul dX10_duel_220 ?_
              refine ax_iload dX10_duel_221 rfl ?_
              refine ax_iadd dX10_duel_223 ?_
              refine ax_goto (tgt := 229) dX10_duel_224 (by decide) ?_
              first | (rw [nx_100, pk_mul, nI_add]; exact ja ((nI_eq (b := 0) hcl (by omega)).mp h213)) | exact jb (fun z => h213 (by rw [z]; rfl))
          refine ax_istore dX10_duel_229 (by decide) rfl ?_
          refine ax_iinc (v := 1) dX10_duel_231 rfl (by decide) (by decide) rfl ?_
          refine ax_iinc (v := 1) dX10_duel_234 rfl (by decide) (by decide) rfl ?_
          refine ax_goto (tgt := 191) dX10_duel_237 (by decide) ?_
          refine next2 _ _ ⟨rfl, ?_⟩
          rw [rf_step (rf_0 _ _ a) hc, nI_1, nI_1, mt_cnt_on hc]
          rfl
        · refine ax_goto (tgt := 234) dX10_duel_209 (by decide) ?_
          refine ax_iinc (v := 1) dX10_duel_234 rfl (by decide) (by decide) rfl ?_
          refine ax_goto (tgt := 191) dX10_duel_237 (by decide) ?_
          refine next2 _ _ ⟨rfl, ?_⟩
          rw [rf_stay (mt_nf hc), mt_cnt_off (mt_nf hc), nI_1]
          rfl
      · rintro N3 L ⟨rfl, rfl⟩
        refine ax_iload dX10_duel_191 rfl ?_
        refine ax_iload_n dX10_duel_193 rfl ?_
        refine ax_icmp_gt (tgt := 240) dX10_duel_194 (by decide) (fun hc => ?_) (fun hc => absurd ((nI_ltI (by omega) (by omega)).mpr (by omega)) hc)
        refine ax_iinc (v := 1) dX10_duel_240 rfl (by decide) (by decide) rfl ?_
        refine ax_goto (tgt := 182) dX10_duel_243 (by decide) ?_
        exact next _ _ ⟨_, rfl, by rw [nI_1]; rfl⟩
    · rintro N2 L ⟨y8, rfl, rfl⟩
      refine ax_iload dX10_duel_182 rfl ?_
      refine ax_iload_n dX10_duel_184 rfl ?_
      refine ax_icmp_gt (tgt := 246) dX10_duel_185 (by decide) (fun hc => ?_) (fun hc => absurd ((nI_ltI (by omega) (by omega)).mpr (by omega)) hc)
      rcases (show k = 0 ∨ k = 1 ∨ k = 2 ∨ k = 3 by omega) with rfl | rfl | rfl | rfl
      · refine ax_iload_n dX10_duel_246 rfl ?_
        refine ax_if_ne (tgt := 254) dX10_duel_247 (by decide) (fun h247 => ?_) (fun h247 => ?_)
        · exact absurd rfl h247
        · refine ax_iload_n dX10_duel_250 rfl ?_
          refine ax_goto (tgt := 276) dX10_duel_251 (by decide) ?_
          refine ax_iret dX10_duel_276 rfl ?_
          exact e _ _ hs rfl
      · refine ax_iload_n dX10_duel_246 rfl ?_
        refine ax_if_ne (tgt := 254) dX10_duel_247 (by decide) (fun h247 => ?_) (fun h247 => ?_)
        · refine ax_iload_n dX10_duel_254 rfl ?_
          refine ax_iconst (v := 1) dX10_duel_255 (by decide) ?_
          refine ax_icmp_ne (tgt := 264) dX10_duel_256 (by decide) (fun h256 => ?_) (fun h256 => ?_)
          · exact absurd rfl h256
          · refine ax_iload dX10_duel_259 rfl ?_
            refine ax_goto (tgt := 276) dX10_duel_261 (by decide) ?_
            refine ax_iret dX10_duel_276 rfl ?_
            exact e _ _ hs rfl
        · exact absurd h247 (by decide)
      · refine ax_iload_n dX10_duel_246 rfl ?_
        refine ax_if_ne (tgt := 254) dX10_duel_247 (by decide) (fun h247 => ?_) (fun h247 => ?_)
        · refine ax_iload_n dX10_duel_254 rfl ?_
          refine ax_iconst (v := 1) dX10_duel_255 (by decide) ?_
          refine ax_icmp_ne (tgt := 264) dX10_duel_256 (by decide) (fun h256 => ?_) (fun h256 => ?_)
          · refine ax_iload_n dX10_duel_264 rfl ?_
            refine ax_iconst (v := 2) dX10_duel_265 (by decide) ?_
            refine ax_icmp_ne (tgt := 274) dX10_duel_266 (by decide) (fun h266 => ?_) (fun h266 => ?_)
            · exact absurd rfl h266
            · refine ax_iload dX10_duel_269 rfl ?_
              refine ax_goto (tgt := 276) dX10_duel_271 (by decide) ?_
              refine ax_iret dX10_duel_276 rfl ?_
              exact e _ _ hs hK.symm
          · exact absurd h256 (by decide)
        · exact absurd h247 (by decide)
      · refine ax_iload_n dX10_duel_246 rfl ?_
        refine ax_if_ne (tgt := 254) dX10_duel_247 (by decide) (fun h247 => ?_) (fun h247 => ?_)
        · refine ax_iload_n dX10_duel_254 rfl ?_
          refine ax_iconst (v := 1) dX10_duel_255 (by decide) ?_
          refine ax_icmp_ne (tgt := 264) dX10_duel_256 (by decide) (fun h256 => ?_) (fun h256 => ?_)
          · refine ax_iload_n dX10_duel_264 rfl ?_
            refine ax_iconst (v := 2) dX10_duel_265 (by decide) ?_
            refine ax_icmp_ne (tgt := 274) dX10_duel_266 (by decide) (fun h266 => ?_) (fun h266 => ?_)
            · refine ax_iload dX10_duel_274 rfl ?_
              refine ax_iret dX10_duel_276 rfl ?_
              exact e _ _ hs hE.symm
            · exact absurd h266 (by decide)
          · exact absurd h256 (by decide)
        · exact absurd h247 (by decide)
  obtain ⟨s, hsd⟩ : ∃ s, s = du_s r lw := ⟨_, rfl⟩
  rw [← hsd] at tail sle
  refine ax_iconst (v := 0) dX10_duel_48 (by decide) ?_
  refine ax_istore_n dX10_duel_49 (by decide) rfl ?_
  refine ax_iconst (v := (-1)) dX10_duel_50 (by decide) ?_
  refine ax_istore dX10_duel_51 (by decide) rfl ?_
  refine ax_iconst (v := (-1)) dX10_duel_53 (by decide) ?_
  refine ax_istore dX10_duel_54 (by decide) rfl ?_
  refine ax_iconst (v := 0) dX10_duel_56 (by decide) ?_
  refine ax_istore dX10_duel_57 (by decide) rfl ?_
  refine ax_iconst (v := 0) dX10_duel_59 (by decide) ?_
  refine ax_istore dX10_duel_60 (by decide) rfl ?_
  refine ax_for (n + 1) (fun a N L => ∃ kd ls y8, L = [some (av_r 90), some (av_i (nI n)), some (av_i (nI k)), some (av_i (nI 0)), some (av_i (-1)), some (av_i kd), some (av_i ls), some (av_i (nI a)), y8] ∧ sf M0 N ∧ (∀ i j, i < a → j ≤ n → cs_at N r lw i j) ∧ (a = 0 → kd = -1) ∧ (0 < a → kd = nI (100 * (ka s n a).1 + (ka s n a).2) ∧ ls = nI (s (ka s n a).1 (ka s n a).2))) 62 ?_ ?_ (i := 0) (by omega) ⟨-1, 0, _, rfl, sf_0 _, fun i j z => by omega, fun _ => rfl, fun z => by omega⟩
  · rintro a N L ha ⟨kd, ls, y8, rfl, hs, hv, i0, i1⟩ next
    have hok : lo_ok N.2 := by rw [hs.1]; exact hok
    refine ax_iload dX10_duel_62 rfl ?_
    refine ax_iload_n dX10_duel_64 rfl ?_
    refine ax_icmp_gt (tgt := 179) dX10_duel_65 (by decide) (fun hc => absurd ((nI_ltI (by omega) (by omega)).mp hc) (by omega)) (fun hc => ?_)
    refine ax_iconst (v := 0) dX10_duel_68 (by decide) ?_
    refine ax_istore dX10_duel_69 (by decide) rfl ?_
    refine ax_for (n + 1) (fun b N L => ∃ kd ls, L = [some (av_r 90), some (av_i (nI n)), some (av_i (nI k)), some (av_i (nI 0)), some (av_i (-1)), some (av_i kd), some (av_i ls), some (av_i (nI a)), some (av_i (nI b))] ∧ sf M0 N ∧ (∀ i j, i < a → j ≤ n → cs_at N r lw i j) ∧ (∀ j, j < b → cs_at N r lw a j) ∧ (a = 0 ∧ b = 0 → kd = -1) ∧ (0 < a ∨ 0 < b → kd = nI (100 * (kr s a (ka s n a) b).1 + (kr s a (ka s n a) b).2) ∧ ls = nI (s (kr s a (ka s n a) b).1 (kr s a (ka s n a) b).2))) 71 ?_ ?_ (i := 0) (by omega) ⟨kd, ls, rfl, hs, hv, fun j z => by omega, fun z => i0 z.1, fun z => i1 (by omega)⟩
    · rintro b N L hb ⟨kd, ls, rfl, hs, hv, hv2, i0, i1⟩ next2
      have hok : lo_ok N.2 := by rw [hs.1]; exact ‹lo_ok M0.2›
      refine ax_iload dX10_duel_71 rfl ?_
      refine ax_iload_n dX10_duel_73 rfl ?_
      refine ax_icmp_gt (tgt := 173) dX10_duel_74 (by decide) (fun hc => absurd ((nI_ltI (by omega) (by omega)).mp hc) (by omega)) (fun hc => ?_)
      refine ax_aload_n dX10_duel_77 rfl ?_
      refine ax_iload dX10_duel_78 rfl ?_
      refine ax_iload dX10_duel_80 rfl ?_
      refine ax_callV (As := _) (d2 := _) (c1 := 0) (n1 := 0) (c_X10_meets (M := N) (lw := lw) hok (sf_rr hs hr0) ho (fun w hw => sf_law hs hw (hl0 w hw)) _ _) dX10_duel_82 mX10_meets wd_1947 acl_10 (lo_s hok 90 rfl) rfl (by omega) (by omega) (by omega) rfl rfl (fun _ _ h => by cases h.1) ?_
      rintro o9 N2 ⟨h1, f1, f2⟩; cases h1
      have hok : lo_ok N2.2 := by rw [f1.1]; exact hok
      refine ax_aload_n dX10_duel_85 rfl ?_
      refine ax_getK (f := 48) 384 dX10_duel_86 acl_10 wd_1648 (by decide) rfl (lo_s hok 90 rfl) (lo_r hok 111 rfl) ?_
      refine ax_iconst (v := 0) dX10_duel_89 (by decide) ?_
      refine ax_aaldN3 385 0 dX10_duel_90 (lo_s hok 384 rfl) (by decide) (by decide) (by decide) (lo_r hok 377 rfl) ?_
      refine ax_iload dX10_duel_91 rfl ?_
      refine ax_aaldN2 (386 + (a)) (a) dX10_duel_93 (lo_s hok 385 rfl) (by decide) (by first | with_reducible rfl | assumption | exact ax_nix (by simp only [nx_0, nx_1, nx_2, nx_3, nx_4, nx_10, nx_20, nx_21, nx_100, nI_add, pk_mul] <;> rfl) (by omega) | decide) (by omega) (lo_w_m_c0 hok (by omega)) ?_
      refine ax_iload dX10_duel_94 rfl ?_
      refine ax_aload_n dX10_duel_96 rfl ?_
      refine ax_iconst (v := 0) dX10_duel_97 (by decide) ?_
      refine ax_callV (As := _) (d2 := _) (c1 := 0) (n1 := 0) (c_X10_costOf (M := N2) hok ho f2 (c := 0) (by decide) rfl) dX10_duel_98 mX10_costOf wd_2037 acl_10 (lo_s hok 90 rfl) rfl (by omega) (by omega) (by omega) rfl rfl (fun _ _ h => by cases h.1) ?_
      rintro r M9 ⟨h1, h9⟩; cases h1; rw [h9]; clear h9 M9
      refine ax_iastN (b) dX10_duel_101 (by first | assumption | exact lo_tz hok (by omega) (by omega) | exact lo_z_m_wet hok (by omega) | exact lo_z_m_readWet hok (by omega) | exact lo_z_m_law hok (by omega) | exact lo_z_m_book hok (by omega) | exact lo_z_m_readBook hok (by omega) | exact lo_z_m_before hok (by omega) | exact lo_z_m_kept hok (by omega) | exact lo_z_m_seenAt hok (by omega) | exact lo_z_m_seenIn hok (by omega) | exact lo_z_m_t0 hok (by omega) | exact lo_z_m_t1 hok (by omega) | exact lo_z_m_c0 hok (by omega) | exact lo_z_m_c1 hok (by omega) | exact lo_z_x_kept hok (by omega)) (by decide) (by first | with_reducible rfl | assumption | exact ax_nix (by simp only [nx_0, nx_1, nx_2, nx_3, nx_4, nx_10, nx_20, nx_21, nx_100, nI_add, pk_mul] <;> rfl) (by omega) | decide) (by omega) ?_
      refine ax_gen (fun N3 hN3 => ?_)
      have hok : lo_ok N3.2 := by rw [hN3]; exact hok
      have f3 : mt_R N3 r lw (mt_d (nI a) (nI b)) := mt_R_fr f2 (fun n i q => by rw [hN3, ax_pn (by omega)])
      refine ax_aload_n dX10_duel_102 rfl ?_
      refine ax_getK (f := 48) 384 dX10_duel_103 acl_10 wd_1648 (by decide) rfl (lo_s hok 90 rfl) (lo_r hok 111 rfl) ?_
      refine ax_iconst (v := 1) dX10_duel_106 (by decide) ?_
      refine ax_aaldN3 407 1 dX10_duel_107 (lo_s hok 384 rfl) (by decide) (by decide) (by decide) (lo_r hok 378 rfl) ?_
      refine ax_iload dX10_duel_108 rfl ?_
      refine ax_aaldN2 (408 + (a)) (a) dX10_duel_110 (lo_s hok 407 rfl) (by decide) (by first | with_reducible rfl | assumption | exact ax_nix (by simp only [nx_0, nx_1, nx_2, nx_3, nx_4, nx_10, nx_20, nx_21, nx_100, nI_add, pk_mul] <;> rfl) (by omega) | decide) (by omega) (lo_w_m_c1 hok (by omega)) ?_
      refine ax_iload dX10_duel_111 rfl ?_
      refine ax_aload_n dX10_duel_113 rfl ?_
      refine ax_iconst (v := 1) dX10_duel_114 (by decide) ?_
      refine ax_callV (As := _) (d2 := _) (c1 := 0) (n1 := 0) (c_X10_costOf (M := N3) hok ho f3 (c := 1) (by decide) rfl) dX10_duel_115 mX10_costOf wd_2037 acl_10 (lo_s hok 90 rfl) rfl (by omega) (by omega) (by omega) rfl rfl (fun _ _ h => by cases h.1) ?_
      rintro r M9 ⟨h1, h9⟩; cases h1; rw [h9]; clear h9 M9
      refine ax_iastN (b) dX10_duel_118 (by first | assumption | exact lo_tz hok (by omega) (by omega) | exact lo_z_m_wet hok (by omega) | exact lo_z_m_readWet hok (by omega) | exact lo_z_m_law hok (by omega) | exact lo_z_m_book hok (by omega) | exact lo_z_m_readBook hok (by omega) | exact lo_z_m_before hok (by omega) | exact lo_z_m_kept hok (by omega) | exact lo_z_m_seenAt hok (by omega) | exact lo_z_m_seenIn hok (by omega) | exact lo_z_m_t0 hok (by omega) | exact lo_z_m_t1 hok (by omega) | exact lo_z_m_c0 hok (by omega) | exact lo_z_m_c1 hok (by omega) | exact lo_z_x_kept hok (by omega)) (by decide) (by first | with_reducible rfl | assumption | exact ax_nix (by simp only [nx_0, nx_1, nx_2, nx_3, nx_4, nx_10, nx_20, nx_21, nx_100, nI_add, pk_mul] <;> rfl) (by omega) | decide) (by omega) ?_
      refine ax_gen (fun N4 hN4 => ?_)
      have hok : lo_ok N4.2 := by rw [hN4]; exact hok
      have f4 : mt_R N4 r lw (mt_d (nI a) (nI b)) := mt_R_fr f3 (fun n i q => by rw [hN4, ax_pn (by omega)])
      have s3 : sf N2 N3 := by rw [hN3]; exact sf_p (by unfold rs; omega)
      have s4 : sf N3 N4 := by rw [hN4]; exact sf_p (by unfold rs; omega)
      have hs4 : sf M0 N4 := sf_tr hs (sf_tr (sf_mt f1) (sf_tr s3 s4))
      have old : ∀ i j, ¬ (i = a ∧ j = b) → i ≤ 20 → cs_at N r lw i j → cs_at N4 r lw i j := by
        intro i j hne hi h
        unfold cs_at
        rw [hN4, ax_pn (by omega), ax_pn (by omega), hN3, ax_pn (by omega), ax_pn (by omega), f1.2 _ _ (by omega) (by omega) (by omega) (by omega), f1.2 _ _ (by omega) (by omega) (by omega) (by omega)]
        exact h
      have new : cs_at N4 r lw a b := by
        unfold cs_at
        rw [hN4, ax_pa, ax_pn (by omega), hN3, ax_pa]
        exact ⟨rfl, rfl⟩
      have v1 : ∀ i j, i < a → j ≤ n → cs_at N4 r lw i j := fun i j hi hj => old i j (by omega) (by omega) (hv i j hi hj)
      have v2 : ∀ j, j < b + 1 → cs_at N4 r lw a j := fun j hj => by
        by_cases q : j = b
        · subst q; exact new
        · exact old a j (by omega) (by omega) (hv2 j (by omega))
      have es : nI (mt_cost r lw (mt_d (nI a) (nI b)) 0) + nI (mt_cost r lw (mt_d (nI a) (nI b)) 1) = nI (s a b) := by rw [nI_add, hsd]; rfl
      have hkl := kr_le (s := s) (m := 20) (st := ka s n a) (a := a) (by have := ka_le s n a (by omega); omega) (by omega) b (by omega)
      have sab := sle a b
      have spp := sle (kr s a (ka s n a) b).1 (kr s a (ka s n a) b).2
      have setp : ((a = 0 ∧ b = 0) ∨ s a b < s (kr s a (ka s n a) b).1 (kr s a (ka s n a) b).2) → ax_W l G kX10_duel (ax_FQ G (fun o M2 => rq M M2 o (qa_duel r lw (nI n) (nI k)))) 8 0 0 N4 144 [some (av_r 90), some (av_i (nI n)), some (av_i (nI k)), some (av_i (nI 0)), some (av_i (-1)), some (av_i kd), some (av_i ls), some (av_i (nI a)), some (av_i (nI b))] [] := by
        intro hh
        have ek : kr s a (ka s n a) (b + 1) = (a, b) := by
          rcases hh with ⟨rfl, rfl⟩ | hh
          · unfold kr
            split
            · rfl
            · rfl
          · exact if_pos hh
        refine ax_bipush (v := 100) dX10_duel_144 (by decide) ?_
        refine ax_iload dX10_duel_146 rfl ?_
        refine ax_imul dX10_duel_148 ?_
        refine ax_iload dX10_duel_149 rfl ?_
        refine ax_iadd dX10_duel_151 ?_
        refine ax_istore dX10_duel_152 (by decide) rfl ?_
        refine ax_aload_n dX10_duel_154 rfl ?_
        refine ax_iconst (v := 0) dX10_duel_155 (by decide) ?_
        refine ax_callV (As := _) (d2 := _) (c1 := 0) (n1 := 0) (c_X10_costOf (M := N4) hok ho f4 (c := 0) (by decide) rfl) dX10_duel_156 mX10_costOf wd_2037 acl_10 (lo_s hok 90 rfl) rfl (by omega) (by omega) (by omega) rfl rfl (fun _ _ h => by cases h.1) ?_
        rintro r M9 ⟨h1, h9⟩; cases h1; rw [h9]; clear h9 M9
        refine ax_aload_n dX10_duel_159 rfl ?_
        refine ax_iconst (v := 1) dX10_duel_160 (by decide) ?_
        refine ax_callV (As := _) (d2 := _) (c1 := 0) (n1 := 0) (c_X10_costOf (M := N4) hok ho f4 (c := 1) (by decide) rfl) dX10_duel_161 mX10_costOf wd_2037 acl_10 (lo_s hok 90 rfl) rfl (by omega) (by omega) (by omega) rfl rfl (fun _ _ h => by cases h.1) ?_
        rintro r M9 ⟨h1, h9⟩; cases h1; rw [h9]; clear h9 M9
        refine ax_iadd dX10_duel_164 ?_
        rw [es]
        refine ax_istore dX10_duel_165 (by decide) rfl ?_
        refine ax_iinc (v := 1) dX10_duel_167 rfl (by decide) (by decide) rfl ?_
        refine ax_goto (tgt := 71) dX10_duel_170 (by decide) ?_
        refine next2 _ _ ⟨_, _, by rw [nI_1]; rfl, hs4, v1, v2, fun z => by omega, fun _ => ?_⟩
        rw [ek]
        exact ⟨by rw [nx_100, pk_mul, nI_add], rfl⟩
      refine ax_iload dX10_duel_119 rfl ?_
      refine ax_iconst (v := (-1)) dX10_duel_121 (by decide) ?_
      refine ax_icmp_eq (tgt := 144) dX10_duel_122 (by decide) (fun hc => ?_) (fun hc => ?_)
      · refine setp (Or.inl ?_)
        refine Decidable.byContradiction (fun z => ?_)
        have := (i1 (by omega)).1
        rw [hc] at this
        exact nI_m1 (by omega) this.symm
      · have hnz : 0 < a ∨ 0 < b := by
          rcases Nat.eq_zero_or_pos a with q | q
          · rcases Nat.eq_zero_or_pos b with q2 | q2
            · exact absurd (i0 ⟨q, q2⟩) hc
            · exact Or.inr q2
          · exact Or.inl q
        obtain ⟨j1, j2⟩ := i1 hnz
        refine ax_aload_n dX10_duel_125 rfl ?_
        refine ax_iconst (v := 0) dX10_duel_126 (by decide) ?_
        refine ax_callV (As := _) (d2 := _) (c1 := 0) (n1 := 0) (c_X10_costOf (M := N4) hok ho f4 (c := 0) (by decide) rfl) dX10_duel_127 mX10_costOf wd_2037 acl_10 (lo_s hok 90 rfl) rfl (by omega) (by omega) (by omega) rfl rfl (fun _ _ h => by cases h.1) ?_
        rintro r M9 ⟨h1, h9⟩; cases h1; rw [h9]; clear h9 M9
        refine ax_aload_n dX10_duel_130 rfl ?_
        refine ax_iconst (v := 1) dX10_duel_131 (by decide) ?_
        refine ax_callV (As := _) (d2 := _) (c1 := 0) (n1 := 0) (c_X10_costOf (M := N4) hok ho f4 (c := 1) (by decide) rfl) dX10_duel_132 mX10_costOf wd_2037 acl_10 (lo_s hok 90 rfl) rfl (by omega) (by omega) (by omega) rfl rfl (fun _ _ h => by cases h.1) ?_
        rintro r M9 ⟨h1, h9⟩; cases h1; rw [h9]; clear h9 M9
        refine ax_iadd dX10_duel_135 ?_
        rw [es]
        refine ax_iload dX10_duel_136 rfl ?_
        refine ax_icmp_lt (tgt := 144) dX10_duel_138 (by decide) (fun hc => ?_) (fun hc => ?_)
        · refine setp (Or.inr ?_)
          rw [j2] at hc
          exact (nI_ltI (by omega) (by omega)).mp hc
        · have hnl : ¬ s a b < s (kr s a (ka s n a) b).1 (kr s a (ka s n a) b).2 := fun z => hc (by rw [j2]; exact (nI_ltI (by omega) (by omega)).mpr z)
          have ek : kr s a (ka s n a) (b + 1) = kr s a (ka s n a) b := if_neg hnl
          refine ax_goto (tgt := 167) dX10_duel_141 (by decide) ?_
          refine ax_iinc (v := 1) dX10_duel_167 rfl (by decide) (by decide) rfl ?_
          refine ax_goto (tgt := 71) dX10_duel_170 (by decide) ?_
          refine next2 _ _ ⟨_, _, by rw [nI_1]; rfl, hs4, v1, v2, fun z => by omega, fun _ => ?_⟩
          rw [ek]
          exact ⟨j1, j2⟩
    · rintro N L ⟨kd, ls, rfl, hs, hv, hv2, i0, i1⟩
      refine ax_iload dX10_duel_71 rfl ?_
      refine ax_iload_n dX10_duel_73 rfl ?_
      refine ax_icmp_gt (tgt := 173) dX10_duel_74 (by decide) (fun hc => ?_) (fun hc => absurd ((nI_ltI (by omega) (by omega)).mpr (by omega)) hc)
      refine ax_iinc (v := 1) dX10_duel_173 rfl (by decide) (by decide) rfl ?_
      refine ax_goto (tgt := 62) dX10_duel_176 (by decide) ?_
      refine next _ _ ⟨_, _, _, by rw [nI_1]; rfl, hs, fun i j hi hj => ?_, fun z => by omega, fun _ => i1 (by omega)⟩
      by_cases q : i = a
      · subst q; exact hv2 j (by omega)
      · exact hv i j (by omega) hj
  · rintro N L ⟨kd, ls, y8, rfl, hs, hv, i0, i1⟩
    refine ax_iload dX10_duel_62 rfl ?_
    refine ax_iload_n dX10_duel_64 rfl ?_
    refine ax_icmp_gt (tgt := 179) dX10_duel_65 (by decide) (fun hc => ?_) (fun hc => absurd ((nI_ltI (by omega) (by omega)).mpr (by omega)) hc)
    obtain ⟨j1, j2⟩ := i1 (by omega)
    rw [j1, j2]
    exact tail N _ _ hs (fun i j hi hj => hv i j (by omega) hj)
end QE

