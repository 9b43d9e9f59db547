/-! ===== feed: the class ===== -/
theorem pb_bv (b : BitVec 32) {s : Nat} (hs : s ≤ 24) : (b >>> s &&& 255#32) = (b.sshiftRight s &&& 255#32) := by
  apply BitVec.eq_of_getLsbD_eq
  intro i hi
  rw [BitVec.getLsbD_and, BitVec.getLsbD_and, BitVec.getLsbD_sshiftRight, BitVec.getLsbD_ushiftRight]
  by_cases e : i < 8
  · rw [if_pos (show s + i < 32 by omega), decide_eq_false (show ¬ 32 ≤ i by omega)]
    simp
  · have : (255#32).getLsbD i = false := (show ∀ i, i < 32 → ¬ i < 8 → (255#32).getLsbD i = false by decide) i hi e
    rw [this]; simp
def pb (x : Int32) (k : Nat) : Int32 := x >>> (nI (24 - 8 * k) &&& 31) &&& 255
theorem pb_sh (x : Int32) {k : Nat} (hk : k < 4) : (x.toUInt32 >>> ((iI (24 - 8 * (k : Int))).toUInt32 &&& Int32.toUInt32 31)).toInt32 &&& 255 = pb x k := by
  rcases (show k = 0 ∨ k = 1 ∨ k = 2 ∨ k = 3 by omega) with rfl | rfl | rfl | rfl
  · apply Int32.toBitVec_inj.mp
    unfold pb
    rw [Int32.toBitVec_and, Int32.toBitVec_and, Int32.toBitVec_shiftRight]
    exact pb_bv x.toBitVec (s := 24) (by decide)
  · apply Int32.toBitVec_inj.mp
    unfold pb
    rw [Int32.toBitVec_and, Int32.toBitVec_and, Int32.toBitVec_shiftRight]
    exact pb_bv x.toBitVec (s := 16) (by decide)
  · apply Int32.toBitVec_inj.mp
    unfold pb
    rw [Int32.toBitVec_and, Int32.toBitVec_and, Int32.toBitVec_shiftRight]
    exact pb_bv x.toBitVec (s := 8) (by decide)
  · apply Int32.toBitVec_inj.mp
    unfold pb
    rw [Int32.toBitVec_and, Int32.toBitVec_and, Int32.toBitVec_shiftRight]
    exact pb_bv x.toBitVec (s := 0) (by decide)
/-- the tape got J bytes more -/
def xfd (M N : ax_M) (t J : Nat) (f : Nat → Int32) : Prop := N.2 = M.2 ∧ N.1 2 1 = nI (t + J) ∧ (∀ k, k < J → N.1 3 (t + k) = f k) ∧ ∀ n i, ¬ (n = 2 ∧ i = 1) → ¬ (n = 3 ∧ t ≤ i ∧ i < t + J) → N.1 n i = M.1 n i
theorem xfd_tr {M N P : ax_M} {t J K : Nat} {f g h : Nat → Int32} (h1 : xfd M N t J f) (h2 : xfd N P (t + J) K g) (e1 : ∀ k, k < J → f k = h k) (e2 : ∀ k, k < K → g k = h (J + k)) : xfd M P t (J + K) h := by
  obtain ⟨a1, a2, a3, a4⟩ := h1
  obtain ⟨b1, b2, b3, b4⟩ := h2
  refine ⟨b1.trans a1, by rw [b2, Nat.add_assoc], fun k hk => ?_, fun n i z1 z2 => ?_⟩
  · by_cases z : k < J
    · rw [b4 3 (t + k) (by omega) (by omega), a3 k z, e1 k z]
    · have := b3 (k - J) (by omega)
      rw [show t + J + (k - J) = t + k by omega] at this
      rw [this, e2 (k - J) (by omega), show J + (k - J) = k by omega]
  · rw [b4 n i z1 (by omega), a4 n i z1 (by omega)]
section X96
variable {l : Launch} {G : ax_G} {M : ax_M}
theorem x_tput {d : Nat} (hok : lo_ok M.2) {t : Nat} (ht : M.1 2 1 = nI t) (ht2 : t + 4 ≤ 600) (x : Int32) : ax_Met l G kX6_put d 0 0 M [av_r 2, av_i x] (fun o M2 => o = .inl none ∧ xfd M M2 t 4 (pb x)) := by
  refine ax_body (by decide) (Nat.le_of_ble_eq_true rfl) ?_
  refine ax_bipush (v := 24) dX6_put_0 (by decide) ?_
  refine ax_istore_n dX6_put_2 (by decide) rfl ?_
  refine ax_for 4 (fun q N L => L = [some (av_r 2), some (av_i x), some (av_i (iI (24 - 8 * (q : Int))))] ∧ xfd M N t q (pb x)) 3 ?_ ?_ (i := 0) (by omega) ⟨rfl, rfl, ht, fun k hk => by omega, fun _ _ _ _ => rfl⟩
  · rintro q N L hq ⟨rfl, n1, n2, n3, n4⟩ next
    have hok : lo_ok N.2 := by rw [n1]; exact hok
    refine ax_iload_n dX6_put_3 rfl ?_
    refine ax_if_lt (tgt := 49) dX6_put_4 (by decide) (fun hc => ?_) (fun hc => ?_)
    · exact absurd ((iI_lt (b := 0) (by unfold iI_b; omega) (by unfold iI_b; omega)).mp hc) (by omega)
    clear hc
    refine ax_aload_n dX6_put_7 rfl ?_
    refine ax_getI (f := 1) dX6_put_8 acl_6 wd_206 (by decide) rfl (lo_s hok 2 rfl) ?_
    refine ax_sipush (v := 600) dX6_put_11 (by decide) ?_
    rw [n2]
    refine ax_icmp_ge (tgt := 49) dX6_put_14 (by decide) (fun hc => ?_) (fun hc => ?_)
    · exact absurd ((nI_leI (a := 600) (by omega) (by omega)).mp hc) (by omega)
    clear hc
    refine ax_aload_n dX6_put_17 rfl ?_
    refine ax_getK (f := 0) 3 dX6_put_18 acl_6 wd_205 (by decide) rfl (lo_s hok 2 rfl) (lo_r hok 9 rfl) ?_
    refine ax_aload_n dX6_put_21 rfl ?_
    refine ax_getI (f := 1) dX6_put_22 acl_6 wd_206 (by decide) rfl (lo_s hok 2 rfl) ?_
    rw [n2]
    refine ax_iload_n dX6_put_25 rfl ?_
    refine ax_iload_n dX6_put_26 rfl ?_
    refine ax_iushr dX6_put_27 ?_
    refine ax_sipush (v := 255) dX6_put_28 (by decide) ?_
    refine ax_iand dX6_put_31 ?_
    rw [pb_sh x hq]
    refine ax_iastN ((t + q)) dX6_put_32 (lo_s hok 3 rfl) (by decide) (by first | with_reducible rfl | assumption | exact ax_nix (by simp only [nx_0, nx_1, nx_2, nx_3, nx_4, nx_10, nx_20, nx_21, nx_100, nI_add, pk_mul] <;> rfl) (by omega) | decide) (by omega) ?_
    refine ax_aload_n dX6_put_33 rfl ?_
    refine ax_dup dX6_put_34 (by first | rfl | exact ax_crf _) ?_
    refine ax_getI (f := 1) dX6_put_35 acl_6 wd_206 (by decide) rfl (lo_s hok 2 rfl) ?_
    rw [ax_pn (by omega), n2]
    refine ax_iconst (v := 1) dX6_put_38 (by decide) ?_
    refine ax_iadd dX6_put_39 ?_
    refine ax_putI (f := 1) dX6_put_40 acl_6 wd_206 (by decide) rfl rfl (ax_nfI rfl) (lo_s hok 2 rfl) ?_
    refine ax_gen (fun A hA => ?_)
    have hok : lo_ok A.2 := by rw [hA]; exact hok
    refine ax_iinc (v := (-8)) dX6_put_43 rfl (by decide) (by decide) rfl ?_
    refine ax_goto (tgt := 3) dX6_put_46 (by decide) ?_
    refine next _ _ ⟨?_, by rw [hA]; exact n1, ?_, fun k hk => ?_, fun n i z1 z2 => ?_⟩
    · rw [show iI (24 - 8 * (q : Int)) + (-8) = iI (24 - 8 * ((q + 1 : Nat) : Int)) by rw [show (-8 : Int32) = iI (-8) from rfl, iI_add]; congr 1; omega]; rfl
    · rw [hA, ax_pa, nI_1]; rfl
    · rw [hA, ax_pn (by omega)]
      by_cases e : k = q
      · rw [e, ax_pa]
      · rw [ax_pn (by omega)]; exact n3 k (by omega)
    · rw [hA, ax_pn (by omega), ax_pn (by omega)]; exact n4 n i z1 (by omega)
  · rintro N L ⟨rfl, h⟩
    refine ax_iload_n dX6_put_3 rfl ?_
    refine ax_if_lt (tgt := 49) dX6_put_4 (by decide) (fun hc => ?_) (fun hc => ?_)
    · refine ax_vret dX6_put_49 rfl ?_
      exact ⟨rfl, h⟩
    · exact absurd (show iI (24 - 8 * ((4 : Nat) : Int)) < 0 by decide) hc
theorem x_feed (hok : lo_ok M.2) {t : Nat} (ht : M.1 2 1 = nI t) (ht2 : t ≤ 600) (a b c e f : Int32) : ax_Met l G kX9_feed 2 0 0 M [av_r 1, av_i a, av_i b, av_i c, av_i e, av_i f] (fun o M2 => if 600 < t + 20 then o = .inl (some (av_i (-1))) ∧ M2 = M else o = .inl (some (av_i (nI (t + 20)))) ∧ xfd M M2 t 20 (fb a b c e f)) := by
  have e0 : nI t + 20 = nI (t + 20) := by rw [show (20 : Int32) = nI 20 from rfl, nI_add]
  refine ax_body (by decide) (Nat.le_of_ble_eq_true rfl) ?_
  refine ax_aload_n dX9_feed_0 rfl ?_
  refine ax_getK (f := 0) 2 dX9_feed_1 acl_9 wd_547 (by decide) rfl (lo_s hok 1 rfl) (lo_r hok 0 rfl) ?_
  refine ax_getIN (f := 1) dX9_feed_4 acl_6 wd_207 (by decide) rfl (lo_s hok 2 rfl) ?_
  rw [ht]
  refine ax_bipush (v := 20) dX9_feed_7 (by decide) ?_
  refine ax_iadd dX9_feed_9 ?_
  refine ax_sipush (v := 600) dX9_feed_10 (by decide) ?_
  rw [e0]
  refine ax_icmp_le (tgt := 18) dX9_feed_13 (by decide) (fun hc => ?_) (fun hc => ?_)
  rotate_left
  · have h1 : ¬ t + 20 ≤ 600 := fun z => hc ((nI_leI (b := 600) (by omega) (by omega)).mpr z)
    refine ax_iconst (v := (-1)) dX9_feed_16 (by decide) ?_
    refine ax_iret dX9_feed_17 rfl ?_
    rw [if_pos (by omega)]
    exact ⟨rfl, rfl⟩
  have h1 := (nI_leI (b := 600) (by omega) (by omega)).mp hc
  clear hc
  refine ax_aload_n dX9_feed_18 rfl ?_
  refine ax_getK (f := 0) 2 dX9_feed_19 acl_9 wd_547 (by decide) rfl (lo_s hok 1 rfl) (lo_r hok 0 rfl) ?_
  refine ax_iload_n dX9_feed_22 rfl ?_
  refine ax_callVN (As := _) (d2 := _) (c1 := 0) (n1 := 0) (x_tput (d := 0) (M := M) hok (t := t) ht (by omega) a) dX9_feed_23 mX6_put wd_597 acl_6 (lo_s hok 2 rfl) rfl (by omega) (by omega) (by omega) rfl rfl (fun _ _ h => by cases h.1) ?_
  rintro _ A ⟨q, hA⟩; cases q
  have hok : lo_ok A.2 := by rw [hA.1]; exact hok
  refine ax_aload_n dX9_feed_26 rfl ?_
  refine ax_getK (f := 0) 2 dX9_feed_27 acl_9 wd_547 (by decide) rfl (lo_s hok 1 rfl) (lo_r hok 0 rfl) ?_
  refine ax_iload_n dX9_feed_30 rfl ?_
  refine ax_callVN (As := _) (d2 := _) (c1 := 0) (n1 := 0) (x_tput (d := 0) (M := A) hok (t := t + 4) hA.2.1 (by omega) b) dX9_feed_31 mX6_put wd_597 acl_6 (lo_s hok 2 rfl) rfl (by omega) (by omega) (by omega) rfl rfl (fun _ _ h => by cases h.1) ?_
  rintro _ B ⟨q, hB⟩; cases q
  have hok : lo_ok B.2 := by rw [hB.1]; exact hok
  refine ax_aload_n dX9_feed_34 rfl ?_
  refine ax_getK (f := 0) 2 dX9_feed_35 acl_9 wd_547 (by decide) rfl (lo_s hok 1 rfl) (lo_r hok 0 rfl) ?_
  refine ax_iload_n dX9_feed_38 rfl ?_
  refine ax_callVN (As := _) (d2 := _) (c1 := 0) (n1 := 0) (x_tput (d := 0) (M := B) hok (t := t + 4 + 4) hB.2.1 (by omega) c) dX9_feed_39 mX6_put wd_597 acl_6 (lo_s hok 2 rfl) rfl (by omega) (by omega) (by omega) rfl rfl (fun _ _ h => by cases h.1) ?_
  rintro _ C ⟨q, hC⟩; cases q
  have hok : lo_ok C.2 := by rw [hC.1]; exact hok
  refine ax_aload_n dX9_feed_42 rfl ?_
  refine ax_getK (f := 0) 2 dX9_feed_43 acl_9 wd_547 (by decide) rfl (lo_s hok 1 rfl) (lo_r hok 0 rfl) ?_
  refine ax_iload dX9_feed_46 rfl ?_
  refine ax_callVN (As := _) (d2 := _) (c1 := 0) (n1 := 0) (x_tput (d := 0) (M := C) hok (t := t + 4 + 4 + 4) hC.2.1 (by omega) e) dX9_feed_48 mX6_put wd_597 acl_6 (lo_s hok 2 rfl) rfl (by omega) (by omega) (by omega) rfl rfl (fun _ _ h => by cases h.1) ?_
  rintro _ D ⟨q, hD⟩; cases q
  have hok : lo_ok D.2 := by rw [hD.1]; exact hok
  refine ax_aload_n dX9_feed_51 rfl ?_
  refine ax_getK (f := 0) 2 dX9_feed_52 acl_9 wd_547 (by decide) rfl (lo_s hok 1 rfl) (lo_r hok 0 rfl) ?_
  refine ax_iload dX9_feed_55 rfl ?_
  refine ax_callVN (As := _) (d2 := _) (c1 := 0) (n1 := 0) (x_tput (d := 0) (M := D) hok (t := t + 4 + 4 + 4 + 4) hD.2.1 (by omega) f) dX9_feed_57 mX6_put wd_597 acl_6 (lo_s hok 2 rfl) rfl (by omega) (by omega) (by omega) rfl rfl (fun _ _ h => by cases h.1) ?_
  rintro _ E ⟨q, hE⟩; cases q
  have hok : lo_ok E.2 := by rw [hE.1]; exact hok
  refine ax_aload_n dX9_feed_60 rfl ?_
  refine ax_getK (f := 0) 2 dX9_feed_61 acl_9 wd_547 (by decide) rfl (lo_s hok 1 rfl) (lo_r hok 0 rfl) ?_
  refine ax_getIN (f := 1) dX9_feed_64 acl_6 wd_207 (by decide) rfl (lo_s hok 2 rfl) ?_
  rw [hE.2.1]
  refine ax_iret dX9_feed_67 rfl ?_
  rw [if_neg (by omega)]
  refine ⟨by rw [show t + 4 + 4 + 4 + 4 + 4 = t + 20 by omega], ?_⟩
  have k4 : ∀ k, k < 4 → k = 0 ∨ k = 1 ∨ k = 2 ∨ k = 3 := fun k hk => by omega
  have p0 : ∀ k, k < 4 → pb a k = fb a b c e f k := fun k hk => by rcases k4 k hk with rfl | rfl | rfl | rfl <;> rfl
  have p1 : ∀ k, k < 4 → pb b k = fb a b c e f (4 + k) := fun k hk => by rcases k4 k hk with rfl | rfl | rfl | rfl <;> rfl
  have p2 : ∀ k, k < 4 → pb c k = fb a b c e f (8 + k) := fun k hk => by rcases k4 k hk with rfl | rfl | rfl | rfl <;> rfl
  have p3 : ∀ k, k < 4 → pb e k = fb a b c e f (12 + k) := fun k hk => by rcases k4 k hk with rfl | rfl | rfl | rfl <;> rfl
  have p4 : ∀ k, k < 4 → pb f k = fb a b c e f (16 + k) := fun k hk => by rcases k4 k hk with rfl | rfl | rfl | rfl <;> rfl
  have h2 : xfd M B t 8 (fb a b c e f) := xfd_tr (J := 4) (K := 4) hA hB p0 p1
  have h3 : xfd M C t 12 (fb a b c e f) := xfd_tr (J := 8) (K := 4) h2 (by rw [show t + 8 = t + 4 + 4 by omega]; exact hC) (fun _ _ => rfl) p2
  have h4 : xfd M D t 16 (fb a b c e f) := xfd_tr (J := 12) (K := 4) h3 (by rw [show t + 12 = t + 4 + 4 + 4 by omega]; exact hD) (fun _ _ => rfl) p3
  exact xfd_tr (J := 16) (K := 4) h4 (by rw [show t + 16 = t + 4 + 4 + 4 + 4 by omega]; exact hE) (fun _ _ => rfl) p4
end X96

