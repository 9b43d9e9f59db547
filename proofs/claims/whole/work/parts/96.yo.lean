/-! ===== feed: the class ===== -/
theorem pb_bv (b : BitVec 32) {s : Nat} (hs : s ≤ 24) : (b >>> s &&& 255#32) = (b.sshiftRight s &&& 255#32) := by
  apply BitVec.eq_of_getLsbD_eq
  intro i hi
  rw [BitVec.getLsbD_and, BitVec.getLsbD_and, BitVec.getLsbD_sshiftRight, BitVec.getLsbD_ushiftRight]
  by_cases e : i < 8
  · rw [if_pos (show s + i < 32 by omega), decide_eq_false (show ¬ 32 ≤ i by omega)]
    simp
  · have : (255#32).getLsbD i = false := (show ∀ i, i < 32 → ¬ i < 8 → (255#32).getLsbD i = false by decide) i hi e
    rw [this]; simp
def pb (x : Int32) (k : Nat) : Int32 := x >>> (nI (24 - 8 * k) &&& 31) &&& 255
theorem pb_sh (x : Int32) {k : Nat} (hk : k < 4) : (x.toUInt32 >>> ((iI (24 - 8 * (k : Int))).toUInt32 &&& Int32.toUInt32 31)).toInt32 &&& 255 = pb x k := by
  rcases (show k = 0 ∨ k = 1 ∨ k = 2 ∨ k = 3 by omega) with rfl | rfl | rfl | rfl
  · apply Int32.toBitVec_inj.mp
    unfold pb
    rw [Int32.toBitVec_and, Int32.toBitVec_and, Int32.toBitVec_shiftRight]
    exact pb_bv x.toBitVec (s := 24) (by decide)
  · apply Int32.toBitVec_inj.mp
    unfold pb
    rw [Int32.toBitVec_and, Int32.toBitVec_and, Int32.toBitVec_shiftRight]
    exact pb_bv x.toBitVec (s := 16) (by decide)
  · apply Int32.toBitVec_inj.mp
    unfold pb
    rw [Int32.toBitVec_and, Int32.toBitVec_and, Int32.toBitVec_shiftRight]
    exact pb_bv x.toBitVec (s := 8) (by decide)
  · apply Int32.toBitVec_inj.mp
    unfold pb
    rw [Int32.toBitVec_and, Int32.toBitVec_and, Int32.toBitVec_shiftRight]
    exact pb_bv x.toBitVec (s := 0) (by decide)
/-- the tape got J bytes more -/
def xfd (M N : ax_M) (t J : Nat) (f : Nat → Int32) : Prop := N.2 = M.2 ∧ N.1 2 1 = nI (t + J) ∧ (∀ k, k < J → N.1 3 (t + k) = f k) ∧ ∀ n i, ¬ (n = 2 ∧ i = 1) → ¬ (n = 3 ∧ t ≤ i ∧ i < t + J) → N.1 n i = M.1 n i
section X96
variable {l : Launch} {G : ax_G} {M : ax_M}
theorem x_tput {d : Nat} (hok : lo_ok M.2) {t : Nat} (ht : M.1 2 1 = nI t) (ht2 : t + 4 ≤ 600) (x : Int32) : ax_Met l G kX6_put d 0 0 M [av_r 2, av_i x] (fun o M2 => o = .inl none ∧ xfd M M2 t 4 (pb x)) := by
  refine ax_body (by decide) (Nat.le_of_ble_eq_true rfl) ?_
  refine ax_bipush (v := 24) dX6_put_0 (by decide) ?_
  refine ax_istore_n dX6_put_2 (by decide) rfl ?_
  refine ax_for 4 (fun q N L => L = [some (av_r 2), some (av_i x), some (av_i (iI (24 - 8 * (q : Int))))] ∧ xfd M N t q (pb x)) 3 ?_ ?_ (i := 0) (by omega) ⟨rfl, rfl, ht, fun k hk => by omega, fun _ _ _ _ => rfl⟩
  · rintro q N L hq ⟨rfl, n1, n2, n3, n4⟩ next
    have hok : lo_ok N.2 := by rw [n1]; exact hok
    refine ax_iload_n dX6_put_3 rfl ?_
    refine ax_if_lt (tgt := 49) dX6_put_4 (by decide) (fun hc => ?_) (fun hc => ?_)
    · exact absurd ((iI_lt (b := 0) (by unfold iI_b; omega) (by unfold iI_b; omega)).mp hc) (by omega)
    clear hc
    refine ax_aload_n dX6_put_7 rfl ?_
    refine ax_getI (f := 1) dX6_put_8 acl_6 wd_206 (by decide) rfl (lo_s hok 2 rfl) ?_
    refine ax_sipush (v := 600) dX6_put_11 (by decide) ?_
    rw [n2]
    refine ax_icmp_ge (tgt := 49) dX6_put_14 (by decide) (fun hc => ?_) (fun hc => ?_)
    · exact absurd ((nI_leI (a := 600) (by omega) (by omega)).mp hc) (by omega)
    clear hc
    refine ax_aload_n dX6_put_17 rfl ?_
    refine ax_getK (f := 0) 3 dX6_put_18 acl_6 wd_205 (by decide) rfl (lo_s hok 2 rfl) (lo_r hok 9 rfl) ?_
    refine ax_aload_n dX6_put_21 rfl ?_
    refine ax_getI (f := 1) dX6_put_22 acl_6 wd_206 (by decide) rfl (lo_s hok 2 rfl) ?_
    rw [n2]
    refine ax_iload_n dX6_put_25 rfl ?_
    refine ax_iload_n dX6_put_26 rfl ?_
    refine ax_iushr dX6_put_27 ?_
    refine ax_sipush (v := 255) dX6_put_28 (by decide) ?_
    refine ax_iand dX6_put_31 ?_
    rw [pb_sh x hq]
    refine ax_iastN ((t + q)) dX6_put_32 (lo_s hok 3 rfl) (by decide) (by first | with_reducible rfl | assumption | exact ax_nix (by simp only [nx_0, nx_1, nx_2, nx_3, nx_4, nx_10, nx_20, nx_21, nx_100, nI_add, pk_mul] <;> rfl) (by omega) | decide) (by omega) ?_
    refine ax_aload_n dX6_put_33 rfl ?_
    refine ax_dup dX6_put_34 (by first | rfl | exact ax_crf _) ?_
    refine ax_getI (f := 1) dX6_put_35 acl_6 wd_206 (by decide) rfl (lo_s hok 2 rfl) ?_
    rw [ax_pn (by omega), n2]
    refine ax_iconst (v := 1) dX6_put_38 (by decide) ?_
    refine ax_iadd dX6_put_39 ?_
    refine ax_putI (f := 1) dX6_put_40 acl_6 wd_206 (by decide) rfl rfl (ax_nfI rfl) (lo_s hok 2 rfl) ?_
    refine ax_gen (fun A hA => ?_)
    have hok : lo_ok A.2 := by rw [hA]; exact hok
    refine ax_iinc (v := (-8)) dX6_put_43 rfl (by decide) (by decide) rfl ?_
    refine ax_goto (tgt := 3) dX6_put_46 (by decide) ?_
    refine next _ _ ⟨?_, by rw [hA]; exact n1, ?_, fun k hk => ?_, fun n i z1 z2 => ?_⟩
    · rw [show iI (24 - 8 * (q : Int)) + (-8) = iI (24 - 8 * ((q + 1 : Nat) : Int)) by rw [show (-8 : Int32) = iI (-8) from rfl, iI_add]; congr 1; omega]; rfl
    · rw [hA, ax_pa, nI_1]; rfl
    · rw [hA, ax_pn (by omega)]
      by_cases e : k = q
      · rw [e, ax_pa]
      · rw [ax_pn (by omega)]; exact n3 k (by omega)
    · rw [hA, ax_pn (by omega), ax_pn (by omega)]; exact n4 n i z1 (by omega)
  · rintro N L ⟨rfl, h⟩
    refine ax_iload_n dX6_put_3 rfl ?_
    refine ax_if_lt (tgt := 49) dX6_put_4 (by decide) (fun hc => ?_) (fun hc => ?_)
    · refine ax_vret dX6_put_49 rfl ?_
      exact ⟨rfl, h⟩
    · exact absurd (show iI (24 - 8 * ((4 : Nat) : Int)) < 0 by decide) hc
end X96

