/-! ===== texts taken: the class ===== -/
def tf (M M2 : ax_M) : Prop := M2.2 = M.2 ∧ ∀ n i, ¬ (n = 2 ∧ 1 ≤ i ∧ i ≤ 8) → M2.1 n i = M.1 n i
/-- a text of z bytes was begun, or the number refused -/
def xtt (M M2 : ax_M) (B : Nat → Int32) (x : Int32) (m t : Nat) (o : ax_O) : Prop := ((0 ≤ x ∧ x ≤ nI t) ∧ x ≤ nI m ∧ ∃ z, z ≤ m ∧ z ≤ t ∧ x = nI z ∧ o = .inl none ∧ tf M M2 ∧ M2.1 2 1 = 0 ∧ xg M2 z B (0, none)) ∨ (¬ ((0 ≤ x ∧ x ≤ nI t) ∧ x ≤ nI m) ∧ o = .inr (cz_n 1) ∧ xre M M2 1)
/-- the bytes that a text of x bytes has -/
def txB (M : ax_M) (B : Nat → Int32) (t : Nat) (x : Int32) : Prop := ∀ z, x = nI z → z ≤ t → ps_B B z ∧ ∀ i, i < z → M.1 3 i = B i
section X97
variable {l : Launch} {G : ax_G} {M : ax_M} {B : Nat → Int32}
theorem x_takeText (hl9 : l.stackTraces = false) (hok : lo_ok M.2) {t : Nat} (ht : M.1 2 1 = nI t) (ht2 : t ≤ 600) {m : Nat} (hm : m ≤ 600) (x : Int32) (hB : txB M B t x) {y : Int32} (hy : y = nI m) : ax_Met l G kX9_takeText 7 1 6 M [av_r 1, av_i x, av_i y] (fun o M2 => xtt M M2 B x m t o) := by
  subst hy
  have call : ∀ (b : Prop) [Decidable b] (w : Int32), (w = if b then 1 else 0) → (b ↔ ((0 ≤ x ∧ x ≤ nI t) ∧ x ≤ nI m)) → ax_W l G kX9_takeText (ax_FQ G (fun o M2 => xtt M M2 B x m t o)) 7 1 6 M 26 [some (av_r 1), some (av_i x), some (av_i (nI m))] [av_i w, av_r 1] := by
    intro b _ w hw hbb
    refine ax_callVX (As := _) (d2 := _) (c1 := 0) (n1 := 0) (c_needArgument (b := b) (M := M) hl9 hok hw) dX9_takeText_26 mX9_needArgument wd_790 acl_9 (lo_s hok 1 rfl) rfl (by omega) (by omega) (by omega) rfl rfl (fun E M2 h => by obtain ⟨h1, h2, h3⟩ := xN_ex h; exact Or.inr ⟨fun z => h1 (hbb.mpr z), by rw [h2], h3⟩) ?_
    refine xN_k (fun hb1 => ?_)
    obtain ⟨⟨h1, h2⟩, h3⟩ := hbb.mp hb1
    obtain ⟨z, hz, rfl⟩ := in_nat ⟨h1, h2⟩ (n := t) rfl (by omega)
    have hzm : z ≤ m := (nI_leI (by omega) (by omega)).mp h3
    refine ax_aload_n dX9_takeText_29 rfl ?_
    refine ax_getK (f := 0) 2 dX9_takeText_30 acl_9 wd_547 (by decide) rfl (lo_s hok 1 rfl) (lo_r hok 0 rfl) ?_
    refine ax_iload_n dX9_takeText_33 rfl ?_
    refine ax_callVN (As := _) (d2 := _) (c1 := 0) (n1 := 0) (c_beginText (M := M) hok (n := z) (by omega) rfl (hB z rfl hz).1 (hB z rfl hz).2) dX9_takeText_34 mX6_beginText wd_862 acl_6 (lo_s hok 2 rfl) rfl (by omega) (by omega) (by omega) rfl rfl (fun _ _ h => by cases h.1) ?_
    rintro _ A ⟨q, f, f1, g⟩; cases q
    refine ax_vret dX9_takeText_37 rfl ?_
    exact Or.inl ⟨⟨h1, h2⟩, h3, z, hzm, hz, rfl, rfl, f, f1, g⟩
  refine ax_body (by decide) (Nat.le_of_ble_eq_true rfl) ?_
  refine ax_aload_n dX9_takeText_0 rfl ?_
  refine ax_iload_n dX9_takeText_1 rfl ?_
  refine ax_if_lt (tgt := 25) dX9_takeText_2 (by decide) (fun hc => ?_) (fun hc => ?_)
  · refine ax_iconst (v := 0) dX9_takeText_25 (by decide) ?_
    exact call False _ rfl (iff_of_false id (fun z => absurd hc (by have := z.1.1; rw [iv_le] at this; rw [iv_lt]; omega)))
  have h0 := hc
  clear hc
  refine ax_iload_n dX9_takeText_5 rfl ?_
  refine ax_iload_n dX9_takeText_6 rfl ?_
  refine ax_icmp_gt (tgt := 25) dX9_takeText_7 (by decide) (fun hc => ?_) (fun hc => ?_)
  · refine ax_iconst (v := 0) dX9_takeText_25 (by decide) ?_
    exact call False _ rfl (iff_of_false id (fun z => absurd hc (by have := z.2; rw [iv_le] at this; rw [iv_lt]; omega)))
  have h1 := hc
  clear hc
  refine ax_iload_n dX9_takeText_10 rfl ?_
  refine ax_aload_n dX9_takeText_11 rfl ?_
  refine ax_getK (f := 0) 2 dX9_takeText_12 acl_9 wd_547 (by decide) rfl (lo_s hok 1 rfl) (lo_r hok 0 rfl) ?_
  refine ax_getIN (f := 1) dX9_takeText_15 acl_6 wd_207 (by decide) rfl (lo_s hok 2 rfl) ?_
  rw [ht]
  refine ax_icmp_gt (tgt := 25) dX9_takeText_18 (by decide) (fun hc => ?_) (fun hc => ?_)
  · refine ax_iconst (v := 0) dX9_takeText_25 (by decide) ?_
    exact call False _ rfl (iff_of_false id (fun z => absurd hc (by have := z.1.2; rw [iv_le] at this; rw [iv_lt]; omega)))
  · refine ax_iconst (v := 1) dX9_takeText_21 (by decide) ?_
    refine ax_goto (tgt := 26) dX9_takeText_22 (by decide) ?_
    exact call True _ rfl (iff_of_true trivial ⟨⟨by rw [iv_le]; rw [iv_lt] at h0; omega, by rw [iv_le]; rw [iv_lt] at hc; omega⟩, by rw [iv_le]; rw [iv_lt] at h1; omega⟩)
end X97

