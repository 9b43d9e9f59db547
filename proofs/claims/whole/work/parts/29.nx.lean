/-! ===== ints as whole numbers; rows with places; loops ===== -/
def iI (z : Int) : Int32 := Int32.ofInt z
theorem iI_nI (n : Nat) : nI n = iI (n : Int) := by
  unfold nI iI; exact (Int32.ofInt_eq_ofNat).symm
theorem iI_add (a b : Int) : iI a + iI b = iI (a + b) := (Int32.ofInt_add a b).symm
theorem iI_sub (a b : Int) : iI a - iI b = iI (a - b) := (Int32.ofInt_sub a b).symm
theorem iI_mul (a b : Int) : iI a * iI b = iI (a * b) := (Int32.ofInt_mul a b).symm
theorem iI_neg (a : Int) : - iI a = iI (- a) := (Int32.ofInt_neg a).symm
theorem iI_toInt {z : Int} (h1 : -2147483648 ≤ z) (h2 : z < 2147483648) : (iI z).toInt = z := Int32.toInt_ofInt_of_le (by simpa using h1) (by simpa using h2)
theorem iI_of (x : Int32) : iI x.toInt = x := Int32.ofInt_toInt x
def iI_b (z : Int) : Prop := -1000000000 ≤ z ∧ z ≤ 1000000000
theorem iI_t {z : Int} (h : iI_b z) : (iI z).toInt = z := iI_toInt (by unfold iI_b at h; omega) (by unfold iI_b at h; omega)
theorem iI_le {a b : Int} (ha : iI_b a) (hb : iI_b b) : iI a ≤ iI b ↔ a ≤ b := by rw [iv_le, iI_t ha, iI_t hb]
theorem iI_lt {a b : Int} (ha : iI_b a) (hb : iI_b b) : iI a < iI b ↔ a < b := by rw [iv_lt, iI_t ha, iI_t hb]
theorem iI_eq {a b : Int} (ha : iI_b a) (hb : iI_b b) : iI a = iI b ↔ a = b := by rw [iv_eq, iI_t ha, iI_t hb]
theorem iI_div {a b : Int} (h0 : 0 ≤ a) (ha : a ≤ 1000000000) (hb0 : 0 < b) (hb : b ≤ 1000000000) : iI a / iI b = iI (a / b) := by
  obtain ⟨n, rfl⟩ := Int.eq_ofNat_of_zero_le h0
  obtain ⟨m, rfl⟩ := Int.eq_ofNat_of_zero_le (Int.le_of_lt hb0)
  show iI (n : Int) / iI (m : Int) = iI ((n : Int) / (m : Int))
  rw [← iI_nI, ← iI_nI, pk_div (by omega) (by omega) (by omega), iI_nI]
  rfl
theorem nx_0 : (0 : Int32) = nI 0 := rfl
theorem nx_1 : (1 : Int32) = nI 1 := rfl
theorem nx_2 : (2 : Int32) = nI 2 := rfl
theorem nx_3 : (3 : Int32) = nI 3 := rfl
theorem nx_4 : (4 : Int32) = nI 4 := rfl
theorem nx_10 : (10 : Int32) = nI 10 := rfl
theorem nx_20 : (20 : Int32) = nI 20 := rfl
theorem nx_21 : (21 : Int32) = nI 21 := rfl
theorem nx_100 : (100 : Int32) = nI 100 := rfl
theorem ax_nix {x : Int32} {a b : Nat} (h : x = nI a) (e : a = b) : x = nI b := e ▸ h
section NX
variable {l : Launch} {G : ax_G} {k : ax_K} {F : ax_F} {d c n : Nat} {M : ax_M} {pc : Nat} {L : List (Option ax_V)} {S : List ax_V}
theorem ax_ialdN {a len : Nat} {x : Int32} (i : Nat) (hd : decode k.2.1 pc = .ok (.iaload, 1)) (hsh : M.2.2.2.1 a = some (.inl (0, len))) (hl : len < 2 ^ 31) (hx : x = nI i) (hi : i < len) (kk : ax_W l G k F d c n M (pc + 1) L (av_i (M.1 a i) :: S)) : ax_W l G k F d c n M pc L (av_i x :: av_r a :: S) := by
  subst hx
  exact ax_iald hd hsh (vp_in_nI hi hl) (by rw [nI_clamp (by omega)]; exact kk)
theorem ax_iastN {a len : Nat} {x v : Int32} (i : Nat) (hd : decode k.2.1 pc = .ok (.iastore, 1)) (hsh : M.2.2.2.1 a = some (.inl (0, len))) (hl : len < 2 ^ 31) (hx : x = nI i) (hi : i < len) (kk : ax_W l G k F d c n (ax_pI M a i v) (pc + 1) L S) : ax_W l G k F d c n M pc L (av_i v :: av_i x :: av_r a :: S) := by
  subst hx
  exact ax_iast hd hsh (vp_in_nI hi hl) (by rw [nI_clamp (by omega)]; exact kk)
theorem ax_aaldN2 {a len : Nat} {x : Int32} (v i : Nat) (hd : decode k.2.1 pc = .ok (.aaload, 1)) (hsh : M.2.2.2.1 a = some (.inl (2, len))) (hl : len < 2 ^ 31) (hx : x = nI i) (hi : i < len) (hv : M.2.1 a i = v) (kk : ax_W l G k F d c n M (pc + 1) L (av_r v :: S)) : ax_W l G k F d c n M pc L (av_i x :: av_r a :: S) := by
  subst hx
  exact ax_aaldK2 v hd hsh (vp_in_nI hi hl) (by rw [nI_clamp (by omega)]; exact hv) kk
theorem ax_aaldN3 {a len : Nat} {x : Int32} (v i : Nat) (hd : decode k.2.1 pc = .ok (.aaload, 1)) (hsh : M.2.2.2.1 a = some (.inl (3, len))) (hl : len < 2 ^ 31) (hx : x = nI i) (hi : i < len) (hv : M.2.1 a i = v) (kk : ax_W l G k F d c n M (pc + 1) L (av_r v :: S)) : ax_W l G k F d c n M pc L (av_i x :: av_r a :: S) := by
  subst hx
  exact ax_aaldK3 v hd hsh (vp_in_nI hi hl) (by rw [nI_clamp (by omega)]; exact hv) kk
/-- a loop that counts up to n: P i holds of memory and locals at its head -/
theorem ax_for (N : Nat) (P : Nat → ax_M → List (Option ax_V) → Prop) (hd : Nat)
    (step : ∀ i M L, i < N → P i M L → (∀ M2 L2, P (i + 1) M2 L2 → ax_W l G k F d c n M2 hd L2 []) → ax_W l G k F d c n M hd L [])
    (done : ∀ M L, P N M L → ax_W l G k F d c n M hd L []) {i : Nat} (hi : i ≤ N) {M : ax_M} {L : List (Option ax_V)} (hP : P i M L) : ax_W l G k F d c n M hd L [] := by
  obtain ⟨q, hq⟩ : ∃ q, i + q = N := ⟨N - i, by omega⟩
  induction q generalizing i M L with
  | zero => exact done M L (by rw [← hq]; exact hP)
  | succ q ih => exact step i M L (by omega) hP (fun M2 L2 h2 => ih (by omega) h2 (by omega))
theorem ax_ifB_eq {p : Prop} [Decidable p] {off : Int} {tgt : Nat} (hd : decode k.2.1 pc = .ok (.ifCond .eq off, 3)) (ht : (pc : Int) + off = (tgt : Int)) (kt : ¬ p → ax_W l G k F d c n M tgt L (S)) (kf : p → ax_W l G k F d c n M (pc + 3) L (S)) : ax_W l G k F d c n M pc L (av_i (if p then 1 else 0) :: S) :=
  ax_if_eq hd ht (fun h => kt (iv_b1.mp h)) (fun h => kf (Decidable.byContradiction fun q => h (iv_b1.mpr q)))
theorem ax_ifB_ne {p : Prop} [Decidable p] {off : Int} {tgt : Nat} (hd : decode k.2.1 pc = .ok (.ifCond .ne off, 3)) (ht : (pc : Int) + off = (tgt : Int)) (kt : p → ax_W l G k F d c n M tgt L (S)) (kf : ¬ p → ax_W l G k F d c n M (pc + 3) L (S)) : ax_W l G k F d c n M pc L (av_i (if p then 1 else 0) :: S) :=
  ax_if_ne hd ht (fun h => kt (Decidable.byContradiction fun q => h (iv_b1.mpr q))) (fun h => kf (iv_b1.mp h))
theorem ax_join0 (p : Prop) [Decidable p] (J : Nat) (a b : Int32) (k1 : ax_W l G k F d c n M J L (av_i (if p then a else b) :: S)) (k2 : (p → ax_W l G k F d c n M J L (av_i a :: S)) → (¬ p → ax_W l G k F d c n M J L (av_i b :: S)) → ax_W l G k F d c n M pc L (S)) : ax_W l G k F d c n M pc L (S) :=
  k2 (fun h => by rw [if_pos h] at k1; exact k1) (fun h => by rw [if_neg h] at k1; exact k1)
theorem ax_join1 (p : Prop) [Decidable p] (J : Nat) (a b : Int32) {x0 : ax_V} (k1 : ax_W l G k F d c n M J L (av_i (if p then a else b) :: S)) (k2 : (p → ax_W l G k F d c n M J L (av_i a :: S)) → (¬ p → ax_W l G k F d c n M J L (av_i b :: S)) → ax_W l G k F d c n M pc L (x0 :: S)) : ax_W l G k F d c n M pc L (x0 :: S) :=
  k2 (fun h => by rw [if_pos h] at k1; exact k1) (fun h => by rw [if_neg h] at k1; exact k1)
theorem ax_join2 (p : Prop) [Decidable p] (J : Nat) (a b : Int32) {x0 x1 : ax_V} (k1 : ax_W l G k F d c n M J L (av_i (if p then a else b) :: S)) (k2 : (p → ax_W l G k F d c n M J L (av_i a :: S)) → (¬ p → ax_W l G k F d c n M J L (av_i b :: S)) → ax_W l G k F d c n M pc L (x0 :: x1 :: S)) : ax_W l G k F d c n M pc L (x0 :: x1 :: S) :=
  k2 (fun h => by rw [if_pos h] at k1; exact k1) (fun h => by rw [if_neg h] at k1; exact k1)
theorem ax_join3 (p : Prop) [Decidable p] (J : Nat) (a b : Int32) {x0 x1 x2 : ax_V} (k1 : ax_W l G k F d c n M J L (av_i (if p then a else b) :: S)) (k2 : (p → ax_W l G k F d c n M J L (av_i a :: S)) → (¬ p → ax_W l G k F d c n M J L (av_i b :: S)) → ax_W l G k F d c n M pc L (x0 :: x1 :: x2 :: S)) : ax_W l G k F d c n M pc L (x0 :: x1 :: x2 :: S) :=
  k2 (fun h => by rw [if_pos h] at k1; exact k1) (fun h => by rw [if_neg h] at k1; exact k1)
end NX

