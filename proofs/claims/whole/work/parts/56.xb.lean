/-! ===== the class: its blocks, wherever they lie ===== -/
def xh_R (b : Nat) : Prop := b = 5 ∨ b = 23
theorem xs_R_0 {M : ax_M} {b : Nat} (h : xh_R b) (hok : lo_ok M.2) : M.2.2.2.1 b = some (.inr 5) := by
  rcases h with rfl | rfl <;> exact lo_s hok _ rfl
theorem xs_R_1 {M : ax_M} {b : Nat} (h : xh_R b) (hok : lo_ok M.2) : M.2.2.2.1 (b + 1) = some (.inl (0, 6)) := by
  rcases h with rfl | rfl <;> exact lo_s hok _ rfl
theorem xs_R_2 {M : ax_M} {b : Nat} (h : xh_R b) (hok : lo_ok M.2) : M.2.2.2.1 (b + 2) = some (.inl (0, 60)) := by
  rcases h with rfl | rfl <;> exact lo_s hok _ rfl
theorem xs_R_3 {M : ax_M} {b : Nat} (h : xh_R b) (hok : lo_ok M.2) : M.2.2.2.1 (b + 3) = some (.inl (0, 10)) := by
  rcases h with rfl | rfl <;> exact lo_s hok _ rfl
theorem xs_R_4 {M : ax_M} {b : Nat} (h : xh_R b) (hok : lo_ok M.2) : M.2.2.2.1 (b + 4) = some (.inl (0, 10)) := by
  rcases h with rfl | rfl <;> exact lo_s hok _ rfl
theorem xs_R_5 {M : ax_M} {b : Nat} (h : xh_R b) (hok : lo_ok M.2) : M.2.2.2.1 (b + 5) = some (.inl (0, 2)) := by
  rcases h with rfl | rfl <;> exact lo_s hok _ rfl
theorem xs_R_6 {M : ax_M} {b : Nat} (h : xh_R b) (hok : lo_ok M.2) : M.2.2.2.1 (b + 6) = some (.inl (0, 2)) := by
  rcases h with rfl | rfl <;> exact lo_s hok _ rfl
theorem xs_R_7 {M : ax_M} {b : Nat} (h : xh_R b) (hok : lo_ok M.2) : M.2.2.2.1 (b + 7) = some (.inl (0, 2)) := by
  rcases h with rfl | rfl <;> exact lo_s hok _ rfl
theorem xr_R_1 {M : ax_M} {b : Nat} (h : xh_R b) (hok : lo_ok M.2) : M.2.1 b 1 = b + 1 := by
  rcases h with rfl | rfl
  · exact lo_r hok 11 rfl
  · exact lo_r hok 24 rfl
theorem xr_R_4 {M : ax_M} {b : Nat} (h : xh_R b) (hok : lo_ok M.2) : M.2.1 b 4 = b + 2 := by
  rcases h with rfl | rfl
  · exact lo_r hok 12 rfl
  · exact lo_r hok 25 rfl
theorem xr_R_6 {M : ax_M} {b : Nat} (h : xh_R b) (hok : lo_ok M.2) : M.2.1 b 6 = b + 3 := by
  rcases h with rfl | rfl
  · exact lo_r hok 13 rfl
  · exact lo_r hok 26 rfl
theorem xr_R_7 {M : ax_M} {b : Nat} (h : xh_R b) (hok : lo_ok M.2) : M.2.1 b 7 = b + 4 := by
  rcases h with rfl | rfl
  · exact lo_r hok 14 rfl
  · exact lo_r hok 27 rfl
theorem xr_R_13 {M : ax_M} {b : Nat} (h : xh_R b) (hok : lo_ok M.2) : M.2.1 b 13 = b + 5 := by
  rcases h with rfl | rfl
  · exact lo_r hok 15 rfl
  · exact lo_r hok 28 rfl
theorem xr_R_14 {M : ax_M} {b : Nat} (h : xh_R b) (hok : lo_ok M.2) : M.2.1 b 14 = b + 6 := by
  rcases h with rfl | rfl
  · exact lo_r hok 16 rfl
  · exact lo_r hok 29 rfl
theorem xr_R_15 {M : ax_M} {b : Nat} (h : xh_R b) (hok : lo_ok M.2) : M.2.1 b 15 = b + 7 := by
  rcases h with rfl | rfl
  · exact lo_r hok 17 rfl
  · exact lo_r hok 30 rfl
def xh_F (b : Nat) : Prop := b = 13 ∨ b = 16 ∨ b = 19 ∨ b = 31
theorem xs_F_0 {M : ax_M} {b : Nat} (h : xh_F b) (hok : lo_ok M.2) : M.2.2.2.1 b = some (.inr 2) := by
  rcases h with rfl | rfl | rfl | rfl <;> exact lo_s hok _ rfl
theorem xs_F_1 {M : ax_M} {b : Nat} (h : xh_F b) (hok : lo_ok M.2) : M.2.2.2.1 (b + 1) = some (.inl (0, 150)) := by
  rcases h with rfl | rfl | rfl | rfl <;> exact lo_s hok _ rfl
theorem xs_F_2 {M : ax_M} {b : Nat} (h : xh_F b) (hok : lo_ok M.2) : M.2.2.2.1 (b + 2) = some (.inl (0, 40)) := by
  rcases h with rfl | rfl | rfl | rfl <;> exact lo_s hok _ rfl
theorem xr_F_0 {M : ax_M} {b : Nat} (h : xh_F b) (hok : lo_ok M.2) : M.2.1 b 0 = b + 1 := by
  rcases h with rfl | rfl | rfl | rfl
  · exact lo_r hok 18 rfl
  · exact lo_r hok 20 rfl
  · exact lo_r hok 22 rfl
  · exact lo_r hok 31 rfl
theorem xr_F_2 {M : ax_M} {b : Nat} (h : xh_F b) (hok : lo_ok M.2) : M.2.1 b 2 = b + 2 := by
  rcases h with rfl | rfl | rfl | rfl
  · exact lo_r hok 19 rfl
  · exact lo_r hok 21 rfl
  · exact lo_r hok 23 rfl
  · exact lo_r hok 32 rfl
def xh_K (b : Nat) : Prop := b = 34 ∨ b = 37
theorem xs_K_0 {M : ax_M} {b : Nat} (h : xh_K b) (hok : lo_ok M.2) : M.2.2.2.1 b = some (.inr 0) := by
  rcases h with rfl | rfl <;> exact lo_s hok _ rfl
theorem xs_K_1 {M : ax_M} {b : Nat} (h : xh_K b) (hok : lo_ok M.2) : M.2.2.2.1 (b + 1) = some (.inl (0, 12)) := by
  rcases h with rfl | rfl <;> exact lo_s hok _ rfl
theorem xs_K_2 {M : ax_M} {b : Nat} (h : xh_K b) (hok : lo_ok M.2) : M.2.2.2.1 (b + 2) = some (.inl (0, 12)) := by
  rcases h with rfl | rfl <;> exact lo_s hok _ rfl
theorem xr_K_0 {M : ax_M} {b : Nat} (h : xh_K b) (hok : lo_ok M.2) : M.2.1 b 0 = b + 1 := by
  rcases h with rfl | rfl
  · exact lo_r hok 33 rfl
  · exact lo_r hok 35 rfl
theorem xr_K_1 {M : ax_M} {b : Nat} (h : xh_K b) (hok : lo_ok M.2) : M.2.1 b 1 = b + 2 := by
  rcases h with rfl | rfl
  · exact lo_r hok 34 rfl
  · exact lo_r hok 36 rfl
def xh_T (b : Nat) : Prop := b = 41 ∨ b = 48 ∨ b = 57 ∨ b = 64
theorem xs_T_0 {M : ax_M} {b : Nat} (h : xh_T b) (hok : lo_ok M.2) : M.2.2.2.1 b = some (.inr 8) := by
  rcases h with rfl | rfl | rfl | rfl <;> exact lo_s hok _ rfl
theorem xs_T_1 {M : ax_M} {b : Nat} (h : xh_T b) (hok : lo_ok M.2) : M.2.2.2.1 (b + 1) = some (.inl (0, 99)) := by
  rcases h with rfl | rfl | rfl | rfl <;> exact lo_s hok _ rfl
theorem xs_T_2 {M : ax_M} {b : Nat} (h : xh_T b) (hok : lo_ok M.2) : M.2.2.2.1 (b + 2) = some (.inl (0, 99)) := by
  rcases h with rfl | rfl | rfl | rfl <;> exact lo_s hok _ rfl
theorem xs_T_3 {M : ax_M} {b : Nat} (h : xh_T b) (hok : lo_ok M.2) : M.2.2.2.1 (b + 3) = some (.inl (0, 99)) := by
  rcases h with rfl | rfl | rfl | rfl <;> exact lo_s hok _ rfl
theorem xs_T_4 {M : ax_M} {b : Nat} (h : xh_T b) (hok : lo_ok M.2) : M.2.2.2.1 (b + 4) = some (.inl (0, 99)) := by
  rcases h with rfl | rfl | rfl | rfl <;> exact lo_s hok _ rfl
theorem xs_T_5 {M : ax_M} {b : Nat} (h : xh_T b) (hok : lo_ok M.2) : M.2.2.2.1 (b + 5) = some (.inl (0, 99)) := by
  rcases h with rfl | rfl | rfl | rfl <;> exact lo_s hok _ rfl
theorem xs_T_6 {M : ax_M} {b : Nat} (h : xh_T b) (hok : lo_ok M.2) : M.2.2.2.1 (b + 6) = some (.inl (0, 99)) := by
  rcases h with rfl | rfl | rfl | rfl <;> exact lo_s hok _ rfl
theorem xr_T_10 {M : ax_M} {b : Nat} (h : xh_T b) (hok : lo_ok M.2) : M.2.1 b 10 = b + 1 := by
  rcases h with rfl | rfl | rfl | rfl
  · exact lo_r hok 40 rfl
  · exact lo_r hok 46 rfl
  · exact lo_r hok 55 rfl
  · exact lo_r hok 61 rfl
theorem xr_T_11 {M : ax_M} {b : Nat} (h : xh_T b) (hok : lo_ok M.2) : M.2.1 b 11 = b + 2 := by
  rcases h with rfl | rfl | rfl | rfl
  · exact lo_r hok 41 rfl
  · exact lo_r hok 47 rfl
  · exact lo_r hok 56 rfl
  · exact lo_r hok 62 rfl
theorem xr_T_12 {M : ax_M} {b : Nat} (h : xh_T b) (hok : lo_ok M.2) : M.2.1 b 12 = b + 3 := by
  rcases h with rfl | rfl | rfl | rfl
  · exact lo_r hok 42 rfl
  · exact lo_r hok 48 rfl
  · exact lo_r hok 57 rfl
  · exact lo_r hok 63 rfl
theorem xr_T_13 {M : ax_M} {b : Nat} (h : xh_T b) (hok : lo_ok M.2) : M.2.1 b 13 = b + 4 := by
  rcases h with rfl | rfl | rfl | rfl
  · exact lo_r hok 43 rfl
  · exact lo_r hok 49 rfl
  · exact lo_r hok 58 rfl
  · exact lo_r hok 64 rfl
theorem xr_T_14 {M : ax_M} {b : Nat} (h : xh_T b) (hok : lo_ok M.2) : M.2.1 b 14 = b + 5 := by
  rcases h with rfl | rfl | rfl | rfl
  · exact lo_r hok 44 rfl
  · exact lo_r hok 50 rfl
  · exact lo_r hok 59 rfl
  · exact lo_r hok 65 rfl
theorem xr_T_15 {M : ax_M} {b : Nat} (h : xh_T b) (hok : lo_ok M.2) : M.2.1 b 15 = b + 6 := by
  rcases h with rfl | rfl | rfl | rfl
  · exact lo_r hok 45 rfl
  · exact lo_r hok 51 rfl
  · exact lo_r hok 60 rfl
  · exact lo_r hok 66 rfl
def xh_U (b : Nat) : Prop := b = 40 ∨ b = 56
theorem xs_U_0 {M : ax_M} {b : Nat} (h : xh_U b) (hok : lo_ok M.2) : M.2.2.2.1 b = some (.inr 4) := by
  rcases h with rfl | rfl <;> exact lo_s hok _ rfl
theorem xs_U_15 {M : ax_M} {b : Nat} (h : xh_U b) (hok : lo_ok M.2) : M.2.2.2.1 (b + 15) = some (.inl (0, 99)) := by
  rcases h with rfl | rfl <;> exact lo_s hok _ rfl
theorem xr_U_0 {M : ax_M} {b : Nat} (h : xh_U b) (hok : lo_ok M.2) : M.2.1 b 0 = b + 1 := by
  rcases h with rfl | rfl
  · exact lo_r hok 37 rfl
  · exact lo_r hok 52 rfl
theorem xr_U_1 {M : ax_M} {b : Nat} (h : xh_U b) (hok : lo_ok M.2) : M.2.1 b 1 = b + 8 := by
  rcases h with rfl | rfl
  · exact lo_r hok 38 rfl
  · exact lo_r hok 53 rfl
theorem xr_U_2 {M : ax_M} {b : Nat} (h : xh_U b) (hok : lo_ok M.2) : M.2.1 b 2 = b + 15 := by
  rcases h with rfl | rfl
  · exact lo_r hok 39 rfl
  · exact lo_r hok 54 rfl
def xh_V (b : Nat) : Prop := b = 72 ∨ b = 75
theorem xs_V_0 {M : ax_M} {b : Nat} (h : xh_V b) (hok : lo_ok M.2) : M.2.2.2.1 b = some (.inr 3) := by
  rcases h with rfl | rfl <;> exact lo_s hok _ rfl
theorem xs_V_1 {M : ax_M} {b : Nat} (h : xh_V b) (hok : lo_ok M.2) : M.2.2.2.1 (b + 1) = some (.inl (0, 441)) := by
  rcases h with rfl | rfl <;> exact lo_s hok _ rfl
theorem xs_V_2 {M : ax_M} {b : Nat} (h : xh_V b) (hok : lo_ok M.2) : M.2.2.2.1 (b + 2) = some (.inl (0, 441)) := by
  rcases h with rfl | rfl <;> exact lo_s hok _ rfl
theorem xr_V_0 {M : ax_M} {b : Nat} (h : xh_V b) (hok : lo_ok M.2) : M.2.1 b 0 = b + 1 := by
  rcases h with rfl | rfl
  · exact lo_r hok 67 rfl
  · exact lo_r hok 69 rfl
theorem xr_V_1 {M : ax_M} {b : Nat} (h : xh_V b) (hok : lo_ok M.2) : M.2.1 b 1 = b + 2 := by
  rcases h with rfl | rfl
  · exact lo_r hok 68 rfl
  · exact lo_r hok 70 rfl
theorem xh_UT0 {u : Nat} (h : xh_U u) : xh_T (u + 1) := by unfold xh_U at h; unfold xh_T; omega
theorem xh_UT1 {u : Nat} (h : xh_U u) : xh_T (u + 8) := by unfold xh_U at h; unfold xh_T; omega
theorem xh_UT {u c : Nat} (h : xh_U u) (hc : c < 2) : xh_T (u + 1 + 7 * c) := by unfold xh_U at h; unfold xh_T; omega
def xp (p : Nat → Nat) : Prop := (p 0 = 5 ∧ p 1 = 23 ∨ p 0 = 23 ∧ p 1 = 5) ∧ (p 6 = 34 ∧ p 7 = 37 ∨ p 6 = 37 ∧ p 7 = 34) ∧ (xh_F (p 2) ∧ xh_F (p 3) ∧ xh_F (p 4) ∧ xh_F (p 5)) ∧ p 2 ≠ p 3 ∧ p 2 ≠ p 4 ∧ p 2 ≠ p 5 ∧ p 3 ≠ p 4 ∧ p 3 ≠ p 5 ∧ p 4 ≠ p 5
def xk (N : ax_N) (p : Nat → Nat) : Prop := lo_ok N ∧ xp p ∧ N.1 4 0 = p 0 ∧ N.1 1 2 = p 1 ∧ N.1 4 1 = p 2 ∧ N.1 4 2 = p 3 ∧ N.1 4 3 = p 4 ∧ N.1 1 3 = p 5 ∧ N.1 1 4 = p 6 ∧ N.1 1 5 = p 7
section XK
variable {M : ax_M} {p : Nat → Nat}
theorem xk_r0 (h : xk M.2 p) : M.2.1 4 0 = p 0 := h.2.2.1
theorem xk_r1 (h : xk M.2 p) : M.2.1 1 2 = p 1 := h.2.2.2.1
theorem xk_r2 (h : xk M.2 p) : M.2.1 4 1 = p 2 := h.2.2.2.2.1
theorem xk_r3 (h : xk M.2 p) : M.2.1 4 2 = p 3 := h.2.2.2.2.2.1
theorem xk_r4 (h : xk M.2 p) : M.2.1 4 3 = p 4 := h.2.2.2.2.2.2.1
theorem xk_r5 (h : xk M.2 p) : M.2.1 1 3 = p 5 := h.2.2.2.2.2.2.2.1
theorem xk_r6 (h : xk M.2 p) : M.2.1 1 4 = p 6 := h.2.2.2.2.2.2.2.2.1
theorem xk_r7 (h : xk M.2 p) : M.2.1 1 5 = p 7 := h.2.2.2.2.2.2.2.2.2
theorem xk_b0 {N : ax_N} (h : xk N p) : xh_R (p 0) := by have := h.2.1.1; unfold xh_R; omega
theorem xk_b1 {N : ax_N} (h : xk N p) : xh_R (p 1) := by have := h.2.1.1; unfold xh_R; omega
theorem xk_b2 {N : ax_N} (h : xk N p) : xh_F (p 2) := h.2.1.2.2.1.1
theorem xk_b3 {N : ax_N} (h : xk N p) : xh_F (p 3) := h.2.1.2.2.1.2.1
theorem xk_b4 {N : ax_N} (h : xk N p) : xh_F (p 4) := h.2.1.2.2.1.2.2.1
theorem xk_b5 {N : ax_N} (h : xk N p) : xh_F (p 5) := h.2.1.2.2.1.2.2.2
theorem xk_b6 {N : ax_N} (h : xk N p) : xh_K (p 6) := by have := h.2.1.2.1; unfold xh_K; omega
theorem xk_b7 {N : ax_N} (h : xk N p) : xh_K (p 7) := by have := h.2.1.2.1; unfold xh_K; omega
end XK

