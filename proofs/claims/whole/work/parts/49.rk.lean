/-! ===== the reader's place and FAULT as a state: the reference ===== -/
abbrev rk : Type := Nat × Option (Nat × Nat)
def rk_num (B : Nat → Int32) (z : Nat) (lo hi : Int32) (s : rk) : rk × Nat := match s.2 with
  | some _ => (s, 0)
  | none => if (tx_num B z lo hi s.1).2.1 = 0 then (((tx_num B z lo hi s.1).1, none), (tx_num B z lo hi s.1).2.2.2) else (((tx_num B z lo hi s.1).1, some ((tx_num B z lo hi s.1).2.1, (tx_num B z lo hi s.1).2.2.1)), 0)
def rk_sign (B : Nat → Int32) (z : Nat) (c : Int32) (s : rk) : rk := match s.2 with
  | some _ => s
  | none => if B (tx_sk B z s.1) = c then (tx_sk B z s.1 + 1, none) else (tx_sk B z s.1, some (1, tx_sk B z s.1))
def rk_bl (B : Nat → Int32) (z : Nat) (s : rk) : rk := (tx_sk B z s.1, s.2)
def rk_wr (f p : Nat) (s : rk) : rk := match s.2 with
  | some _ => s
  | none => (s.1, some (f, p))
def rk_ok (z : Nat) (s : rk) : Prop := s.1 ≤ z ∧ ∀ e, s.2 = some e → 1 ≤ e.1 ∧ e.1 ≤ 4 ∧ e.2 ≤ z
def rg (N : ax_M) (z : Nat) (B : Nat → Int32) (s : rk) : Prop := lo_ok N.2 ∧ tx_ok N z ∧ tx_B N = B ∧ rk_ok z s ∧ N.1 90 4 = nI s.1 ∧ match s.2 with
  | none => N.1 90 5 = 0
  | some e => N.1 90 5 = nI e.1 ∧ N.1 90 6 = nI e.2
def gf (N N2 : ax_M) : Prop := N2.2 = N.2 ∧ ∀ n i, ¬ (n = 90 ∧ (i = 4 ∨ i = 5 ∨ i = 6)) → N2.1 n i = N.1 n i
theorem gf_tr {M M1 M2 : ax_M} (h1 : gf M M1) (h2 : gf M1 M2) : gf M M2 := ⟨h2.1.trans h1.1, fun n i q => (h2.2 n i q).trans (h1.2 n i q)⟩
theorem gf_0 (M : ax_M) : gf M M := ⟨rfl, fun _ _ _ => rfl⟩
theorem rg_0 {N : ax_M} {z : Nat} {B : Nat → Int32} {s : rk} (h : rg N z B s) : N.1 90 5 = 0 ↔ s.2 = none := by
  obtain ⟨_, _, _, h4, _, h6⟩ := h
  cases e : s.2 with
  | none => rw [e] at h6; exact ⟨fun _ => rfl, fun _ => h6⟩
  | some w =>
    rw [e] at h6
    have := h4.2 w e
    constructor
    · intro q; rw [h6.1] at q; exact absurd q (nI_ne0 (by omega) (by omega))
    · intro q; cases q
theorem rg_B {N N2 : ax_M} {z : Nat} {B : Nat → Int32} {s s2 : rk} (h : rg N z B s) (hf : gf N N2) (ho : rk_ok z s2) (h4 : N2.1 90 4 = nI s2.1) (h5 : match s2.2 with
    | none => N2.1 90 5 = 0
    | some e => N2.1 90 5 = nI e.1 ∧ N2.1 90 6 = nI e.2) : rg N2 z B s2 := by
  refine ⟨by rw [hf.1]; exact h.1, ⟨(hf.2 90 2 (by omega)).trans h.2.1.1, h.2.1.2⟩, ?_, ho, h4, h5⟩
  rw [← h.2.2.1]
  funext i
  unfold tx_B
  rw [hf.2 90 2 (by omega), hf.2 91 i (by omega)]
theorem rg_fr {N N2 : ax_M} {z : Nat} {B : Nat → Int32} {s : rk} (h : rg N z B s) (h2 : N2.2 = N.2) (hf : ∀ i, (2 ≤ i ∧ i ≤ 6) → N2.1 90 i = N.1 90 i) (h91 : ∀ i, N2.1 91 i = N.1 91 i) : rg N2 z B s := by
  refine ⟨by rw [h2]; exact h.1, ⟨(hf 2 (by omega)).trans h.2.1.1, h.2.1.2⟩, ?_, h.2.2.2.1, (hf 4 (by omega)).trans h.2.2.2.2.1, ?_⟩
  · rw [← h.2.2.1]
    funext i
    unfold tx_B
    rw [hf 2 (by omega), h91 i]
  · have h6 := h.2.2.2.2.2
    cases e : s.2 with
    | none => rw [e] at h6; exact (hf 5 (by omega)).trans h6
    | some w => rw [e] at h6; exact ⟨(hf 5 (by omega)).trans h6.1, (hf 6 (by omega)).trans h6.2⟩
theorem rg_st {N : ax_M} {z a : Nat} {B : Nat → Int32} (h : rg N z B (a, none)) : tx_st N z a := ⟨h.1, h.2.1, h.2.2.2.2.1, Nat.le_trans h.2.2.2.1.1 h.2.1.2, h.2.2.2.2.2⟩
theorem tx_num_f (B : Nat → Int32) (z : Nat) (lo hi : Int32) (a : Nat) : (tx_num B z lo hi a).2.1 = 0 ∨ ((tx_num B z lo hi a).2.2.2 = 0 ∧ 1 ≤ (tx_num B z lo hi a).2.1) := by
  unfold tx_num
  simp only []
  split
  · split
    · exact Or.inl rfl
    · exact Or.inr ⟨rfl, by show 1 ≤ 2; decide⟩
  · exact Or.inr ⟨rfl, Nat.le_refl _⟩
theorem rk_num_ok {B : Nat → Int32} {z : Nat} {lo hi : Int32} {s : rk} (hB : ps_B B z) (hz : z ≤ 600) (h : rk_ok z s) : rk_ok z (rk_num B z lo hi s).1 := by
  unfold rk_num
  cases e : s.2 with
  | some w => exact h
  | none =>
    have hq := ps_ok_num (lo := lo) (hi := hi) hB hz h.1
    have hf := tx_num_f B z lo hi s.1
    simp only []
    split
    · rename_i c
      exact ⟨(hq.1 c).2, fun e z => by cases z⟩
    · rename_i c
      refine ⟨hq.2.2.2, fun e z => ?_⟩
      cases z
      exact ⟨by show 1 ≤ (tx_num B _ lo hi s.1).2.1; omega, by show (tx_num B _ lo hi s.1).2.1 ≤ 4; omega, hq.2.2.1⟩
theorem rk_sign_ok {B : Nat → Int32} {z : Nat} {c : Int32} {s : rk} (hB : ps_B B z) (hz : z ≤ 600) (hc : c ≠ -1) (h : rk_ok z s) : rk_ok z (rk_sign B z c s) := by
  unfold rk_sign
  cases e : s.2 with
  | some w => exact h
  | none =>
    have hk := tx_sk_z (B := B) h.1
    simp only []
    split
    · rename_i q
      have := ps_in_z (i := tx_sk B z s.1) hB (by omega) (by rw [q]; exact hc)
      exact ⟨by show _ + 1 ≤ _; omega, fun e z => by cases z⟩
    · refine ⟨hk, fun e z => ?_⟩
      cases z
      exact ⟨Nat.le_refl _, by show 1 ≤ 4; decide, hk⟩
theorem rk_bl_ok {B : Nat → Int32} {z : Nat} {s : rk} (h : rk_ok z s) : rk_ok z (rk_bl B z s) := ⟨tx_sk_z h.1, h.2⟩
theorem rk_wr_ok {z f p : Nat} {s : rk} (h : rk_ok z s) (hf : 1 ≤ f ∧ f ≤ 4) (hp : p ≤ z) : rk_ok z (rk_wr f p s) := by
  unfold rk_wr
  cases e : s.2 with
  | some w => exact h
  | none => exact ⟨h.1, fun e z => by cases z; exact ⟨hf.1, hf.2, hp⟩⟩
section RK
variable {l : Launch} {G : ax_G} {M : ax_M} {z : Nat} {B : Nat → Int32}
theorem c_gnum (hB : ps_B B z) {s : rk} (h : rg M z B s) (lo hi : Int32) : ax_Met l G kX10_number 2 0 0 M [av_r 90, av_i lo, av_i hi] (fun o M2 => o = .inl (some (av_i (nI (rk_num B z lo hi s).2))) ∧ gf M M2 ∧ rg M2 z B (rk_num B z lo hi s).1) := by
  have hz := h.2.1.2
  have hro := rk_num_ok (lo := lo) (hi := hi) hB hz h.2.2.2.1
  obtain ⟨a, x⟩ := s
  cases x with
  | some e =>
    have hne : ¬ M.1 90 5 = 0 := fun q => by cases (rg_0 h).mp q
    refine ax_mono (c_X10_numberF h.1 hne lo hi) ?_
    rintro o M2 ⟨h1, h2⟩
    subst h2
    exact ⟨h1, gf_0 _, h⟩
  | none =>
    have hst := rg_st h
    refine ax_mono (c_X10_number hst.1 hst.2.1 hst.2.2.1 hst.2.2.2.1 hst.2.2.2.2 lo hi) ?_
    rintro o M2 ⟨h1, h2⟩
    rw [h.2.2.1] at h1 h2
    have hf := tx_num_f B z lo hi a
    unfold rk_num at hro ⊢
    simp only [] at hro ⊢
    by_cases c : (tx_num B z lo hi a).2.1 = 0
    · rw [if_pos c] at hro ⊢
      unfold tx_put at h2
      rw [if_pos c] at h2
      refine ⟨h1, ⟨by rw [h2]; rfl, fun n i q => by rw [h2, ax_pn (by omega)]⟩, rg_B h ⟨by rw [h2]; rfl, fun n i q => by rw [h2, ax_pn (by omega)]⟩ hro (by rw [h2, ax_pa]) ?_⟩
      show M2.1 90 5 = 0
      rw [h2, ax_pn (by omega)]; exact hst.2.2.2.2
    · rw [if_neg c] at hro ⊢
      unfold tx_put at h2
      rw [if_neg c] at h2
      have hv : (tx_num B z lo hi a).2.2.2 = 0 := by rcases hf with q | q; exact absurd q c; exact q.1
      rw [hv] at h1
      refine ⟨h1, ⟨by rw [h2]; rfl, fun n i q => by rw [h2, ax_pn (by omega), ax_pn (by omega), ax_pn (by omega)]⟩, rg_B h ⟨by rw [h2]; rfl, fun n i q => by rw [h2, ax_pn (by omega), ax_pn (by omega), ax_pn (by omega)]⟩ hro (by rw [h2, ax_pn (by omega), ax_pn (by omega), ax_pa]) ?_⟩
      exact ⟨by rw [h2, ax_pn (by omega), ax_pa], by rw [h2, ax_pa]⟩
theorem c_gsign (hB : ps_B B z) {s : rk} (h : rg M z B s) (c : Int32) (hc : c ≠ -1) : ax_Met l G kX10_sign 2 0 0 M [av_r 90, av_i c] (fun o M2 => o = .inl none ∧ gf M M2 ∧ rg M2 z B (rk_sign B z c s)) := by
  have hz := h.2.1.2
  have hro := rk_sign_ok hB hz hc h.2.2.2.1
  obtain ⟨a, x⟩ := s
  cases x with
  | some e =>
    have hne : ¬ M.1 90 5 = 0 := fun q => by cases (rg_0 h).mp q
    refine ax_mono (c_X10_signF h.1 hne c) ?_
    rintro o M2 ⟨h1, h2⟩
    subst h2
    exact ⟨h1, gf_0 _, h⟩
  | none =>
    have hst := rg_st h
    refine ax_mono (c_X10_sign hst c hc) ?_
    rintro o M2 ⟨h1, h2⟩
    rw [h.2.2.1] at h2
    unfold rk_sign at hro ⊢
    simp only [] at hro ⊢
    unfold tx_sg tx_put at h2
    by_cases q : B (tx_sk B z a) = c
    · rw [if_pos q] at hro ⊢
      simp only [if_pos q, if_true] at h2
      refine ⟨h1, ⟨by rw [h2]; rfl, fun n i q => by rw [h2, ax_pn (by omega)]⟩, rg_B h ⟨by rw [h2]; rfl, fun n i q => by rw [h2, ax_pn (by omega)]⟩ hro (by rw [h2, ax_pa]) ?_⟩
      show M2.1 90 5 = 0
      rw [h2, ax_pn (by omega)]; exact hst.2.2.2.2
    · rw [if_neg q] at hro ⊢
      simp only [if_neg q, if_neg (show ¬ 1 = 0 by decide)] at h2
      refine ⟨h1, ⟨by rw [h2]; rfl, fun n i q => by rw [h2, ax_pn (by omega), ax_pn (by omega), ax_pn (by omega)]⟩, rg_B h ⟨by rw [h2]; rfl, fun n i q => by rw [h2, ax_pn (by omega), ax_pn (by omega), ax_pn (by omega)]⟩ hro (by rw [h2, ax_pn (by omega), ax_pn (by omega), ax_pa]) ?_⟩
      exact ⟨by rw [h2, ax_pn (by omega), ax_pa], by rw [h2, ax_pa]⟩
theorem c_gblanks {s : rk} (h : rg M z B s) : ax_Met l G kX10_blanks 1 0 0 M [av_r 90] (fun o M2 => o = .inl none ∧ gf M M2 ∧ rg M2 z B (rk_bl B z s)) := by
  have hz := h.2.1.2
  have hro := rk_bl_ok (B := B) h.2.2.2.1
  refine ax_mono (c_X10_blanks h.1 h.2.1 h.2.2.2.2.1 (by have := h.2.2.2.1.1; omega)) ?_
  rintro o M2 ⟨h1, h2⟩
  rw [h.2.2.1] at h2
  have hg : gf M M2 := ⟨by rw [h2]; rfl, fun n i q => by rw [h2, ax_pn (by omega)]⟩
  refine ⟨h1, hg, rg_B h hg hro (by rw [h2, ax_pa]; rfl) ?_⟩
  have h6 := h.2.2.2.2.2
  show match s.2 with
    | none => M2.1 90 5 = 0
    | some e => M2.1 90 5 = nI e.1 ∧ M2.1 90 6 = nI e.2
  cases e : s.2 with
  | none => rw [e] at h6; simp only [] at h6 ⊢; rw [h2, ax_pn (by omega)]; exact h6
  | some w => rw [e] at h6; simp only [] at h6 ⊢; rw [h2, ax_pn (by omega), ax_pn (by omega)]; exact h6
theorem c_gwrong {d : Nat} {s : rk} (h : rg M z B s) {f p : Nat} (hf : 1 ≤ f ∧ f ≤ 4) (hp : p ≤ z) {x y : Int32} (hx : x = nI f) (hy : y = nI p) : ax_Met l G kX10_wrong d 0 0 M [av_r 90, av_i x, av_i y] (fun o M2 => o = .inl none ∧ gf M M2 ∧ rg M2 z B (rk_wr f p s)) := by
  subst hx hy
  have hro := rk_wr_ok h.2.2.2.1 hf hp
  refine ax_mono (c_X10_wrong h.1 _ _) ?_
  rintro o M2 ⟨h1, h2⟩
  obtain ⟨a, x⟩ := s
  cases x with
  | some e =>
    have hne : ¬ M.1 90 5 = 0 := fun q => by cases (rg_0 h).mp q
    rw [if_neg hne] at h2
    subst h2
    exact ⟨h1, gf_0 _, h⟩
  | none =>
    have hst := rg_st h
    rw [if_pos hst.2.2.2.2] at h2
    have hg : gf M M2 := ⟨by rw [h2]; rfl, fun n i q => by rw [h2, ax_pn (by omega), ax_pn (by omega)]⟩
    refine ⟨h1, hg, rg_B h hg hro (by rw [h2, ax_pn (by omega), ax_pn (by omega)]; exact hst.2.2.1) ?_⟩
    exact ⟨by rw [h2, ax_pn (by omega), ax_pa], by rw [h2, ax_pa]⟩
end RK

