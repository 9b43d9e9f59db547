/-! ===== the book is read: the reference ===== -/
def bk_dup (es : List (Nat × Nat)) (t : Nat) : Bool := es.any (fun e => e.1 == t)
def bk_ln (B : Nat → Int32) (z : Nat) (es : List (Nat × Nat)) (s : rk) : rk × Nat × Nat :=
  (rk_sign B z 59 (rk_num B z 0 1 (if es.length = 12 then rk_wr 3 s.1 (if bk_dup es (rk_num B z 0 99 s).2 = true then rk_wr 2 s.1 (rk_num B z 0 99 s).1 else (rk_num B z 0 99 s).1) else (if bk_dup es (rk_num B z 0 99 s).2 = true then rk_wr 2 s.1 (rk_num B z 0 99 s).1 else (rk_num B z 0 99 s).1))).1, (rk_num B z 0 99 s).2, (rk_num B z 0 1 (if es.length = 12 then rk_wr 3 s.1 (if bk_dup es (rk_num B z 0 99 s).2 = true then rk_wr 2 s.1 (rk_num B z 0 99 s).1 else (rk_num B z 0 99 s).1) else (if bk_dup es (rk_num B z 0 99 s).2 = true then rk_wr 2 s.1 (rk_num B z 0 99 s).1 else (rk_num B z 0 99 s).1))).2)
def bk_run (B : Nat → Int32) (z : Nat) : Nat → rk → List (Nat × Nat) → rk × List (Nat × Nat)
  | 0, s, es => (s, es)
  | n + 1, s, es => if s.2 = none ∧ s.1 < z then bk_run B z n (rk_bl B z (bk_ln B z es s).1) (if (bk_ln B z es s).1.2 = none then es ++ [((bk_ln B z es s).2.1, (bk_ln B z es s).2.2)] else es) else (s, es)
def bk_text (B : Nat → Int32) (z : Nat) : rk × List (Nat × Nat) := bk_run B z 601 (tx_sk B z 0, none) []
def bk_out (M M2 : ax_M) (o : ax_O) (x : rk × List (Nat × Nat)) : Prop := M2.2 = M.2 ∧ M2.1 90 1 = 0 ∧ (∀ n i, ¬ (n = 90 ∧ (1 ≤ i ∧ i ≤ 8 ∨ i = 32)) → ¬ (120 ≤ n ∧ n ≤ 144) → M2.1 n i = M.1 n i) ∧ match x.1.2 with
  | some e => o = .inl (some (av_i (nI e.1 - 10))) ∧ M2.1 90 3 = nI e.2 ∧ M2.1 90 32 = M.1 90 32 ∧ ∀ n i, 120 ≤ n → n ≤ 131 → M2.1 n i = M.1 n i
  | none => o = .inl (some (av_i (nI x.2.length))) ∧ M2.1 90 3 = -1 ∧ x.2.length ≤ 12 ∧ M2.1 90 32 = nI x.2.length ∧ ∀ k q, x.2[k]? = some q → M2.1 (120 + k) 0 = nI q.1 ∧ M2.1 (120 + k) 1 = nI q.2
theorem bk_out_x {M M2 : ax_M} {E : String} {x : rk × List (Nat × Nat)} : ¬ bk_out M M2 (.inr E) x := by
  rintro ⟨_, _, _, h⟩
  cases e : x.1.2 with
  | none => rw [e] at h; cases h.1
  | some w => rw [e] at h; cases h.1
theorem rk_num_n {B : Nat → Int32} {z : Nat} {lo hi : Int32} {s : rk} (h : (rk_num B z lo hi s).1.2 = none) : s.2 = none ∧ (tx_num B z lo hi s.1).2.1 = 0 ∧ (rk_num B z lo hi s) = (((tx_num B z lo hi s.1).1, none), (tx_num B z lo hi s.1).2.2.2) := by
  unfold rk_num at h ⊢
  cases e : s.2 with
  | some w => rw [e] at h; simp only [] at h; rw [e] at h; cases h
  | none =>
    rw [e] at h
    simp only [] at h ⊢
    by_cases c : (tx_num B z lo hi s.1).2.1 = 0
    · rw [if_pos c]; exact ⟨trivial, c, rfl⟩
    · rw [if_neg c] at h; cases h
theorem rk_num_mv {B : Nat → Int32} {z : Nat} {lo hi : Int32} {s : rk} (hB : ps_B B z) (hz : z ≤ 600) (h : rk_ok z s) (hn : (rk_num B z lo hi s).1.2 = none) : s.1 < (rk_num B z lo hi s).1.1 := by
  obtain ⟨_, h2, h3⟩ := rk_num_n hn
  rw [h3]
  exact ((ps_ok_num (lo := lo) (hi := hi) hB hz h.1).1 h2).1
theorem rk_sign_n {B : Nat → Int32} {z : Nat} {c : Int32} {s : rk} (h : (rk_sign B z c s).2 = none) : s.2 = none ∧ B (tx_sk B z s.1) = c ∧ rk_sign B z c s = (tx_sk B z s.1 + 1, none) := by
  unfold rk_sign at h ⊢
  cases e : s.2 with
  | some w => rw [e] at h; simp only [] at h; rw [e] at h; cases h
  | none =>
    rw [e] at h
    simp only [] at h ⊢
    by_cases q : B (tx_sk B z s.1) = c
    · rw [if_pos q]; exact ⟨trivial, q, rfl⟩
    · rw [if_neg q] at h; cases h
theorem rk_wr_n {f p : Nat} {s : rk} : ¬ (rk_wr f p s).2 = none := by
  unfold rk_wr
  cases e : s.2 with
  | some w => simp only []; rw [e]; intro z; cases z
  | none => intro z; cases z
theorem tx_num_v {B : Nat → Int32} {z : Nat} {lo hi : Int32} {a : Nat} (h : (tx_num B z lo hi a).2.1 = 0) : lo ≤ nI (tx_num B z lo hi a).2.2.2 ∧ nI (tx_num B z lo hi a).2.2.2 ≤ hi ∧ (tx_num B z lo hi a).2.2.2 ≤ 100000 := by
  unfold tx_num at h ⊢
  simp only [] at h ⊢
  split at h
  · rename_i c
    split at h
    · rename_i c2
      rw [if_pos c, if_pos c2]
      exact ⟨c2.1, c2.2, tx_nv_le _ _ _ _ (by omega)⟩
    · cases h
  · cases h
theorem rk_num_le {B : Nat → Int32} {z : Nat} {lo hi : Int32} {s : rk} {m : Nat} (hh : hi = nI m) (hm : m < 2 ^ 31) : (rk_num B z lo hi s).2 ≤ m := by
  unfold rk_num
  cases e : s.2 with
  | some w => exact Nat.zero_le _
  | none =>
    simp only []
    split
    · rename_i c
      have := tx_num_v c
      subst hh
      show (tx_num B z lo (nI m) s.1).2.2.2 ≤ m
      exact (nI_leI (by omega) hm).mp this.2.1
    · exact Nat.zero_le _
/-- with no FAULT behind a line -/
theorem bk_ln_n {B : Nat → Int32} {z : Nat} {es : List (Nat × Nat)} {s : rk} (hB : ps_B B z) (hz : z ≤ 600) (ho : rk_ok z s) (h : (bk_ln B z es s).1.2 = none) : ¬ es.length = 12 ∧ s.1 < (bk_ln B z es s).1.1 := by
  unfold bk_ln at h ⊢
  simp only [] at h ⊢
  obtain ⟨h1, h2, h3⟩ := rk_sign_n h
  rw [h3]
  by_cases c : es.length = 12
  · rw [if_pos c] at h1
    exact absurd (rk_num_n h1).1 rk_wr_n
  · rw [if_neg c] at h1 h3 ⊢
    refine ⟨c, ?_⟩
    have h4 := rk_num_n h1
    by_cases d : bk_dup es (rk_num B z 0 99 s).2 = true
    · rw [if_pos d] at h4; exact absurd h4.1 rk_wr_n
    · rw [if_neg d] at h1 h4 ⊢
      have o1 := rk_num_ok (lo := 0) (hi := 99) hB hz ho
      have m1 := rk_num_mv hB hz ho h4.1
      have m2 := rk_num_mv hB hz o1 h1
      have m3 : (rk_num B z 0 1 (rk_num B z 0 99 s).1).1.1 ≤ tx_sk B z (rk_num B z 0 1 (rk_num B z 0 99 s).1).1.1 := tx_sk_ge
      show s.1 < _ + 1
      omega
theorem bk_stop {B : Nat → Int32} {z : Nat} {s : rk} {es : List (Nat × Nat)} (h : ¬ (s.2 = none ∧ s.1 < z)) : ∀ n, bk_run B z n s es = (s, es)
  | 0 => rfl
  | n + 1 => if_neg h
section RB
variable {l : Launch} {G : ax_G} {M : ax_M}
set_option maxHeartbeats 2000000 in
theorem c_book0 {M : ax_M} (hok : lo_ok M.2) {z : Nat} (hz : z ≤ 150) {F : ax_O → ax_M → Prop} (hF : ∀ o M2, bk_out M M2 o (bk_text (tx_tb M z) z) → F o M2) : ax_W l G kX10_book (ax_FQ G F) 5 0 0 M 40 [some (av_r 90), some (av_i (nI z)), none, none, none, none] [] := by
  have hB := tx_tb_ok (M := M) (z := z) (by omega)
  obtain ⟨B, eB⟩ : ∃ B, B = tx_tb M z := ⟨_, rfl⟩
  rw [← eB] at hB hF
  have J : ∃ J : ax_M → List (Nat × Nat) → Prop, ∀ N es, J N es ↔ (N.2 = M.2 ∧ N.1 90 1 = 0 ∧ (∀ n i, ¬ (n = 90 ∧ 1 ≤ i ∧ i ≤ 8) → ¬ (133 ≤ n ∧ n ≤ 144) → N.1 n i = M.1 n i) ∧ es.length ≤ 12 ∧ ∀ k q, es[k]? = some q → q.1 ≤ 99 ∧ N.1 (133 + k) 0 = nI q.1 ∧ N.1 (133 + k) 1 = nI q.2) := ⟨_, fun _ _ => Iff.rfl⟩
  obtain ⟨J, hJ⟩ := J
  have Jg : ∀ {N N2 : ax_M} {es : List (Nat × Nat)}, J N es → gf N N2 → J N2 es := by
    intro N N2 es h hg
    obtain ⟨a1, a2, a3, a4, a5⟩ := (hJ N es).mp h
    exact (hJ N2 es).mpr ⟨hg.1.trans a1, (hg.2 90 1 (by omega)).trans a2, fun n i q1 q2 => (hg.2 n i (by omega)).trans (a3 n i q1 q2), a4, fun k q hq => by have := a5 k q hq; have hk := (List.getElem?_eq_some_iff.mp hq).1; rw [hg.2 (133 + k) 0 (by omega), hg.2 (133 + k) 1 (by omega)]; exact this⟩
  -- at the end
  have tail : ∀ (N : ax_M) (s : rk) (es : List (Nat × Nat)) (y3 y4 y5 : Option ax_V), J N es → rg N z B s → ¬ (s.2 = none ∧ s.1 < z) → bk_text B z = (s, es) → ax_W l G kX10_book (ax_FQ G F) 5 0 0 N 191 [some (av_r 90), some (av_i (nI z)), some (av_i (nI es.length)), y3, y4, y5] [] := by
    intro N s es y3 y4 y5 hj hg hst hR
    obtain ⟨a1, a2, a3, a4, a5⟩ := (hJ N es).mp hj
    have hok := hg.1
    have h0 := rg_0 hg
    rw [hR] at hF
    refine ax_aload_n dX10_book_191 rfl ?_
    refine ax_getI (f := 5) dX10_book_192 acl_10 wd_1605 (by decide) rfl (lo_s hok 90 rfl) ?_
    refine ax_if_eq (tgt := 203) dX10_book_195 (by decide) (fun hc => ?_) (fun hc => ?_)
    · have hn := h0.mp hc
      refine ax_aload_n dX10_book_203 rfl ?_
      refine ax_iconst (v := (-1)) dX10_book_204 (by decide) ?_
      refine ax_putI (f := 3) dX10_book_205 acl_10 wd_1603 (by decide) rfl rfl (ax_nfI rfl) (lo_s hok 90 rfl) ?_
      refine ax_aload_n dX10_book_208 rfl ?_
      refine ax_iload_n dX10_book_209 rfl ?_
      refine ax_putI (f := 32) dX10_book_210 acl_10 wd_1632 (by decide) rfl rfl (ax_nfI rfl) (lo_s hok 90 rfl) ?_
      refine ax_gen (fun N2 hN2 => ?_)
      have hok : lo_ok N2.2 := by rw [hN2]; exact hok
      have b3 : ∀ n i, ¬ (n = 90 ∧ (1 ≤ i ∧ i ≤ 8 ∨ i = 32)) → ¬ (133 ≤ n ∧ n ≤ 144) → N2.1 n i = M.1 n i := fun n i q1 q2 => by rw [hN2, ax_pn (by omega), ax_pn (by omega)]; exact a3 n i (by omega) q2
      have b5 : ∀ k q, es[k]? = some q → N2.1 (133 + k) 0 = nI q.1 ∧ N2.1 (133 + k) 1 = nI q.2 := fun k q hq => by rw [hN2, ax_pn (by omega), ax_pn (by omega), ax_pn (by omega), ax_pn (by omega)]; exact (a5 k q hq).2
      refine ax_iconst (v := 0) dX10_book_213 (by decide) ?_
      refine ax_istore_n dX10_book_214 (by decide) rfl ?_
      refine ax_for es.length (fun k N3 L => L = [some (av_r 90), some (av_i (nI z)), some (av_i (nI es.length)), some (av_i (nI k)), y4, y5] ∧ N3.2 = N2.2 ∧ (∀ n i, ¬ (120 ≤ n ∧ n ≤ 131) → N3.1 n i = N2.1 n i) ∧ ∀ j q, j < k → es[j]? = some q → N3.1 (120 + j) 0 = nI q.1 ∧ N3.1 (120 + j) 1 = nI q.2) 215 ?_ ?_ (i := 0) (by omega) ⟨rfl, rfl, fun _ _ _ => rfl, fun j q z => by omega⟩
      · rintro k N3 L hk ⟨rfl, e1, e2, e3⟩ next
        have hok : lo_ok N3.2 := by rw [e1]; exact hok
        refine ax_iload_n dX10_book_215 rfl ?_
        refine ax_iload_n dX10_book_216 rfl ?_
        refine ax_icmp_ge (tgt := 242) dX10_book_217 (by decide) (fun hc => absurd ((nI_leI (by omega) (by omega)).mp hc) (by omega)) (fun hc => ?_)
        refine ax_aload_n dX10_book_220 rfl ?_
        refine ax_getK (f := 29) 132 dX10_book_221 acl_10 wd_1629 (by decide) rfl (lo_s hok 90 rfl) (lo_r hok 98 rfl) ?_
        refine ax_iload_n dX10_book_224 rfl ?_
        refine ax_aaldN2 (133 + (k)) (k) dX10_book_225 (lo_s hok 132 rfl) (by decide) (by first | with_reducible rfl | assumption | exact ax_nix (by simp only [nx_0, nx_1, nx_2, nx_3, nx_4, nx_10, nx_20, nx_21, nx_100, nI_add, pk_mul] <;> rfl) (by omega) | decide) (by omega) (lo_w_m_readBook hok (by omega)) ?_
        refine ax_aload_n dX10_book_226 rfl ?_
        refine ax_getK (f := 28) 119 dX10_book_227 acl_10 wd_1628 (by decide) rfl (lo_s hok 90 rfl) (lo_r hok 97 rfl) ?_
        refine ax_iload_n dX10_book_230 rfl ?_
        refine ax_aaldN2 (120 + (k)) (k) dX10_book_231 (lo_s hok 119 rfl) (by decide) (by first | with_reducible rfl | assumption | exact ax_nix (by simp only [nx_0, nx_1, nx_2, nx_3, nx_4, nx_10, nx_20, nx_21, nx_100, nI_add, pk_mul] <;> rfl) (by omega) | decide) (by omega) (lo_w_m_book hok (by omega)) ?_
        refine ax_iconst (v := 2) dX10_book_232 (by decide) ?_
        refine ax_callS (As := _) (c1 := 0) (n1 := 0) (c_X10_copies (d := 0) (M := N3) (lf := 2) (lt := 2) (n := 2) (lo_z_m_readBook hok (by omega)) (lo_z_m_book hok (by omega)) (by omega) (by omega) (by omega) (by omega) (by omega) rfl) dX10_book_233 mX10_copies wd_1597 rfl (by omega) (by omega) (by omega) rfl rfl (fun _ _ h => by cases h.1) ?_
        rintro r1 N4 ⟨h1, hN4⟩; cases h1
        refine ax_iinc (v := 1) dX10_book_236 rfl (by decide) (by decide) rfl ?_
        refine ax_goto (tgt := 215) dX10_book_239 (by decide) ?_
        refine next _ _ ⟨by rw [nI_1]; rfl, by rw [hN4]; exact e1, fun n i q => by rw [hN4, ax_cp_n (by omega)]; exact e2 n i q, fun j q hj hq => ?_⟩
        rw [hN4]
        by_cases zz : j = k
        · subst zz
          rw [ax_cp_y (by omega), ax_cp_y (by omega), e2 _ _ (by omega), e2 _ _ (by omega)]
          exact b5 j q hq
        · rw [ax_cp_n (by omega), ax_cp_n (by omega)]; exact e3 j q (by omega) hq
      · rintro N3 L ⟨rfl, e1, e2, e3⟩
        refine ax_iload_n dX10_book_215 rfl ?_
        refine ax_iload_n dX10_book_216 rfl ?_
        refine ax_icmp_ge (tgt := 242) dX10_book_217 (by decide) (fun hc => ?_) (fun hc => absurd ((nI_leI (by omega) (by omega)).mpr (by omega)) hc)
        refine ax_iload_n dX10_book_242 rfl ?_
        refine ax_iret dX10_book_243 rfl ?_
        refine hF _ _ ⟨by rw [e1, hN2]; exact a1, by rw [e2 90 1 (by omega), hN2, ax_pn (by omega), ax_pn (by omega)]; exact a2, fun n i q1 q2 => by rw [e2 n i (by omega)]; exact b3 n i q1 (by omega), ?_⟩
        rw [hn]
        refine ⟨rfl, by rw [e2 90 3 (by omega), hN2, ax_pn (by omega), ax_pa], a4, by rw [e2 90 32 (by omega), hN2, ax_pa], fun k q hq => e3 k q (List.getElem?_eq_some_iff.mp hq).1 hq⟩
    · have hn : ¬ s.2 = none := fun q => hc (h0.mpr q)
      obtain ⟨w, hw⟩ := Option.ne_none_iff_exists'.mp hn
      have h6 := hg.2.2.2.2.2
      rw [hw] at h6
      refine ax_aload_n dX10_book_198 rfl ?_
      refine ax_callV (As := _) (d2 := _) (c1 := 0) (n1 := 0) (c_X10_ends (d := 0) (M := N) hok) dX10_book_199 mX10_ends wd_1841 acl_10 (lo_s hok 90 rfl) rfl (by omega) (by omega) (by omega) rfl rfl (fun _ _ h => by cases h.1) ?_
      rintro r N2 ⟨h1, hN2⟩; cases h1
      refine ax_iret dX10_book_202 rfl ?_
      refine hF _ _ ⟨by rw [hN2]; exact a1, by rw [hN2, ax_pn (by omega)]; exact a2, fun n i q1 q2 => by rw [hN2, ax_pn (by omega)]; exact a3 n i (by omega) (by omega), ?_⟩
      rw [hw]
      exact ⟨by rw [h6.1], by rw [hN2, ax_pa]; exact h6.2, by rw [hN2, ax_pn (by omega)]; exact a3 90 32 (by omega) (by omega), fun n i q1 q2 => by rw [hN2, ax_pn (by omega)]; exact a3 n i (by omega) (by omega)⟩
  have loop : ∀ (m : Nat) (N : ax_M) (s : rk) (es : List (Nat × Nat)) (y3 y4 y5 : Option ax_V), J N es → rg N z B s → (s.2 = none → z < m + s.1) → bk_run B z m s es = bk_text B z → ax_W l G kX10_book (ax_FQ G F) 5 0 0 N 47 [some (av_r 90), some (av_i (nI z)), some (av_i (nI es.length)), y3, y4, y5] [] := by
    intro m
    induction m with
    | zero =>
      intro N s es y3 y4 y5 hj hg hm hR
      have hok := hg.1
      have hle := hg.2.2.2.1.1
      refine ax_aload_n dX10_book_47 rfl ?_
      refine ax_getI (f := 5) dX10_book_48 acl_10 wd_1605 (by decide) rfl (lo_s hok 90 rfl) ?_
      refine ax_if_ne (tgt := 191) dX10_book_51 (by decide) (fun hc => ?_) (fun hc => ?_)
      · have hn : ¬ s.2 = none := fun q => hc ((rg_0 hg).mpr q)
        exact tail N s es _ _ _ hj hg (fun q => hn q.1) hR.symm
      · have := hm ((rg_0 hg).mp hc)
        omega
    | succ m ih =>
      intro N s es y3 y4 y5 hj hg hm hR
      obtain ⟨a1, a2, a3, a4, a5⟩ := (hJ N es).mp hj
      have hok := hg.1
      have hso := hg.2.2.2.1
      have hle := hso.1
      refine ax_aload_n dX10_book_47 rfl ?_
      refine ax_getI (f := 5) dX10_book_48 acl_10 wd_1605 (by decide) rfl (lo_s hok 90 rfl) ?_
      refine ax_if_ne (tgt := 191) dX10_book_51 (by decide) (fun hc => ?_) (fun hc => ?_)
      · have hn : ¬ s.2 = none := fun q => hc ((rg_0 hg).mpr q)
        exact tail N s es _ _ _ hj hg (fun q => hn q.1) (by rw [← hR]; exact bk_stop (fun q => hn q.1) _)
      · have hn := (rg_0 hg).mp hc
        refine ax_aload_n dX10_book_54 rfl ?_
        refine ax_getI (f := 4) dX10_book_55 acl_10 wd_1604 (by decide) rfl (lo_s hok 90 rfl) ?_
        refine ax_aload_n dX10_book_58 rfl ?_
        refine ax_getI (f := 2) dX10_book_59 acl_10 wd_1602 (by decide) rfl (lo_s hok 90 rfl) ?_
        rw [hg.2.2.2.2.1, hg.2.1.1]
        refine ax_icmp_ge (tgt := 191) dX10_book_62 (by decide) (fun hc => ?_) (fun hc => ?_)
        · have hge := (nI_leI (by omega) (by omega)).mp hc
          exact tail N s es _ _ _ hj hg (fun q => by omega) (by rw [← hR]; exact bk_stop (fun q => by omega) _)
        · have hlt : s.1 < z := Nat.lt_of_not_le (fun q => hc ((nI_leI (by omega) (by omega)).mpr q))
          have hR2 : bk_run B z m (rk_bl B z (bk_ln B z es s).1) (if (bk_ln B z es s).1.2 = none then es ++ [((bk_ln B z es s).2.1, (bk_ln B z es s).2.2)] else es) = bk_text B z := by rw [← hR]; exact (if_pos ⟨hn, hlt⟩).symm
          have hln := bk_ln_n (es := es) hB (by omega) hso
          refine ax_aload_n dX10_book_65 rfl ?_
          refine ax_getI (f := 4) dX10_book_66 acl_10 wd_1604 (by decide) rfl (lo_s hok 90 rfl) ?_
          rw [hg.2.2.2.2.1]
          refine ax_istore_n dX10_book_69 (by decide) rfl ?_
          refine ax_aload_n dX10_book_70 rfl ?_
          refine ax_iconst (v := 0) dX10_book_71 (by decide) ?_
          refine ax_bipush (v := 99) dX10_book_72 (by decide) ?_
          refine ax_callV (As := _) (d2 := _) (c1 := 0) (n1 := 0) (c_gnum (M := N) hB hg _ _) dX10_book_74 mX10_number wd_1825 acl_10 (lo_s hok 90 rfl) rfl (by omega) (by omega) (by omega) rfl rfl (fun _ _ h => by cases h.1) ?_
          rintro o9 N1 ⟨h1, f1, g1⟩; cases h1
          have hj1 := Jg hj f1
          unfold bk_ln at hR2 hln
          simp only [] at hR2 hln
          have tle : (rk_num B z 0 99 s).2 ≤ 99 := rk_num_le rfl (by omega)
          generalize hq : rk_num B z 0 99 s = q at *
          obtain ⟨s1, t⟩ := q
          simp only [] at hR2 hln g1 tle ⊢
          have hok := g1.1
          refine ax_istore dX10_book_77 (by decide) rfl ?_
          refine ax_iconst (v := 0) dX10_book_79 (by decide) ?_
          refine ax_istore dX10_book_80 (by decide) rfl ?_
          refine ax_for es.length (fun k N2 L => L = [some (av_r 90), some (av_i (nI z)), some (av_i (nI es.length)), some (av_i (nI s.1)), some (av_i (nI t)), some (av_i (nI k))] ∧ J N2 es ∧ rg N2 z B (if bk_dup (es.take k) t = true then rk_wr 2 s.1 s1 else s1)) 82 ?_ ?_ (i := 0) (by omega) ⟨rfl, hj1, by rw [List.take_zero]; exact g1⟩
          · rintro k N2 L hk ⟨rfl, hj2, g2⟩ next
            obtain ⟨c1, c2, c3, c4, c5⟩ := (hJ N2 es).mp hj2
            have hok := g2.1
            have hek : es[k]? = some es[k] := List.getElem?_eq_getElem hk
            have htk : bk_dup (es.take (k + 1)) t = (bk_dup (es.take k) t || (es[k].1 == t)) := by
              unfold bk_dup
              rw [List.take_add_one, hek, List.any_append]
              simp
            have stay : bk_dup (es.take (k + 1)) t = bk_dup (es.take k) t ∨ ¬ (if bk_dup (es.take k) t = true then rk_wr 2 s.1 s1 else s1).2 = none → ax_W l G kX10_book (ax_FQ G F) 5 0 0 N2 115 [some (av_r 90), some (av_i (nI z)), some (av_i (nI es.length)), some (av_i (nI s.1)), some (av_i (nI t)), some (av_i (nI k))] [] := by
              intro hh
              refine ax_iinc (v := 1) dX10_book_115 rfl (by decide) (by decide) rfl ?_
              refine ax_goto (tgt := 82) dX10_book_118 (by decide) ?_
              refine next _ _ ⟨by rw [nI_1]; rfl, hj2, ?_⟩
              rcases hh with hh | hh
              · rw [hh]; exact g2
              · rw [htk]
                by_cases dk : bk_dup (es.take k) t = true
                · rw [dk, Bool.true_or, if_pos rfl]; rw [if_pos dk] at g2; exact g2
                · rw [if_neg dk] at g2 hh
                  rw [mt_nf dk, Bool.false_or]
                  split
                  · have : rk_wr 2 s.1 s1 = s1 := by
                      unfold rk_wr
                      cases e : s1.2 with
                      | some w => rfl
                      | none => exact absurd e hh
                    rw [this]; exact g2
                  · exact g2
            refine ax_iload dX10_book_82 rfl ?_
            refine ax_iload_n dX10_book_84 rfl ?_
            refine ax_icmp_ge (tgt := 121) dX10_book_85 (by decide) (fun hc => absurd ((nI_leI (by omega) (by omega)).mp hc) (by omega)) (fun hc => ?_)
            refine ax_aload_n dX10_book_88 rfl ?_
            refine ax_getI (f := 5) dX10_book_89 acl_10 wd_1605 (by decide) rfl (lo_s hok 90 rfl) ?_
            refine ax_if_ne (tgt := 115) dX10_book_92 (by decide) (fun hc => ?_) (fun hc => ?_)
            · exact stay (Or.inr (fun q => hc ((rg_0 g2).mpr q)))
            · have hn2 := (rg_0 g2).mp hc
              have hnd : ¬ bk_dup (es.take k) t = true := fun dk => by rw [if_pos dk] at hn2; exact rk_wr_n hn2
              refine ax_aload_n dX10_book_95 rfl ?_
              refine ax_getK (f := 29) 132 dX10_book_96 acl_10 wd_1629 (by decide) rfl (lo_s hok 90 rfl) (lo_r hok 98 rfl) ?_
              refine ax_iload dX10_book_99 rfl ?_
              refine ax_aaldN2 (133 + (k)) (k) dX10_book_101 (lo_s hok 132 rfl) (by decide) (by first | with_reducible rfl | assumption | exact ax_nix (by simp only [nx_0, nx_1, nx_2, nx_3, nx_4, nx_10, nx_20, nx_21, nx_100, nI_add, pk_mul] <;> rfl) (by omega) | decide) (by omega) (lo_w_m_readBook hok (by omega)) ?_
              refine ax_iconst (v := 0) dX10_book_102 (by decide) ?_
              refine ax_ialdN (0) dX10_book_103 (by first | assumption | exact lo_tz hok (by omega) (by omega) | exact lo_z_m_wet hok (by omega) | exact lo_z_m_readWet hok (by omega) | exact lo_z_m_law hok (by omega) | exact lo_z_m_book hok (by omega) | exact lo_z_m_readBook hok (by omega) | exact lo_z_m_before hok (by omega) | exact lo_z_m_kept hok (by omega) | exact lo_z_m_seenAt hok (by omega) | exact lo_z_m_seenIn hok (by omega) | exact lo_z_m_t0 hok (by omega) | exact lo_z_m_t1 hok (by omega) | exact lo_z_m_c0 hok (by omega) | exact lo_z_m_c1 hok (by omega) | exact lo_z_x_kept hok (by omega)) (by decide) (by decide) (by decide) ?_
              refine ax_iload dX10_book_104 rfl ?_
              have e0 := (c5 k es[k] hek)
              rw [e0.2.1]
              refine ax_icmp_ne (tgt := 115) dX10_book_106 (by decide) (fun hc => ?_) (fun hc => ?_)
              · refine stay (Or.inl ?_)
                rw [htk]
                have : ¬ es[k].1 = t := fun q => hc (by rw [q])
                simp [this]
              · have heq := (nI_eq (by omega) (by omega)).mp hc
                rw [if_neg hnd] at g2
                refine ax_aload_n dX10_book_109 rfl ?_
                refine ax_iconst (v := 2) dX10_book_110 (by decide) ?_
                refine ax_iload_n dX10_book_111 rfl ?_
                refine ax_callV (As := _) (d2 := _) (c1 := 0) (n1 := 0) (c_gwrong (d := 0) (M := N2) g2 (f := 2) (p := s.1) (by decide) (by omega) rfl rfl) dX10_book_112 mX10_wrong wd_1813 acl_10 (lo_s hok 90 rfl) rfl (by omega) (by omega) (by omega) rfl rfl (fun _ _ h => by cases h.1) ?_
                rintro o9 N3 ⟨h1, f3, g3⟩; cases h1
                refine ax_iinc (v := 1) dX10_book_115 rfl (by decide) (by decide) rfl ?_
                refine ax_goto (tgt := 82) dX10_book_118 (by decide) ?_
                refine next _ _ ⟨by rw [nI_1]; rfl, Jg hj2 f3, ?_⟩
                rw [htk, heq]
                simp only [beq_self_eq_true, Bool.or_true, if_true]
                exact g3
          · rintro N2 L ⟨rfl, hj2, g2⟩
            refine ax_iload dX10_book_82 rfl ?_
            refine ax_iload_n dX10_book_84 rfl ?_
            refine ax_icmp_ge (tgt := 121) dX10_book_85 (by decide) (fun hc => ?_) (fun hc => absurd ((nI_leI (by omega) (by omega)).mpr (by omega)) hc)
            rw [List.take_length] at g2
            generalize hs2 : (if bk_dup es t = true then rk_wr 2 s.1 s1 else s1) = s2 at *
            have hok := g2.1
            -- from 140 on
            have rest : ∀ (N3 : ax_M) (y5 : Option ax_V), J N3 es → rg N3 z B (if es.length = 12 then rk_wr 3 s.1 s2 else s2) → ax_W l G kX10_book (ax_FQ G F) 5 0 0 N3 140 [some (av_r 90), some (av_i (nI z)), some (av_i (nI es.length)), some (av_i (nI s.1)), some (av_i (nI t)), y5] [] := by
              intro N3 y5 hj3 g3
              have hok := g3.1
              refine ax_aload_n dX10_book_140 rfl ?_
              refine ax_iconst (v := 0) dX10_book_141 (by decide) ?_
              refine ax_iconst (v := 1) dX10_book_142 (by decide) ?_
              refine ax_callV (As := _) (d2 := _) (c1 := 0) (n1 := 0) (c_gnum (M := N3) hB g3 _ _) dX10_book_143 mX10_number wd_1825 acl_10 (lo_s hok 90 rfl) rfl (by omega) (by omega) (by omega) rfl rfl (fun _ _ h => by cases h.1) ?_
              rintro o9 N4 ⟨h1, f4, g4⟩; cases h1
              have hok := g4.1
              refine ax_istore dX10_book_146 (by decide) rfl ?_
              refine ax_aload_n dX10_book_148 rfl ?_
              refine ax_bipush (v := 59) dX10_book_149 (by decide) ?_
              refine ax_callV (As := _) (d2 := _) (c1 := 0) (n1 := 0) (c_gsign (M := N4) hB g4 59 (by decide)) dX10_book_151 mX10_sign wd_1837 acl_10 (lo_s hok 90 rfl) rfl (by omega) (by omega) (by omega) rfl rfl (fun _ _ h => by cases h.1) ?_
              rintro o9 N5 ⟨h1, f5, g5⟩; cases h1
              have hj5 := Jg (Jg hj3 f4) f5
              have hok := g5.1
              generalize hq : rk_num B z 0 1 (if es.length = 12 then rk_wr 3 s.1 s2 else s2) = q at *
              obtain ⟨s4, b⟩ := q
              simp only [] at *
              have end_ : ∀ (N6 : ax_M) (es2 : List (Nat × Nat)), J N6 es2 → rg N6 z B (rk_sign B z 59 s4) → (if (rk_sign B z 59 s4).2 = none then es ++ [(t, b)] else es) = es2 → ax_W l G kX10_book (ax_FQ G F) 5 0 0 N6 184 [some (av_r 90), some (av_i (nI z)), some (av_i (nI es2.length)), some (av_i (nI s.1)), some (av_i (nI t)), some (av_i (nI b))] [] := by
                intro N6 es2 hj6 g6 he2
                have hok := g6.1
                refine ax_aload_n dX10_book_184 rfl ?_
                refine ax_callV (As := _) (d2 := _) (c1 := 0) (n1 := 0) (c_gblanks (M := N6) g6) dX10_book_185 mX10_blanks wd_1783 acl_10 (lo_s hok 90 rfl) rfl (by omega) (by omega) (by omega) rfl rfl (fun _ _ h => by cases h.1) ?_
                rintro o9 N7 ⟨h1, f7, g7⟩; cases h1
                refine ax_goto (tgt := 47) dX10_book_188 (by decide) ?_
                rw [he2] at hR2
                refine ih N7 _ es2 _ _ _ (Jg hj6 f7) g7 (fun hz2 => ?_) hR2
                have h3 := hln hz2
                have h4 : (rk_sign B z 59 s4).1 ≤ tx_sk B z (rk_sign B z 59 s4).1 := tx_sk_ge
                have h5 := hm hn
                show z < m + tx_sk B z (rk_sign B z 59 s4).1
                omega
              refine ax_aload_n dX10_book_154 rfl ?_
              refine ax_getI (f := 5) dX10_book_155 acl_10 wd_1605 (by decide) rfl (lo_s hok 90 rfl) ?_
              refine ax_if_ne (tgt := 184) dX10_book_158 (by decide) (fun hc => ?_) (fun hc => ?_)
              · have hne : ¬ (rk_sign B z 59 s4).2 = none := fun q => hc ((rg_0 g5).mpr q)
                exact end_ N5 es hj5 g5 (if_neg hne)
              · have hnn := (rg_0 g5).mp hc
                have h12 := (hln hnn).1
                obtain ⟨d1, d2, d3, d4, d5⟩ := (hJ N5 es).mp hj5
                refine ax_aload_n dX10_book_161 rfl ?_
                refine ax_getK (f := 29) 132 dX10_book_162 acl_10 wd_1629 (by decide) rfl (lo_s hok 90 rfl) (lo_r hok 98 rfl) ?_
                refine ax_iload_n dX10_book_165 rfl ?_
                refine ax_aaldN2 (133 + (es.length)) (es.length) dX10_book_166 (lo_s hok 132 rfl) (by decide) (by first | with_reducible rfl | assumption | exact ax_nix (by simp only [nx_0, nx_1, nx_2, nx_3, nx_4, nx_10, nx_20, nx_21, nx_100, nI_add, pk_mul] <;> rfl) (by omega) | decide) (by omega) (lo_w_m_readBook hok (by omega)) ?_
                refine ax_iconst (v := 0) dX10_book_167 (by decide) ?_
                refine ax_iload dX10_book_168 rfl ?_
                refine ax_iastN (0) dX10_book_170 (by first | assumption | exact lo_tz hok (by omega) (by omega) | exact lo_z_m_wet hok (by omega) | exact lo_z_m_readWet hok (by omega) | exact lo_z_m_law hok (by omega) | exact lo_z_m_book hok (by omega) | exact lo_z_m_readBook hok (by omega) | exact lo_z_m_before hok (by omega) | exact lo_z_m_kept hok (by omega) | exact lo_z_m_seenAt hok (by omega) | exact lo_z_m_seenIn hok (by omega) | exact lo_z_m_t0 hok (by omega) | exact lo_z_m_t1 hok (by omega) | exact lo_z_m_c0 hok (by omega) | exact lo_z_m_c1 hok (by omega) | exact lo_z_x_kept hok (by omega)) (by decide) (by decide) (by decide) ?_
                refine ax_aload_n dX10_book_171 rfl ?_
                refine ax_getK (f := 29) 132 dX10_book_172 acl_10 wd_1629 (by decide) rfl (lo_s hok 90 rfl) (lo_r hok 98 rfl) ?_
                refine ax_iload_n dX10_book_175 rfl ?_
                refine ax_aaldN2 (133 + (es.length)) (es.length) dX10_book_176 (lo_s hok 132 rfl) (by decide) (by first | with_reducible rfl | assumption | exact ax_nix (by simp only [nx_0, nx_1, nx_2, nx_3, nx_4, nx_10, nx_20, nx_21, nx_100, nI_add, pk_mul] <;> rfl) (by omega) | decide) (by omega) (lo_w_m_readBook hok (by omega)) ?_
                refine ax_iconst (v := 1) dX10_book_177 (by decide) ?_
                refine ax_iload dX10_book_178 rfl ?_
                refine ax_iastN (1) dX10_book_180 (by first | assumption | exact lo_tz hok (by omega) (by omega) | exact lo_z_m_wet hok (by omega) | exact lo_z_m_readWet hok (by omega) | exact lo_z_m_law hok (by omega) | exact lo_z_m_book hok (by omega) | exact lo_z_m_readBook hok (by omega) | exact lo_z_m_before hok (by omega) | exact lo_z_m_kept hok (by omega) | exact lo_z_m_seenAt hok (by omega) | exact lo_z_m_seenIn hok (by omega) | exact lo_z_m_t0 hok (by omega) | exact lo_z_m_t1 hok (by omega) | exact lo_z_m_c0 hok (by omega) | exact lo_z_m_c1 hok (by omega) | exact lo_z_x_kept hok (by omega)) (by decide) (by decide) (by decide) ?_
                refine ax_gen (fun N6 hN6 => ?_)
                have hok : lo_ok N6.2 := by rw [hN6]; exact hok
                have g6 : rg N6 z B (rk_sign B z 59 s4) := rg_fr g5 (by rw [hN6]; rfl) (fun i q => by rw [hN6, ax_pn (by omega), ax_pn (by omega)]) (fun i => by rw [hN6, ax_pn (by omega), ax_pn (by omega)])
                refine ax_iinc (v := 1) dX10_book_181 rfl (by decide) (by decide) rfl ?_
                rw [nI_1]
                have hl : (es ++ [(t, b)]).length = es.length + 1 := by simp
                have := end_ N6 (es ++ [(t, b)]) ((hJ _ _).mpr ⟨by rw [hN6]; exact d1, by rw [hN6, ax_pn (by omega), ax_pn (by omega)]; exact d2, fun n i q1 q2 => by rw [hN6, ax_pn (by omega), ax_pn (by omega)]; exact d3 n i q1 q2, by rw [hl]; omega, fun k q hq => ?_⟩) g6 (if_pos hnn)
                · rw [hl] at this; exact this
                · by_cases hk : k < es.length
                  · rw [List.getElem?_append_left hk] at hq
                    rw [hN6, ax_pn (by omega), ax_pn (by omega), ax_pn (by omega), ax_pn (by omega)]
                    exact d5 k q hq
                  · have hk2 : k < es.length + 1 := by rw [← hl]; exact (List.getElem?_eq_some_iff.mp hq).1
                    have hk3 : k = es.length := by omega
                    subst hk3
                    rw [List.getElem?_append_right (Nat.le_refl _), Nat.sub_self] at hq
                    cases hq
                    refine ⟨tle, ?_, ?_⟩
                    · rw [hN6, ax_pn (by omega), ax_pa]
                    · rw [hN6, ax_pa]
            refine ax_aload_n dX10_book_121 rfl ?_
            refine ax_getI (f := 5) dX10_book_122 acl_10 wd_1605 (by decide) rfl (lo_s hok 90 rfl) ?_
            refine ax_if_ne (tgt := 140) dX10_book_125 (by decide) (fun hc => ?_) (fun hc => ?_)
            · have hne : ¬ s2.2 = none := fun q => hc ((rg_0 g2).mpr q)
              refine rest N2 _ hj2 ?_
              split
              · have : rk_wr 3 s.1 s2 = s2 := by
                  unfold rk_wr
                  cases e : s2.2 with
                  | some w => rfl
                  | none => exact absurd e hne
                rw [this]; exact g2
              · exact g2
            · refine ax_iload_n dX10_book_128 rfl ?_
              refine ax_bipush (v := 12) dX10_book_129 (by decide) ?_
              refine ax_icmp_ne (tgt := 140) dX10_book_131 (by decide) (fun hc => ?_) (fun hc => ?_)
              · have h12 : ¬ es.length = 12 := fun q => hc (by rw [q]; rfl)
                refine rest N2 _ hj2 ?_
                rw [if_neg h12]; exact g2
              · have h12 := (nI_eq (b := 12) (by omega) (by omega)).mp hc
                refine ax_aload_n dX10_book_134 rfl ?_
                refine ax_iconst (v := 3) dX10_book_135 (by decide) ?_
                refine ax_iload_n dX10_book_136 rfl ?_
                refine ax_callV (As := _) (d2 := _) (c1 := 0) (n1 := 0) (c_gwrong (d := 0) (M := N2) g2 (f := 3) (p := s.1) (by decide) (by omega) rfl rfl) dX10_book_137 mX10_wrong wd_1813 acl_10 (lo_s hok 90 rfl) rfl (by omega) (by omega) (by omega) rfl rfl (fun _ _ h => by cases h.1) ?_
                rintro o9 N3 ⟨h1, f3, g3⟩; cases h1
                refine rest N3 _ (Jg hj2 f3) ?_
                rw [if_pos h12]; exact g3
  refine ax_aload_n dX10_book_40 rfl ?_
  refine ax_iload_n dX10_book_41 rfl ?_
  refine ax_callV (As := _) (d2 := _) (c1 := 0) (n1 := 0) (c_X10_starts (M := M) hok (z := z) (by omega)) dX10_book_42 mX10_starts wd_1779 acl_10 (lo_s hok 90 rfl) rfl (by omega) (by omega) (by omega) rfl rfl (fun _ _ h => by cases h.1) ?_
  rintro r M1 ⟨h1, M0, hM0, hM1⟩; cases h1
  have fr0 : rd_fr M M0 := by
    rw [hM0]
    exact rd_fr_tr (rd_fr_tr (rd_fr_tr (rd_fr_tr (rd_fr_tr (rd_fr_tr (rd_fr_p (by omega)) (rd_fr_p (by omega))) (rd_fr_p (by omega))) (rd_fr_p (by omega))) (rd_fr_p (by omega))) (rd_fr_p (by omega))) (rd_fr_p (by omega))
  have eB0 : tx_B M0 = B := by rw [eB]; exact tx_tb_B (by rw [hM0]; rfl) (fun i => fr0.2 91 i (by omega) (by decide))
  rw [eB0] at hM1
  have fr1 : ∀ n i, ¬ (n = 90 ∧ 1 ≤ i ∧ i ≤ 8) → M1.1 n i = M.1 n i := fun n i q => by
    rw [hM1, ax_pn (by omega), hM0, ax_pn (by omega), ax_pn (by omega), ax_pn (by omega), ax_pn (by omega), ax_pn (by omega), ax_pn (by omega), ax_pn (by omega)]
  have h12 : M1.2 = M.2 := by rw [hM1, hM0]; rfl
  have hg1 : rg M1 z B (tx_sk B z 0, none) := by
    refine ⟨by rw [h12]; exact hok, ⟨by rw [hM1, ax_pn (by omega), hM0]; rfl, by omega⟩, ?_, ⟨tx_sk_z (Nat.zero_le _), fun e q => by cases q⟩, by rw [hM1, ax_pa], by show M1.1 90 5 = 0; rw [hM1, ax_pn (by omega), hM0]; rfl⟩
    rw [eB]
    exact tx_tb_B (by rw [hM1, ax_pn (by omega), hM0]; rfl) (fun i => fr1 91 i (by omega))
  refine ax_iconst (v := 0) dX10_book_45 (by decide) ?_
  refine ax_istore_n dX10_book_46 (by decide) rfl ?_
  exact loop 601 M1 _ [] _ _ _ ((hJ M1 []).mpr ⟨h12, by rw [hM1, ax_pn (by omega), hM0]; rfl, fun n i q _ => fr1 n i q, Nat.zero_le _, fun k q hq => by simp at hq⟩) hg1 (fun _ => by omega) rfl
theorem c_book (hok : lo_ok M.2) {t : Nat} (ht : M.1 90 1 = nI t) (ht2 : t ≤ 600) (n : Int32) : ax_Met l G kX10_book 5 0 0 M [av_r 90, av_i n] (fun o M2 => if (0 ≤ n ∧ n ≤ nI t) ∧ n ≤ 150 then ∃ z, z ≤ 150 ∧ n = nI z ∧ bk_out (ax_pI M 90 0 0) M2 o (bk_text (tx_tb M z) z) else o = .inl (some (av_i 0)) ∧ M2 = mk_bad (ax_pI M 90 0 0) 1 1) := by
  refine ax_body (by decide) (Nat.le_of_ble_eq_true rfl) ?_
  refine ax_aload_n dX10_book_0 rfl ?_
  refine ax_iconst (v := 0) dX10_book_1 (by decide) ?_
  refine ax_putI (f := 0) dX10_book_2 acl_10 wd_1600 (by decide) rfl rfl (ax_nfI rfl) (lo_s hok 90 rfl) ?_
  refine ax_gen (fun M0 hM0 => ?_)
  have hok : lo_ok M0.2 := by rw [hM0]; exact hok
  have h00 : M0.1 90 0 = 0 := by rw [hM0, ax_pa]
  have ht0 : M0.1 90 1 = nI t := by rw [hM0, ax_pn (by omega)]; exact ht
  refine ax_aload_n dX10_book_5 rfl ?_
  refine ax_iload_n dX10_book_6 rfl ?_
  refine ax_iconst (v := 0) dX10_book_7 (by decide) ?_
  refine ax_aload_n dX10_book_8 rfl ?_
  refine ax_getI (f := 1) dX10_book_9 acl_10 wd_1601 (by decide) rfl (lo_s hok 90 rfl) ?_
  rw [ht0]
  refine ax_callS (As := _) (c1 := 0) (n1 := 0) (c_X10_in (d := 0) (M := M0) _ _ _) dX10_book_12 mX10_in wd_1772 rfl (by omega) (by omega) (by omega) rfl rfl (fun _ _ h => by cases h.1) ?_
  rintro r M9 ⟨h1, h9⟩; cases h1; rw [h9]; clear h9 M9
  refine ax_join1 (¬ ((0 ≤ n ∧ n ≤ nI t) ∧ n ≤ 150)) 30 (1) (0) ?_ (fun ja jb => ?_)
  rotate_left
  · refine ax_ifB_eq (tgt := 25) dX10_book_15 (by decide) (fun h15 => ?_) (fun h15 => ?_)
    · refine ax_iconst (v := 1) dX10_book_25 (by decide) ?_
      refine ax_goto (tgt := 30) dX10_book_26 (by decide) ?_
      first | exact ja (fun z => h15 z.1) | exact jb (fun z => z ⟨h15, h22⟩) | exact ja (fun z => h22 z.2)
    · refine ax_iload_n dX10_book_18 rfl ?_
      refine ax_sipush (v := 150) dX10_book_19 (by decide) ?_
      refine ax_icmp_le (tgt := 29) dX10_book_22 (by decide) (fun h22 => ?_) (fun h22 => ?_)
      · refine ax_iconst (v := 0) dX10_book_29 (by decide) ?_
        first | exact ja (fun z => h15 z.1) | exact jb (fun z => z ⟨h15, h22⟩) | exact ja (fun z => h22 z.2)
      · refine ax_iconst (v := 1) dX10_book_25 (by decide) ?_
        refine ax_goto (tgt := 30) dX10_book_26 (by decide) ?_
        first | exact ja (fun z => h15 z.1) | exact jb (fun z => z ⟨h15, h22⟩) | exact ja (fun z => h22 z.2)
  refine ax_iconst (v := 1) dX10_book_30 (by decide) ?_
  refine ax_iconst (v := 1) dX10_book_31 (by decide) ?_
  refine ax_callV (As := _) (d2 := _) (c1 := 0) (n1 := 0) (c_badP (d := 0) (M := M0) (p := ¬ ((0 ≤ n ∧ n ≤ nI t) ∧ n ≤ 150)) hok h00 (w := 1) (k := 1) (by decide) (by decide) (by decide) rfl rfl) dX10_book_32 mX10_bad wd_1775 acl_10 (lo_s hok 90 rfl) rfl (by omega) (by omega) (by omega) rfl rfl (fun _ _ h => by rcases h with ⟨_, h, _⟩ | ⟨_, h, _⟩ <;> cases h) ?_
  rintro o9 M9 (⟨g1, h1, h2⟩ | ⟨g1, h1, h2⟩) <;> cases h1 <;> rw [h2] <;> clear h2 M9
  · simp only [if_neg g1]
    refine ax_if_eq (tgt := 40) dX10_book_35 (by decide) (fun hc => ?_) (fun hc => ?_)
    · exact absurd hc (by decide)
    · refine ax_iconst (v := 0) dX10_book_38 (by decide) ?_
      refine ax_iret dX10_book_39 rfl ?_
      exact ⟨rfl, by rw [hM0]; rfl⟩
  · simp only [if_pos (dn g1)]
    obtain ⟨z, hz, rfl⟩ := in_nat (K := 150) (x := n) ⟨(dn g1).1.1, (dn g1).2⟩ (n := 150) rfl (by decide)
    refine ax_if_eq (tgt := 40) dX10_book_35 (by decide) (fun hc => ?_) (fun hc => ?_)
    · refine c_book0 (M := M0) hok hz (fun o M2 h => ⟨z, hz, rfl, ?_⟩)
      have e : tx_tb M0 z = tx_tb M z := by
        funext i; unfold tx_tb; rw [hM0, ax_pn (by omega)]
      rw [e, hM0] at h
      exact h
    · exact absurd rfl hc
end RB

