/-! ===== the class's reader ===== -/
def tkc (x : Int32) : Nat := if tx_dg x = true then 1 else if tx_sm x = true then 2 else 3
theorem tkc_b (x : Int32) : 1 ≤ tkc x ∧ tkc x ≤ 3 := by unfold tkc; split; omega; split <;> omega
def tk (B : Nat → Int32) (z b : Nat) : Nat := if b < z then tkc (B b) else 0
def tp (T : Nat) (x : Int32) : Bool := decide (tkc x = T)
def xn (B : Nat → Int32) (T : Nat) : Nat → Nat → Nat → Nat
  | 0, _, v => v
  | n + 1, c, v => if tp T (B c) = true then xn B T n (c + 1) (if T = 1 ∧ v < 100000 then 10 * v + tx_d (B c) else v) else v
def ta (B : Nat → Int32) (z b : Nat) : Nat := if tk B z b = 3 then b + 1 else tx_run (tp (tk B z b)) B (z - b) b
theorem tkc_1 (x : Int32) : tp 1 x = tx_dg x := by
  unfold tp tkc
  by_cases h : tx_dg x = true
  · simp [h]
  · rw [if_neg h]; simp only [Bool.not_eq_true] at h; rw [h]; split <;> rfl
theorem tx_dg_sm {x : Int32} (h : tx_dg x = true) : tx_sm x = false := by
  obtain ⟨h1, h2⟩ := tx_dgn h
  simp only [tx_sm, Bool.and_eq_false_iff, decide_eq_false_iff_not]
  left
  intro h3
  rw [h1, iv_le, nI_toInt (by omega)] at h3
  have : (97 : Int32).toInt = 97 := rfl
  omega
theorem tkc_2 (x : Int32) : tp 2 x = tx_sm x := by
  unfold tp tkc
  by_cases h : tx_dg x = true
  · rw [if_pos h, tx_dg_sm h]; rfl
  · rw [if_neg h]
    by_cases h2 : tx_sm x = true
    · simp [h2]
    · rw [if_neg h2]; simp only [Bool.not_eq_true] at h2; rw [h2]; rfl
theorem xn_le (B : Nat → Int32) (T : Nat) : ∀ n c v, v ≤ 1000000 → xn B T n c v ≤ 1000000
  | 0, _, v, h => h
  | n + 1, c, v, h => by
    unfold xn
    split
    · rename_i hp
      refine xn_le B T n (c + 1) _ ?_
      split
      · rename_i h1
        have h2 : tx_dg (B c) = true := by rw [← tkc_1, ← h1.1]; exact hp
        have := (tx_dgn h2).2
        omega
      · exact h
    · exact h
/-- with and without the cap -/
theorem xn_nv (B : Nat → Int32) : ∀ n c v w, v = min w 100000 → tx_nv B n c v = min (xn B 1 n c w) 100000
  | 0, _, v, w, h => h
  | n + 1, c, v, w, h => by
    unfold tx_nv xn
    rw [tkc_1]
    by_cases hp : tx_dg (B c) = true
    · rw [if_pos hp, if_pos hp]
      refine xn_nv B n (c + 1) _ _ ?_
      have := (tx_dgn hp).2
      by_cases h1 : w < 100000
      · rw [if_pos (show 1 = 1 ∧ w < 100000 from ⟨rfl, h1⟩)]
        split <;> omega
      · rw [if_neg (show ¬ (1 = 1 ∧ w < 100000) from fun z => h1 z.2)]
        split <;> omega
    · rw [if_neg hp, if_neg hp]; exact h
def xt (M : ax_M) (z : Nat) (B : Nat → Int32) (a : Nat) : Prop := M.1 2 4 = nI (tx_sk B z a) ∧ M.1 2 5 = nI (tk B z (tx_sk B z a)) ∧ M.1 2 3 = nI (ta B z (tx_sk B z a)) ∧ M.1 2 6 = nI (xn B (tk B z (tx_sk B z a)) (z - tx_sk B z a) (tx_sk B z a) 0)
def xz (M : ax_M) (z : Nat) (B : Nat → Int32) : Prop := lo_ok M.2 ∧ M.1 2 2 = nI z ∧ z ≤ 600 ∧ ps_B B z ∧ ∀ i, i < z → M.1 3 i = B i
def af (M M2 : ax_M) : Prop := M2.2 = M.2 ∧ ∀ n i, ¬ (n = 2 ∧ 3 ≤ i ∧ i ≤ 8) → M2.1 n i = M.1 n i
theorem af_tr {M M1 M2 : ax_M} (h1 : af M M1) (h2 : af M1 M2) : af M M2 := ⟨h2.1.trans h1.1, fun n i q => (h2.2 n i q).trans (h1.2 n i q)⟩
theorem af_0 (M : ax_M) : af M M := ⟨rfl, fun _ _ _ => rfl⟩
theorem af_p {M : ax_M} {i : Nat} {x : Int32} (h : 3 ≤ i ∧ i ≤ 8) : af M (ax_pI M 2 i x) := ⟨rfl, fun m j q => ax_pn (by omega)⟩
theorem af_z {M M2 : ax_M} {z : Nat} {B : Nat → Int32} (h : af M M2) (hz : xz M z B) : xz M2 z B := ⟨by rw [h.1]; exact hz.1, (h.2 2 2 (by omega)).trans hz.2.1, hz.2.2.1, hz.2.2.2.1, fun i hi => (h.2 3 i (by omega)).trans (hz.2.2.2.2 i hi)⟩
/-- the class's place and FAULT -/
def xg (M : ax_M) (z : Nat) (B : Nat → Int32) (s : rk) : Prop := xz M z B ∧ rk_ok z s ∧ match s.2 with
  | none => xt M z B s.1 ∧ M.1 2 7 = 0 ∧ M.1 2 8 = -1
  | some e => M.1 2 7 = nI e.1 ∧ M.1 2 8 = nI e.2
theorem tx_run_p {p q : Int32 → Bool} (h : ∀ x, p x = q x) (B : Nat → Int32) (n a : Nat) : tx_run p B n a = tx_run q B n a := by rw [show p = q from funext h]
theorem ta_z {B : Nat → Int32} {z b : Nat} (hb : b ≤ z) : ta B z b ≤ z := by
  unfold ta
  split
  · rename_i h
    unfold tk at h
    by_cases q : b < z
    · omega
    · rw [if_neg q] at h; omega
  · have := (tx_run_le (tp (tk B z b)) B (z - b) b).2; omega
section XT
variable {l : Launch} {G : ax_G} {M : ax_M} {z : Nat} {B : Nat → Int32}
theorem c_tokenOf {d : Nat} (x : Int32) : ax_Met l G kX6_tokenOf d 0 0 M [av_i x] (ax_p (av_i (nI (tkc x))) M) := by
  have e1 : tx_dg x = true ↔ ¬ x < 48 ∧ ¬ 57 < x := by simp [tx_dg, Int32.not_lt]
  have e2 : tx_sm x = true ↔ ¬ x < 97 ∧ ¬ 122 < x := by simp [tx_sm, Int32.not_lt]
  refine ax_body (by decide) (Nat.le_of_ble_eq_true rfl) ?_
  refine ax_iload_n dX6_tokenOf_0 rfl ?_
  refine ax_bipush (v := 48) dX6_tokenOf_1 (by decide) ?_
  refine ax_icmp_lt (tgt := 14) dX6_tokenOf_3 (by decide) (fun h3 => ?_) (fun h3 => ?_)
  · refine ax_iload_n dX6_tokenOf_14 rfl ?_
    refine ax_bipush (v := 97) dX6_tokenOf_15 (by decide) ?_
    refine ax_icmp_lt (tgt := 30) dX6_tokenOf_17 (by decide) (fun h17 => ?_) (fun h17 => ?_)
    · refine ax_iconst (v := 3) dX6_tokenOf_30 (by decide) ?_
      refine ax_iret dX6_tokenOf_31 rfl ?_
      refine ⟨?_, rfl⟩; unfold tkc; simp_all; try rfl
    · refine ax_iload_n dX6_tokenOf_20 rfl ?_
      refine ax_bipush (v := 122) dX6_tokenOf_21 (by decide) ?_
      refine ax_icmp_gt (tgt := 30) dX6_tokenOf_23 (by decide) (fun h23 => ?_) (fun h23 => ?_)
      · refine ax_iconst (v := 3) dX6_tokenOf_30 (by decide) ?_
        refine ax_iret dX6_tokenOf_31 rfl ?_
        refine ⟨?_, rfl⟩; unfold tkc; simp_all; try rfl
      · refine ax_iconst (v := 2) dX6_tokenOf_26 (by decide) ?_
        refine ax_goto (tgt := 31) dX6_tokenOf_27 (by decide) ?_
        refine ax_iret dX6_tokenOf_31 rfl ?_
        refine ⟨?_, rfl⟩; unfold tkc; simp_all; try rfl
  · refine ax_iload_n dX6_tokenOf_6 rfl ?_
    refine ax_bipush (v := 57) dX6_tokenOf_7 (by decide) ?_
    refine ax_icmp_gt (tgt := 14) dX6_tokenOf_9 (by decide) (fun h9 => ?_) (fun h9 => ?_)
    · refine ax_iload_n dX6_tokenOf_14 rfl ?_
      refine ax_bipush (v := 97) dX6_tokenOf_15 (by decide) ?_
      refine ax_icmp_lt (tgt := 30) dX6_tokenOf_17 (by decide) (fun h17 => ?_) (fun h17 => ?_)
      · refine ax_iconst (v := 3) dX6_tokenOf_30 (by decide) ?_
        refine ax_iret dX6_tokenOf_31 rfl ?_
        refine ⟨?_, rfl⟩; unfold tkc; simp_all; try rfl
      · refine ax_iload_n dX6_tokenOf_20 rfl ?_
        refine ax_bipush (v := 122) dX6_tokenOf_21 (by decide) ?_
        refine ax_icmp_gt (tgt := 30) dX6_tokenOf_23 (by decide) (fun h23 => ?_) (fun h23 => ?_)
        · refine ax_iconst (v := 3) dX6_tokenOf_30 (by decide) ?_
          refine ax_iret dX6_tokenOf_31 rfl ?_
          refine ⟨?_, rfl⟩; unfold tkc; simp_all; try rfl
        · refine ax_iconst (v := 2) dX6_tokenOf_26 (by decide) ?_
          refine ax_goto (tgt := 31) dX6_tokenOf_27 (by decide) ?_
          refine ax_iret dX6_tokenOf_31 rfl ?_
          refine ⟨?_, rfl⟩; unfold tkc; simp_all; try rfl
    · refine ax_iconst (v := 1) dX6_tokenOf_12 (by decide) ?_
      refine ax_iret dX6_tokenOf_13 rfl ?_
      refine ⟨?_, rfl⟩; unfold tkc; simp_all; try rfl
set_option maxHeartbeats 2000000 in
theorem c_advance (hz : xz M z B) {a : Nat} (ha : M.1 2 3 = nI a) (haz : a ≤ z) : ax_Met l G kX6_advance 1 0 0 M [av_r 2] (fun o M2 => o = .inl none ∧ (M2.2 = M.2 ∧ ∀ n i, ¬ (n = 2 ∧ 3 ≤ i ∧ i ≤ 6) → M2.1 n i = M.1 n i) ∧ xt M2 z B a) := by
  have hok := hz.1
  have h600 := hz.2.2.1
  have hsk := tx_sk_z (B := B) haz
  generalize hQ : (fun (o : ax_O) (M2 : ax_M) => o = .inl none ∧ (M2.2 = M.2 ∧ ∀ n i, ¬ (n = 2 ∧ 3 ≤ i ∧ i ≤ 6) → M2.1 n i = M.1 n i) ∧ xt M2 z B a) = Q
  have done : ∀ N : ax_M, (N.2 = M.2 ∧ ∀ n i, ¬ (n = 2 ∧ 3 ≤ i ∧ i ≤ 6) → N.1 n i = M.1 n i) → xt N z B a → Q (.inl none) N := by
    intro N h1 h2
    rw [← hQ]
    exact ⟨rfl, h1, h2⟩
  have J : ∃ J : ax_M → Prop, ∀ N, J N ↔ (N.2 = M.2 ∧ ∀ n i, ¬ (n = 2 ∧ 3 ≤ i ∧ i ≤ 6) → N.1 n i = M.1 n i) := ⟨_, fun _ => Iff.rfl⟩
  obtain ⟨J, hJ⟩ := J
  have Jp : ∀ {N N2 : ax_M} {i : Nat} {x : Int32}, J N → N2 = ax_pI N 2 i x → 3 ≤ i ∧ i ≤ 6 → J N2 := by
    intro N N2 i x h e hi
    subst e
    obtain ⟨a1, a2⟩ := (hJ N).mp h
    exact (hJ _).mpr ⟨a1, fun n j q => (ax_pn (by omega)).trans (a2 n j q)⟩
  have Jl : ∀ {N : ax_M}, J N → N.1 2 2 = nI z := fun h => (((hJ _).mp h).2 2 2 (by omega)).trans hz.2.1
  have Jb : ∀ {N : ax_M} {i : Nat}, J N → i < z → N.1 3 i = B i := fun h hi => (((hJ _).mp h).2 3 _ (by omega)).trans (hz.2.2.2.2 _ hi)
  have Jo : ∀ {N : ax_M}, J N → lo_ok N.2 := fun h => by rw [((hJ _).mp h).1]; exact hok
  -- behind the sign or the run
  have run : ∀ (T n c v : Nat) (N : ax_M), J N → T ≤ 2 → c + n = z → N.1 2 3 = nI c → N.1 2 4 = nI (tx_sk B z a) → N.1 2 5 = nI T → N.1 2 6 = nI v → v ≤ 1000000 → (∀ N2 : ax_M, J N2 → N2.1 2 3 = nI (tx_run (tp T) B n c) → N2.1 2 4 = nI (tx_sk B z a) → N2.1 2 5 = nI T → N2.1 2 6 = nI (xn B T n c v) → ax_W l G kX6_advance (ax_FQ G Q) 1 0 0 N2 193 [some (av_r 2)] []) → ax_W l G kX6_advance (ax_FQ G Q) 1 0 0 N 109 [some (av_r 2)] [] := by
    intro T n
    induction n with
    | zero =>
      intro c v N hj hT hcn e3 e4 e5 e6 hv next
      have hok := Jo hj
      refine ax_aload_n dX6_advance_109 rfl ?_
      refine ax_getI (f := 3) dX6_advance_110 acl_6 wd_209 (by decide) rfl (lo_s hok 2 rfl) ?_
      refine ax_aload_n dX6_advance_113 rfl ?_
      refine ax_getI (f := 2) dX6_advance_114 acl_6 wd_208 (by decide) rfl (lo_s hok 2 rfl) ?_
      rw [e3, Jl hj]
      refine ax_icmp_ge (tgt := 193) dX6_advance_117 (by decide) (fun hc => ?_) (fun hc => ?_)
      · exact next N hj e3 e4 e5 e6
      · exact absurd ((nI_leI (by omega) (by omega)).mpr (by omega)) hc
    | succ n ih =>
      intro c v N hj hT hcn e3 e4 e5 e6 hv next
      have hok := Jo hj
      refine ax_aload_n dX6_advance_109 rfl ?_
      refine ax_getI (f := 3) dX6_advance_110 acl_6 wd_209 (by decide) rfl (lo_s hok 2 rfl) ?_
      refine ax_aload_n dX6_advance_113 rfl ?_
      refine ax_getI (f := 2) dX6_advance_114 acl_6 wd_208 (by decide) rfl (lo_s hok 2 rfl) ?_
      rw [e3, Jl hj]
      refine ax_icmp_ge (tgt := 193) dX6_advance_117 (by decide) (fun hc => ?_) (fun hc => ?_)
      · exact absurd ((nI_leI (by omega) (by omega)).mp hc) (by omega)
      clear hc
      refine ax_aload_n dX6_advance_120 rfl ?_
      refine ax_getK (f := 0) 3 dX6_advance_121 acl_6 wd_205 (by decide) rfl (lo_s hok 2 rfl) (lo_r hok 9 rfl) ?_
      refine ax_aload_n dX6_advance_124 rfl ?_
      refine ax_getI (f := 3) dX6_advance_125 acl_6 wd_209 (by decide) rfl (lo_s hok 2 rfl) ?_
      rw [e3]
      refine ax_ialdN (c) dX6_advance_128 (lo_s hok 3 rfl) (by decide) (by first | with_reducible rfl | assumption | exact ax_nix (by simp only [nx_0, nx_1, nx_2, nx_3, nx_4, nx_10, nx_20, nx_21, nx_100, nI_add, pk_mul] <;> rfl) (by omega) | decide) (by omega) ?_
      rw [Jb hj (by omega)]
      refine ax_callS (As := _) (c1 := 0) (n1 := 0) (c_tokenOf (d := 0) (M := N) _) dX6_advance_129 mX6_tokenOf wd_871 rfl (by omega) (by omega) (by omega) rfl rfl (fun _ _ h => by cases h.1) ?_
      rintro r M9 ⟨h1, h9⟩; cases h1; rw [h9]; clear h9 M9
      refine ax_aload_n dX6_advance_132 rfl ?_
      refine ax_getI (f := 5) dX6_advance_133 acl_6 wd_211 (by decide) rfl (lo_s hok 2 rfl) ?_
      rw [e5]
      have htb := tkc_b (B c)
      refine ax_icmp_ne (tgt := 193) dX6_advance_136 (by decide) (fun hc => ?_) (fun hc => ?_)
      · have hne : ¬ tp T (B c) = true := fun q => hc (by unfold tp at q; rw [decide_eq_true_eq] at q; rw [q])
        refine next N hj ?_ e4 e5 ?_
        · rw [tx_run_s, if_neg hne]; exact e3
        · unfold xn; rw [if_neg hne]; exact e6
      have hpp : tp T (B c) = true := by
        unfold tp; rw [decide_eq_true_eq]
        exact (nI_eq (by omega) (by omega)).mp hc
      clear hc
      have step : ∀ (N2 : ax_M) (w : Nat), J N2 → N2.1 2 3 = nI c → N2.1 2 4 = nI (tx_sk B z a) → N2.1 2 5 = nI T → N2.1 2 6 = nI w → w ≤ 1000000 → w = (if T = 1 ∧ v < 100000 then 10 * v + tx_d (B c) else v) → ax_W l G kX6_advance (ax_FQ G Q) 1 0 0 N2 180 [some (av_r 2)] [] := by
        intro N2 w hj2 f3 f4 f5 f6 hw hw2
        have hok := Jo hj2
        refine ax_aload_n dX6_advance_180 rfl ?_
        refine ax_dup dX6_advance_181 (by first | rfl | exact ax_crf _) ?_
        refine ax_getI (f := 3) dX6_advance_182 acl_6 wd_209 (by decide) rfl (lo_s hok 2 rfl) ?_
        rw [f3]
        refine ax_iconst (v := 1) dX6_advance_185 (by decide) ?_
        refine ax_iadd dX6_advance_186 ?_
        refine ax_putI (f := 3) dX6_advance_187 acl_6 wd_209 (by decide) rfl rfl (ax_nfI rfl) (lo_s hok 2 rfl) ?_
        rw [nI_1]
        refine ax_gen (fun N3 hN3 => ?_)
        have hok : lo_ok N3.2 := by rw [hN3]; exact hok
        refine ax_goto (tgt := 109) dX6_advance_190 (by decide) ?_
        refine ih (c + 1) w N3 (Jp hj2 hN3 (by omega)) hT (by omega) (by rw [hN3, ax_pa]) (by rw [hN3, ax_pn (by omega)]; exact f4) (by rw [hN3, ax_pn (by omega)]; exact f5) (by rw [hN3, ax_pn (by omega)]; exact f6) hw (fun N4 hj4 g3 g4 g5 g6 => next N4 hj4 ?_ g4 g5 ?_)
        · rw [tx_run_s, if_pos hpp]; exact g3
        · unfold xn; rw [if_pos hpp, ← hw2]; exact g6
      refine ax_aload_n dX6_advance_139 rfl ?_
      refine ax_getI (f := 5) dX6_advance_140 acl_6 wd_211 (by decide) rfl (lo_s hok 2 rfl) ?_
      refine ax_iconst (v := 1) dX6_advance_143 (by decide) ?_
      rw [e5]
      refine ax_icmp_ne (tgt := 180) dX6_advance_144 (by decide) (fun hc => ?_) (fun hc => ?_)
      · exact step N v hj e3 e4 e5 e6 hv (by rw [if_neg (fun q => hc (by rw [q.1]; rfl))])
      have hT1 : T = 1 := (nI_eq (b := 1) (by omega) (by omega)).mp hc
      clear hc
      refine ax_aload_n dX6_advance_147 rfl ?_
      refine ax_getI (f := 6) dX6_advance_148 acl_6 wd_215 (by decide) rfl (lo_s hok 2 rfl) ?_
      refine ax_ldc dX6_advance_151 wd_874 ?_
      rw [e6]
      refine ax_icmp_ge (tgt := 180) dX6_advance_153 (by decide) (fun hc => ?_) (fun hc => ?_)
      · have h5 : 100000 ≤ v := (nI_leI (a := 100000) (by omega) (by omega)).mp hc
        exact step N v hj e3 e4 e5 e6 hv (by rw [if_neg (by omega)])
      have h5 : v < 100000 := Nat.lt_of_not_le (fun q => hc ((nI_leI (a := 100000) (by omega) (by omega)).mpr q))
      clear hc
      have hdg : tx_dg (B c) = true := by rw [← tkc_1, ← hT1]; exact hpp
      have hd9 := (tx_dgn hdg).2
      refine ax_aload_n dX6_advance_156 rfl ?_
      refine ax_aload_n dX6_advance_157 rfl ?_
      refine ax_getI (f := 6) dX6_advance_158 acl_6 wd_215 (by decide) rfl (lo_s hok 2 rfl) ?_
      rw [e6]
      refine ax_bipush (v := 10) dX6_advance_161 (by decide) ?_
      refine ax_imul dX6_advance_163 ?_
      refine ax_aload_n dX6_advance_164 rfl ?_
      refine ax_getK (f := 0) 3 dX6_advance_165 acl_6 wd_205 (by decide) rfl (lo_s hok 2 rfl) (lo_r hok 9 rfl) ?_
      refine ax_aload_n dX6_advance_168 rfl ?_
      refine ax_getI (f := 3) dX6_advance_169 acl_6 wd_209 (by decide) rfl (lo_s hok 2 rfl) ?_
      rw [e3]
      refine ax_ialdN (c) dX6_advance_172 (lo_s hok 3 rfl) (by decide) (by first | with_reducible rfl | assumption | exact ax_nix (by simp only [nx_0, nx_1, nx_2, nx_3, nx_4, nx_10, nx_20, nx_21, nx_100, nI_add, pk_mul] <;> rfl) (by omega) | decide) (by omega) ?_
      rw [Jb hj (by omega)]
      refine ax_iadd dX6_advance_173 ?_
      refine ax_bipush (v := 48) dX6_advance_174 (by decide) ?_
      refine ax_isub dX6_advance_176 ?_
      rw [Int32.mul_comm, tx_stepv hdg]
      refine ax_putI (f := 6) dX6_advance_177 acl_6 wd_215 (by decide) rfl rfl (ax_nfI rfl) (lo_s hok 2 rfl) ?_
      refine ax_gen (fun N2 hN2 => ?_)
      have hok : lo_ok N2.2 := by rw [hN2]; exact hok
      exact step N2 _ (Jp hj hN2 (by omega)) (by rw [hN2, ax_pn (by omega)]; exact e3) (by rw [hN2, ax_pn (by omega)]; exact e4) (by rw [hN2, ax_pn (by omega)]; exact e5) (by rw [hN2, ax_pa]) (by omega) (by rw [if_pos ⟨hT1, h5⟩])
  -- behind the blanks
  have tok : ∀ (N : ax_M), J N → N.1 2 4 = nI (tx_sk B z a) → ax_W l G kX6_advance (ax_FQ G Q) 1 0 0 N 46 [some (av_r 2)] [] := by
    intro N hj e4
    generalize hb : tx_sk B z a = b at *
    have hok := Jo hj
    refine ax_aload_n dX6_advance_46 rfl ?_
    refine ax_aload_n dX6_advance_47 rfl ?_
    refine ax_getI (f := 4) dX6_advance_48 acl_6 wd_210 (by decide) rfl (lo_s hok 2 rfl) ?_
    rw [e4]
    refine ax_putI (f := 3) dX6_advance_51 acl_6 wd_209 (by decide) rfl rfl (ax_nfI rfl) (lo_s hok 2 rfl) ?_
    refine ax_gen (fun N1 hN1 => ?_)
    have hok : lo_ok N1.2 := by rw [hN1]; exact hok
    have j1 := Jp hj hN1 (by omega)
    refine ax_aload_n dX6_advance_54 rfl ?_
    refine ax_iconst (v := 0) dX6_advance_55 (by decide) ?_
    refine ax_putI (f := 6) dX6_advance_56 acl_6 wd_215 (by decide) rfl rfl (ax_nfI rfl) (lo_s hok 2 rfl) ?_
    refine ax_gen (fun N2 hN2 => ?_)
    have hok : lo_ok N2.2 := by rw [hN2]; exact hok
    have j2 := Jp j1 hN2 (by omega)
    have f3 : N2.1 2 3 = nI b := by rw [hN2, ax_pn (by omega), hN1, ax_pa]
    have f4 : N2.1 2 4 = nI b := by rw [hN2, ax_pn (by omega), hN1, ax_pn (by omega)]; exact e4
    have f6 : N2.1 2 6 = nI 0 := by rw [hN2, ax_pa]; rfl
    clear hN1 hN2
    have aft : ∀ x : Int32, x = nI (tk B z b) → ax_W l G kX6_advance (ax_FQ G Q) 1 0 0 N2 87 [some (av_r 2)] [av_i x, av_r 2] := by
      intro x hx
      have htk : tk B z b ≤ 3 := by
        unfold tk; have := (tkc_b (B b)).2; split <;> omega
      refine ax_putI (f := 5) dX6_advance_87 acl_6 wd_211 (by decide) rfl rfl (ax_nfI rfl) (lo_s hok 2 rfl) ?_
      refine ax_gen (fun N3 hN3 => ?_)
      have hok : lo_ok N3.2 := by rw [hN3]; exact hok
      have j3 := Jp j2 hN3 (by omega)
      have g3 : N3.1 2 3 = nI b := by rw [hN3, ax_pn (by omega)]; exact f3
      have g4 : N3.1 2 4 = nI b := by rw [hN3, ax_pn (by omega)]; exact f4
      have g5 : N3.1 2 5 = nI (tk B z b) := by rw [hN3, ax_pa]; exact hx
      have g6 : N3.1 2 6 = nI 0 := by rw [hN3, ax_pn (by omega)]; exact f6
      clear hN3
      refine ax_aload_n dX6_advance_90 rfl ?_
      refine ax_getI (f := 5) dX6_advance_91 acl_6 wd_211 (by decide) rfl (lo_s hok 2 rfl) ?_
      refine ax_iconst (v := 3) dX6_advance_94 (by decide) ?_
      rw [g5]
      refine ax_icmp_ne (tgt := 109) dX6_advance_95 (by decide) (fun hc => ?_) (fun hc => ?_)
      · have h3 : ¬ tk B z b = 3 := fun q => hc (by rw [q]; rfl)
        have h4 := run (tk B z b) (z - b) b 0 N3 j3 (by omega) (by omega) g3 g4 g5 g6 (by omega)
        refine h4 (fun N4 j4 k3 k4 k5 k6 => ?_)
        refine ax_vret dX6_advance_193 rfl ?_
        refine done N4 ((hJ _).mp j4) ?_
        unfold xt
        rw [hb]
        refine ⟨k4, k5, ?_, k6⟩
        unfold ta
        rw [if_neg h3]; exact k3
      · have h3 : tk B z b = 3 := (nI_eq (b := 3) (by omega) (by omega)).mp hc
        refine ax_aload_n dX6_advance_98 rfl ?_
        refine ax_dup dX6_advance_99 (by first | rfl | exact ax_crf _) ?_
        refine ax_getI (f := 3) dX6_advance_100 acl_6 wd_209 (by decide) rfl (lo_s hok 2 rfl) ?_
        rw [g3]
        refine ax_iconst (v := 1) dX6_advance_103 (by decide) ?_
        refine ax_iadd dX6_advance_104 ?_
        refine ax_putI (f := 3) dX6_advance_105 acl_6 wd_209 (by decide) rfl rfl (ax_nfI rfl) (lo_s hok 2 rfl) ?_
        rw [nI_1]
        refine ax_gen (fun N4 hN4 => ?_)
        have hok : lo_ok N4.2 := by rw [hN4]; exact hok
        refine ax_vret dX6_advance_108 rfl ?_
        refine done N4 ((hJ _).mp (Jp j3 hN4 (by omega))) ?_
        unfold xt
        rw [hb]
        refine ⟨by rw [hN4, ax_pn (by omega)]; exact g4, by rw [hN4, ax_pn (by omega)]; exact g5, ?_, ?_⟩
        · unfold ta
          rw [if_pos h3, hN4, ax_pa]
        · rw [hN4, ax_pn (by omega), g6]
          have hxn : xn B (tk B z b) (z - b) b 0 = 0 := by
            rw [h3]
            have : ∀ n c, xn B 3 n c 0 = 0 := by
              intro n
              induction n with
              | zero => intro c; rfl
              | succ n ih =>
                intro c
                unfold xn
                split
                · rw [if_neg (by omega)]; exact ih (c + 1)
                · rfl
            exact this _ _
          rw [hxn]
    refine ax_aload_n dX6_advance_59 rfl ?_
    refine ax_aload_n dX6_advance_60 rfl ?_
    refine ax_getI (f := 4) dX6_advance_61 acl_6 wd_210 (by decide) rfl (lo_s hok 2 rfl) ?_
    refine ax_aload_n dX6_advance_64 rfl ?_
    refine ax_getI (f := 2) dX6_advance_65 acl_6 wd_208 (by decide) rfl (lo_s hok 2 rfl) ?_
    rw [f4, Jl j2]
    refine ax_icmp_ge (tgt := 86) dX6_advance_68 (by decide) (fun hc => ?_) (fun hc => ?_)
    · have h := (nI_leI (by omega) (by omega)).mp hc
      refine ax_iconst (v := 0) dX6_advance_86 (by decide) ?_
      exact aft 0 (by unfold tk; rw [if_neg (by omega)]; rfl)
    · have h : b < z := Nat.lt_of_not_le (fun q => hc ((nI_leI (by omega) (by omega)).mpr q))
      refine ax_aload_n dX6_advance_71 rfl ?_
      refine ax_getK (f := 0) 3 dX6_advance_72 acl_6 wd_205 (by decide) rfl (lo_s hok 2 rfl) (lo_r hok 9 rfl) ?_
      refine ax_aload_n dX6_advance_75 rfl ?_
      refine ax_getI (f := 4) dX6_advance_76 acl_6 wd_210 (by decide) rfl (lo_s hok 2 rfl) ?_
      rw [f4]
      refine ax_ialdN (b) dX6_advance_79 (lo_s hok 3 rfl) (by decide) (by first | with_reducible rfl | assumption | exact ax_nix (by simp only [nx_0, nx_1, nx_2, nx_3, nx_4, nx_10, nx_20, nx_21, nx_100, nI_add, pk_mul] <;> rfl) (by omega) | decide) (by omega) ?_
      rw [Jb j2 h]
      refine ax_callS (As := _) (c1 := 0) (n1 := 0) (c_tokenOf (d := 0) (M := N2) _) dX6_advance_80 mX6_tokenOf wd_871 rfl (by omega) (by omega) (by omega) rfl rfl (fun _ _ h => by cases h.1) ?_
      rintro r M9 ⟨h1, h9⟩; cases h1; rw [h9]; clear h9 M9
      refine ax_goto (tgt := 87) dX6_advance_83 (by decide) ?_
      exact aft _ (by unfold tk; rw [if_pos h])
  have blank : ∀ (n b : Nat) (N : ax_M), J N → b + n = z → N.1 2 4 = nI b → tx_run tx_bl B n b = tx_sk B z a → ax_W l G kX6_advance (ax_FQ G Q) 1 0 0 N 8 [some (av_r 2)] [] := by
    intro n
    induction n with
    | zero =>
      intro b N hj hbn e4 hr
      have hok := Jo hj
      refine ax_aload_n dX6_advance_8 rfl ?_
      refine ax_getI (f := 4) dX6_advance_9 acl_6 wd_210 (by decide) rfl (lo_s hok 2 rfl) ?_
      refine ax_aload_n dX6_advance_12 rfl ?_
      refine ax_getI (f := 2) dX6_advance_13 acl_6 wd_208 (by decide) rfl (lo_s hok 2 rfl) ?_
      rw [e4, Jl hj]
      refine ax_icmp_ge (tgt := 46) dX6_advance_16 (by decide) (fun hc => ?_) (fun hc => ?_)
      · exact tok N hj (by rw [e4, ← hr]; rfl)
      · exact absurd ((nI_leI (by omega) (by omega)).mpr (by omega)) hc
    | succ n ih =>
      intro b N hj hbn e4 hr
      have hok := Jo hj
      refine ax_aload_n dX6_advance_8 rfl ?_
      refine ax_getI (f := 4) dX6_advance_9 acl_6 wd_210 (by decide) rfl (lo_s hok 2 rfl) ?_
      refine ax_aload_n dX6_advance_12 rfl ?_
      refine ax_getI (f := 2) dX6_advance_13 acl_6 wd_208 (by decide) rfl (lo_s hok 2 rfl) ?_
      rw [e4, Jl hj]
      refine ax_icmp_ge (tgt := 46) dX6_advance_16 (by decide) (fun hc => ?_) (fun hc => ?_)
      · exact absurd ((nI_leI (by omega) (by omega)).mp hc) (by omega)
      clear hc
      refine ax_aload_n dX6_advance_19 rfl ?_
      refine ax_getK (f := 0) 3 dX6_advance_20 acl_6 wd_205 (by decide) rfl (lo_s hok 2 rfl) (lo_r hok 9 rfl) ?_
      refine ax_aload_n dX6_advance_23 rfl ?_
      refine ax_getI (f := 4) dX6_advance_24 acl_6 wd_210 (by decide) rfl (lo_s hok 2 rfl) ?_
      rw [e4]
      refine ax_ialdN (b) dX6_advance_27 (lo_s hok 3 rfl) (by decide) (by first | with_reducible rfl | assumption | exact ax_nix (by simp only [nx_0, nx_1, nx_2, nx_3, nx_4, nx_10, nx_20, nx_21, nx_100, nI_add, pk_mul] <;> rfl) (by omega) | decide) (by omega) ?_
      rw [Jb hj (by omega)]
      refine ax_bipush (v := 32) dX6_advance_28 (by decide) ?_
      refine ax_icmp_ne (tgt := 46) dX6_advance_30 (by decide) (fun hc => ?_) (fun hc => ?_)
      · refine tok N hj ?_
        rw [e4, ← hr, tx_run_s, if_neg]
        unfold tx_bl
        simpa using hc
      · have h32 : tx_bl (B b) = true := by unfold tx_bl; simpa using hc
        refine ax_aload_n dX6_advance_33 rfl ?_
        refine ax_dup dX6_advance_34 (by first | rfl | exact ax_crf _) ?_
        refine ax_getI (f := 4) dX6_advance_35 acl_6 wd_210 (by decide) rfl (lo_s hok 2 rfl) ?_
        rw [e4]
        refine ax_iconst (v := 1) dX6_advance_38 (by decide) ?_
        refine ax_iadd dX6_advance_39 ?_
        refine ax_putI (f := 4) dX6_advance_40 acl_6 wd_210 (by decide) rfl rfl (ax_nfI rfl) (lo_s hok 2 rfl) ?_
        rw [nI_1]
        refine ax_gen (fun N2 hN2 => ?_)
        have hok : lo_ok N2.2 := by rw [hN2]; exact hok
        refine ax_goto (tgt := 8) dX6_advance_43 (by decide) ?_
        refine ih (b + 1) N2 (Jp hj hN2 (by omega)) (by omega) (by rw [hN2, ax_pa]) ?_
        rw [← hr, tx_run_s, if_pos h32]
  refine ax_body (by decide) (Nat.le_of_ble_eq_true rfl) ?_
  refine ax_aload_n dX6_advance_0 rfl ?_
  refine ax_aload_n dX6_advance_1 rfl ?_
  refine ax_getI (f := 3) dX6_advance_2 acl_6 wd_209 (by decide) rfl (lo_s hok 2 rfl) ?_
  rw [ha]
  refine ax_putI (f := 4) dX6_advance_5 acl_6 wd_210 (by decide) rfl rfl (ax_nfI rfl) (lo_s hok 2 rfl) ?_
  refine ax_gen (fun N hN => ?_)
  have hok : lo_ok N.2 := by rw [hN]; exact hok
  exact blank (z - a) a N (Jp ((hJ M).mpr ⟨rfl, fun _ _ _ => rfl⟩) hN (by omega)) (by omega) (by rw [hN, ax_pa]) rfl
end XT

