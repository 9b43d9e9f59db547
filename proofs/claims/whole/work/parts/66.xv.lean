/-! ===== the class works formulas out ===== -/
def nu (w : Int32 × Int32) : Prop := w.1 = 0 → ∃ j : Nat, j ≤ 999 ∧ w.2 = nI j
def nu1 (x : ps_R) : Prop := match x with
  | .inl _ => True
  | .inr q => ∀ w ∈ q.2, nu w
theorem nu_op {h : Nat} (h2 : 2 ≤ h) (h7 : h ≤ 7) : nu (nI h, 0) := fun c => absurd c (nI_ne0 (by omega) (by omega))
theorem nu1_th {x : ps_R} {f : Nat → List (Int32 × Int32) → ps_R} (h : nu1 x) (hf : ∀ b cs, (∀ w ∈ cs, nu w) → nu1 (f b cs)) : nu1 (ps_th x f) := by
  cases x with
  | inl e => trivial
  | inr q => exact hf q.1 q.2 h
theorem nu_app {a b : List (Int32 × Int32)} (h1 : ∀ w ∈ a, nu w) (h2 : ∀ w ∈ b, nu w) : ∀ w ∈ a ++ b, nu w := fun w hw => (List.mem_append.mp hw).elim (h1 w) (h2 w)
theorem nu_one {w : Int32 × Int32} (h : nu w) : ∀ x ∈ [w], nu x := fun x hx => by rw [List.mem_singleton.mp hx]; exact h
theorem nu1_sign {B : Nat → Int32} {z a : Nat} {c : Int32} {cs : List (Int32 × Int32)} (h : ∀ w ∈ cs, nu w) : nu1 (ps_sign B z c a cs) := by
  unfold ps_sign
  split
  · exact h
  · trivial
theorem nu1_many {B : Nat → Int32} {z h1 h2 : Nat} {u : Nat → ps_R} {s1 s2 : Int32} (hu : ∀ a, nu1 (u a)) (b1 : 2 ≤ h1 ∧ h1 ≤ 7) (b2 : 2 ≤ h2 ∧ h2 ≤ 7) : ∀ (n a : Nat) (cs : List (Int32 × Int32)), (∀ w ∈ cs, nu w) → nu1 (ps_many B z u s1 s2 (nI h1) (nI h2) n a cs)
  | 0, a, cs, q1 => q1
  | n + 1, a, cs, q1 => by
    show nu1 (if _ then _ else if _ then _ else _)
    split
    · exact nu1_th (hu _) (fun b ds hd => nu1_many hu b1 b2 n b _ (nu_app (nu_app q1 hd) (nu_one (nu_op b1.1 b1.2))))
    · split
      · exact nu1_th (hu _) (fun b ds hd => nu1_many hu b1 b2 n b _ (nu_app (nu_app q1 hd) (nu_one (nu_op b2.1 b2.2))))
      · exact q1
theorem nu1_prod {B : Nat → Int32} {z : Nat} {u : Nat → ps_R} (hu : ∀ a, nu1 (u a)) (a : Nat) : nu1 (ps_prod B z u a) := nu1_th (hu a) (fun b cs h => nu1_many (h1 := 4) (h2 := 5) hu (by decide) (by decide) _ b cs h)
theorem nu1_sum {B : Nat → Int32} {z : Nat} {u : Nat → ps_R} (hu : ∀ a, nu1 (u a)) (a : Nat) : nu1 (ps_sum B z u a) := nu1_th (nu1_prod hu a) (fun b cs h => nu1_many (h1 := 2) (h2 := 3) (nu1_prod hu) (by decide) (by decide) _ b cs h)
theorem nu1_atom {B : Nat → Int32} {z a : Nat} : nu1 (ps_atom B z a) := by
  unfold ps_atom
  split
  · exact nu_one (fun c => absurd c (show ¬ (1 : Int32) = 0 by decide))
  · split
    · rename_i c
      have h := tx_num_v c
      refine nu_one (fun _ => ⟨_, ?_, rfl⟩)
      exact (nI_leI (b := 999) (by omega) (by omega)).mp h.2.1
    · trivial
theorem nu1_pair {B : Nat → Int32} {z h a : Nat} {u : Nat → ps_R} (hu : ∀ a, nu1 (u a)) (hh : 2 ≤ h ∧ h ≤ 7) : nu1 (ps_pair B z u (nI h) a) := by
  unfold ps_pair
  exact nu1_th (nu1_sign (fun w hw => by cases hw)) (fun b _ _ => nu1_th (hu b) (fun c cs h1 => nu1_th (nu1_sign h1) (fun e cs2 h2 => nu1_th (hu e) (fun f ds h3 => nu1_sign (nu_app (nu_app h2 h3) (nu_one (nu_op hh.1 hh.2)))))))
theorem nu1_one {B : Nat → Int32} {z : Nat} : ∀ (r a : Nat), nu1 (ps_one B z r a)
  | 0, a => by
    show nu1 (if _ then _ else _)
    split
    · trivial
    · exact nu1_atom
  | r + 1, a => by
    have ih := nu1_sum (B := B) (z := z) (nu1_one (B := B) (z := z) r)
    show nu1 (if _ then _ else if _ then _ else if _ then _ else _)
    split
    · exact nu1_pair (h := 6) ih (by decide)
    · split
      · exact nu1_pair (h := 7) ih (by decide)
      · split
        · exact nu1_th (ih _) (fun b cs h => nu1_sign h)
        · exact nu1_atom
theorem nu_text {B : Nat → Int32} {z : Nat} {cs : List (Int32 × Int32)} (h : ps_text B z = .inr cs) : ∀ w ∈ cs, nu w := by
  have h1 := nu1_sum (B := B) (z := z) (nu1_one (B := B) (z := z) 6) (tx_sk B z 0)
  unfold ps_text at h
  cases hx : ps_sum B z (ps_one B z 6) (tx_sk B z 0) with
  | inl e => rw [hx] at h; cases h
  | inr q =>
    rw [hx] at h h1
    simp only [] at h
    split at h
    · cases h
    · cases h; exact h1
/-- the formula at F -/
def xfm (M : ax_M) (F : Nat) (cs : List (Int32 × Int32)) : Prop := ev_good cs ∧ (∀ w ∈ cs, nu w) ∧ M.1 F 1 = nI cs.length ∧ ∀ j w, cs[j]? = some w → M.1 (F + 1) j = enc w
theorem xfm_fr {M M2 : ax_M} {F : Nat} {cs : List (Int32 × Int32)} (h : xfm M F cs) (hf : ∀ n i, n = F ∨ n = F + 1 → M2.1 n i = M.1 n i) : xfm M2 F cs := ⟨h.1, h.2.1, (hf _ _ (Or.inl rfl)).trans h.2.2.1, fun j w hw => (hf _ _ (Or.inr rfl)).trans (h.2.2.2 j w hw)⟩
theorem i32_dn (u : Int32) : u / -1 = -u := by
  apply Int32.toInt_inj.mp
  rw [Int32.toInt_div, show (-1 : Int32).toInt = -1 from rfl, Int.tdiv_neg, Int.tdiv_one, Int32.toInt_neg]
section XV
variable {l : Launch} {G : ax_G} {M : ax_M} {F : Nat}
theorem c_joined {d h : Nat} (h2 : 2 ≤ h) (h7 : h ≤ 7) (u v : Int32) {x : Int32} (hx : x = nI h - 2) : ax_Met l G kX2_joined d 0 0 M [av_i x, av_i u, av_i v] (ax_p (av_i (ev_op (nI h) u v)) M) := by
  subst hx
  refine ax_body (by decide) (Nat.le_of_ble_eq_true rfl) ?_
  refine ax_iload_n dX2_joined_0 rfl ?_
  rcases (show h = 2 ∨ h = 3 ∨ h = 4 ∨ h = 5 ∨ h = 6 ∨ h = 7 by omega) with rfl | rfl | rfl | rfl | rfl | rfl
  · refine ax_tableIn (off := 35) (tgt := 36) dX2_joined_1 (by decide) (by decide) rfl (by decide) ?_
    refine ax_iload_n dX2_joined_36 rfl ?_
    refine ax_iload_n dX2_joined_37 rfl ?_
    refine ax_iadd dX2_joined_38 ?_
    refine ax_iret dX2_joined_39 rfl ?_
    exact ⟨rfl, rfl⟩
  · refine ax_tableIn (off := 39) (tgt := 40) dX2_joined_1 (by decide) (by decide) rfl (by decide) ?_
    refine ax_iload_n dX2_joined_40 rfl ?_
    refine ax_iload_n dX2_joined_41 rfl ?_
    refine ax_isub dX2_joined_42 ?_
    refine ax_iret dX2_joined_43 rfl ?_
    exact ⟨rfl, rfl⟩
  · refine ax_tableIn (off := 43) (tgt := 44) dX2_joined_1 (by decide) (by decide) rfl (by decide) ?_
    refine ax_iload_n dX2_joined_44 rfl ?_
    refine ax_iload_n dX2_joined_45 rfl ?_
    refine ax_imul dX2_joined_46 ?_
    refine ax_iret dX2_joined_47 rfl ?_
    exact ⟨rfl, rfl⟩
  · refine ax_tableIn (off := 47) (tgt := 48) dX2_joined_1 (by decide) (by decide) rfl (by decide) ?_
    have e : ev_op (nI 5) u v = if v = 0 then 0 else if v = -1 then -u else u / v := rfl
    rw [e]
    refine ax_iload_n dX2_joined_48 rfl ?_
    refine ax_if_ne (tgt := 56) dX2_joined_49 (by decide) (fun hc => ?_) (fun hc => ?_)
    · refine ax_iload_n dX2_joined_56 rfl ?_
      refine ax_iload_n dX2_joined_57 rfl ?_
      refine ax_idiv dX2_joined_58 hc ?_
      refine ax_iret dX2_joined_59 rfl ?_
      rw [if_neg hc]
      refine ⟨?_, rfl⟩
      split
      · rename_i c; rw [c, i32_dn]
      · rfl
    · refine ax_iconst (v := 0) dX2_joined_52 (by decide) ?_
      refine ax_goto (tgt := 59) dX2_joined_53 (by decide) ?_
      refine ax_iret dX2_joined_59 rfl ?_
      rw [if_pos hc]; exact ⟨rfl, rfl⟩
  · refine ax_tableIn (off := 59) (tgt := 60) dX2_joined_1 (by decide) (by decide) rfl (by decide) ?_
    have e : ev_op (nI 6) u v = if u < v then u else v := rfl
    rw [e]
    refine ax_iload_n dX2_joined_60 rfl ?_
    refine ax_iload_n dX2_joined_61 rfl ?_
    refine ax_icmp_ge (tgt := 69) dX2_joined_62 (by decide) (fun hc => ?_) (fun hc => ?_)
    · refine ax_iload_n dX2_joined_69 rfl ?_
      refine ax_iret dX2_joined_70 rfl ?_
      rw [if_neg (Int32.not_lt.mpr hc)]; exact ⟨rfl, rfl⟩
    · refine ax_iload_n dX2_joined_65 rfl ?_
      refine ax_goto (tgt := 70) dX2_joined_66 (by decide) ?_
      refine ax_iret dX2_joined_70 rfl ?_
      rw [if_pos (Int32.not_le.mp hc)]; exact ⟨rfl, rfl⟩
  · refine ax_tableOut (tgt := 71) dX2_joined_1 (by decide) (by decide) ?_
    have e : ev_op (nI 7) u v = if v < u then u else v := rfl
    rw [e]
    refine ax_iload_n dX2_joined_71 rfl ?_
    refine ax_iload_n dX2_joined_72 rfl ?_
    refine ax_icmp_le (tgt := 80) dX2_joined_73 (by decide) (fun hc => ?_) (fun hc => ?_)
    · refine ax_iload_n dX2_joined_80 rfl ?_
      refine ax_iret dX2_joined_81 rfl ?_
      rw [if_neg (Int32.not_lt.mpr hc)]; exact ⟨rfl, rfl⟩
    · refine ax_iload_n dX2_joined_76 rfl ?_
      refine ax_goto (tgt := 81) dX2_joined_77 (by decide) ?_
      refine ax_iret dX2_joined_81 rfl ?_
      rw [if_pos (Int32.not_le.mp hc)]; exact ⟨rfl, rfl⟩
theorem c_variableBy {d j : Nat} (hok : lo_ok M.2) (hj : j < 12) {x : Int32} (hx : x = nI j) : ax_Met l G kX2_variableBy d 0 0 M [av_r 22, av_i x] (ax_p (av_i (M.1 22 j)) M) := by
  subst hx
  refine ax_body (by decide) (Nat.le_of_ble_eq_true rfl) ?_
  refine ax_iload_n dX2_variableBy_0 rfl ?_
  refine ax_if_lt (tgt := 16) dX2_variableBy_1 (by decide) (fun hc => ?_) (fun hc => ?_)
  · exact absurd ((nI_ltI (b := 0) (by omega) (by omega)).mp hc) (by omega)
  refine ax_iload_n dX2_variableBy_4 rfl ?_
  refine ax_aload_n dX2_variableBy_5 rfl ?_
  refine ax_alen dX2_variableBy_6 (lo_s hok 22 rfl) (by decide) ?_
  refine ax_icmp_ge (tgt := 16) dX2_variableBy_7 (by decide) (fun hc => ?_) (fun hc => ?_)
  · exact absurd ((nI_leI (by omega) (by omega)).mp hc) (by omega)
  refine ax_aload_n dX2_variableBy_10 rfl ?_
  refine ax_iload_n dX2_variableBy_11 rfl ?_
  refine ax_ialdN (j) dX2_variableBy_12 (lo_s hok 22 rfl) (by decide) (by first | with_reducible rfl | assumption | exact ax_nix (by simp only [nx_0, nx_1, nx_2, nx_3, nx_4, nx_10, nx_20, nx_21, nx_100, nI_add, pk_mul] <;> rfl) (by omega) | decide) (by omega) ?_
  refine ax_goto (tgt := 17) dX2_variableBy_13 (by decide) ?_
  refine ax_iret dX2_variableBy_17 rfl ?_
  exact ⟨rfl, rfl⟩
set_option maxHeartbeats 2000000 in
theorem c_valueBy (hok : lo_ok M.2) (hF : xh_F F) {cs : List (Int32 × Int32)} (hl : xfm M F cs) : ax_Met l G kX2_valueBy 1 0 0 M [av_r F, av_r 22] (fun o M2 => o = .inl (some (av_i (ev (M.1 22) cs))) ∧ M2.2 = M.2 ∧ ∀ n i, n ≠ F + 2 → M2.1 n i = M.1 n i) := by
  obtain ⟨⟨hv, hd, h150, h1l⟩, hnu, hn, hcs⟩ := hl
  have h2F := xh_F2 hF
  have hFn : F + 2 ≠ 22 := by unfold xh_F at hF; omega
  have J : ∃ J : ax_M → Prop, ∀ N, J N ↔ (N.2 = M.2 ∧ ∀ n i, n ≠ F + 2 → N.1 n i = M.1 n i) := ⟨_, fun _ => Iff.rfl⟩
  obtain ⟨J, hJ⟩ := J
  generalize hQ : (fun (o : ax_O) (M2 : ax_M) => o = .inl (some (av_i (ev (M.1 22) cs))) ∧ M2.2 = M.2 ∧ ∀ n i, n ≠ F + 2 → M2.1 n i = M.1 n i) = Q
  have Jp : ∀ {N N2 : ax_M} {i : Nat} {x : Int32}, J N → N2 = ax_pI N (F + 2) i x → J N2 := by
    intro N N2 i x h e
    subst e
    obtain ⟨a1, a2⟩ := (hJ N).mp h
    exact (hJ _).mpr ⟨a1, fun n j q => (ax_pn (by omega)).trans (a2 n j q)⟩
  refine ax_body (by decide) (Nat.le_of_ble_eq_true rfl) ?_
  have loop : ∀ (rs ds : List (Int32 × Int32)) (st : List Int32) (N : ax_M) (y4 : Option ax_V), ds ++ rs = cs → J N → ds.foldl (ev_st (M.1 22)) [] = st → (∀ j x, st[j]? = some x → N.1 (F + 2) (st.length - 1 - j) = x) → ev_d 40 st.length rs = some 1 → st.length ≤ 40 → ax_W l G kX2_valueBy (ax_FQ G Q) 1 0 0 N 4 [some (av_r F), some (av_r 22), some (av_i (nI st.length)), some (av_i (nI ds.length)), y4] [] := by
    intro rs
    induction rs with
    | nil =>
      intro ds st N y4 hds hj hst hm hdep hl40
      obtain ⟨j1, j2⟩ := (hJ N).mp hj
      have hok : lo_ok N.2 := by rw [j1]; exact hok
      have e : ds = cs := by rw [← hds]; simp
      have e1 : st.length = 1 := Option.some.inj hdep
      refine ax_iload_n dX2_valueBy_4 rfl ?_
      refine ax_aload_n dX2_valueBy_5 rfl ?_
      refine ax_getI (f := 1) dX2_valueBy_6 acl_2 wd_340 (by decide) rfl (xs_F_0 hF hok) ?_
      rw [j2 F 1 (by omega), hn, e]
      refine ax_icmp_ge (tgt := 112) dX2_valueBy_9 (by decide) (fun hc => ?_) (fun hc => ?_)
      · refine ax_iload_n dX2_valueBy_112 rfl ?_
        rw [e1]
        refine ax_if_le (tgt := 125) dX2_valueBy_113 (by decide) (fun hc => ?_) (fun hc => ?_)
        · exact absurd ((nI_leI (b := 0) (by omega) (by omega)).mp hc) (by omega)
        refine ax_aload_n dX2_valueBy_116 rfl ?_
        refine ax_getK (f := 2) (F + 2) dX2_valueBy_117 acl_2 wd_341 (by decide) rfl (xs_F_0 hF hok) (xr_F_2 hF hok) ?_
        refine ax_iconst (v := 0) dX2_valueBy_120 (by decide) ?_
        refine ax_ialdN (0) dX2_valueBy_121 (xs_F_2 hF hok) (by decide) (by decide) (by decide) ?_
        refine ax_goto (tgt := 126) dX2_valueBy_122 (by decide) ?_
        refine ax_iret dX2_valueBy_126 rfl ?_
        rw [← hQ]
        refine ⟨?_, j1, j2⟩
        cases st with
        | nil => cases e1
        | cons v r =>
          have h0 := hm 0 v rfl
          rw [e1] at h0
          have h1 : N.1 (F + 2) 0 = v := h0
          rw [h1, ev, ← e, hst]
          rfl
      · exact absurd ((nI_leI (by omega) (by omega)).mpr (Nat.le_refl _)) hc
    | cons q rs ih =>
      intro ds st N y4 hds hj hst hm hdep hl40
      obtain ⟨j1, j2⟩ := (hJ N).mp hj
      have hok : lo_ok N.2 := by rw [j1]; exact hok
      have hlen : ds.length < cs.length := by rw [← hds]; simp
      have hq : cs[ds.length]? = some q := by rw [← hds]; simp
      have hmem : q ∈ cs := List.mem_of_getElem? hq
      have q1 := hcs _ _ hq
      have hds2 : (ds ++ [q]) ++ rs = cs := by rw [← hds, List.append_assoc]; rfl
      have hst2 : (ds ++ [q]).foldl (ev_st (M.1 22)) [] = ev_st (M.1 22) st q := by rw [List.foldl_append, hst]; rfl
      have hl2 : (ds ++ [q]).length = ds.length + 1 := by simp
      refine ax_iload_n dX2_valueBy_4 rfl ?_
      refine ax_aload_n dX2_valueBy_5 rfl ?_
      refine ax_getI (f := 1) dX2_valueBy_6 acl_2 wd_340 (by decide) rfl (xs_F_0 hF hok) ?_
      rw [j2 F 1 (by omega), hn]
      refine ax_icmp_ge (tgt := 112) dX2_valueBy_9 (by decide) (fun hc => ?_) (fun hc => ?_)
      · exact absurd ((nI_leI (by omega) (by omega)).mp hc) (by omega)
      clear hc
      refine ax_aload_n dX2_valueBy_12 rfl ?_
      refine ax_getK (f := 0) (F + 1) dX2_valueBy_13 acl_2 wd_339 (by decide) rfl (xs_F_0 hF hok) (xr_F_0 hF hok) ?_
      refine ax_iload_n dX2_valueBy_16 rfl ?_
      refine ax_ialdN (ds.length) dX2_valueBy_17 (xs_F_1 hF hok) (by decide) (by first | with_reducible rfl | assumption | exact ax_nix (by simp only [nx_0, nx_1, nx_2, nx_3, nx_4, nx_10, nx_20, nx_21, nx_100, nI_add, pk_mul] <;> rfl) (by omega) | decide) (by omega) ?_
      rw [j2 (F + 1) _ (by omega), q1]
      refine ax_istore dX2_valueBy_18 (by decide) rfl ?_
      refine ax_iload dX2_valueBy_20 rfl ?_
      refine ax_bipush (v := 100) dX2_valueBy_22 (by decide) ?_
      rw [ev_d_s] at hdep
      have next : ∀ (N2 : ax_M) (st2 : List Int32), J N2 → st2 = ev_st (M.1 22) st q → (∀ j x, st2[j]? = some x → N2.1 (F + 2) (st2.length - 1 - j) = x) → ev_d 40 st2.length rs = some 1 → st2.length ≤ 40 → ax_W l G kX2_valueBy (ax_FQ G Q) 1 0 0 N2 106 [some (av_r F), some (av_r 22), some (av_i (nI st2.length)), some (av_i (nI ds.length)), some (av_i (enc q))] [] := by
        intro N2 st2 hj2 hs2 hm2 hd2 hl3
        refine ax_iinc (v := 1) dX2_valueBy_106 rfl (by decide) (by decide) rfl ?_
        refine ax_goto (tgt := 4) dX2_valueBy_109 (by decide) ?_
        have h9 := ih (ds ++ [q]) st2 N2 (some (av_i (enc q))) hds2 hj2 (hst2.trans hs2.symm) hm2 hd2 hl3
        rw [hl2] at h9
        rw [nI_1]
        exact h9
      have push : ∀ (v : Int32), ev_st (M.1 22) st q = v :: st → st.length < 40 → ev_d 40 (st.length + 1) rs = some 1 → ax_W l G kX2_valueBy (ax_FQ G Q) 1 0 0 N 102 [some (av_r F), some (av_r 22), some (av_i (nI st.length)), some (av_i (nI ds.length)), some (av_i (enc q))] [av_i v, av_i (nI st.length), av_r (F + 2)] := by
        intro v hs hlt hd2
        refine ax_iastN (st.length) dX2_valueBy_102 (xs_F_2 hF hok) (by decide) (by first | with_reducible rfl | assumption | exact ax_nix (by simp only [nx_0, nx_1, nx_2, nx_3, nx_4, nx_10, nx_20, nx_21, nx_100, nI_add, pk_mul] <;> rfl) (by omega) | decide) (by omega) ?_
        refine ax_gen (fun N2 hN2 => ?_)
        have hok : lo_ok N2.2 := by rw [hN2]; exact hok
        refine ax_iinc (v := 1) dX2_valueBy_103 rfl (by decide) (by decide) rfl ?_
        rw [nI_1]
        refine next N2 (v :: st) (Jp hj hN2) hs.symm (fun j x hx => ?_) hd2 (by simp; omega)
        cases j with
        | zero =>
          have ev1 : v = x := Option.some.inj hx
          rw [← ev1, hN2]
          show (ax_pI N (F + 2) st.length v).1 (F + 2) (st.length + 1 - 1 - 0) = v
          rw [show st.length + 1 - 1 - 0 = st.length by omega]
          exact ax_pa _ _ _ _
        | succ j =>
          have hx2 : st[j]? = some x := hx
          have hj : j < st.length := (List.getElem?_eq_some_iff.mp hx2).1
          rw [hN2]
          show (ax_pI N (F + 2) st.length v).1 (F + 2) (st.length + 1 - 1 - (j + 1)) = x
          rw [ax_pn (by omega), show st.length + 1 - 1 - (j + 1) = st.length - 1 - j by omega]
          exact hm j x hx2
      rcases hv q hmem with c0 | ⟨c1, j, hj12, ej⟩ | ⟨h, h2, h7, ch⟩
      · obtain ⟨w, hw, ew⟩ := hnu q hmem c0
        have ee : enc q = nI (1000 + w) := by unfold enc; rw [if_pos c0, ew, show (1000 : Int32) = nI 1000 from rfl, nI_add]
        rw [if_pos (Or.inl c0)] at hdep
        split at hdep
        · rename_i hlt
          rw [ee] at push ⊢
          refine ax_icmp_ge (tgt := 65) dX2_valueBy_24 (by decide) (fun hc => ?_) (fun hc => ?_)
          rotate_left
          · exact absurd ((nI_leI (a := 100) (by omega) (by omega)).mpr (by omega)) hc
          clear hc
          refine ax_iload_n dX2_valueBy_65 rfl ?_
          refine ax_bipush (v := 40) dX2_valueBy_66 (by decide) ?_
          refine ax_icmp_ge (tgt := 106) dX2_valueBy_68 (by decide) (fun hc => ?_) (fun hc => ?_)
          · exact absurd ((nI_leI (a := 40) (by omega) (by omega)).mp hc) (by omega)
          clear hc
          refine ax_aload_n dX2_valueBy_71 rfl ?_
          refine ax_getK (f := 2) (F + 2) dX2_valueBy_72 acl_2 wd_341 (by decide) rfl (xs_F_0 hF hok) (xr_F_2 hF hok) ?_
          refine ax_iload_n dX2_valueBy_75 rfl ?_
          refine ax_iload dX2_valueBy_76 rfl ?_
          refine ax_sipush (v := 1000) dX2_valueBy_78 (by decide) ?_
          refine ax_icmp_lt (tgt := 93) dX2_valueBy_81 (by decide) (fun hc => ?_) (fun hc => ?_)
          · exact absurd ((nI_ltI (b := 1000) (by omega) (by omega)).mp hc) (by omega)
          clear hc
          refine ax_iload dX2_valueBy_84 rfl ?_
          refine ax_sipush (v := 1000) dX2_valueBy_86 (by decide) ?_
          refine ax_isub dX2_valueBy_89 ?_
          rw [show (1000 : Int32) = nI 1000 from rfl, pk_sub (by omega), Nat.add_sub_cancel_left]
          refine ax_goto (tgt := 102) dX2_valueBy_90 (by decide) ?_
          exact push (nI w) (by show (if q.1 = 0 then _ else _) = _; rw [if_pos c0, ew]) hlt hdep
        · cases hdep
      · have ee : enc q = nI (100 + j) := by unfold enc; rw [if_neg (by rw [c1]; decide), if_pos c1, ej, show (100 : Int32) = nI 100 from rfl, nI_add]
        rw [if_pos (Or.inr c1)] at hdep
        split at hdep
        · rename_i hlt
          rw [ee] at push ⊢
          refine ax_icmp_ge (tgt := 65) dX2_valueBy_24 (by decide) (fun hc => ?_) (fun hc => ?_)
          rotate_left
          · exact absurd ((nI_leI (a := 100) (by omega) (by omega)).mpr (by omega)) hc
          clear hc
          refine ax_iload_n dX2_valueBy_65 rfl ?_
          refine ax_bipush (v := 40) dX2_valueBy_66 (by decide) ?_
          refine ax_icmp_ge (tgt := 106) dX2_valueBy_68 (by decide) (fun hc => ?_) (fun hc => ?_)
          · exact absurd ((nI_leI (a := 40) (by omega) (by omega)).mp hc) (by omega)
          clear hc
          refine ax_aload_n dX2_valueBy_71 rfl ?_
          refine ax_getK (f := 2) (F + 2) dX2_valueBy_72 acl_2 wd_341 (by decide) rfl (xs_F_0 hF hok) (xr_F_2 hF hok) ?_
          refine ax_iload_n dX2_valueBy_75 rfl ?_
          refine ax_iload dX2_valueBy_76 rfl ?_
          refine ax_sipush (v := 1000) dX2_valueBy_78 (by decide) ?_
          refine ax_icmp_lt (tgt := 93) dX2_valueBy_81 (by decide) (fun hc => ?_) (fun hc => ?_)
          rotate_left
          · exact absurd ((nI_ltI (b := 1000) (by omega) (by omega)).mpr (by omega)) hc
          clear hc
          refine ax_aload_n dX2_valueBy_93 rfl ?_
          refine ax_iload dX2_valueBy_94 rfl ?_
          refine ax_bipush (v := 100) dX2_valueBy_96 (by decide) ?_
          refine ax_isub dX2_valueBy_98 ?_
          rw [show (100 : Int32) = nI 100 from rfl, pk_sub (by omega), Nat.add_sub_cancel_left]
          refine ax_callS (As := _) (c1 := 0) (n1 := 0) (c_variableBy (d := 0) (M := N) hok hj12 rfl) dX2_valueBy_99 mX2_variableBy wd_695 rfl (by omega) (by omega) (by omega) rfl rfl (fun _ _ h => by cases h.1) ?_
          rintro r M9 ⟨h1, h9⟩; cases h1; rw [h9]; clear h9 M9
          refine push _ ?_ hlt hdep
          show (if q.1 = 0 then _ else if q.1 = 1 then _ else _) = _
          rw [if_neg (by rw [c1]; decide), if_pos c1, ej, nI_clamp (by omega), j2 22 _ (by omega)]
        · cases hdep
      · have n0 : ¬ q.1 = 0 := by rw [ch]; exact nI_ne0 (by omega) (by omega)
        have n1 : ¬ q.1 = 1 := by
          rw [ch]; intro e9
          have := (nI_eq (b := 1) (by omega) (by omega)).mp e9
          omega
        have ee : enc q = nI h - 2 := by unfold enc; rw [if_neg n0, if_neg n1, ch]
        have ee2 : nI h - 2 = nI (h - 2) := by rw [show (2 : Int32) = nI 2 from rfl, pk_sub h2]
        rw [if_neg (by rintro (e9 | e9); exact n0 e9; exact n1 e9)] at hdep
        split at hdep
        · rename_i hge
          obtain ⟨v, u, r, rfl⟩ : ∃ v u r, st = v :: u :: r := by
            cases st with
            | nil => simp at hge
            | cons v r => cases r with
              | nil => simp at hge
              | cons u r => exact ⟨v, u, r, rfl⟩
          have hlr : (v :: u :: r).length = r.length + 2 := rfl
          rw [hlr] at hdep hl40
          have hv1 : N.1 (F + 2) (r.length + 1) = v := hm 0 v rfl
          have hu1 : N.1 (F + 2) r.length = u := by have := hm 1 u rfl; rw [hlr] at this; exact this
          rw [ee, hlr]
          rw [ee] at next
          refine ax_icmp_ge (tgt := 65) dX2_valueBy_24 (by decide) (fun hc => ?_) (fun hc => ?_)
          · rw [ee2] at hc
            exact absurd ((nI_leI (a := 100) (by omega) (by omega)).mp hc) (by omega)
          clear hc
          refine ax_iload_n dX2_valueBy_27 rfl ?_
          refine ax_iconst (v := 2) dX2_valueBy_28 (by decide) ?_
          refine ax_icmp_lt (tgt := 106) dX2_valueBy_29 (by decide) (fun hc => ?_) (fun hc => ?_)
          · exact absurd ((nI_ltI (b := 2) (by omega) (by omega)).mp hc) (by omega)
          clear hc
          refine ax_iinc (v := (-1)) dX2_valueBy_32 rfl (by decide) (by decide) rfl ?_
          rw [show nI (r.length + 2) + -1 = nI (r.length + 1) by rw [show (-1 : Int32) = iI (-1) from rfl, iI_nI, iI_add, iI_nI]; congr 1; omega]
          refine ax_aload_n dX2_valueBy_35 rfl ?_
          refine ax_getK (f := 2) (F + 2) dX2_valueBy_36 acl_2 wd_341 (by decide) rfl (xs_F_0 hF hok) (xr_F_2 hF hok) ?_
          refine ax_iload_n dX2_valueBy_39 rfl ?_
          refine ax_iconst (v := 1) dX2_valueBy_40 (by decide) ?_
          refine ax_isub dX2_valueBy_41 ?_
          rw [show nI (r.length + 1) - 1 = nI r.length by rw [show (1 : Int32) = nI 1 from rfl, pk_sub (by omega), Nat.add_sub_cancel]]
          refine ax_iload dX2_valueBy_42 rfl ?_
          refine ax_aload_n dX2_valueBy_44 rfl ?_
          refine ax_getK (f := 2) (F + 2) dX2_valueBy_45 acl_2 wd_341 (by decide) rfl (xs_F_0 hF hok) (xr_F_2 hF hok) ?_
          refine ax_iload_n dX2_valueBy_48 rfl ?_
          refine ax_iconst (v := 1) dX2_valueBy_49 (by decide) ?_
          refine ax_isub dX2_valueBy_50 ?_
          rw [show nI (r.length + 1) - 1 = nI r.length by rw [show (1 : Int32) = nI 1 from rfl, pk_sub (by omega), Nat.add_sub_cancel]]
          refine ax_ialdN (r.length) dX2_valueBy_51 (xs_F_2 hF hok) (by decide) (by first | with_reducible rfl | assumption | exact ax_nix (by simp only [nx_0, nx_1, nx_2, nx_3, nx_4, nx_10, nx_20, nx_21, nx_100, nI_add, pk_mul] <;> rfl) (by omega) | decide) (by omega) ?_
          rw [hu1]
          refine ax_aload_n dX2_valueBy_52 rfl ?_
          refine ax_getK (f := 2) (F + 2) dX2_valueBy_53 acl_2 wd_341 (by decide) rfl (xs_F_0 hF hok) (xr_F_2 hF hok) ?_
          refine ax_iload_n dX2_valueBy_56 rfl ?_
          refine ax_ialdN (r.length + 1) dX2_valueBy_57 (xs_F_2 hF hok) (by decide) (by first | with_reducible rfl | assumption | exact ax_nix (by simp only [nx_0, nx_1, nx_2, nx_3, nx_4, nx_10, nx_20, nx_21, nx_100, nI_add, pk_mul] <;> rfl) (by omega) | decide) (by omega) ?_
          rw [hv1]
          refine ax_callS (As := _) (c1 := 0) (n1 := 0) (c_joined (d := 0) (M := N) h2 h7 u v rfl) dX2_valueBy_58 mX2_joined wd_692 rfl (by omega) (by omega) (by omega) rfl rfl (fun _ _ h => by cases h.1) ?_
          rintro r M9 ⟨h1, h9⟩; cases h1; rw [h9]; clear h9 M9
          refine ax_iastN (r.length) dX2_valueBy_61 (xs_F_2 hF hok) (by decide) (by first | with_reducible rfl | assumption | exact ax_nix (by simp only [nx_0, nx_1, nx_2, nx_3, nx_4, nx_10, nx_20, nx_21, nx_100, nI_add, pk_mul] <;> rfl) (by omega) | decide) (by omega) ?_
          refine ax_gen (fun N2 hN2 => ?_)
          have hok : lo_ok N2.2 := by rw [hN2]; exact hok
          refine ax_goto (tgt := 106) dX2_valueBy_62 (by decide) ?_
          have hs3 : ev_op (nI h) u v :: r = ev_st (M.1 22) (v :: u :: r) q := by
            unfold ev_st
            rw [if_neg n0, if_neg n1, ch]
          refine next N2 (ev_op (nI h) u v :: r) (Jp hj hN2) hs3 (fun j x hx => ?_) (by rw [List.length_cons]; exact hdep) (by rw [List.length_cons]; omega)
          cases j with
          | zero =>
            have ev1 : ev_op (nI h) u v = x := Option.some.inj hx
            rw [← ev1, hN2]
            show (ax_pI N (F + 2) r.length _).1 (F + 2) (r.length + 1 - 1 - 0) = _
            rw [show r.length + 1 - 1 - 0 = r.length by omega]
            exact ax_pa _ _ _ _
          | succ j =>
            have hx2 : r[j]? = some x := hx
            have hj9 : j < r.length := (List.getElem?_eq_some_iff.mp hx2).1
            rw [hN2]
            show (ax_pI N (F + 2) r.length _).1 (F + 2) (r.length + 1 - 1 - (j + 1)) = x
            have := hm (j + 2) x hx2
            rw [hlr] at this
            rw [ax_pn (by omega), show r.length + 1 - 1 - (j + 1) = r.length + 2 - 1 - (j + 2) by omega]
            exact this
        · cases hdep
  refine ax_iconst (v := 0) dX2_valueBy_0 (by decide) ?_
  refine ax_istore_n dX2_valueBy_1 (by decide) rfl ?_
  refine ax_iconst (v := 0) dX2_valueBy_2 (by decide) ?_
  refine ax_istore_n dX2_valueBy_3 (by decide) rfl ?_
  exact loop cs [] [] M _ rfl ((hJ M).mpr ⟨rfl, fun _ _ _ => rfl⟩) rfl (fun j x hx => by simp at hx) (by have := hd 40 0 (by omega); exact this) (by simp)
end XV

