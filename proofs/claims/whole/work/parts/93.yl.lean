/-! ===== the duel: the class ===== -/
section X93A
variable {r : Nat → Int} {lw : mt_L}
theorem s_eq (ho : rd_ok r) {d d2 : Nat → Int32} (h : ∀ t c, t < mt_T r → c < 2 → mt_on r c t = true → ∀ kn : Nat → Int32, kn 8 = (if mt_view r t = true then iI (mt_far r t) else 99) → ev_beam (d c) (lw (1 + c)) kn = ev_beam (d2 c) (lw (1 + c)) kn) : ∀ t c, c < 2 → (mt_s r lw d t).1 c = (mt_s r lw d2 t).1 c ∧ (mt_s r lw d t).2 c = (mt_s r lw d2 t).2 c
  | 0, c, _ => ⟨rfl, rfl⟩
  | t + 1, c, hc => by
    have ih := fun c hc => s_eq ho h t c hc
    have eF : ∀ c, c < 2 → mt_F r lw d t (mt_s r lw d t) c = mt_F r lw d2 t (mt_s r lw d2 t) c := by
      intro c hc
      unfold mt_F
      by_cases on : mt_on r c t = true
      · have hT : t < mt_T r := by have := (tn_on ho hc t).mp on; have := tn_T ho hc; omega
        rw [if_pos on, if_pos on, (ih c hc).1, (ih c hc).2, (ih (1 - c) (by omega)).2]
        exact h t c hT hc on _ rfl
      · rw [if_neg on, if_neg on, (ih c hc).2]
    refine ⟨?_, eF c hc⟩
    show mt_B r t (mt_s r lw d t) (mt_F r lw d t (mt_s r lw d t)) c = mt_B r t (mt_s r lw d2 t) (mt_F r lw d2 t (mt_s r lw d2 t)) c
    unfold mt_B mt_dz
    rw [(ih c hc).1, eF (1 - c) (by omega)]
theorem ap_beam (ho : rd_ok r) {i : Nat} (hi0 : 0 < i) (hi : i ≤ 20) (hn : ∀ t, t < mt_T r → mt_view r t = true → ¬ mt_far r t = (i : Int)) {t : Nat} (ht : t < mt_T r) {cs : Option (List (Int32 × Int32))} {kn : Nat → Int32} (hk : kn 8 = (if mt_view r t = true then iI (mt_far r t) else 99)) : ev_beam (nI i) cs kn = ev_beam (nI (i - 1)) cs kn := by
  unfold ev_beam
  rw [if_neg (nI_m1 (by omega)), if_neg (nI_m1 (by omega)), hk]
  by_cases v : mt_view r t = true
  · have hf := hn t ht v
    have b0 := mt_pos_b0 ho t
    have b1 := mt_pos_b1 ho t
    have o1 := ho.1
    have hT := mt_T_le r
    have fb : -1000 ≤ mt_far r t ∧ mt_far r t ≤ 1000 := by unfold mt_far; omega
    rw [if_pos v, iI_nI i, iI_nI (i - 1), iI_sub, iI_sub]
    have e1 := iI_lt (a := 0) (b := mt_far r t - (i : Int)) (by unfold iI_b; omega) (by unfold iI_b; omega)
    have e2 := iI_lt (a := 0) (b := mt_far r t - ((i - 1 : Nat) : Int)) (by unfold iI_b; omega) (by unfold iI_b; omega)
    rw [show iI 0 = (0 : Int32) from rfl] at e1 e2
    by_cases z : 0 < mt_far r t - (i : Int)
    · have z2 : 0 < mt_far r t - ((i - 1 : Nat) : Int) := by omega
      rw [if_pos (e1.mpr z), if_pos (e2.mpr z2)]
    · have z2 : ¬ 0 < mt_far r t - ((i - 1 : Nat) : Int) := by omega
      rw [if_neg (fun q => z (e1.mp q)), if_neg (fun q => z2 (e2.mp q))]
  · rw [if_neg v]
    have := (show ∀ i, i < 21 → (0 : Int32) < 99 - nI i by decide)
    rw [if_pos (this i (by omega)), if_pos (this (i - 1) (by omega))]
theorem si_eq {d d2 : Nat → Int32} (h : ∀ t c, c < 2 → (mt_s r lw d t).1 c = (mt_s r lw d2 t).1 c ∧ (mt_s r lw d t).2 c = (mt_s r lw d2 t).2 c) {c : Nat} (hc : c < 2) (t : Nat) : mt_si r lw d c t = mt_si r lw d2 c t := by
  unfold mt_si mt_b mt_f
  rw [(h (t + 1) c hc).1, (h (t + 1) c hc).2, (h (t + 1) (1 - c) (by omega)).2]
theorem hits_eq {d d2 : Nat → Int32} {c : Nat} (h : ∀ t, mt_si r lw d c t = mt_si r lw d2 c t) (x y : Int) : ∀ t, mt_hits r lw d c x y t = mt_hits r lw d2 c x y t
  | 0 => rfl
  | t + 1 => by
    have e : mt_sees r lw d c x y = mt_sees r lw d2 c x y := by funext u; unfold mt_sees; rw [h u]
    have e2 : ∀ u, mt_seen r lw d c x y u = mt_seen r lw d2 c x y u := fun u => by unfold mt_seen; rw [e]
    show (mt_hits r lw d c x y t || (mt_on r c t && (mt_com r c t x && mt_late r c t x (mt_seen r lw d c x y (t + 1))))) = (mt_hits r lw d2 c x y t || (mt_on r c t && (mt_com r c t x && mt_late r c t x (mt_seen r lw d2 c x y (t + 1)))))
    rw [hits_eq h x y t, e2]
theorem cost_eq {d d2 : Nat → Int32} (h : ∀ t c, c < 2 → (mt_s r lw d t).1 c = (mt_s r lw d2 t).1 c ∧ (mt_s r lw d t).2 c = (mt_s r lw d2 t).2 c) {c : Nat} (hc : c < 2) : mt_cost r lw d c = mt_cost r lw d2 c := by
  have hs := si_eq h hc
  have e1 : mt_us r lw d c = mt_us r lw d2 c := by
    show mt_cnt (mt_un r lw d c) (mt_T r) = mt_cnt (mt_un r lw d2 c) (mt_T r)
    exact mt_cnt_cong (fun t _ => by unfold mt_un; rw [hs t])
  have e2 : mt_hn r lw d c = mt_hn r lw d2 c := by
    unfold mt_hn
    exact mt_cnt_cong (fun k _ => by rw [hits_eq hs])
  show 10 * mt_hn r lw d c + mt_us r lw d c = 10 * mt_hn r lw d2 c + mt_us r lw d2 c
  rw [e1, e2]
theorem cost_i (ho : rd_ok r) {i j : Nat} (hi0 : 0 < i) (hi : i ≤ 20) (hn : ∀ t, t < mt_T r → mt_view r t = true → ¬ mt_far r t = (i : Int)) {c : Nat} (hc : c < 2) : mt_cost r lw (mt_d (nI i) (nI j)) c = mt_cost r lw (mt_d (nI (i - 1)) (nI j)) c := by
  refine cost_eq (s_eq ho (fun t q hT hq on kn hk => ?_)) hc
  rcases (show q = 0 ∨ q = 1 by omega) with rfl | rfl
  · exact ap_beam ho hi0 hi hn hT hk
  · show ev_beam (nI j) _ kn = ev_beam (nI j) _ kn
    exact Eq.refl _
theorem cost_j (ho : rd_ok r) {i j : Nat} (hj0 : 0 < j) (hj : j ≤ 20) (hn : ∀ t, t < mt_T r → mt_view r t = true → ¬ mt_far r t = (j : Int)) {c : Nat} (hc : c < 2) : mt_cost r lw (mt_d (nI i) (nI j)) c = mt_cost r lw (mt_d (nI i) (nI (j - 1))) c := by
  refine cost_eq (s_eq ho (fun t q hT hq on kn hk => ?_)) hc
  rcases (show q = 0 ∨ q = 1 by omega) with rfl | rfl
  · show ev_beam (nI i) _ kn = ev_beam (nI i) _ kn
    exact Eq.refl _
  · exact ap_beam ho hj0 hj hn hT hk
end X93A
theorem xgm_du {r : Nat → Int} {lw : mt_L} {a b : Nat} : ∀ n, grt (fun i j => nI (du_v r lw 0 i j)) (fun i j => nI (du_v r lw 1 i j)) a b n = rt (du_v r lw 0) (du_v r lw 1) a b n
  | 0 => rfl
  | n + 1 => by
    have l : ∀ c i j, du_v r lw c i j ≤ 199 := fun c i j => du_le r lw c i j
    have e : ∀ c i j k m, decide (nI (du_v r lw c i j) < nI (du_v r lw c k m)) = decide (du_v r lw c i j < du_v r lw c k m) := fun c i j k m => by
      have h1 := l c i j
      have h2 := l c k m
      exact decide_eq_decide.mpr (nI_ltI (by omega) (by omega))
    show (grt _ _ a b n && !(decide (nI (du_v r lw 0 n b) < nI (du_v r lw 0 a b)) || decide (nI (du_v r lw 1 a n) < nI (du_v r lw 1 a b)))) = _
    rw [xgm_du n, e, e]
    rfl
section X93B
variable {l : Launch} {G : ax_G} {M : ax_M} {V n : Nat} {C0 C1 : Nat → Nat → Int32}
theorem x_gcopy (hok : lo_ok M.2) (hV : xh_V V) {a b a2 b2 : Nat} (ha : a < 21) (hb : b < 21) (ha2 : a2 < 21) (hb2 : b2 < 21) {x y z w : Int32} (hx : x = nI a) (hy : y = nI b) (hz : z = nI a2) (hw : w = nI b2) : ax_Met l G kX3_copy 2 0 0 M [av_r V, av_i x, av_i y, av_i z, av_i w] (fun o M2 => o = .inl none ∧ M2 = ax_pI (ax_pI M (V + 1) (a * 21 + b) (M.1 (V + 1) (a2 * 21 + b2))) (V + 2) (a * 21 + b) (M.1 (V + 2) (a2 * 21 + b2))) := by
  subst hx hy hz hw
  refine ax_body (by decide) (Nat.le_of_ble_eq_true rfl) ?_
  refine ax_iload_n dX3_copy_0 rfl ?_
  refine ax_iload dX3_copy_1 rfl ?_
  refine ax_callS (As := _) (c1 := 0) (n1 := 0) (x_isPair (d := 0) (M := M) ha2 hb2 rfl rfl) dX3_copy_3 mX3_isPair wd_1305 rfl (by omega) (by omega) (by omega) rfl rfl (fun _ _ h => by cases h.1) ?_
  rintro r M9 ⟨h1, h9⟩; cases h1; rw [h9]; clear h9 M9
  refine ax_if_eq (tgt := 38) dX3_copy_6 (by decide) (fun hc => ?_) (fun hc => ?_)
  · exact absurd hc (by decide)
  clear hc
  refine ax_iload_n dX3_copy_9 rfl ?_
  refine ax_bipush (v := 21) dX3_copy_10 (by decide) ?_
  refine ax_imul dX3_copy_12 ?_
  refine ax_iload dX3_copy_13 rfl ?_
  refine ax_iadd dX3_copy_15 ?_
  rw [g_ix]
  refine ax_istore dX3_copy_16 (by decide) rfl ?_
  refine ax_aload_n dX3_copy_18 rfl ?_
  refine ax_iload_n dX3_copy_19 rfl ?_
  refine ax_iload_n dX3_copy_20 rfl ?_
  refine ax_aload_n dX3_copy_21 rfl ?_
  refine ax_getK (f := 0) (V + 1) dX3_copy_22 acl_3 wd_505 (by decide) rfl (xs_V_0 hV hok) (xr_V_0 hV hok) ?_
  refine ax_iload dX3_copy_25 rfl ?_
  refine ax_ialdN ((a2 * 21 + b2)) dX3_copy_27 (xs_V_1 hV hok) (by decide) (by first | with_reducible rfl | assumption | exact ax_nix (by simp only [nx_0, nx_1, nx_2, nx_3, nx_4, nx_10, nx_20, nx_21, nx_100, nI_add, pk_mul] <;> rfl) (by omega) | decide) (by omega) ?_
  refine ax_aload_n dX3_copy_28 rfl ?_
  refine ax_getK (f := 1) (V + 2) dX3_copy_29 acl_3 wd_506 (by decide) rfl (xs_V_0 hV hok) (xr_V_1 hV hok) ?_
  refine ax_iload dX3_copy_32 rfl ?_
  refine ax_ialdN ((a2 * 21 + b2)) dX3_copy_34 (xs_V_2 hV hok) (by decide) (by first | with_reducible rfl | assumption | exact ax_nix (by simp only [nx_0, nx_1, nx_2, nx_3, nx_4, nx_10, nx_20, nx_21, nx_100, nI_add, pk_mul] <;> rfl) (by omega) | decide) (by omega) ?_
  refine ax_callV (As := _) (d2 := _) (c1 := 0) (n1 := 0) (x_gput (M := M) hok hV ha hb _ _ rfl rfl) dX3_copy_35 mX3_put wd_1308 acl_3 (xs_V_0 hV hok) rfl (by omega) (by omega) (by omega) rfl rfl (fun _ _ h => by cases h.1) ?_
  rintro _ A ⟨h1, hA⟩
  cases h1
  refine ax_vret dX3_copy_38 rfl ?_
  exact ⟨rfl, hA⟩
theorem x_kindest (hok : lo_ok M.2) (hV : xh_V V) (hn : n < 21) {s : Nat → Nat → Nat} (hs : ∀ i j, s i j ≤ 1000) (hg : ∀ i j, i ≤ n → j ≤ n → M.1 (V + 1) (i * 21 + j) + M.1 (V + 2) (i * 21 + j) = nI (s i j)) {z : Int32} (hz : z = nI (n + 1)) : ax_Met l G kX3_kindest 1 0 0 M [av_r V, av_i z] (ax_p (av_i (nI ((ka s n (n + 1)).1 * 21 + (ka s n (n + 1)).2))) M) := by
  subst hz
  refine ax_body (by decide) (Nat.le_of_ble_eq_true rfl) ?_
  refine ax_iconst (v := 0) dX3_kindest_0 (by decide) ?_
  refine ax_istore_n dX3_kindest_1 (by decide) rfl ?_
  refine ax_iconst (v := 0) dX3_kindest_2 (by decide) ?_
  refine ax_istore_n dX3_kindest_3 (by decide) rfl ?_
  refine ax_for (n + 1) (fun a N L => N = M ∧ ∃ y4, L = [some (av_r V), some (av_i (nI (n + 1))), some (av_i (nI ((ka s n a).1 * 21 + (ka s n a).2))), some (av_i (nI a)), y4]) 4 ?_ ?_ (i := 0) (by omega) ⟨rfl, _, rfl⟩
  · rintro a N L ha ⟨rfl, y4, rfl⟩ next
    have kl := ka_le s n a (by omega)
    refine ax_iload_n dX3_kindest_4 rfl ?_
    refine ax_iload_n dX3_kindest_5 rfl ?_
    refine ax_icmp_ge (tgt := 70) dX3_kindest_6 (by decide) (fun hc => absurd ((nI_leI (by omega) (by omega)).mp hc) (by omega)) (fun hc => ?_)
    refine ax_iload_n dX3_kindest_9 rfl ?_
    refine ax_bipush (v := 21) dX3_kindest_10 (by decide) ?_
    refine ax_icmp_ge (tgt := 70) dX3_kindest_12 (by decide) (fun hc => ?_) (fun hc => ?_)
    · exact absurd ((nI_leI (a := 21) (by omega) (by omega)).mp hc) (by omega)
    clear hc
    refine ax_iconst (v := 0) dX3_kindest_15 (by decide) ?_
    refine ax_istore dX3_kindest_16 (by decide) rfl ?_
    refine ax_for (n + 1) (fun b N9 L => N9 = N ∧ L = [some (av_r V), some (av_i (nI (n + 1))), some (av_i (nI ((kr s a (ka s n a) b).1 * 21 + (kr s a (ka s n a) b).2))), some (av_i (nI a)), some (av_i (nI b))]) 18 ?_ ?_ (i := 0) (by omega) ⟨rfl, rfl⟩
    · rintro b N9 L hb ⟨rfl, rfl⟩ next2
      have kr2 := kr_le (s := s) (a := a) kl (by omega) b (by omega)
      obtain ⟨q, hq⟩ : ∃ q, q = kr s a (ka s n a) b := ⟨_, rfl⟩
      have st : kr s a (ka s n a) (b + 1) = if s a b < s q.1 q.2 then (a, b) else q := by rw [hq]; rfl
      rw [← hq] at kr2 ⊢
      have l1 := hs a b
      have l2 := hs q.1 q.2
      refine ax_iload dX3_kindest_18 rfl ?_
      refine ax_iload_n dX3_kindest_20 rfl ?_
      refine ax_icmp_ge (tgt := 64) dX3_kindest_21 (by decide) (fun hc => absurd ((nI_leI (by omega) (by omega)).mp hc) (by omega)) (fun hc => ?_)
      refine ax_iload dX3_kindest_24 rfl ?_
      refine ax_bipush (v := 21) dX3_kindest_26 (by decide) ?_
      refine ax_icmp_ge (tgt := 64) dX3_kindest_28 (by decide) (fun hc => ?_) (fun hc => ?_)
      · exact absurd ((nI_leI (a := 21) (by omega) (by omega)).mp hc) (by omega)
      clear hc
      refine ax_aload_n dX3_kindest_31 rfl ?_
      refine ax_iload_n dX3_kindest_32 rfl ?_
      refine ax_bipush (v := 21) dX3_kindest_33 (by decide) ?_
      refine ax_imul dX3_kindest_35 ?_
      refine ax_iload dX3_kindest_36 rfl ?_
      refine ax_iadd dX3_kindest_38 ?_
      rw [g_ix]
      refine ax_callV (As := _) (d2 := _) (c1 := 0) (n1 := 0) (x_together (d := 0) (M := N9) hok hV (q := a * 21 + b) (by omega) rfl) dX3_kindest_39 mX3_together wd_1332 acl_3 (xs_V_0 hV hok) rfl (by omega) (by omega) (by omega) rfl rfl (fun _ _ h => by cases h.1) ?_
      rintro r M9 ⟨h1, h9⟩; cases h1; rw [h9]; clear h9 M9
      rw [hg a b (by omega) (by omega)]
      refine ax_aload_n dX3_kindest_42 rfl ?_
      refine ax_iload_n dX3_kindest_43 rfl ?_
      refine ax_callV (As := _) (d2 := _) (c1 := 0) (n1 := 0) (x_together (d := 0) (M := N9) hok hV (q := q.1 * 21 + q.2) (by omega) rfl) dX3_kindest_44 mX3_together wd_1332 acl_3 (xs_V_0 hV hok) rfl (by omega) (by omega) (by omega) rfl rfl (fun _ _ h => by cases h.1) ?_
      rintro r M9 ⟨h1, h9⟩; cases h1; rw [h9]; clear h9 M9
      rw [hg q.1 q.2 kr2.1 kr2.2]
      refine ax_icmp_ge (tgt := 58) dX3_kindest_47 (by decide) (fun hc => ?_) (fun hc => ?_)
      · have h1 := (nI_leI (by omega) (by omega)).mp hc
        rw [if_neg (by omega)] at st
        refine ax_iinc (v := 1) dX3_kindest_58 rfl (by decide) (by decide) rfl ?_
        refine ax_goto (tgt := 18) dX3_kindest_61 (by decide) ?_
        exact next2 _ _ ⟨rfl, by rw [nI_1, st]; rfl⟩
      · have h1 : ¬ s q.1 q.2 ≤ s a b := fun z => hc ((nI_leI (by omega) (by omega)).mpr z)
        rw [if_pos (by omega)] at st
        refine ax_iload_n dX3_kindest_50 rfl ?_
        refine ax_bipush (v := 21) dX3_kindest_51 (by decide) ?_
        refine ax_imul dX3_kindest_53 ?_
        refine ax_iload dX3_kindest_54 rfl ?_
        refine ax_iadd dX3_kindest_56 ?_
        rw [g_ix]
        refine ax_istore_n dX3_kindest_57 (by decide) rfl ?_
        refine ax_iinc (v := 1) dX3_kindest_58 rfl (by decide) (by decide) rfl ?_
        refine ax_goto (tgt := 18) dX3_kindest_61 (by decide) ?_
        exact next2 _ _ ⟨rfl, by rw [nI_1, st]; rfl⟩
    · rintro N9 L ⟨rfl, rfl⟩
      refine ax_iload dX3_kindest_18 rfl ?_
      refine ax_iload_n dX3_kindest_20 rfl ?_
      refine ax_icmp_ge (tgt := 64) dX3_kindest_21 (by decide) (fun hc => ?_) (fun hc => absurd ((nI_leI (by omega) (by omega)).mpr (by omega)) hc)
      refine ax_iinc (v := 1) dX3_kindest_64 rfl (by decide) (by decide) rfl ?_
      refine ax_goto (tgt := 4) dX3_kindest_67 (by decide) ?_
      exact next _ _ ⟨rfl, _, by rw [nI_1]; rfl⟩
  · rintro N L ⟨rfl, y4, rfl⟩
    refine ax_iload_n dX3_kindest_4 rfl ?_
    refine ax_iload_n dX3_kindest_5 rfl ?_
    refine ax_icmp_ge (tgt := 70) dX3_kindest_6 (by decide) (fun hc => ?_) (fun hc => absurd ((nI_leI (by omega) (by omega)).mpr (by omega)) hc)
    refine ax_iload_n dX3_kindest_70 rfl ?_
    refine ax_iret dX3_kindest_71 rfl ?_
    exact ⟨rfl, rfl⟩
end X93B

