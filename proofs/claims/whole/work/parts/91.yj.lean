/-! ===== games: the class ===== -/
def grt (C0 C1 : Nat → Nat → Int32) (a b : Nat) : Nat → Bool
  | 0 => true
  | d + 1 => grt C0 C1 a b d && !(decide (C0 d b < C0 a b) || decide (C1 a d < C1 a b))
theorem grt_false {C0 C1 : Nat → Nat → Int32} {a b d : Nat} (h : C0 d b < C0 a b ∨ C1 a d < C1 a b) : ∀ {m : Nat}, d < m → grt C0 C1 a b m = false
  | 0, q => by omega
  | m + 1, q => by
    show (grt C0 C1 a b m && _) = false
    by_cases e : d = m
    · subst e
      rcases h with h | h <;> simp [h]
    · rw [grt_false h (by omega)]; rfl
def xgm (M : ax_M) (V n : Nat) (C0 C1 : Nat → Nat → Int32) : Prop := ∀ i j, i < n → j < n → M.1 (V + 1) (i * 21 + j) = C0 i j ∧ M.1 (V + 2) (i * 21 + j) = C1 i j
theorem g_ix {a b : Nat} : nI a * 21 + nI b = nI (a * 21 + b) := by rw [show (21 : Int32) = nI 21 from rfl, pk_mul, nI_add]
/-- a pair's place, or none -/
def gpl (f : Option (Nat × Nat)) : Int32 := match f with
  | some q => nI (q.1 * 21 + q.2)
  | none => -1
section X91
variable {l : Launch} {G : ax_G} {M : ax_M} {V n : Nat} {C0 C1 : Nat → Nat → Int32}
theorem x_isPair {d : Nat} {a b : Nat} (ha : a < 21) (hb : b < 21) {x y : Int32} (hx : x = nI a) (hy : y = nI b) : ax_Met l G kX3_isPair d 0 0 M [av_i x, av_i y] (ax_p (av_i 1) M) := by
  subst hx hy
  refine ax_body (by decide) (Nat.le_of_ble_eq_true rfl) ?_
  refine ax_iload_n dX3_isPair_0 rfl ?_
  refine ax_if_lt (tgt := 24) dX3_isPair_1 (by decide) (fun hc => ?_) (fun hc => ?_)
  · exact absurd ((nI_ltI (b := 0) (by omega) (by omega)).mp hc) (by omega)
  clear hc
  refine ax_iload_n dX3_isPair_4 rfl ?_
  refine ax_bipush (v := 21) dX3_isPair_5 (by decide) ?_
  refine ax_icmp_ge (tgt := 24) dX3_isPair_7 (by decide) (fun hc => ?_) (fun hc => ?_)
  · exact absurd ((nI_leI (a := 21) (by omega) (by omega)).mp hc) (by omega)
  clear hc
  refine ax_iload_n dX3_isPair_10 rfl ?_
  refine ax_if_lt (tgt := 24) dX3_isPair_11 (by decide) (fun hc => ?_) (fun hc => ?_)
  · exact absurd ((nI_ltI (b := 0) (by omega) (by omega)).mp hc) (by omega)
  clear hc
  refine ax_iload_n dX3_isPair_14 rfl ?_
  refine ax_bipush (v := 21) dX3_isPair_15 (by decide) ?_
  refine ax_icmp_ge (tgt := 24) dX3_isPair_17 (by decide) (fun hc => ?_) (fun hc => ?_)
  · exact absurd ((nI_leI (a := 21) (by omega) (by omega)).mp hc) (by omega)
  clear hc
  refine ax_iconst (v := 1) dX3_isPair_20 (by decide) ?_
  refine ax_goto (tgt := 25) dX3_isPair_21 (by decide) ?_
  refine ax_zret dX3_isPair_25 rfl ?_ ?_
  · exact Or.inr rfl
  · exact ⟨rfl, rfl⟩
theorem x_gput (hok : lo_ok M.2) (hV : xh_V V) {a b : Nat} (ha : a < 21) (hb : b < 21) (u w : Int32) {x y : Int32} (hx : x = nI a) (hy : y = nI b) : ax_Met l G kX3_put 1 0 0 M [av_r V, av_i x, av_i y, av_i u, av_i w] (fun o M2 => o = .inl none ∧ M2 = ax_pI (ax_pI M (V + 1) (a * 21 + b) u) (V + 2) (a * 21 + b) w) := by
  subst hx hy
  refine ax_body (by decide) (Nat.le_of_ble_eq_true rfl) ?_
  refine ax_iload_n dX3_put_0 rfl ?_
  refine ax_iload_n dX3_put_1 rfl ?_
  refine ax_callS (As := _) (c1 := 0) (n1 := 0) (x_isPair (d := 0) (M := M) ha hb rfl rfl) dX3_put_2 mX3_isPair wd_1305 rfl (by omega) (by omega) (by omega) rfl rfl (fun _ _ h => by cases h.1) ?_
  rintro r M9 ⟨h1, h9⟩; cases h1; rw [h9]; clear h9 M9
  refine ax_if_eq (tgt := 33) dX3_put_5 (by decide) (fun hc => ?_) (fun hc => ?_)
  · exact absurd hc (by decide)
  clear hc
  refine ax_aload_n dX3_put_8 rfl ?_
  refine ax_getK (f := 0) (V + 1) dX3_put_9 acl_3 wd_505 (by decide) rfl (xs_V_0 hV hok) (xr_V_0 hV hok) ?_
  refine ax_iload_n dX3_put_12 rfl ?_
  refine ax_bipush (v := 21) dX3_put_13 (by decide) ?_
  refine ax_imul dX3_put_15 ?_
  refine ax_iload_n dX3_put_16 rfl ?_
  refine ax_iadd dX3_put_17 ?_
  rw [g_ix]
  refine ax_iload_n dX3_put_18 rfl ?_
  refine ax_iastN ((a * 21 + b)) dX3_put_19 (xs_V_1 hV hok) (by decide) (by first | with_reducible rfl | assumption | exact ax_nix (by simp only [nx_0, nx_1, nx_2, nx_3, nx_4, nx_10, nx_20, nx_21, nx_100, nI_add, pk_mul] <;> rfl) (by omega) | decide) (by omega) ?_
  refine ax_aload_n dX3_put_20 rfl ?_
  refine ax_getK (f := 1) (V + 2) dX3_put_21 acl_3 wd_506 (by decide) rfl (xs_V_0 hV hok) (xr_V_1 hV hok) ?_
  refine ax_iload_n dX3_put_24 rfl ?_
  refine ax_bipush (v := 21) dX3_put_25 (by decide) ?_
  refine ax_imul dX3_put_27 ?_
  refine ax_iload_n dX3_put_28 rfl ?_
  refine ax_iadd dX3_put_29 ?_
  rw [g_ix]
  refine ax_iload dX3_put_30 rfl ?_
  refine ax_iastN ((a * 21 + b)) dX3_put_32 (xs_V_2 hV hok) (by decide) (by first | with_reducible rfl | assumption | exact ax_nix (by simp only [nx_0, nx_1, nx_2, nx_3, nx_4, nx_10, nx_20, nx_21, nx_100, nI_add, pk_mul] <;> rfl) (by omega) | decide) (by omega) ?_
  refine ax_vret dX3_put_33 rfl ?_
  exact ⟨rfl, rfl⟩
theorem x_isRest {d : Nat} (hok : lo_ok M.2) (hV : xh_V V) (hn : n ≤ 21) (hg : xgm M V n C0 C1) {a b : Nat} (ha : a < n) (hb : b < n) {x y z : Int32} (hx : x = nI a) (hy : y = nI b) (hz : z = nI n) : ax_Met l G kX3_isRest d 0 0 M [av_r V, av_i x, av_i y, av_i z] (ax_p (av_i (if grt C0 C1 a b n = true then 1 else 0)) M) := by
  subst hx hy hz
  refine ax_body (by decide) (Nat.le_of_ble_eq_true rfl) ?_
  refine ax_iload_n dX3_isRest_0 rfl ?_
  refine ax_bipush (v := 21) dX3_isRest_1 (by decide) ?_
  refine ax_imul dX3_isRest_3 ?_
  refine ax_iload_n dX3_isRest_4 rfl ?_
  refine ax_iadd dX3_isRest_5 ?_
  rw [g_ix]
  refine ax_istore dX3_isRest_6 (by decide) rfl ?_
  refine ax_iconst (v := 0) dX3_isRest_8 (by decide) ?_
  refine ax_istore dX3_isRest_9 (by decide) rfl ?_
  refine ax_for n (fun k N L => N = M ∧ L = [some (av_r V), some (av_i (nI a)), some (av_i (nI b)), some (av_i (nI n)), some (av_i (nI (a * 21 + b))), some (av_i (nI k))] ∧ grt C0 C1 a b k = true) 11 ?_ ?_ (i := 0) (by omega) ⟨rfl, rfl, rfl⟩
  · rintro k N L hk ⟨rfl, rfl, hno⟩ next
    have no : (C0 k b < C0 a b ∨ C1 a k < C1 a b) → ax_W l G kX3_isRest (ax_FQ G (ax_p (av_i (if grt C0 C1 a b n = true then 1 else 0)) N)) d 0 0 N 68 [some (av_r V), some (av_i (nI a)), some (av_i (nI b)), some (av_i (nI n)), some (av_i (nI (a * 21 + b))), some (av_i (nI k))] [] := by
      intro h
      refine ax_iconst (v := 0) dX3_isRest_68 (by decide) ?_
      refine ax_zret dX3_isRest_69 rfl ?_ ?_
      · exact Or.inl rfl
      · rw [grt_false h hk]; exact ⟨rfl, rfl⟩
    refine ax_iload dX3_isRest_11 rfl ?_
    refine ax_iload_n dX3_isRest_13 rfl ?_
    refine ax_icmp_ge (tgt := 76) dX3_isRest_14 (by decide) (fun hc => absurd ((nI_leI (by omega) (by omega)).mp hc) (by omega)) (fun hc => ?_)
    refine ax_iload dX3_isRest_17 rfl ?_
    refine ax_bipush (v := 21) dX3_isRest_19 (by decide) ?_
    refine ax_icmp_ge (tgt := 76) dX3_isRest_21 (by decide) (fun hc => ?_) (fun hc => ?_)
    · exact absurd ((nI_leI (a := 21) (by omega) (by omega)).mp hc) (by omega)
    clear hc
    refine ax_aload_n dX3_isRest_24 rfl ?_
    refine ax_getK (f := 0) (V + 1) dX3_isRest_25 acl_3 wd_505 (by decide) rfl (xs_V_0 hV hok) (xr_V_0 hV hok) ?_
    refine ax_iload dX3_isRest_28 rfl ?_
    refine ax_bipush (v := 21) dX3_isRest_30 (by decide) ?_
    refine ax_imul dX3_isRest_32 ?_
    refine ax_iload_n dX3_isRest_33 rfl ?_
    refine ax_iadd dX3_isRest_34 ?_
    rw [g_ix]
    refine ax_ialdN ((k * 21 + b)) dX3_isRest_35 (xs_V_1 hV hok) (by decide) (by first | with_reducible rfl | assumption | exact ax_nix (by simp only [nx_0, nx_1, nx_2, nx_3, nx_4, nx_10, nx_20, nx_21, nx_100, nI_add, pk_mul] <;> rfl) (by omega) | decide) (by omega) ?_
    refine ax_aload_n dX3_isRest_36 rfl ?_
    refine ax_getK (f := 0) (V + 1) dX3_isRest_37 acl_3 wd_505 (by decide) rfl (xs_V_0 hV hok) (xr_V_0 hV hok) ?_
    refine ax_iload dX3_isRest_40 rfl ?_
    refine ax_ialdN ((a * 21 + b)) dX3_isRest_42 (xs_V_1 hV hok) (by decide) (by first | with_reducible rfl | assumption | exact ax_nix (by simp only [nx_0, nx_1, nx_2, nx_3, nx_4, nx_10, nx_20, nx_21, nx_100, nI_add, pk_mul] <;> rfl) (by omega) | decide) (by omega) ?_
    rw [(hg k b hk hb).1, (hg a b ha hb).1]
    refine ax_icmp_lt (tgt := 68) dX3_isRest_43 (by decide) (fun hc => ?_) (fun hc => ?_)
    · exact no (Or.inl hc)
    have h1 := hc
    clear hc
    refine ax_aload_n dX3_isRest_46 rfl ?_
    refine ax_getK (f := 1) (V + 2) dX3_isRest_47 acl_3 wd_506 (by decide) rfl (xs_V_0 hV hok) (xr_V_1 hV hok) ?_
    refine ax_iload_n dX3_isRest_50 rfl ?_
    refine ax_bipush (v := 21) dX3_isRest_51 (by decide) ?_
    refine ax_imul dX3_isRest_53 ?_
    refine ax_iload dX3_isRest_54 rfl ?_
    refine ax_iadd dX3_isRest_56 ?_
    rw [g_ix]
    refine ax_ialdN ((a * 21 + k)) dX3_isRest_57 (xs_V_2 hV hok) (by decide) (by first | with_reducible rfl | assumption | exact ax_nix (by simp only [nx_0, nx_1, nx_2, nx_3, nx_4, nx_10, nx_20, nx_21, nx_100, nI_add, pk_mul] <;> rfl) (by omega) | decide) (by omega) ?_
    refine ax_aload_n dX3_isRest_58 rfl ?_
    refine ax_getK (f := 1) (V + 2) dX3_isRest_59 acl_3 wd_506 (by decide) rfl (xs_V_0 hV hok) (xr_V_1 hV hok) ?_
    refine ax_iload dX3_isRest_62 rfl ?_
    refine ax_ialdN ((a * 21 + b)) dX3_isRest_64 (xs_V_2 hV hok) (by decide) (by first | with_reducible rfl | assumption | exact ax_nix (by simp only [nx_0, nx_1, nx_2, nx_3, nx_4, nx_10, nx_20, nx_21, nx_100, nI_add, pk_mul] <;> rfl) (by omega) | decide) (by omega) ?_
    rw [(hg a k ha hk).2, (hg a b ha hb).2]
    refine ax_icmp_ge (tgt := 70) dX3_isRest_65 (by decide) (fun hc => ?_) (fun hc => ?_)
    · have h2 : ¬ C1 a k < C1 a b := fun z => by rw [iv_le] at hc; rw [iv_lt] at z; omega
      refine ax_iinc (v := 1) dX3_isRest_70 rfl (by decide) (by decide) rfl ?_
      refine ax_goto (tgt := 11) dX3_isRest_73 (by decide) ?_
      refine next _ _ ⟨rfl, by rw [nI_1]; rfl, ?_⟩
      show (grt C0 C1 a b k && _) = true
      rw [hno]; simp [h1, h2]
    · exact no (Or.inr (by rw [iv_le] at hc; rw [iv_lt]; omega))
  · rintro N L ⟨rfl, rfl, hno⟩
    refine ax_iload dX3_isRest_11 rfl ?_
    refine ax_iload_n dX3_isRest_13 rfl ?_
    refine ax_icmp_ge (tgt := 76) dX3_isRest_14 (by decide) (fun hc => ?_) (fun hc => absurd ((nI_leI (by omega) (by omega)).mpr (by omega)) hc)
    refine ax_iconst (v := 1) dX3_isRest_76 (by decide) ?_
    refine ax_zret dX3_isRest_77 rfl ?_ ?_
    · exact Or.inr rfl
    · rw [hno]; exact ⟨rfl, rfl⟩
theorem x_restsOf (hok : lo_ok M.2) (hV : xh_V V) (hn : n ≤ 21) (hg : xgm M V n C0 C1) {z : Int32} (hz : z = nI n) : ax_Met l G kX3_restsOf 1 0 0 M [av_r V, av_i z] (ax_p (av_i (nI (rn (fun a b => grt C0 C1 a b n) n n))) M) := by
  subst hz
  obtain ⟨R, hR⟩ : ∃ R, R = fun a b => grt C0 C1 a b n := ⟨_, rfl⟩
  rw [← hR]
  refine ax_body (by decide) (Nat.le_of_ble_eq_true rfl) ?_
  refine ax_iconst (v := 0) dX3_restsOf_0 (by decide) ?_
  refine ax_istore_n dX3_restsOf_1 (by decide) rfl ?_
  refine ax_iconst (v := 0) dX3_restsOf_2 (by decide) ?_
  refine ax_istore_n dX3_restsOf_3 (by decide) rfl ?_
  refine ax_for n (fun a N L => N = M ∧ ∃ y4, L = [some (av_r V), some (av_i (nI n)), some (av_i (nI (rn R n a))), some (av_i (nI a)), y4]) 4 ?_ ?_ (i := 0) (by omega) ⟨rfl, _, rfl⟩
  · rintro a N L ha ⟨rfl, y4, rfl⟩ next
    refine ax_iload_n dX3_restsOf_4 rfl ?_
    refine ax_iload_n dX3_restsOf_5 rfl ?_
    refine ax_icmp_ge (tgt := 62) dX3_restsOf_6 (by decide) (fun hc => absurd ((nI_leI (by omega) (by omega)).mp hc) (by omega)) (fun hc => ?_)
    refine ax_iload_n dX3_restsOf_9 rfl ?_
    refine ax_bipush (v := 21) dX3_restsOf_10 (by decide) ?_
    refine ax_icmp_ge (tgt := 62) dX3_restsOf_12 (by decide) (fun hc => ?_) (fun hc => ?_)
    · exact absurd ((nI_leI (a := 21) (by omega) (by omega)).mp hc) (by omega)
    clear hc
    refine ax_iconst (v := 0) dX3_restsOf_15 (by decide) ?_
    refine ax_istore dX3_restsOf_16 (by decide) rfl ?_
    refine ax_for n (fun b N9 L => N9 = N ∧ L = [some (av_r V), some (av_i (nI n)), some (av_i (nI (rn R n a + mt_cnt (R a) b))), some (av_i (nI a)), some (av_i (nI b))]) 18 ?_ ?_ (i := 0) (by omega) ⟨rfl, rfl⟩
    · rintro b N9 L hb ⟨rfl, rfl⟩ next2
      refine ax_iload dX3_restsOf_18 rfl ?_
      refine ax_iload_n dX3_restsOf_20 rfl ?_
      refine ax_icmp_ge (tgt := 56) dX3_restsOf_21 (by decide) (fun hc => absurd ((nI_leI (by omega) (by omega)).mp hc) (by omega)) (fun hc => ?_)
      refine ax_iload dX3_restsOf_24 rfl ?_
      refine ax_bipush (v := 21) dX3_restsOf_26 (by decide) ?_
      refine ax_icmp_ge (tgt := 56) dX3_restsOf_28 (by decide) (fun hc => ?_) (fun hc => ?_)
      · exact absurd ((nI_leI (a := 21) (by omega) (by omega)).mp hc) (by omega)
      clear hc
      refine ax_iload_n dX3_restsOf_31 rfl ?_
      refine ax_aload_n dX3_restsOf_32 rfl ?_
      refine ax_iload_n dX3_restsOf_33 rfl ?_
      refine ax_iload dX3_restsOf_34 rfl ?_
      refine ax_iload_n dX3_restsOf_36 rfl ?_
      refine ax_callV (As := _) (d2 := _) (c1 := 0) (n1 := 0) (x_isRest (d := 0) (M := N9) hok hV hn hg ha hb rfl rfl rfl) dX3_restsOf_37 mX3_isRest wd_1317 acl_3 (xs_V_0 hV hok) rfl (by omega) (by omega) (by omega) rfl rfl (fun _ _ h => by cases h.1) ?_
      rintro r M9 ⟨h1, h9⟩; cases h1; rw [h9]; clear h9 M9
      refine ax_join1 (R a b = true) 48 (1) (0) ?_ (fun ja jb => ?_)
      rotate_left
      · refine ax_ifB_eq (tgt := 47) dX3_restsOf_40 (by decide) (fun h40 => ?_) (fun h40 => ?_)
        · refine ax_iconst (v := 0) dX3_restsOf_47 (by decide) ?_
          first | exact ja (by rw [hR]; exact h40) | exact jb (by rw [hR]; exact h40)
        · refine ax_iconst (v := 1) dX3_restsOf_43 (by decide) ?_
          refine ax_goto (tgt := 48) dX3_restsOf_44 (by decide) ?_
          first | exact ja (by rw [hR]; exact h40) | exact jb (by rw [hR]; exact h40)
      refine ax_iadd dX3_restsOf_48 ?_
      refine ax_istore_n dX3_restsOf_49 (by decide) rfl ?_
      refine ax_iinc (v := 1) dX3_restsOf_50 rfl (by decide) (by decide) rfl ?_
      refine ax_goto (tgt := 18) dX3_restsOf_53 (by decide) ?_
      refine next2 _ _ ⟨rfl, ?_⟩
      have st : nI (rn R n a + mt_cnt (R a) b) + (if R a b = true then 1 else 0) = nI (rn R n a + mt_cnt (R a) (b + 1)) := by
        have h9 : mt_cnt (R a) (b + 1) = mt_cnt (R a) b + if R a b = true then 1 else 0 := rfl
        rw [h9]
        by_cases q : R a b = true
        · rw [if_pos q, if_pos q, nI_1]; rfl
        · rw [if_neg q, if_neg q]; simp
      rw [st, nI_1]; rfl
    · rintro N9 L ⟨rfl, rfl⟩
      refine ax_iload dX3_restsOf_18 rfl ?_
      refine ax_iload_n dX3_restsOf_20 rfl ?_
      refine ax_icmp_ge (tgt := 56) dX3_restsOf_21 (by decide) (fun hc => ?_) (fun hc => absurd ((nI_leI (by omega) (by omega)).mpr (by omega)) hc)
      refine ax_iinc (v := 1) dX3_restsOf_56 rfl (by decide) (by decide) rfl ?_
      refine ax_goto (tgt := 4) dX3_restsOf_59 (by decide) ?_
      exact next _ _ ⟨rfl, _, by rw [nI_1]; rfl⟩
  · rintro N L ⟨rfl, y4, rfl⟩
    refine ax_iload_n dX3_restsOf_4 rfl ?_
    refine ax_iload_n dX3_restsOf_5 rfl ?_
    refine ax_icmp_ge (tgt := 62) dX3_restsOf_6 (by decide) (fun hc => ?_) (fun hc => absurd ((nI_leI (by omega) (by omega)).mpr (by omega)) hc)
    refine ax_iload_n dX3_restsOf_62 rfl ?_
    refine ax_iret dX3_restsOf_63 rfl ?_
    exact ⟨rfl, rfl⟩
end X91

