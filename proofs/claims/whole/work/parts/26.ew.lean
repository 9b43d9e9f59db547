/-! ===== the reference works formulas out ===== -/
def ml_has (M : ax_M) (w : Nat) (cs : List (Int32 × Int32)) : Prop := ev_good cs ∧ M.1 111 w = nI cs.length ∧ ∀ j q, cs[j]? = some q → M.1 (113 + w) (2 * j) = q.1 ∧ M.1 (113 + w) (2 * j + 1) = q.2
def ev_fr (M M2 : ax_M) : Prop := M2.2 = M.2 ∧ ∀ n i, n ≠ 117 → M2.1 n i = M.1 n i
theorem ev_d_s (cap n : Nat) (q : Int32 × Int32) (r : List (Int32 × Int32)) : ev_d cap n (q :: r) = if q.1 = 0 ∨ q.1 = 1 then (if n < cap then ev_d cap (n + 1) r else none) else (if 2 ≤ n then ev_d cap (n - 1) r else none) := rfl
section EW
variable {l : Launch} {G : ax_G} {M : ax_M}
set_option maxHeartbeats 2000000 in
theorem c_X10_worked (hok : lo_ok M.2) {w : Nat} (hw : w < 3) {cs : List (Int32 × Int32)} (hl : ml_has M w cs) {x : Int32} (hx : x = nI w) : ax_Met l G kX10_worked 2 0 0 M [av_r 90, av_i x] (fun o M2 => o = .inl (some (av_i (ev (M.1 118) cs))) ∧ ev_fr M M2) := by
  subst hx
  obtain ⟨⟨hv, hd, h150, -⟩, hn, hcs⟩ := hl
  refine ax_body (by decide) (Nat.le_of_ble_eq_true rfl) ?_
  have loop : ∀ (rs : List (Int32 × Int32)) (ds : List (Int32 × Int32)) (st : List Int32) (M1 : ax_M) (y5 y6 : Option ax_V), ds ++ rs = cs → ev_fr M M1 → ds.foldl (ev_st (M.1 118)) [] = st → (∀ j x, st[j]? = some x → M1.1 117 (st.length - 1 - j) = x) → ev_d 160 st.length rs = some 1 → st.length ≤ 160 → ax_W l G kX10_worked (ax_FQ G (fun o M2 => o = .inl (some (av_i (ev (M.1 118) cs))) ∧ ev_fr M M2)) 2 0 0 M1 12 [some (av_r 90), some (av_i (nI w)), some (av_i (nI st.length)), some (av_r (113 + w)), some (av_i (nI ds.length)), y5, y6] [] := by
    intro rs
    induction rs with
    | nil =>
      intro ds st M1 y5 y6 hds hfr hst hm hdep hl160
      have hok : lo_ok M1.2 := by rw [hfr.1]; exact hok
      have e : ds = cs := by rw [← hds]; simp
      have e1 : st.length = 1 := Option.some.inj hdep
      refine ax_iload dX10_worked_12 rfl ?_
      refine ax_aload_n dX10_worked_14 rfl ?_
      refine ax_getK (f := 22) 111 dX10_worked_15 acl_10 wd_1622 (by decide) rfl (lo_s hok 90 rfl) (lo_r hok 92 rfl) ?_
      refine ax_iload_n dX10_worked_18 rfl ?_
      refine ax_iald dX10_worked_19 (lo_s hok 111 rfl) (vp_in_nI hw (by decide)) ?_
      rw [nI_clamp (by omega), hfr.2 111 w (by decide), hn, e]
      refine ax_icmp_ge (tgt := 112) dX10_worked_20 (by decide) (fun hc => ?_) (fun hc => ?_)
      · refine ax_aload_n dX10_worked_112 rfl ?_
        refine ax_getK (f := 26) 117 dX10_worked_113 acl_10 wd_1626 (by decide) rfl (lo_s hok 90 rfl) (lo_r hok 95 rfl) ?_
        refine ax_iconst (v := 0) dX10_worked_116 (by decide) ?_
        refine ax_iald dX10_worked_117 (lo_s hok 117 rfl) (by unfold vp_in; decide) ?_
        refine ax_iret dX10_worked_118 rfl ?_
        refine ⟨?_, hfr⟩
        cases st with
        | nil => cases e1
        | cons v r =>
          have h0 := hm 0 v rfl
          rw [e1] at h0
          rw [show ((0 : Int32).toNatClampNeg) = 0 from rfl]
          have h1 : M1.1 117 0 = v := h0
          rw [h1, ev, ← e, hst]
          rfl
      · exact absurd (nI_le (Nat.le_refl _) (by omega)) hc
    | cons q rs ih =>
      intro ds st M1 y5 y6 hds hfr hst hm hdep hl160
      have hok : lo_ok M1.2 := by rw [hfr.1]; exact hok
      have hlen : ds.length < cs.length := by rw [← hds]; simp
      have hq : cs[ds.length]? = some q := by rw [← hds]; simp
      have hmem : q ∈ cs := List.mem_of_getElem? hq
      obtain ⟨q1, q2⟩ := hcs _ _ hq
      have hz : M1.2.2.2.1 (113 + w) = some (.inl (0, 320)) := lo_z_m_law hok hw
      have e2 : (2 : Int32) * nI ds.length = nI (2 * ds.length) := by rw [show (2 : Int32) = nI 2 from rfl, pk_mul]
      have hds2 : (ds ++ [q]) ++ rs = cs := by rw [← hds, List.append_assoc]; rfl
      have hst2 : (ds ++ [q]).foldl (ev_st (M.1 118)) [] = ev_st (M.1 118) st q := by rw [List.foldl_append, hst]; rfl
      have hl2 : (ds ++ [q]).length = ds.length + 1 := by simp
      refine ax_iload dX10_worked_12 rfl ?_
      refine ax_aload_n dX10_worked_14 rfl ?_
      refine ax_getK (f := 22) 111 dX10_worked_15 acl_10 wd_1622 (by decide) rfl (lo_s hok 90 rfl) (lo_r hok 92 rfl) ?_
      refine ax_iload_n dX10_worked_18 rfl ?_
      refine ax_iald dX10_worked_19 (lo_s hok 111 rfl) (vp_in_nI hw (by decide)) ?_
      rw [nI_clamp (by omega), hfr.2 111 w (by decide), hn]
      refine ax_icmp_ge (tgt := 112) dX10_worked_20 (by decide) (fun hc => ?_) (fun hc => ?_)
      · exact absurd ((nI_leI (by omega) (by omega)).mp hc) (by omega)
      · refine ax_aload_n dX10_worked_23 rfl ?_
        refine ax_iconst (v := 2) dX10_worked_24 (by decide) ?_
        refine ax_iload dX10_worked_25 rfl ?_
        refine ax_imul dX10_worked_27 ?_
        rw [e2]
        refine ax_iald dX10_worked_28 hz (vp_in_nI (by omega) (by decide)) ?_
        rw [nI_clamp (by omega), hfr.2 (113 + w) _ (by omega), q1]
        refine ax_istore dX10_worked_29 (by decide) rfl ?_
        refine ax_aload_n dX10_worked_31 rfl ?_
        refine ax_iconst (v := 2) dX10_worked_32 (by decide) ?_
        refine ax_iload dX10_worked_33 rfl ?_
        refine ax_imul dX10_worked_35 ?_
        refine ax_iconst (v := 1) dX10_worked_36 (by decide) ?_
        rw [e2]
        refine ax_iadd dX10_worked_37 ?_
        rw [nI_1]
        refine ax_iald dX10_worked_38 hz (vp_in_nI (by omega) (by decide)) ?_
        rw [nI_clamp (by omega), hfr.2 (113 + w) _ (by omega), q2]
        refine ax_istore dX10_worked_39 (by decide) rfl ?_
        refine ax_iload dX10_worked_41 rfl ?_
        refine ax_iconst (v := 2) dX10_worked_43 (by decide) ?_
        rw [ev_d_s] at hdep
        -- behind it, at 106
        have next : ∀ (M2 : ax_M) (st2 : List Int32), ev_fr M M2 → st2 = ev_st (M.1 118) st q → (∀ j x, st2[j]? = some x → M2.1 117 (st2.length - 1 - j) = x) → ev_d 160 st2.length rs = some 1 → st2.length ≤ 160 → ax_W l G kX10_worked (ax_FQ G (fun o M2 => o = .inl (some (av_i (ev (M.1 118) cs))) ∧ ev_fr M M2)) 2 0 0 M2 106 [some (av_r 90), some (av_i (nI w)), some (av_i (nI st2.length)), some (av_r (113 + w)), some (av_i (nI ds.length)), some (av_i q.1), some (av_i q.2)] [] := by
          intro M2 st2 hfr2 hs2 hm2 hd2 hl3
          refine ax_iinc (v := 1) dX10_worked_106 rfl (by decide) (by decide) rfl ?_
          refine ax_goto (tgt := 12) dX10_worked_109 (by decide) ?_
          have h9 := ih (ds ++ [q]) st2 M2 (some (av_i q.1)) (some (av_i q.2)) hds2 hfr2 (hst2.trans hs2.symm) hm2 hd2 hl3
          rw [hl2] at h9
          rw [nI_1]
          exact h9
        have push : ∀ (v : Int32), ev_st (M.1 118) st q = v :: st → st.length < 160 → ev_d 160 (st.length + 1) rs = some 1 → ax_W l G kX10_worked (ax_FQ G (fun o M2 => o = .inl (some (av_i (ev (M.1 118) cs))) ∧ ev_fr M M2)) 2 0 0 (ax_pI M1 117 st.length v) 70 [some (av_r 90), some (av_i (nI w)), some (av_i (nI st.length)), some (av_r (113 + w)), some (av_i (nI ds.length)), some (av_i q.1), some (av_i q.2)] [] := by
          intro v hs hlt hd2
          refine ax_iinc (v := 1) dX10_worked_70 rfl (by decide) (by decide) rfl ?_
          refine ax_goto (tgt := 106) dX10_worked_73 (by decide) ?_
          rw [nI_1]
          refine next (ax_pI M1 117 st.length v) (v :: st) ⟨hfr.1, fun n i hn => by rw [ax_pn (by omega)]; exact hfr.2 n i hn⟩ hs.symm (fun j x hx => ?_) hd2 (by simp; omega)
          cases j with
          | zero =>
            have ev1 : v = x := Option.some.inj hx
            rw [← ev1]
            show (ax_pI M1 117 st.length v).1 117 (st.length + 1 - 1 - 0) = v
            rw [show st.length + 1 - 1 - 0 = st.length by omega]
            exact ax_pa _ _ _ _
          | succ j =>
            have hx2 : st[j]? = some x := hx
            have hj : j < st.length := (List.getElem?_eq_some_iff.mp hx2).1
            show (ax_pI M1 117 st.length v).1 117 (st.length + 1 - 1 - (j + 1)) = x
            rw [ax_pn (by omega), show st.length + 1 - 1 - (j + 1) = st.length - 1 - j by omega]
            exact hm j x hx2
        rcases hv q hmem with c0 | ⟨c1, j, hj, ej⟩ | ⟨h, h2, h7, ch⟩
        · rw [if_pos (Or.inl c0)] at hdep
          split at hdep
          · rename_i hlt
            refine ax_icmp_ge (tgt := 76) dX10_worked_44 (by decide) (fun hc => ?_) (fun hc => ?_)
            · rw [c0] at hc; exact absurd hc (by decide)
            · refine ax_aload_n dX10_worked_47 rfl ?_
              refine ax_getK (f := 26) 117 dX10_worked_48 acl_10 wd_1626 (by decide) rfl (lo_s hok 90 rfl) (lo_r hok 95 rfl) ?_
              refine ax_iload_n dX10_worked_51 rfl ?_
              refine ax_iload dX10_worked_52 rfl ?_
              refine ax_if_ne (tgt := 62) dX10_worked_54 (by decide) (fun hc => ?_) (fun hc => ?_)
              · exact absurd c0 hc
              · refine ax_iload dX10_worked_57 rfl ?_
                refine ax_goto (tgt := 69) dX10_worked_59 (by decide) ?_
                refine ax_iast dX10_worked_69 (lo_s hok 117 rfl) (vp_in_nI (by omega) (by decide)) ?_
                rw [nI_clamp (by omega)]
                exact push q.2 (if_pos c0) hlt hdep
          · cases hdep
        · rw [if_pos (Or.inr c1)] at hdep
          split at hdep
          · rename_i hlt
            refine ax_icmp_ge (tgt := 76) dX10_worked_44 (by decide) (fun hc => ?_) (fun hc => ?_)
            · rw [c1] at hc; exact absurd hc (by decide)
            · refine ax_aload_n dX10_worked_47 rfl ?_
              refine ax_getK (f := 26) 117 dX10_worked_48 acl_10 wd_1626 (by decide) rfl (lo_s hok 90 rfl) (lo_r hok 95 rfl) ?_
              refine ax_iload_n dX10_worked_51 rfl ?_
              refine ax_iload dX10_worked_52 rfl ?_
              refine ax_if_ne (tgt := 62) dX10_worked_54 (by decide) (fun hc => ?_) (fun hc => ?_)
              · refine ax_aload_n dX10_worked_62 rfl ?_
                refine ax_getK (f := 27) 118 dX10_worked_63 acl_10 wd_1627 (by decide) rfl (lo_s hok 90 rfl) (lo_r hok 96 rfl) ?_
                refine ax_iload dX10_worked_66 rfl ?_
                refine ax_iald dX10_worked_68 (lo_s hok 118 rfl) (by rw [ej]; exact vp_in_nI hj (by decide)) ?_
                refine ax_iast dX10_worked_69 (lo_s hok 117 rfl) (vp_in_nI (by omega) (by decide)) ?_
                rw [nI_clamp (by omega)]
                refine push _ ?_ hlt hdep
                show (if q.1 = 0 then _ else if q.1 = 1 then _ else _) = _
                rw [if_neg (by rw [c1]; decide), if_pos c1, hfr.2 118 _ (by decide)]
              · rw [c1] at hc; exact absurd hc (by decide)
          · cases hdep
        · have n0 : ¬ q.1 = 0 := by rw [ch]; exact nI_ne0 (by omega) (by omega)
          have n1 : ¬ q.1 = 1 := by
            rw [ch]; intro e9
            have := (nI_eq (b := 1) (by omega) (by omega)).mp e9
            omega
          rw [if_neg (by rintro (e9 | e9); exact n0 e9; exact n1 e9)] at hdep
          split at hdep
          · rename_i hge
            obtain ⟨v, u, r, rfl⟩ : ∃ v u r, st = v :: u :: r := by
              cases st with
              | nil => simp at hge
              | cons v r => cases r with
                | nil => simp at hge
                | cons u r => exact ⟨v, u, r, rfl⟩
            have hlr : (v :: u :: r).length = r.length + 2 := rfl
            rw [hlr] at hdep hl160
            have hv1 : M1.1 117 (r.length + 1) = v := hm 0 v rfl
            have hu1 : M1.1 117 r.length = u := by have := hm 1 u rfl; rw [hlr] at this; exact this
            refine ax_icmp_ge (tgt := 76) dX10_worked_44 (by decide) (fun hc => ?_) (fun hc => ?_)
            · rw [hlr]
              refine ax_iinc (v := (-1)) dX10_worked_76 rfl (by decide) (by decide) rfl ?_
              refine ax_aload_n dX10_worked_79 rfl ?_
              refine ax_getK (f := 26) 117 dX10_worked_80 acl_10 wd_1626 (by decide) rfl (lo_s hok 90 rfl) (lo_r hok 95 rfl) ?_
              refine ax_iload_n dX10_worked_83 rfl ?_
              refine ax_iconst (v := 1) dX10_worked_84 (by decide) ?_
              refine ax_isub dX10_worked_85 ?_
              rw [show nI (r.length + 2) + -1 - 1 = nI r.length by rw [show r.length + 2 = (r.length + 1) + 1 by omega, pk_m1, nI_pred]]
              refine ax_iload dX10_worked_86 rfl ?_
              refine ax_aload_n dX10_worked_88 rfl ?_
              refine ax_getK (f := 26) 117 dX10_worked_89 acl_10 wd_1626 (by decide) rfl (lo_s hok 90 rfl) (lo_r hok 95 rfl) ?_
              refine ax_iload_n dX10_worked_92 rfl ?_
              refine ax_iconst (v := 1) dX10_worked_93 (by decide) ?_
              refine ax_isub dX10_worked_94 ?_
              rw [show nI (r.length + 2) + -1 - 1 = nI r.length by rw [show r.length + 2 = (r.length + 1) + 1 by omega, pk_m1, nI_pred]]
              refine ax_iald dX10_worked_95 (lo_s hok 117 rfl) (vp_in_nI (by omega) (by decide)) ?_
              rw [nI_clamp (by omega), hu1]
              refine ax_aload_n dX10_worked_96 rfl ?_
              refine ax_getK (f := 26) 117 dX10_worked_97 acl_10 wd_1626 (by decide) rfl (lo_s hok 90 rfl) (lo_r hok 95 rfl) ?_
              refine ax_iload_n dX10_worked_100 rfl ?_
              rw [show nI (r.length + 2) + -1 = nI (r.length + 1) by rw [show r.length + 2 = (r.length + 1) + 1 by omega, pk_m1]]
              refine ax_iald dX10_worked_101 (lo_s hok 117 rfl) (vp_in_nI (by omega) (by decide)) ?_
              rw [nI_clamp (by omega), hv1]
              refine ax_callS (As := _) (c1 := 0) (n1 := 0) (c_X10_by (M := M1) h2 h7 _ _ ch) dX10_worked_102 mX10_by wd_1974 rfl (by omega) (by omega) (by omega) rfl rfl (fun _ _ h => by cases h.1) ?_
              rintro r M9 ⟨h1, h9⟩; cases h1; rw [h9]; clear h9 M9
              refine ax_iast dX10_worked_105 (lo_s hok 117 rfl) (vp_in_nI (by omega) (by decide)) ?_
              rw [nI_clamp (by omega)]
              refine next (ax_pI M1 117 r.length (ev_op q.1 u v)) (ev_op q.1 u v :: r) ⟨hfr.1, fun n i hn => by rw [ax_pn (by omega)]; exact hfr.2 n i hn⟩ ?_ (fun j x hx => ?_) hdep (by show r.length + 1 ≤ 160; omega)
              · show _ = (if q.1 = 0 then _ else if q.1 = 1 then _ else _)
                rw [if_neg n0, if_neg n1]
              · cases j with
                | zero =>
                  have ev1 : ev_op q.1 u v = x := Option.some.inj hx
                  rw [← ev1]
                  show (ax_pI M1 117 r.length (ev_op q.1 u v)).1 117 (r.length + 1 - 1 - 0) = _
                  rw [show r.length + 1 - 1 - 0 = r.length by omega]
                  exact ax_pa _ _ _ _
                | succ j =>
                  have hx2 : r[j]? = some x := hx
                  have hj : j < r.length := (List.getElem?_eq_some_iff.mp hx2).1
                  have h9 := hm (j + 2) x hx
                  rw [hlr] at h9
                  show (ax_pI M1 117 r.length (ev_op q.1 u v)).1 117 (r.length + 1 - 1 - (j + 1)) = x
                  rw [ax_pn (by omega), show r.length + 1 - 1 - (j + 1) = r.length + 2 - 1 - (j + 2) by omega]
                  exact h9
            · exact absurd (show (2 : Int32) ≤ q.1 by rw [ch]; exact (nI_leI (a := 2) (by omega) (by omega)).mpr h2) hc
          · cases hdep
  refine ax_iconst (v := 0) dX10_worked_0 (by decide) ?_
  refine ax_istore_n dX10_worked_1 (by decide) rfl ?_
  refine ax_aload_n dX10_worked_2 rfl ?_
  refine ax_getK (f := 24) 112 dX10_worked_3 acl_10 wd_1624 (by decide) rfl (lo_s hok 90 rfl) (lo_r hok 93 rfl) ?_
  refine ax_iload_n dX10_worked_6 rfl ?_
  refine ax_aaldK2 (113 + w) dX10_worked_7 (lo_s hok 112 rfl) (vp_in_nI hw (by decide)) (by rw [nI_clamp (by omega)]; exact lo_w_m_law hok hw) ?_
  refine ax_astore_n dX10_worked_8 (by decide) rfl ?_
  refine ax_iconst (v := 0) dX10_worked_9 (by decide) ?_
  refine ax_istore dX10_worked_10 (by decide) rfl ?_
  exact loop cs [] [] M none none rfl ⟨rfl, fun _ _ _ => rfl⟩ rfl (fun j x h => by simp at h) (hd 160 0 (by omega)) (by simp)
end EW

