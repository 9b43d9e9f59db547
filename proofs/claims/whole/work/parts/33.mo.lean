/-! ===== looking out: the reference's method ===== -/
section MO
variable {l : Launch} {G : ax_G} {M : ax_M} {r : Nat → Int} {lw : mt_L} {dd : Nat → Int32}
theorem lk_row_fr {N N2 : ax_M} {c t : Nat} (h : lk_row N r lw dd c t) (e : ∀ k, N2.1 (172 + 100 * c + t) k = N.1 (172 + 100 * c + t) k) : lk_row N2 r lw dd c t := ⟨(e 0).trans h.1, (e 1).trans h.2.1, (e 2).trans h.2.2.1, (e 3).trans h.2.2.2.1, (e 4).trans h.2.2.2.2.1, (e 5).trans h.2.2.2.2.2⟩
theorem mt_sn_next {M1 M2 : ax_M} {c i t : Nat} (h : mt_sn M1 r lw dd c i t) (hi : i < 10) (e : mt_sk r lw dd c i (t + 1) = mt_sk r lw dd c i t) (h2 : ∀ k, M2.1 (372 + c) k = M1.1 (372 + c) k ∧ M2.1 (375 + c) k = M1.1 (375 + c) k) : mt_sn M2 r lw dd c (i + 1) t := by
  intro k hk
  rw [(h2 k).1, (h2 k).2]
  by_cases q : k = i
  · subst q
    have := h k hk
    rw [if_neg (by omega)] at this
    rw [if_pos (by omega), e]; exact this
  · have := h k hk
    by_cases q2 : k < i
    · rw [if_pos q2] at this; rw [if_pos (by omega)]; exact this
    · rw [if_neg q2] at this; rw [if_neg (by omega)]; exact this
theorem mt_hv_next {c t i : Nat} (hi : (i : Int) < r 2) (hi2 : i < 10) {b : Bool} (hb : mt_hits r lw dd c (r (14 + 2 * i)) (r (15 + 2 * i)) (t + 1) = (mt_hits r lw dd c (r (14 + 2 * i)) (r (15 + 2 * i)) t || b)) : mt_hv r lw dd c t (i + 1) = if b = true then mt_hv r lw dd c t i ||| mt_bit i else mt_hv r lw dd c t i := by
  have e : mt_hv r lw dd c t (i + 1) = mt_or (fun k => (decide ((k : Int) < r 2) && mt_hits r lw dd c (r (14 + 2 * k)) (r (15 + 2 * k)) (if k < i then t + 1 else t)) || (k == i && b)) 10 := by
    refine mt_or_cong 10 (fun k hk => ?_)
    by_cases q : k = i
    · subst q
      rw [if_pos (by omega), if_neg (by omega), hb]
      simp [hi]
    · have : (k == i) = false := by simp; omega
      rw [this, Bool.false_and, Bool.or_false]
      by_cases q2 : k < i
      · rw [if_pos q2, if_pos (by omega)]
      · rw [if_neg q2, if_neg (by omega)]
  rw [e]
  cases b with
  | true =>
    rw [if_pos rfl]
    show _ = mt_or _ 10 ||| mt_bit i
    rw [mt_or_set 10 hi2]
    simp only [Bool.and_true]
  | false =>
    rw [if_neg (by decide)]
    simp only [Bool.and_false, Bool.or_false]
    rfl
theorem c_looks0 (hok : lo_ok M.2) (hr : rr M r) (ho : rd_ok r) (hl : ml_law M 0 (lw 0)) {t : Nat} (ht : t < 99) (hon : mt_on r 0 t = true) (hcell : M.1 379 0 = iI (mt_pos r 0 t)) (hfull : ∀ q, q < 2 → M.1 381 q = mt_f r lw dd q t) (hbl : M.1 380 0 = iI (mt_b r lw dd 0 t)) (hv : mt_view r t = true → M.1 379 0 = iI (mt_pos r 0 t) ∧ M.1 379 1 = iI (mt_pos r 1 t)) (hs : mt_sn M r lw dd 0 0 t) (hh : M.1 377 0 = mt_hit r lw dd 0 t) {x y v m : Int32} (hx : x = nI 0) (hy : y = nI t) (hvv : v = if mt_view r t = true then 1 else 0) (hm : m = if mt_met r t = true then 1 else 0) : ax_Met l G kX10_looksOut 4 0 0 M [av_r 90, av_i x, av_i y, av_i v, av_i m] (fun o M2 => o = .inl none ∧ lk_o M M2 r lw dd 0 t) := by
  subst hx hy hvv hm
  have h9 := ho.1
  have hp := mt_pos_b ho (c := 0) (t := t) (by decide) (by omega)
  have hsi := mt_si_b r lw dd 0 t
  have hst := mt_stop_b ho (c := 0) (t := t) (by decide)
  have hbb := mt_b_b ho lw dd (c := 0) (by decide) t
  have e94 : ∀ (N : ax_M), lk_fr M N 0 t → N.1 94 2 = nI (r 2).toNat := fun N hN => by rw [hN.2 94 2 (by decide) (by decide) (by omega) (by decide) (by decide) (by decide), hr.1 2 (by decide), iI_tn (by omega)]
  have e100 : ∀ (N : ax_M), lk_fr M N 0 t → ∀ k, k < 26 → N.1 100 k = iI (r (10 + k)) := fun N hN k hk => by rw [hN.2 100 k (by decide) (by decide) (by omega) (by decide) (by decide) (by omega), hr.2.1 k hk]
  have e81 : ∀ (N : ax_M), lk_fr M N 0 t → N.1 381 0 = mt_f r lw dd 0 t := fun N hN => (hN.2 381 0 (by decide) (by decide) (by omega) (by decide) (by decide) (by decide)).trans (hfull 0 (by decide))
  have e80 : ∀ (N : ax_M), lk_fr M N 0 t → N.1 380 0 = iI (mt_b r lw dd 0 t) := fun N hN => (hN.2 380 0 (by decide) (by decide) (by omega) (by decide) (by decide) (by decide)).trans hbl
  have hoks : ∀ (N : ax_M), lk_fr M N 0 t → lo_ok N.2 := fun N hN => by rw [hN.1]; exact hok
  have rrs : ∀ (N : ax_M), lk_fr M N 0 t → rr N r := fun N hN => rr_fr hr (fun n i q => hN.2 n i (by omega) (by omega) (by omega) (by omega) (by omega) (by omega))
  have row : ∀ (N N2 : ax_M) (k : Nat) (w : Int32), lk_fr M N 0 t → N2 = ax_pI N (172 + t) k w → lk_fr M N2 0 t := fun N N2 k w h h2 => by subst h2; exact lk_fr_tr h ⟨rfl, fun n i _ _ q _ _ _ => ax_pn (by omega)⟩
  have haw : ∀ k, k < 10 → (iI (r (10 + (4 + 2 * k))) - iI (mt_pos r 0 t)) * 1 = iI (mt_aw r 0 t (r (14 + 2 * k))) := fun k hk => by
    rw [show (1 : Int32) = iI 1 from rfl, iI_sub, iI_mul, show 10 + (4 + 2 * k) = 14 + 2 * k by omega]; rfl
  have hawb : ∀ k, k < 10 → iI_b (mt_aw r 0 t (r (14 + 2 * k))) := fun k hk => mt_aw_b ho (by decide) (by omega) (by have := ho.2.2.1 k hk; omega) (by have := ho.2.2.1 k hk; omega)
  -- the second loop
  have loop2 : ∀ (N : ax_M) (y11 y12 : Option ax_V), lk_fr M N 0 t → lk_row N r lw dd 0 t → mt_sn N r lw dd 0 0 (t + 1) → N.1 377 0 = mt_hit r lw dd 0 t → ax_W l G kX10_looksOut (ax_FQ G (fun o M2 => o = .inl none ∧ lk_o M M2 r lw dd 0 t)) 4 0 0 N 258 [some (av_r 90), some (av_i (nI 0)), some (av_i (nI t)), some (av_i (if mt_view r t = true then 1 else 0)), some (av_i (if mt_met r t = true then 1 else 0)), some (av_r (172 + t)), some (av_i (iI (mt_pos r 0 t))), some (av_i 1), some (av_i (iI (mt_si r lw dd 0 t))), some (av_i (iI (mt_stop r 0 t))), some (av_i (nI 0)), y11, y12] [] := by
    intro N y11 y12 q1 q2 q3 q4
    refine ax_for (r 2).toNat (fun i N L => ∃ y11 y12, L = [some (av_r 90), some (av_i (nI 0)), some (av_i (nI t)), some (av_i (if mt_view r t = true then 1 else 0)), some (av_i (if mt_met r t = true then 1 else 0)), some (av_r (172 + t)), some (av_i (iI (mt_pos r 0 t))), some (av_i 1), some (av_i (iI (mt_si r lw dd 0 t))), some (av_i (iI (mt_stop r 0 t))), some (av_i (nI i)), y11, y12] ∧ lk_fr M N 0 t ∧ lk_row N r lw dd 0 t ∧ mt_sn N r lw dd 0 0 (t + 1) ∧ N.1 377 0 = mt_hv r lw dd 0 t i) 258 ?_ ?_ (i := 0) (by omega) ⟨y11, y12, rfl, q1, q2, q3, q4⟩
    · rintro i N L hi ⟨y11, y12, rfl, fr, rw1, sn, hh⟩ next
      have hok := hoks N fr
      have hX := ho.2.2.1 i (by omega)
      have hAb := hawb i (by omega)
      have go : ∀ (N2 : ax_M) (y11 y12 : Option ax_V), lk_fr M N2 0 t → lk_row N2 r lw dd 0 t → mt_sn N2 r lw dd 0 0 (t + 1) → N2.1 377 0 = mt_hv r lw dd 0 t (i + 1) → ax_W l G kX10_looksOut (ax_FQ G (fun o M2 => o = .inl none ∧ lk_o M M2 r lw dd 0 t)) 4 0 0 N2 363 [some (av_r 90), some (av_i (nI 0)), some (av_i (nI t)), some (av_i (if mt_view r t = true then 1 else 0)), some (av_i (if mt_met r t = true then 1 else 0)), some (av_r (172 + t)), some (av_i (iI (mt_pos r 0 t))), some (av_i 1), some (av_i (iI (mt_si r lw dd 0 t))), some (av_i (iI (mt_stop r 0 t))), some (av_i (nI i)), y11, y12] [] := by
        intro N2 y11 y12 a1 a2 a3 a4
        refine ax_iinc (v := 1) dX10_looksOut_363 rfl (by decide) (by decide) rfl ?_
        refine ax_goto (tgt := 258) dX10_looksOut_366 (by decide) ?_
        exact next N2 _ ⟨y11, y12, by rw [nI_1]; rfl, a1, a2, a3, a4⟩
      have hs0 : mt_sk r lw dd 0 i (t + 1) = mt_seen r lw dd 0 (r (14 + 2 * i)) (r (15 + 2 * i)) (t + 1) := if_pos (by omega)
      have hsa : N.1 372 i = mt_sa r 0 i (mt_seen r lw dd 0 (r (14 + 2 * i)) (r (15 + 2 * i)) (t + 1)) := by
        have := (sn i (by omega)).1
        rw [if_neg (by omega), hs0] at this; exact this
      have hsab : ∀ u, mt_seen r lw dd 0 (r (14 + 2 * i)) (r (15 + 2 * i)) (t + 1) = some u → 0 ≤ mt_aw r 0 u (r (14 + 2 * i)) ∧ mt_aw r 0 u (r (14 + 2 * i)) ≤ 1000 := fun u hu => (mt_sk_b ho lw dd (by decide) (by omega) (by omega) (hs0.trans hu)).2
      have hnx := fun (b : Bool) hb => mt_hv_next (r := r) (lw := lw) (dd := dd) (c := 0) (t := t) (i := i) (b := b) (by omega) (by omega) hb
      have hdef : mt_hits r lw dd 0 (r (14 + 2 * i)) (r (15 + 2 * i)) (t + 1) = (mt_hits r lw dd 0 (r (14 + 2 * i)) (r (15 + 2 * i)) t || (mt_com r 0 t (r (14 + 2 * i)) && mt_late r 0 t (r (14 + 2 * i)) (mt_seen r lw dd 0 (r (14 + 2 * i)) (r (15 + 2 * i)) (t + 1)))) := by
        show (_ || (mt_on r 0 t && _)) = _
        rw [hon, Bool.true_and]
      refine ax_iload dX10_looksOut_258 rfl ?_
      refine ax_aload_n dX10_looksOut_260 rfl ?_
      refine ax_getK (f := 12) 94 dX10_looksOut_261 acl_10 wd_1612 (by decide) rfl (lo_s hok 90 rfl) (lo_r hok 83 rfl) ?_
      refine ax_iconst (v := 2) dX10_looksOut_264 (by decide) ?_
      refine ax_ialdN (2) dX10_looksOut_265 (lo_s hok 94 rfl) (by decide) (by decide) (by decide) ?_
      rw [e94 N fr]
      refine ax_icmp_ge (tgt := 369) dX10_looksOut_266 (by decide) (fun hc => ?_) (fun hc => ?_)
      · exact absurd ((nI_leI (by omega) (by omega)).mp hc) (by omega)
      · refine ax_aload_n dX10_looksOut_269 rfl ?_
        refine ax_getK (f := 18) 100 dX10_looksOut_270 acl_10 wd_1618 (by decide) rfl (lo_s hok 90 rfl) (lo_r hok 89 rfl) ?_
        refine ax_iconst (v := 4) dX10_looksOut_273 (by decide) ?_
        refine ax_iconst (v := 2) dX10_looksOut_274 (by decide) ?_
        refine ax_iload dX10_looksOut_275 rfl ?_
        refine ax_imul dX10_looksOut_277 ?_
        refine ax_iadd dX10_looksOut_278 ?_
        refine ax_ialdN (4 + 2 * i) dX10_looksOut_279 (lo_s hok 100 rfl) (by decide) (by first | with_reducible rfl | assumption | exact ax_nix (by simp only [nx_0, nx_1, nx_2, nx_3, nx_4, nx_10, nx_20, nx_21, nx_100, nI_add, pk_mul] <;> rfl) (by omega) | decide) (by omega) ?_
        rw [e100 N fr (4 + 2 * i) (by omega)]
        refine ax_iload dX10_looksOut_280 rfl ?_
        refine ax_isub dX10_looksOut_282 ?_
        refine ax_iload dX10_looksOut_283 rfl ?_
        refine ax_imul dX10_looksOut_285 ?_
        rw [haw i (by omega)]
        refine ax_istore dX10_looksOut_286 (by decide) rfl ?_
        refine ax_iload dX10_looksOut_288 rfl ?_
        refine ax_iconst (v := 1) dX10_looksOut_290 (by decide) ?_
        refine ax_aload_n dX10_looksOut_291 rfl ?_
        refine ax_iload_n dX10_looksOut_292 rfl ?_
        refine ax_callV (As := _) (d2 := _) (c1 := 0) (n1 := 0) (c_rPace (d := 0) (M := N) hok (rrs N fr) (c := 0) (by decide) rfl) dX10_looksOut_293 mX10_paceOf wd_1923 acl_10 (lo_s hok 90 rfl) rfl (by omega) (by omega) (by omega) rfl rfl (fun _ _ h => by cases h.1) ?_
        rintro r M9 ⟨h1, h9⟩; cases h1; rw [h9]; clear h9 M9
        refine ax_callS (As := _) (c1 := 0) (n1 := 0) (c_X10_in (d := 0) (M := N) _ _ _) dX10_looksOut_296 mX10_in wd_1772 rfl (by omega) (by omega) (by omega) rfl rfl (fun _ _ h => by cases h.1) ?_
        rintro r M9 ⟨h1, h9⟩; cases h1; rw [h9]; clear h9 M9
        have hcom : mt_com r 0 t (r (14 + 2 * i)) = true ↔ (1 ≤ iI (mt_aw r 0 t (r (14 + 2 * i))) ∧ iI (mt_aw r 0 t (r (14 + 2 * i))) ≤ iI (r (10 + 2 * 0))) ∨ (iI (mt_aw r 0 t (r (14 + 2 * i))) = 0 ∧ nI t = 0) := by
          have hc2 := ho.2.1 0 (by decide)
          unfold rd_oc at hc2
          rw [show (1 : Int32) = iI 1 from rfl, show (0 : Int32) = iI 0 from rfl, iI_le (by unfold iI_b; omega) hAb, iI_le hAb (by unfold iI_b; omega), iI_eq hAb (by unfold iI_b; omega), iI_nI, iI_eq (by unfold iI_b; omega) (by unfold iI_b; omega)]
          simp only [mt_com, Bool.or_eq_true, Bool.and_eq_true, decide_eq_true_eq]
          constructor
          · rintro (h | h)
            · exact Or.inl h
            · exact Or.inr ⟨h.1, by omega⟩
          · rintro (h | h)
            · exact Or.inl h
            · exact Or.inr ⟨h.1, by omega⟩
        refine ax_join1 (mt_com r 0 t (r (14 + 2 * i)) = true) 316 (1) (0) ?_ (fun ja jb => ?_)
        rotate_left
        · refine ax_ifB_ne (tgt := 311) dX10_looksOut_299 (by decide) (fun h299 => ?_) (fun h299 => ?_)
          · refine ax_iconst (v := 1) dX10_looksOut_311 (by decide) ?_
            refine ax_goto (tgt := 316) dX10_looksOut_312 (by decide) ?_
            first | exact ja (hcom.mpr (Or.inl h299)) | exact ja (hcom.mpr (Or.inr ⟨h304, h308⟩)) | exact jb (fun z => (hcom.mp z).elim h299 (fun w => h304 w.1)) | exact jb (fun z => (hcom.mp z).elim h299 (fun w => h308 w.2)) | exact ja (hcom.mpr (Or.inr ⟨Decidable.byContradiction h304, Decidable.byContradiction h308⟩)) | exact jb (fun z => (hcom.mp z).elim h299 (fun w => absurd w.1 h304)) | exact jb (fun z => (hcom.mp z).elim h299 (fun w => absurd w.2 h308))
          · refine ax_iload dX10_looksOut_302 rfl ?_
            refine ax_if_ne (tgt := 315) dX10_looksOut_304 (by decide) (fun h304 => ?_) (fun h304 => ?_)
            · refine ax_iconst (v := 0) dX10_looksOut_315 (by decide) ?_
              first | exact ja (hcom.mpr (Or.inl h299)) | exact ja (hcom.mpr (Or.inr ⟨h304, h308⟩)) | exact jb (fun z => (hcom.mp z).elim h299 (fun w => h304 w.1)) | exact jb (fun z => (hcom.mp z).elim h299 (fun w => h308 w.2)) | exact ja (hcom.mpr (Or.inr ⟨Decidable.byContradiction h304, Decidable.byContradiction h308⟩)) | exact jb (fun z => (hcom.mp z).elim h299 (fun w => absurd w.1 h304)) | exact jb (fun z => (hcom.mp z).elim h299 (fun w => absurd w.2 h308))
            · refine ax_iload_n dX10_looksOut_307 rfl ?_
              refine ax_if_ne (tgt := 315) dX10_looksOut_308 (by decide) (fun h308 => ?_) (fun h308 => ?_)
              · refine ax_iconst (v := 0) dX10_looksOut_315 (by decide) ?_
                first | exact ja (hcom.mpr (Or.inl h299)) | exact ja (hcom.mpr (Or.inr ⟨h304, h308⟩)) | exact jb (fun z => (hcom.mp z).elim h299 (fun w => h304 w.1)) | exact jb (fun z => (hcom.mp z).elim h299 (fun w => h308 w.2)) | exact ja (hcom.mpr (Or.inr ⟨Decidable.byContradiction h304, Decidable.byContradiction h308⟩)) | exact jb (fun z => (hcom.mp z).elim h299 (fun w => absurd w.1 h304)) | exact jb (fun z => (hcom.mp z).elim h299 (fun w => absurd w.2 h308))
              · refine ax_iconst (v := 1) dX10_looksOut_311 (by decide) ?_
                refine ax_goto (tgt := 316) dX10_looksOut_312 (by decide) ?_
                first | exact ja (hcom.mpr (Or.inl h299)) | exact ja (hcom.mpr (Or.inr ⟨h304, h308⟩)) | exact jb (fun z => (hcom.mp z).elim h299 (fun w => h304 w.1)) | exact jb (fun z => (hcom.mp z).elim h299 (fun w => h308 w.2)) | exact ja (hcom.mpr (Or.inr ⟨Decidable.byContradiction h304, Decidable.byContradiction h308⟩)) | exact jb (fun z => (hcom.mp z).elim h299 (fun w => absurd w.1 h304)) | exact jb (fun z => (hcom.mp z).elim h299 (fun w => absurd w.2 h308))
        refine ax_istore dX10_looksOut_316 (by decide) rfl ?_
        refine ax_iload dX10_looksOut_318 rfl ?_
        refine ax_ifB_eq (tgt := 363) dX10_looksOut_320 (by decide) (fun hc => ?_) (fun hc => ?_)
        · refine go N _ _ fr rw1 sn ?_
          rw [hh, hnx false (by rw [hdef, Bool.eq_false_iff.mpr hc, Bool.false_and]), if_neg (by decide)]
        · have hcm := hc
          have put : mt_late r 0 t (r (14 + 2 * i)) (mt_seen r lw dd 0 (r (14 + 2 * i)) (r (15 + 2 * i)) (t + 1)) = true → ∀ y11 y12, ax_W l G kX10_looksOut (ax_FQ G (fun o M2 => o = .inl none ∧ lk_o M M2 r lw dd 0 t)) 4 0 0 N 350 [some (av_r 90), some (av_i (nI 0)), some (av_i (nI t)), some (av_i (if mt_view r t = true then 1 else 0)), some (av_i (if mt_met r t = true then 1 else 0)), some (av_r (172 + t)), some (av_i (iI (mt_pos r 0 t))), some (av_i 1), some (av_i (iI (mt_si r lw dd 0 t))), some (av_i (iI (mt_stop r 0 t))), some (av_i (nI i)), y11, y12] [] := by
            intro hlt y11 y12
            refine ax_aload_n dX10_looksOut_350 rfl ?_
            refine ax_getK (f := 39) 377 dX10_looksOut_351 acl_10 wd_1639 (by decide) rfl (lo_s hok 90 rfl) (lo_r hok 104 rfl) ?_
            refine ax_iload_n dX10_looksOut_354 rfl ?_
            refine ax_dup2 dX10_looksOut_355 (by first | rfl | exact ax_crf _) (by first | rfl | exact ax_crf _) ?_
            refine ax_ialdN (0) dX10_looksOut_356 (lo_s hok 377 rfl) (by decide) (by decide) (by decide) ?_
            refine ax_iconst (v := 1) dX10_looksOut_357 (by decide) ?_
            refine ax_iload dX10_looksOut_358 rfl ?_
            refine ax_ishl dX10_looksOut_360 ?_
            refine ax_ior dX10_looksOut_361 ?_
            refine ax_iastN (0) dX10_looksOut_362 (lo_s hok 377 rfl) (by decide) (by decide) (by decide) ?_
            refine ax_gen (fun N2 hN2 => ?_)
            have hok : lo_ok N2.2 := by rw [hN2]; exact hok
            refine go N2 _ _ ?_ ?_ ?_ ?_
            · rw [hN2]; exact lk_fr_tr fr ⟨rfl, fun n i _ _ _ _ _ q => ax_pn (by omega)⟩
            · rw [hN2]; exact lk_row_fr rw1 (fun k => ax_pn (by omega))
            · rw [hN2]; exact sn
            · rw [hN2, ax_pa, hh, hnx true (by rw [hdef, hcm, hlt]; rfl), if_pos rfl]; rfl
          refine ax_aload_n dX10_looksOut_323 rfl ?_
          refine ax_getK (f := 37) 371 dX10_looksOut_324 acl_10 wd_1637 (by decide) rfl (lo_s hok 90 rfl) (lo_r hok 102 rfl) ?_
          refine ax_iload_n dX10_looksOut_327 rfl ?_
          refine ax_aaldN2 372 0 dX10_looksOut_328 (lo_s hok 371 rfl) (by decide) (by decide) (by decide) (lo_r hok 373 rfl) ?_
          refine ax_iload dX10_looksOut_329 rfl ?_
          refine ax_ialdN (i) dX10_looksOut_331 (lo_s hok 372 rfl) (by decide) (by first | with_reducible rfl | assumption | exact ax_nix (by simp only [nx_0, nx_1, nx_2, nx_3, nx_4, nx_10, nx_20, nx_21, nx_100, nI_add, pk_mul] <;> rfl) (by omega) | decide) (by omega) ?_
          refine ax_iconst (v := (-1)) dX10_looksOut_332 (by decide) ?_
          rw [hsa]
          refine ax_icmp_eq (tgt := 350) dX10_looksOut_333 (by decide) (fun hc => ?_) (fun hc => ?_)
          · exact put (by rw [(mt_sa_no hsab).mp hc]; rfl) _ _
          · have hne := fun z => hc ((mt_sa_no hsab).mpr z)
            refine ax_aload_n dX10_looksOut_336 rfl ?_
            refine ax_getK (f := 37) 371 dX10_looksOut_337 acl_10 wd_1637 (by decide) rfl (lo_s hok 90 rfl) (lo_r hok 102 rfl) ?_
            refine ax_iload_n dX10_looksOut_340 rfl ?_
            refine ax_aaldN2 372 0 dX10_looksOut_341 (lo_s hok 371 rfl) (by decide) (by decide) (by decide) (lo_r hok 373 rfl) ?_
            refine ax_iload dX10_looksOut_342 rfl ?_
            refine ax_ialdN (i) dX10_looksOut_344 (lo_s hok 372 rfl) (by decide) (by first | with_reducible rfl | assumption | exact ax_nix (by simp only [nx_0, nx_1, nx_2, nx_3, nx_4, nx_10, nx_20, nx_21, nx_100, nI_add, pk_mul] <;> rfl) (by omega) | decide) (by omega) ?_
            refine ax_iload dX10_looksOut_345 rfl ?_
            rw [hsa]
            obtain ⟨u, hu⟩ := Option.ne_none_iff_exists'.mp hne
            have hub := hsab u hu
            rw [hu]
            change ax_W l G kX10_looksOut _ 4 0 0 N _ _ (av_i (iI (mt_stop r 0 t)) :: av_i (iI (mt_aw r 0 u (r (14 + 2 * i)))) :: _)
            refine ax_icmp_ge (tgt := 363) dX10_looksOut_347 (by decide) (fun hc => ?_) (fun hc => ?_)
            · refine go N _ _ fr rw1 sn ?_
              have hc2 := (iI_le (by unfold iI_b; omega) (by unfold iI_b; omega)).mp hc
              rw [hh, hnx false (by rw [hdef, hu]; show _ = _; rw [show mt_late r 0 t (r (14 + 2 * i)) (some u) = false from decide_eq_false (by omega), Bool.and_false]), if_neg (by decide)]
            · have hc2 : ¬ mt_stop r 0 t ≤ mt_aw r 0 u (r (14 + 2 * i)) := fun z => hc ((iI_le (by unfold iI_b; omega) (by unfold iI_b; omega)).mpr z)
              exact put (by rw [hu]; exact decide_eq_true (by omega)) _ _
    · rintro N L ⟨y11, y12, rfl, fr, rw1, sn, hh⟩
      have hok := hoks N fr
      refine ax_iload dX10_looksOut_258 rfl ?_
      refine ax_aload_n dX10_looksOut_260 rfl ?_
      refine ax_getK (f := 12) 94 dX10_looksOut_261 acl_10 wd_1612 (by decide) rfl (lo_s hok 90 rfl) (lo_r hok 83 rfl) ?_
      refine ax_iconst (v := 2) dX10_looksOut_264 (by decide) ?_
      refine ax_ialdN (2) dX10_looksOut_265 (lo_s hok 94 rfl) (by decide) (by decide) (by decide) ?_
      rw [e94 N fr]
      refine ax_icmp_ge (tgt := 369) dX10_looksOut_266 (by decide) (fun hc => ?_) (fun hc => ?_)
      · refine ax_vret dX10_looksOut_369 rfl ?_
        refine ⟨rfl, fr, rw1, sn, hh.trans ?_⟩
        refine mt_or_cong 10 (fun k hk => ?_)
        by_cases q : (k : Int) < r 2
        · rw [if_pos (by omega)]
        · simp [q]
      · exact absurd ((nI_leI (by omega) (by omega)).mpr (Nat.le_refl _)) hc
  -- the first loop
  have loop1 : ∀ (N : ax_M) (y11 y12 : Option ax_V), lk_fr M N 0 t → lk_row N r lw dd 0 t → mt_sn N r lw dd 0 0 t → N.1 377 0 = mt_hit r lw dd 0 t → ax_W l G kX10_looksOut (ax_FQ G (fun o M2 => o = .inl none ∧ lk_o M M2 r lw dd 0 t)) 4 0 0 N 131 [some (av_r 90), some (av_i (nI 0)), some (av_i (nI t)), some (av_i (if mt_view r t = true then 1 else 0)), some (av_i (if mt_met r t = true then 1 else 0)), some (av_r (172 + t)), some (av_i (iI (mt_pos r 0 t))), some (av_i 1), some (av_i (iI (mt_si r lw dd 0 t))), some (av_i (iI (mt_stop r 0 t))), some (av_i (nI 0)), y11, y12] [] := by
    intro N y11 y12 q1 q2 q3 q4
    refine ax_for (r 2).toNat (fun i N L => ∃ y11 y12, L = [some (av_r 90), some (av_i (nI 0)), some (av_i (nI t)), some (av_i (if mt_view r t = true then 1 else 0)), some (av_i (if mt_met r t = true then 1 else 0)), some (av_r (172 + t)), some (av_i (iI (mt_pos r 0 t))), some (av_i 1), some (av_i (iI (mt_si r lw dd 0 t))), some (av_i (iI (mt_stop r 0 t))), some (av_i (nI i)), y11, y12] ∧ lk_fr M N 0 t ∧ lk_row N r lw dd 0 t ∧ mt_sn N r lw dd 0 i t ∧ N.1 377 0 = mt_hit r lw dd 0 t) 131 ?_ ?_ (i := 0) (by omega) ⟨y11, y12, rfl, q1, q2, q3, q4⟩
    · rintro i N L hi ⟨y11, y12, rfl, fr, rw1, sn, hh⟩ next
      have hok := hoks N fr
      have hX := ho.2.2.1 i (by omega)
      have hAb := hawb i (by omega)
      have go : ∀ (N2 : ax_M) (y11 y12 : Option ax_V), lk_fr M N2 0 t → lk_row N2 r lw dd 0 t → mt_sn N2 r lw dd 0 (i + 1) t → N2.1 377 0 = mt_hit r lw dd 0 t → ax_W l G kX10_looksOut (ax_FQ G (fun o M2 => o = .inl none ∧ lk_o M M2 r lw dd 0 t)) 4 0 0 N2 249 [some (av_r 90), some (av_i (nI 0)), some (av_i (nI t)), some (av_i (if mt_view r t = true then 1 else 0)), some (av_i (if mt_met r t = true then 1 else 0)), some (av_r (172 + t)), some (av_i (iI (mt_pos r 0 t))), some (av_i 1), some (av_i (iI (mt_si r lw dd 0 t))), some (av_i (iI (mt_stop r 0 t))), some (av_i (nI i)), y11, y12] [] := by
        intro N2 y11 y12 a1 a2 a3 a4
        refine ax_iinc (v := 1) dX10_looksOut_249 rfl (by decide) (by decide) rfl ?_
        refine ax_goto (tgt := 131) dX10_looksOut_252 (by decide) ?_
        exact next N2 _ ⟨y11, y12, by rw [nI_1]; rfl, a1, a2, a3, a4⟩
      have hs0 : ∀ t2, mt_sk r lw dd 0 i t2 = mt_seen r lw dd 0 (r (14 + 2 * i)) (r (15 + 2 * i)) t2 := fun t2 => if_pos (by omega)
      have hsa : N.1 372 i = mt_sa r 0 i (mt_seen r lw dd 0 (r (14 + 2 * i)) (r (15 + 2 * i)) t) := by
        have := (sn i (by omega)).1
        rw [if_neg (by omega), hs0] at this; exact this
      have hsab : ∀ u, mt_seen r lw dd 0 (r (14 + 2 * i)) (r (15 + 2 * i)) t = some u → 0 ≤ mt_aw r 0 u (r (14 + 2 * i)) ∧ mt_aw r 0 u (r (14 + 2 * i)) ≤ 1000 := fun u hu => (mt_sk_b ho lw dd (by decide) (by omega) (by omega) ((hs0 _).trans hu)).2
      have nos : mt_sees r lw dd 0 (r (14 + 2 * i)) (r (15 + 2 * i)) t = false → ∀ y11 y12, ax_W l G kX10_looksOut (ax_FQ G (fun o M2 => o = .inl none ∧ lk_o M M2 r lw dd 0 t)) 4 0 0 N 249 [some (av_r 90), some (av_i (nI 0)), some (av_i (nI t)), some (av_i (if mt_view r t = true then 1 else 0)), some (av_i (if mt_met r t = true then 1 else 0)), some (av_r (172 + t)), some (av_i (iI (mt_pos r 0 t))), some (av_i 1), some (av_i (iI (mt_si r lw dd 0 t))), some (av_i (iI (mt_stop r 0 t))), some (av_i (nI i)), y11, y12] [] := by
        intro hn y11 y12
        refine go N y11 y12 fr rw1 (mt_sn_next sn (by omega) ?_ (fun k => ⟨rfl, rfl⟩)) hh
        rw [hs0, hs0, mt_seen_s]
        cases e : mt_seen r lw dd 0 (r (14 + 2 * i)) (r (15 + 2 * i)) t with
        | some u => rfl
        | none => simp [hn]
      refine ax_iload dX10_looksOut_131 rfl ?_
      refine ax_aload_n dX10_looksOut_133 rfl ?_
      refine ax_getK (f := 12) 94 dX10_looksOut_134 acl_10 wd_1612 (by decide) rfl (lo_s hok 90 rfl) (lo_r hok 83 rfl) ?_
      refine ax_iconst (v := 2) dX10_looksOut_137 (by decide) ?_
      refine ax_ialdN (2) dX10_looksOut_138 (lo_s hok 94 rfl) (by decide) (by decide) (by decide) ?_
      rw [e94 N fr]
      refine ax_icmp_ge (tgt := 255) dX10_looksOut_139 (by decide) (fun hc => ?_) (fun hc => ?_)
      · exact absurd ((nI_leI (by omega) (by omega)).mp hc) (by omega)
      · refine ax_aload_n dX10_looksOut_142 rfl ?_
        refine ax_getK (f := 18) 100 dX10_looksOut_143 acl_10 wd_1618 (by decide) rfl (lo_s hok 90 rfl) (lo_r hok 89 rfl) ?_
        refine ax_iconst (v := 4) dX10_looksOut_146 (by decide) ?_
        refine ax_iconst (v := 2) dX10_looksOut_147 (by decide) ?_
        refine ax_iload dX10_looksOut_148 rfl ?_
        refine ax_imul dX10_looksOut_150 ?_
        refine ax_iadd dX10_looksOut_151 ?_
        refine ax_ialdN (4 + 2 * i) dX10_looksOut_152 (lo_s hok 100 rfl) (by decide) (by first | with_reducible rfl | assumption | exact ax_nix (by simp only [nx_0, nx_1, nx_2, nx_3, nx_4, nx_10, nx_20, nx_21, nx_100, nI_add, pk_mul] <;> rfl) (by omega) | decide) (by omega) ?_
        rw [e100 N fr (4 + 2 * i) (by omega)]
        refine ax_iload dX10_looksOut_153 rfl ?_
        refine ax_isub dX10_looksOut_155 ?_
        refine ax_iload dX10_looksOut_156 rfl ?_
        refine ax_imul dX10_looksOut_158 ?_
        rw [haw i (by omega)]
        refine ax_istore dX10_looksOut_159 (by decide) rfl ?_
        refine ax_iload dX10_looksOut_161 rfl ?_
        refine ax_if_eq (tgt := 249) dX10_looksOut_163 (by decide) (fun hc => ?_) (fun hc => ?_)
        · refine nos ?_ _ _
          have := (iI_eq (b := 0) (by unfold iI_b; omega) (by unfold iI_b; omega)).mp hc
          simp [mt_sees, this]
        · have c1 : ¬ mt_si r lw dd 0 t = 0 := fun z => hc ((iI_eq (b := 0) (by unfold iI_b; omega) (by unfold iI_b; omega)).mpr z)
          refine ax_iload dX10_looksOut_166 rfl ?_
          refine ax_if_lt (tgt := 249) dX10_looksOut_168 (by decide) (fun hc => ?_) (fun hc => ?_)
          · refine nos ?_ _ _
            have := (iI_lt (b := 0) hAb (by unfold iI_b; omega)).mp hc
            simp [mt_sees]; omega
          · have c2 : ¬ mt_aw r 0 t (r (14 + 2 * i)) < 0 := fun z => hc ((iI_lt (b := 0) hAb (by unfold iI_b; omega)).mpr z)
            refine ax_iload dX10_looksOut_171 rfl ?_
            refine ax_iload dX10_looksOut_173 rfl ?_
            refine ax_aload_n dX10_looksOut_175 rfl ?_
            refine ax_getK (f := 18) 100 dX10_looksOut_176 acl_10 wd_1618 (by decide) rfl (lo_s hok 90 rfl) (lo_r hok 89 rfl) ?_
            refine ax_iconst (v := 4) dX10_looksOut_179 (by decide) ?_
            refine ax_iconst (v := 2) dX10_looksOut_180 (by decide) ?_
            refine ax_iload dX10_looksOut_181 rfl ?_
            refine ax_imul dX10_looksOut_183 ?_
            refine ax_iadd dX10_looksOut_184 ?_
            refine ax_iconst (v := 1) dX10_looksOut_185 (by decide) ?_
            refine ax_iadd dX10_looksOut_186 ?_
            refine ax_ialdN (4 + 2 * i + 1) dX10_looksOut_187 (lo_s hok 100 rfl) (by decide) (by first | with_reducible rfl | assumption | exact ax_nix (by simp only [nx_0, nx_1, nx_2, nx_3, nx_4, nx_10, nx_20, nx_21, nx_100, nI_add, pk_mul] <;> rfl) (by omega) | decide) (by omega) ?_
            rw [e100 N fr (4 + 2 * i + 1) (by omega), show 10 + (4 + 2 * i + 1) = 15 + 2 * i by omega]
            refine ax_iadd dX10_looksOut_188 ?_
            rw [iI_add]
            refine ax_icmp_gt (tgt := 249) dX10_looksOut_189 (by decide) (fun hc => ?_) (fun hc => ?_)
            · refine nos ?_ _ _
              have := (iI_lt (by unfold iI_b; omega) hAb).mp hc
              simp [mt_sees]; omega
            · have c3 : ¬ mt_si r lw dd 0 t + r (15 + 2 * i) < mt_aw r 0 t (r (14 + 2 * i)) := fun z => hc ((iI_lt (by unfold iI_b; omega) hAb).mpr z)
              refine ax_aload_n dX10_looksOut_192 rfl ?_
              refine ax_iload dX10_looksOut_193 rfl ?_
              refine ax_aload_n dX10_looksOut_195 rfl ?_
              refine ax_getK (f := 18) 100 dX10_looksOut_196 acl_10 wd_1618 (by decide) rfl (lo_s hok 90 rfl) (lo_r hok 89 rfl) ?_
              refine ax_iconst (v := 4) dX10_looksOut_199 (by decide) ?_
              refine ax_iconst (v := 2) dX10_looksOut_200 (by decide) ?_
              refine ax_iload dX10_looksOut_201 rfl ?_
              refine ax_imul dX10_looksOut_203 ?_
              refine ax_iadd dX10_looksOut_204 ?_
              refine ax_ialdN (4 + 2 * i) dX10_looksOut_205 (lo_s hok 100 rfl) (by decide) (by first | with_reducible rfl | assumption | exact ax_nix (by simp only [nx_0, nx_1, nx_2, nx_3, nx_4, nx_10, nx_20, nx_21, nx_100, nI_add, pk_mul] <;> rfl) (by omega) | decide) (by omega) ?_
              rw [e100 N fr (4 + 2 * i) (by omega), show 10 + (4 + 2 * i) = 14 + 2 * i by omega]
              refine ax_callV (As := _) (d2 := _) (c1 := 0) (n1 := 0) (c_rBend (M := N) hok (rrs N fr) ho (mt_pos r 0 t) (r (14 + 2 * i)) (by unfold iI_b; omega) (by unfold iI_b; omega) rfl rfl) dX10_looksOut_206 mX10_isBendBetween wd_1901 acl_10 (lo_s hok 90 rfl) rfl (by omega) (by omega) (by omega) rfl rfl (fun _ _ h => by cases h.1) ?_
              rintro r M9 ⟨h1, h9⟩; cases h1; rw [h9]; clear h9 M9
              refine ax_ifB_ne (tgt := 249) dX10_looksOut_209 (by decide) (fun hc => ?_) (fun hc => ?_)
              · refine nos ?_ _ _
                simp [mt_sees, hc]
              · have c4 := hc
                refine ax_aload_n dX10_looksOut_212 rfl ?_
                refine ax_getK (f := 37) 371 dX10_looksOut_213 acl_10 wd_1637 (by decide) rfl (lo_s hok 90 rfl) (lo_r hok 102 rfl) ?_
                refine ax_iload_n dX10_looksOut_216 rfl ?_
                refine ax_aaldN2 372 0 dX10_looksOut_217 (lo_s hok 371 rfl) (by decide) (by decide) (by decide) (lo_r hok 373 rfl) ?_
                refine ax_iload dX10_looksOut_218 rfl ?_
                refine ax_ialdN (i) dX10_looksOut_220 (lo_s hok 372 rfl) (by decide) (by first | with_reducible rfl | assumption | exact ax_nix (by simp only [nx_0, nx_1, nx_2, nx_3, nx_4, nx_10, nx_20, nx_21, nx_100, nI_add, pk_mul] <;> rfl) (by omega) | decide) (by omega) ?_
                refine ax_iconst (v := (-1)) dX10_looksOut_221 (by decide) ?_
                rw [hsa]
                refine ax_icmp_eq (tgt := 228) dX10_looksOut_222 (by decide) (fun hc => ?_) (fun hc => ?_)
                · have hno := (mt_sa_no hsab).mp hc
                  refine ax_aload_n dX10_looksOut_228 rfl ?_
                  refine ax_getK (f := 37) 371 dX10_looksOut_229 acl_10 wd_1637 (by decide) rfl (lo_s hok 90 rfl) (lo_r hok 102 rfl) ?_
                  refine ax_iload_n dX10_looksOut_232 rfl ?_
                  refine ax_aaldN2 372 0 dX10_looksOut_233 (lo_s hok 371 rfl) (by decide) (by decide) (by decide) (lo_r hok 373 rfl) ?_
                  refine ax_iload dX10_looksOut_234 rfl ?_
                  refine ax_iload dX10_looksOut_236 rfl ?_
                  refine ax_iastN (i) dX10_looksOut_238 (lo_s hok 372 rfl) (by decide) (by first | with_reducible rfl | assumption | exact ax_nix (by simp only [nx_0, nx_1, nx_2, nx_3, nx_4, nx_10, nx_20, nx_21, nx_100, nI_add, pk_mul] <;> rfl) (by omega) | decide) (by omega) ?_
                  refine ax_aload_n dX10_looksOut_239 rfl ?_
                  refine ax_getK (f := 38) 374 dX10_looksOut_240 acl_10 wd_1638 (by decide) rfl (lo_s hok 90 rfl) (lo_r hok 103 rfl) ?_
                  refine ax_iload_n dX10_looksOut_243 rfl ?_
                  refine ax_aaldN2 375 0 dX10_looksOut_244 (lo_s hok 374 rfl) (by decide) (by decide) (by decide) (lo_r hok 375 rfl) ?_
                  refine ax_iload dX10_looksOut_245 rfl ?_
                  refine ax_iload_n dX10_looksOut_247 rfl ?_
                  refine ax_iastN (i) dX10_looksOut_248 (lo_s hok 375 rfl) (by decide) (by first | with_reducible rfl | assumption | exact ax_nix (by simp only [nx_0, nx_1, nx_2, nx_3, nx_4, nx_10, nx_20, nx_21, nx_100, nI_add, pk_mul] <;> rfl) (by omega) | decide) (by omega) ?_
                  refine ax_gen (fun N2 hN2 => ?_)
                  have hok : lo_ok N2.2 := by rw [hN2]; exact hok
                  have hsee : mt_sees r lw dd 0 (r (14 + 2 * i)) (r (15 + 2 * i)) t = true := by
                    simp [mt_sees, c4]; omega
                  refine go N2 _ _ ?_ ?_ ?_ ?_
                  · rw [hN2]; exact lk_fr_tr fr ⟨rfl, fun n i _ _ _ q q2 _ => by rw [ax_pn (by omega), ax_pn (by omega)]⟩
                  · rw [hN2]
                    have : ∀ k, (ax_pI (ax_pI N 372 i (iI (mt_aw r 0 t (r (14 + 2 * i))))) 375 i (nI t)).1 (172 + t) k = N.1 (172 + t) k := fun k => by rw [ax_pn (by omega), ax_pn (by omega)]
                    exact ⟨(this 0).trans rw1.1, (this 1).trans rw1.2.1, (this 2).trans rw1.2.2.1, (this 3).trans rw1.2.2.2.1, (this 4).trans rw1.2.2.2.2.1, (this 5).trans rw1.2.2.2.2.2⟩
                  · intro k hk
                    have sk := sn k hk
                    rw [hN2]
                    by_cases q : k = i
                    · subst q
                      rw [if_pos (by omega), hs0, mt_seen_s, hno]
                      simp only [hon, hsee, Bool.and_self, if_true]
                      constructor
                      · exact (ax_pn (by omega)).trans (ax_pa _ _ _ _)
                      · exact ax_pa _ _ _ _
                    · have e1 : (ax_pI (ax_pI N 372 i (iI (mt_aw r 0 t (r (14 + 2 * i))))) 375 i (nI t)).1 (372 + 0) k = N.1 (372 + 0) k := by rw [ax_pn (by omega), ax_pn (by omega)]
                      have e2 : (ax_pI (ax_pI N 372 i (iI (mt_aw r 0 t (r (14 + 2 * i))))) 375 i (nI t)).1 (375 + 0) k = N.1 (375 + 0) k := by rw [ax_pn (by omega), ax_pn (by omega)]
                      rw [e1, e2]
                      by_cases q2 : k < i
                      · rw [if_pos q2] at sk; rw [if_pos (by omega)]; exact sk
                      · rw [if_neg q2] at sk; rw [if_neg (by omega)]; exact sk
                  · rw [hN2]; exact hh
                · have hne := fun z => hc ((mt_sa_no hsab).mpr z)
                  obtain ⟨u, hu⟩ := Option.ne_none_iff_exists'.mp hne
                  refine ax_goto (tgt := 249) dX10_looksOut_225 (by decide) ?_
                  refine go N _ _ fr rw1 (mt_sn_next sn (by omega) ?_ (fun k => ⟨rfl, rfl⟩)) hh
                  rw [hs0, hs0, mt_seen_s, hu]
    · rintro N L ⟨y11, y12, rfl, fr, rw1, sn, hh⟩
      have hok := hoks N fr
      refine ax_iload dX10_looksOut_131 rfl ?_
      refine ax_aload_n dX10_looksOut_133 rfl ?_
      refine ax_getK (f := 12) 94 dX10_looksOut_134 acl_10 wd_1612 (by decide) rfl (lo_s hok 90 rfl) (lo_r hok 83 rfl) ?_
      refine ax_iconst (v := 2) dX10_looksOut_137 (by decide) ?_
      refine ax_ialdN (2) dX10_looksOut_138 (lo_s hok 94 rfl) (by decide) (by decide) (by decide) ?_
      rw [e94 N fr]
      refine ax_icmp_ge (tgt := 255) dX10_looksOut_139 (by decide) (fun hc => ?_) (fun hc => ?_)
      · refine ax_iconst (v := 0) dX10_looksOut_255 (by decide) ?_
        refine ax_istore dX10_looksOut_256 (by decide) rfl ?_
        refine loop2 N _ _ fr rw1 ?_ hh
        intro k hk
        have sk := sn k hk
        rw [if_neg (by omega)]
        by_cases q : k < (r 2).toNat
        · rw [if_pos q] at sk; exact sk
        · have : ∀ t2, mt_sk r lw dd 0 k t2 = none := fun t2 => if_neg (by omega)
          rw [this] at sk ⊢; exact sk
      · exact absurd ((nI_leI (by omega) (by omega)).mpr (Nat.le_refl _)) hc
  refine ax_body (by decide) (Nat.le_of_ble_eq_true rfl) ?_
  refine ax_aload_n dX10_looksOut_0 rfl ?_
  refine ax_getK (f := 36) 170 dX10_looksOut_1 acl_10 wd_1636 (by decide) rfl (lo_s hok 90 rfl) (lo_r hok 101 rfl) ?_
  refine ax_iload_n dX10_looksOut_4 rfl ?_
  refine ax_aaldN3 171 0 dX10_looksOut_5 (lo_s hok 170 rfl) (by decide) (by decide) (by decide) (lo_r hok 173 rfl) ?_
  refine ax_iload_n dX10_looksOut_6 rfl ?_
  refine ax_aaldN2 (172 + (t)) (t) dX10_looksOut_7 (lo_s hok 171 rfl) (by decide) (by first | with_reducible rfl | assumption | exact ax_nix (by simp only [nx_0, nx_1, nx_2, nx_3, nx_4, nx_10, nx_20, nx_21, nx_100, nI_add, pk_mul] <;> rfl) (by omega) | decide) (by omega) (lo_w_m_t0 hok (by omega)) ?_
  refine ax_astore dX10_looksOut_8 (by decide) rfl ?_
  refine ax_aload_n dX10_looksOut_10 rfl ?_
  refine ax_iload_n dX10_looksOut_11 rfl ?_
  refine ax_iload_n dX10_looksOut_12 rfl ?_
  refine ax_aload_n dX10_looksOut_13 rfl ?_
  refine ax_getK (f := 43) 381 dX10_looksOut_14 acl_10 wd_1643 (by decide) rfl (lo_s hok 90 rfl) (lo_r hok 108 rfl) ?_
  refine ax_iload_n dX10_looksOut_17 rfl ?_
  refine ax_ialdN (0) dX10_looksOut_18 (lo_s hok 381 rfl) (by decide) (by decide) (by decide) ?_
  rw [hfull _ (by decide)]
  refine ax_iload_n dX10_looksOut_19 rfl ?_
  refine ax_iload dX10_looksOut_20 rfl ?_
  refine ax_aload_n dX10_looksOut_22 rfl ?_
  refine ax_getK (f := 43) 381 dX10_looksOut_23 acl_10 wd_1643 (by decide) rfl (lo_s hok 90 rfl) (lo_r hok 108 rfl) ?_
  refine ax_iconst (v := 1) dX10_looksOut_26 (by decide) ?_
  refine ax_iload_n dX10_looksOut_27 rfl ?_
  refine ax_isub dX10_looksOut_28 ?_
  refine ax_ialdN (1) dX10_looksOut_29 (lo_s hok 381 rfl) (by decide) (by decide) (by decide) ?_
  rw [hfull _ (by decide)]
  refine ax_callV (As := _) (d2 := _) (c1 := 0) (n1 := 0) (c_X10_knows (M := M) (b := mt_b r lw dd 0 t) hok hr ho (c := 0) (t := t) (by decide) (by omega) hcell hbl hv rfl rfl rfl rfl) dX10_looksOut_30 mX10_knows wd_1959 acl_10 (lo_s hok 90 rfl) rfl (by omega) (by omega) (by omega) rfl rfl (fun _ _ h => by cases h.1) ?_
  rintro o9 M1 ⟨h1, k1⟩; cases h1
  have hok : lo_ok M1.2 := by rw [k1.1]; exact hok
  refine ax_aload_n dX10_looksOut_33 rfl ?_
  refine ax_getK (f := 41) 379 dX10_looksOut_34 acl_10 wd_1641 (by decide) rfl (lo_s hok 90 rfl) (lo_r hok 106 rfl) ?_
  refine ax_iload_n dX10_looksOut_37 rfl ?_
  refine ax_ialdN (0) dX10_looksOut_38 (lo_s hok 379 rfl) (by decide) (by decide) (by decide) ?_
  rw [k1.2.1 379 0 (by decide), hcell]
  refine ax_istore dX10_looksOut_39 (by decide) rfl ?_
  refine ax_iload_n dX10_looksOut_41 rfl ?_
  refine ax_if_ne (tgt := 49) dX10_looksOut_42 (by decide) (fun hc => ?_) (fun hc => ?_)
  · exact absurd rfl hc
  rotate_left
  refine ax_iconst (v := 1) dX10_looksOut_45 (by decide) ?_
  refine ax_goto (tgt := 50) dX10_looksOut_46 (by decide) ?_
  skip
  refine ax_istore dX10_looksOut_50 (by decide) rfl ?_
  refine ax_aload_n dX10_looksOut_52 rfl ?_
  refine ax_callV (As := _) (d2 := _) (c1 := 0) (n1 := 0) (c_X10_sightBy (M := M1) hok (ml_law_fr hl (fun n i q => k1.2.1 n i (by omega))) (by rw [k1.2.2 2 (by decide)]; show ¬ iI (mt_b r lw dd 0 t) + iI 1 = iI 0; rw [iI_add, iI_eq (by unfold iI_b; omega) (by unfold iI_b; omega)]; omega)) dX10_looksOut_53 mX10_sightBy wd_1985 acl_10 (lo_s hok 90 rfl) rfl (by omega) (by omega) (by omega) rfl rfl (fun _ _ h => by cases h.1) ?_
  rintro o9 M2 ⟨h1, k2⟩; cases h1
  have hok : lo_ok M2.2 := by rw [k2.1]; exact hok
  rw [ev_sight_cong (fun k hk => k1.2.2 k hk) (ml_law_ev hl), ← iI_of (ev_sight _ _)]
  change ax_W l G kX10_looksOut _ 4 0 0 M2 _ _ (av_i (iI (mt_si r lw dd 0 t)) :: _)
  have fr2 : lk_fr M M2 0 t := ⟨k2.1.trans k1.1, fun n i a b _ _ _ _ => (k2.2 n i a).trans (k1.2.1 n i b)⟩
  refine ax_istore dX10_looksOut_56 (by decide) rfl ?_
  refine ax_aload_n dX10_looksOut_58 rfl ?_
  refine ax_iload_n dX10_looksOut_59 rfl ?_
  refine ax_iload dX10_looksOut_60 rfl ?_
  refine ax_callV (As := _) (d2 := _) (c1 := 0) (n1 := 0) (c_rStop (M := M2) hok (rrs M2 fr2) ho (c := 0) (by decide) (mt_pos r 0 t) (by unfold iI_b; omega) rfl rfl) dX10_looksOut_62 mX10_stopOf wd_1989 acl_10 (lo_s hok 90 rfl) rfl (by omega) (by omega) (by omega) rfl rfl (fun _ _ h => by cases h.1) ?_
  rintro r M9 ⟨h1, h9⟩; cases h1; rw [h9]; clear h9 M9
  change ax_W l G kX10_looksOut _ 4 0 0 M2 _ _ (av_i (iI (mt_stop r 0 t)) :: _)
  refine ax_istore dX10_looksOut_65 (by decide) rfl ?_
  refine ax_aload dX10_looksOut_67 rfl ?_
  refine ax_iconst (v := 0) dX10_looksOut_69 (by decide) ?_
  refine ax_iload dX10_looksOut_70 rfl ?_
  refine ax_iastN (0) dX10_looksOut_72 (by first | assumption | exact lo_tz hok (by omega) (by omega) | exact lo_z_m_wet hok (by omega) | exact lo_z_m_readWet hok (by omega) | exact lo_z_m_law hok (by omega) | exact lo_z_m_book hok (by omega) | exact lo_z_m_readBook hok (by omega) | exact lo_z_m_before hok (by omega) | exact lo_z_m_kept hok (by omega) | exact lo_z_m_seenAt hok (by omega) | exact lo_z_m_seenIn hok (by omega) | exact lo_z_m_t0 hok (by omega) | exact lo_z_m_t1 hok (by omega) | exact lo_z_m_c0 hok (by omega) | exact lo_z_m_c1 hok (by omega) | exact lo_z_x_kept hok (by omega)) (by decide) (by decide) (by decide) ?_
  refine ax_gen (fun M3 hM3 => ?_)
  have hok : lo_ok M3.2 := by rw [hM3]; exact hok
  have fr3 := row _ _ _ _ fr2 hM3
  refine ax_aload dX10_looksOut_73 rfl ?_
  refine ax_iconst (v := 1) dX10_looksOut_75 (by decide) ?_
  refine ax_aload_n dX10_looksOut_76 rfl ?_
  refine ax_getK (f := 43) 381 dX10_looksOut_77 acl_10 wd_1643 (by decide) rfl (lo_s hok 90 rfl) (lo_r hok 108 rfl) ?_
  refine ax_iload_n dX10_looksOut_80 rfl ?_
  refine ax_ialdN (0) dX10_looksOut_81 (lo_s hok 381 rfl) (by decide) (by decide) (by decide) ?_
  rw [e81 _ fr3]
  refine ax_iastN (1) dX10_looksOut_82 (by first | assumption | exact lo_tz hok (by omega) (by omega) | exact lo_z_m_wet hok (by omega) | exact lo_z_m_readWet hok (by omega) | exact lo_z_m_law hok (by omega) | exact lo_z_m_book hok (by omega) | exact lo_z_m_readBook hok (by omega) | exact lo_z_m_before hok (by omega) | exact lo_z_m_kept hok (by omega) | exact lo_z_m_seenAt hok (by omega) | exact lo_z_m_seenIn hok (by omega) | exact lo_z_m_t0 hok (by omega) | exact lo_z_m_t1 hok (by omega) | exact lo_z_m_c0 hok (by omega) | exact lo_z_m_c1 hok (by omega) | exact lo_z_x_kept hok (by omega)) (by decide) (by decide) (by decide) ?_
  refine ax_gen (fun M4 hM4 => ?_)
  have hok : lo_ok M4.2 := by rw [hM4]; exact hok
  have fr4 := row _ _ _ _ fr3 hM4
  refine ax_aload dX10_looksOut_83 rfl ?_
  refine ax_iconst (v := 2) dX10_looksOut_85 (by decide) ?_
  refine ax_aload_n dX10_looksOut_86 rfl ?_
  refine ax_getK (f := 42) 380 dX10_looksOut_87 acl_10 wd_1642 (by decide) rfl (lo_s hok 90 rfl) (lo_r hok 107 rfl) ?_
  refine ax_iload_n dX10_looksOut_90 rfl ?_
  refine ax_ialdN (0) dX10_looksOut_91 (lo_s hok 380 rfl) (by decide) (by decide) (by decide) ?_
  rw [e80 _ fr4]
  refine ax_iastN (2) dX10_looksOut_92 (by first | assumption | exact lo_tz hok (by omega) (by omega) | exact lo_z_m_wet hok (by omega) | exact lo_z_m_readWet hok (by omega) | exact lo_z_m_law hok (by omega) | exact lo_z_m_book hok (by omega) | exact lo_z_m_readBook hok (by omega) | exact lo_z_m_before hok (by omega) | exact lo_z_m_kept hok (by omega) | exact lo_z_m_seenAt hok (by omega) | exact lo_z_m_seenIn hok (by omega) | exact lo_z_m_t0 hok (by omega) | exact lo_z_m_t1 hok (by omega) | exact lo_z_m_c0 hok (by omega) | exact lo_z_m_c1 hok (by omega) | exact lo_z_x_kept hok (by omega)) (by decide) (by decide) (by decide) ?_
  refine ax_gen (fun M5 hM5 => ?_)
  have hok : lo_ok M5.2 := by rw [hM5]; exact hok
  have fr5 := row _ _ _ _ fr4 hM5
  refine ax_aload dX10_looksOut_93 rfl ?_
  refine ax_iconst (v := 3) dX10_looksOut_95 (by decide) ?_
  refine ax_iload dX10_looksOut_96 rfl ?_
  refine ax_iastN (3) dX10_looksOut_98 (by first | assumption | exact lo_tz hok (by omega) (by omega) | exact lo_z_m_wet hok (by omega) | exact lo_z_m_readWet hok (by omega) | exact lo_z_m_law hok (by omega) | exact lo_z_m_book hok (by omega) | exact lo_z_m_readBook hok (by omega) | exact lo_z_m_before hok (by omega) | exact lo_z_m_kept hok (by omega) | exact lo_z_m_seenAt hok (by omega) | exact lo_z_m_seenIn hok (by omega) | exact lo_z_m_t0 hok (by omega) | exact lo_z_m_t1 hok (by omega) | exact lo_z_m_c0 hok (by omega) | exact lo_z_m_c1 hok (by omega) | exact lo_z_x_kept hok (by omega)) (by decide) (by decide) (by decide) ?_
  refine ax_gen (fun M6 hM6 => ?_)
  have hok : lo_ok M6.2 := by rw [hM6]; exact hok
  have fr6 := row _ _ _ _ fr5 hM6
  refine ax_aload dX10_looksOut_99 rfl ?_
  refine ax_iconst (v := 4) dX10_looksOut_101 (by decide) ?_
  refine ax_iload dX10_looksOut_102 rfl ?_
  refine ax_iload dX10_looksOut_104 rfl ?_
  refine ax_join2 (mt_si r lw dd 0 t < mt_stop r 0 t) 114 (1) (0) ?_ (fun ja jb => ?_)
  rotate_left
  · refine ax_icmp_ge (tgt := 113) dX10_looksOut_106 (by decide) (fun h106 => ?_) (fun h106 => ?_)
    · refine ax_iconst (v := 0) dX10_looksOut_113 (by decide) ?_
      first | exact ja (by have : ¬ mt_stop r 0 t ≤ mt_si r lw dd 0 t := (fun z => h106 ((iI_le (by unfold iI_b; omega) (by unfold iI_b; omega)).mpr z)); omega) | exact jb (by have := (iI_le (by unfold iI_b; omega) (by unfold iI_b; omega)).mp h106; omega)
    · refine ax_iconst (v := 1) dX10_looksOut_109 (by decide) ?_
      refine ax_goto (tgt := 114) dX10_looksOut_110 (by decide) ?_
      first | exact ja (by have : ¬ mt_stop r 0 t ≤ mt_si r lw dd 0 t := (fun z => h106 ((iI_le (by unfold iI_b; omega) (by unfold iI_b; omega)).mpr z)); omega) | exact jb (by have := (iI_le (by unfold iI_b; omega) (by unfold iI_b; omega)).mp h106; omega)
  refine ax_iastN (4) dX10_looksOut_114 (by first | assumption | exact lo_tz hok (by omega) (by omega) | exact lo_z_m_wet hok (by omega) | exact lo_z_m_readWet hok (by omega) | exact lo_z_m_law hok (by omega) | exact lo_z_m_book hok (by omega) | exact lo_z_m_readBook hok (by omega) | exact lo_z_m_before hok (by omega) | exact lo_z_m_kept hok (by omega) | exact lo_z_m_seenAt hok (by omega) | exact lo_z_m_seenIn hok (by omega) | exact lo_z_m_t0 hok (by omega) | exact lo_z_m_t1 hok (by omega) | exact lo_z_m_c0 hok (by omega) | exact lo_z_m_c1 hok (by omega) | exact lo_z_x_kept hok (by omega)) (by decide) (by decide) (by decide) ?_
  refine ax_gen (fun M7 hM7 => ?_)
  have hok : lo_ok M7.2 := by rw [hM7]; exact hok
  have fr7 := row _ _ _ _ fr6 hM7
  refine ax_aload dX10_looksOut_115 rfl ?_
  refine ax_iconst (v := 5) dX10_looksOut_117 (by decide) ?_
  refine ax_iload_n dX10_looksOut_118 rfl ?_
  refine ax_join1 (mt_view r t = true) 127 (1) (0) ?_ (fun ja jb => ?_)
  rotate_left
  · refine ax_ifB_eq (tgt := 126) dX10_looksOut_119 (by decide) (fun h119 => ?_) (fun h119 => ?_)
    · refine ax_iconst (v := 0) dX10_looksOut_126 (by decide) ?_
      first | exact ja h119 | exact jb h119
    · refine ax_iconst (v := 1) dX10_looksOut_122 (by decide) ?_
      refine ax_goto (tgt := 127) dX10_looksOut_123 (by decide) ?_
      first | exact ja h119 | exact jb h119
  refine ax_iastN (5) dX10_looksOut_127 (by first | assumption | exact lo_tz hok (by omega) (by omega) | exact lo_z_m_wet hok (by omega) | exact lo_z_m_readWet hok (by omega) | exact lo_z_m_law hok (by omega) | exact lo_z_m_book hok (by omega) | exact lo_z_m_readBook hok (by omega) | exact lo_z_m_before hok (by omega) | exact lo_z_m_kept hok (by omega) | exact lo_z_m_seenAt hok (by omega) | exact lo_z_m_seenIn hok (by omega) | exact lo_z_m_t0 hok (by omega) | exact lo_z_m_t1 hok (by omega) | exact lo_z_m_c0 hok (by omega) | exact lo_z_m_c1 hok (by omega) | exact lo_z_x_kept hok (by omega)) (by decide) (by decide) (by decide) ?_
  refine ax_gen (fun M8 hM8 => ?_)
  have hok : lo_ok M8.2 := by rw [hM8]; exact hok
  have fr8 := row _ _ _ _ fr7 hM8
  refine ax_iconst (v := 0) dX10_looksOut_128 (by decide) ?_
  refine ax_istore dX10_looksOut_129 (by decide) rfl ?_
  refine loop1 M8 _ _ fr8 ?_ ?_ ?_
  · show M8.1 (172 + t) 0 = _ ∧ M8.1 (172 + t) 1 = _ ∧ M8.1 (172 + t) 2 = _ ∧ M8.1 (172 + t) 3 = _ ∧ M8.1 (172 + t) 4 = _ ∧ M8.1 (172 + t) 5 = _
    rw [hM8, hM7, hM6, hM5, hM4, hM3]
    refine ⟨?_, ?_, ?_, ?_, ?_, ?_⟩
    · rw [ax_pn (by omega), ax_pn (by omega), ax_pn (by omega), ax_pn (by omega), ax_pn (by omega), ax_pa]
    · rw [ax_pn (by omega), ax_pn (by omega), ax_pn (by omega), ax_pn (by omega), ax_pa]
    · rw [ax_pn (by omega), ax_pn (by omega), ax_pn (by omega), ax_pa]
    · rw [ax_pn (by omega), ax_pn (by omega), ax_pa]
    · rw [ax_pn (by omega), ax_pa]
    · rw [ax_pa]
  · intro k hk
    have := hs k hk
    have e : ∀ n, n = 372 ∨ n = 375 → M8.1 n k = M.1 n k := fun n hn => by
      rw [hM8, ax_pn (by omega), hM7, ax_pn (by omega), hM6, ax_pn (by omega), hM5, ax_pn (by omega), hM4, ax_pn (by omega), hM3, ax_pn (by omega), k2.2 _ _ (by omega), k1.2.1 _ _ (by omega)]
    exact ⟨(e 372 (by omega)).trans this.1, (e 375 (by omega)).trans this.2⟩
  · rw [hM8, ax_pn (by omega), hM7, ax_pn (by omega), hM6, ax_pn (by omega), hM5, ax_pn (by omega), hM4, ax_pn (by omega), hM3, ax_pn (by omega), k2.2 _ _ (by omega), k1.2.1 _ _ (by omega)]
    exact hh
theorem c_looks1 (hok : lo_ok M.2) (hr : rr M r) (ho : rd_ok r) (hl : ml_law M 0 (lw 0)) {t : Nat} (ht : t < 99) (hon : mt_on r 1 t = true) (hcell : M.1 379 1 = iI (mt_pos r 1 t)) (hfull : ∀ q, q < 2 → M.1 381 q = mt_f r lw dd q t) (hbl : M.1 380 1 = iI (mt_b r lw dd 1 t)) (hv : mt_view r t = true → M.1 379 0 = iI (mt_pos r 0 t) ∧ M.1 379 1 = iI (mt_pos r 1 t)) (hs : mt_sn M r lw dd 1 0 t) (hh : M.1 377 1 = mt_hit r lw dd 1 t) {x y v m : Int32} (hx : x = nI 1) (hy : y = nI t) (hvv : v = if mt_view r t = true then 1 else 0) (hm : m = if mt_met r t = true then 1 else 0) : ax_Met l G kX10_looksOut 4 0 0 M [av_r 90, av_i x, av_i y, av_i v, av_i m] (fun o M2 => o = .inl none ∧ lk_o M M2 r lw dd 1 t) := by
  subst hx hy hvv hm
  have h9 := ho.1
  have hp := mt_pos_b ho (c := 1) (t := t) (by decide) (by omega)
  have hsi := mt_si_b r lw dd 1 t
  have hst := mt_stop_b ho (c := 1) (t := t) (by decide)
  have hbb := mt_b_b ho lw dd (c := 1) (by decide) t
  have e94 : ∀ (N : ax_M), lk_fr M N 1 t → N.1 94 2 = nI (r 2).toNat := fun N hN => by rw [hN.2 94 2 (by decide) (by decide) (by omega) (by decide) (by decide) (by decide), hr.1 2 (by decide), iI_tn (by omega)]
  have e100 : ∀ (N : ax_M), lk_fr M N 1 t → ∀ k, k < 26 → N.1 100 k = iI (r (10 + k)) := fun N hN k hk => by rw [hN.2 100 k (by decide) (by decide) (by omega) (by decide) (by decide) (by omega), hr.2.1 k hk]
  have e81 : ∀ (N : ax_M), lk_fr M N 1 t → N.1 381 1 = mt_f r lw dd 1 t := fun N hN => (hN.2 381 1 (by decide) (by decide) (by omega) (by decide) (by decide) (by decide)).trans (hfull 1 (by decide))
  have e80 : ∀ (N : ax_M), lk_fr M N 1 t → N.1 380 1 = iI (mt_b r lw dd 1 t) := fun N hN => (hN.2 380 1 (by decide) (by decide) (by omega) (by decide) (by decide) (by decide)).trans hbl
  have hoks : ∀ (N : ax_M), lk_fr M N 1 t → lo_ok N.2 := fun N hN => by rw [hN.1]; exact hok
  have rrs : ∀ (N : ax_M), lk_fr M N 1 t → rr N r := fun N hN => rr_fr hr (fun n i q => hN.2 n i (by omega) (by omega) (by omega) (by omega) (by omega) (by omega))
  have row : ∀ (N N2 : ax_M) (k : Nat) (w : Int32), lk_fr M N 1 t → N2 = ax_pI N (272 + t) k w → lk_fr M N2 1 t := fun N N2 k w h h2 => by subst h2; exact lk_fr_tr h ⟨rfl, fun n i _ _ q _ _ _ => ax_pn (by omega)⟩
  have haw : ∀ k, k < 10 → (iI (r (10 + (4 + 2 * k))) - iI (mt_pos r 1 t)) * (-1) = iI (mt_aw r 1 t (r (14 + 2 * k))) := fun k hk => by
    rw [show ((-1) : Int32) = iI (-1) from rfl, iI_sub, iI_mul, show 10 + (4 + 2 * k) = 14 + 2 * k by omega]; rfl
  have hawb : ∀ k, k < 10 → iI_b (mt_aw r 1 t (r (14 + 2 * k))) := fun k hk => mt_aw_b ho (by decide) (by omega) (by have := ho.2.2.1 k hk; omega) (by have := ho.2.2.1 k hk; omega)
  -- the second loop
  have loop2 : ∀ (N : ax_M) (y11 y12 : Option ax_V), lk_fr M N 1 t → lk_row N r lw dd 1 t → mt_sn N r lw dd 1 0 (t + 1) → N.1 377 1 = mt_hit r lw dd 1 t → ax_W l G kX10_looksOut (ax_FQ G (fun o M2 => o = .inl none ∧ lk_o M M2 r lw dd 1 t)) 4 0 0 N 258 [some (av_r 90), some (av_i (nI 1)), some (av_i (nI t)), some (av_i (if mt_view r t = true then 1 else 0)), some (av_i (if mt_met r t = true then 1 else 0)), some (av_r (272 + t)), some (av_i (iI (mt_pos r 1 t))), some (av_i (-1)), some (av_i (iI (mt_si r lw dd 1 t))), some (av_i (iI (mt_stop r 1 t))), some (av_i (nI 0)), y11, y12] [] := by
    intro N y11 y12 q1 q2 q3 q4
    refine ax_for (r 2).toNat (fun i N L => ∃ y11 y12, L = [some (av_r 90), some (av_i (nI 1)), some (av_i (nI t)), some (av_i (if mt_view r t = true then 1 else 0)), some (av_i (if mt_met r t = true then 1 else 0)), some (av_r (272 + t)), some (av_i (iI (mt_pos r 1 t))), some (av_i (-1)), some (av_i (iI (mt_si r lw dd 1 t))), some (av_i (iI (mt_stop r 1 t))), some (av_i (nI i)), y11, y12] ∧ lk_fr M N 1 t ∧ lk_row N r lw dd 1 t ∧ mt_sn N r lw dd 1 0 (t + 1) ∧ N.1 377 1 = mt_hv r lw dd 1 t i) 258 ?_ ?_ (i := 0) (by omega) ⟨y11, y12, rfl, q1, q2, q3, q4⟩
    · rintro i N L hi ⟨y11, y12, rfl, fr, rw1, sn, hh⟩ next
      have hok := hoks N fr
      have hX := ho.2.2.1 i (by omega)
      have hAb := hawb i (by omega)
      have go : ∀ (N2 : ax_M) (y11 y12 : Option ax_V), lk_fr M N2 1 t → lk_row N2 r lw dd 1 t → mt_sn N2 r lw dd 1 0 (t + 1) → N2.1 377 1 = mt_hv r lw dd 1 t (i + 1) → ax_W l G kX10_looksOut (ax_FQ G (fun o M2 => o = .inl none ∧ lk_o M M2 r lw dd 1 t)) 4 0 0 N2 363 [some (av_r 90), some (av_i (nI 1)), some (av_i (nI t)), some (av_i (if mt_view r t = true then 1 else 0)), some (av_i (if mt_met r t = true then 1 else 0)), some (av_r (272 + t)), some (av_i (iI (mt_pos r 1 t))), some (av_i (-1)), some (av_i (iI (mt_si r lw dd 1 t))), some (av_i (iI (mt_stop r 1 t))), some (av_i (nI i)), y11, y12] [] := by
        intro N2 y11 y12 a1 a2 a3 a4
        refine ax_iinc (v := 1) dX10_looksOut_363 rfl (by decide) (by decide) rfl ?_
        refine ax_goto (tgt := 258) dX10_looksOut_366 (by decide) ?_
        exact next N2 _ ⟨y11, y12, by rw [nI_1]; rfl, a1, a2, a3, a4⟩
      have hs0 : mt_sk r lw dd 1 i (t + 1) = mt_seen r lw dd 1 (r (14 + 2 * i)) (r (15 + 2 * i)) (t + 1) := if_pos (by omega)
      have hsa : N.1 373 i = mt_sa r 1 i (mt_seen r lw dd 1 (r (14 + 2 * i)) (r (15 + 2 * i)) (t + 1)) := by
        have := (sn i (by omega)).1
        rw [if_neg (by omega), hs0] at this; exact this
      have hsab : ∀ u, mt_seen r lw dd 1 (r (14 + 2 * i)) (r (15 + 2 * i)) (t + 1) = some u → 0 ≤ mt_aw r 1 u (r (14 + 2 * i)) ∧ mt_aw r 1 u (r (14 + 2 * i)) ≤ 1000 := fun u hu => (mt_sk_b ho lw dd (by decide) (by omega) (by omega) (hs0.trans hu)).2
      have hnx := fun (b : Bool) hb => mt_hv_next (r := r) (lw := lw) (dd := dd) (c := 1) (t := t) (i := i) (b := b) (by omega) (by omega) hb
      have hdef : mt_hits r lw dd 1 (r (14 + 2 * i)) (r (15 + 2 * i)) (t + 1) = (mt_hits r lw dd 1 (r (14 + 2 * i)) (r (15 + 2 * i)) t || (mt_com r 1 t (r (14 + 2 * i)) && mt_late r 1 t (r (14 + 2 * i)) (mt_seen r lw dd 1 (r (14 + 2 * i)) (r (15 + 2 * i)) (t + 1)))) := by
        show (_ || (mt_on r 1 t && _)) = _
        rw [hon, Bool.true_and]
      refine ax_iload dX10_looksOut_258 rfl ?_
      refine ax_aload_n dX10_looksOut_260 rfl ?_
      refine ax_getK (f := 12) 94 dX10_looksOut_261 acl_10 wd_1612 (by decide) rfl (lo_s hok 90 rfl) (lo_r hok 83 rfl) ?_
      refine ax_iconst (v := 2) dX10_looksOut_264 (by decide) ?_
      refine ax_ialdN (2) dX10_looksOut_265 (lo_s hok 94 rfl) (by decide) (by decide) (by decide) ?_
      rw [e94 N fr]
      refine ax_icmp_ge (tgt := 369) dX10_looksOut_266 (by decide) (fun hc => ?_) (fun hc => ?_)
      · exact absurd ((nI_leI (by omega) (by omega)).mp hc) (by omega)
      · refine ax_aload_n dX10_looksOut_269 rfl ?_
        refine ax_getK (f := 18) 100 dX10_looksOut_270 acl_10 wd_1618 (by decide) rfl (lo_s hok 90 rfl) (lo_r hok 89 rfl) ?_
        refine ax_iconst (v := 4) dX10_looksOut_273 (by decide) ?_
        refine ax_iconst (v := 2) dX10_looksOut_274 (by decide) ?_
        refine ax_iload dX10_looksOut_275 rfl ?_
        refine ax_imul dX10_looksOut_277 ?_
        refine ax_iadd dX10_looksOut_278 ?_
        refine ax_ialdN (4 + 2 * i) dX10_looksOut_279 (lo_s hok 100 rfl) (by decide) (by first | with_reducible rfl | assumption | exact ax_nix (by simp only [nx_0, nx_1, nx_2, nx_3, nx_4, nx_10, nx_20, nx_21, nx_100, nI_add, pk_mul] <;> rfl) (by omega) | decide) (by omega) ?_
        rw [e100 N fr (4 + 2 * i) (by omega)]
        refine ax_iload dX10_looksOut_280 rfl ?_
        refine ax_isub dX10_looksOut_282 ?_
        refine ax_iload dX10_looksOut_283 rfl ?_
        refine ax_imul dX10_looksOut_285 ?_
        rw [haw i (by omega)]
        refine ax_istore dX10_looksOut_286 (by decide) rfl ?_
        refine ax_iload dX10_looksOut_288 rfl ?_
        refine ax_iconst (v := 1) dX10_looksOut_290 (by decide) ?_
        refine ax_aload_n dX10_looksOut_291 rfl ?_
        refine ax_iload_n dX10_looksOut_292 rfl ?_
        refine ax_callV (As := _) (d2 := _) (c1 := 0) (n1 := 0) (c_rPace (d := 0) (M := N) hok (rrs N fr) (c := 1) (by decide) rfl) dX10_looksOut_293 mX10_paceOf wd_1923 acl_10 (lo_s hok 90 rfl) rfl (by omega) (by omega) (by omega) rfl rfl (fun _ _ h => by cases h.1) ?_
        rintro r M9 ⟨h1, h9⟩; cases h1; rw [h9]; clear h9 M9
        refine ax_callS (As := _) (c1 := 0) (n1 := 0) (c_X10_in (d := 0) (M := N) _ _ _) dX10_looksOut_296 mX10_in wd_1772 rfl (by omega) (by omega) (by omega) rfl rfl (fun _ _ h => by cases h.1) ?_
        rintro r M9 ⟨h1, h9⟩; cases h1; rw [h9]; clear h9 M9
        have hcom : mt_com r 1 t (r (14 + 2 * i)) = true ↔ (1 ≤ iI (mt_aw r 1 t (r (14 + 2 * i))) ∧ iI (mt_aw r 1 t (r (14 + 2 * i))) ≤ iI (r (10 + 2 * 1))) ∨ (iI (mt_aw r 1 t (r (14 + 2 * i))) = 0 ∧ nI t = 0) := by
          have hc2 := ho.2.1 1 (by decide)
          unfold rd_oc at hc2
          rw [show (1 : Int32) = iI 1 from rfl, show (0 : Int32) = iI 0 from rfl, iI_le (by unfold iI_b; omega) hAb, iI_le hAb (by unfold iI_b; omega), iI_eq hAb (by unfold iI_b; omega), iI_nI, iI_eq (by unfold iI_b; omega) (by unfold iI_b; omega)]
          simp only [mt_com, Bool.or_eq_true, Bool.and_eq_true, decide_eq_true_eq]
          constructor
          · rintro (h | h)
            · exact Or.inl h
            · exact Or.inr ⟨h.1, by omega⟩
          · rintro (h | h)
            · exact Or.inl h
            · exact Or.inr ⟨h.1, by omega⟩
        refine ax_join1 (mt_com r 1 t (r (14 + 2 * i)) = true) 316 (1) (0) ?_ (fun ja jb => ?_)
        rotate_left
        · refine ax_ifB_ne (tgt := 311) dX10_looksOut_299 (by decide) (fun h299 => ?_) (fun h299 => ?_)
          · refine ax_iconst (v := 1) dX10_looksOut_311 (by decide) ?_
            refine ax_goto (tgt := 316) dX10_looksOut_312 (by decide) ?_
            first | exact ja (hcom.mpr (Or.inl h299)) | exact ja (hcom.mpr (Or.inr ⟨h304, h308⟩)) | exact jb (fun z => (hcom.mp z).elim h299 (fun w => h304 w.1)) | exact jb (fun z => (hcom.mp z).elim h299 (fun w => h308 w.2)) | exact ja (hcom.mpr (Or.inr ⟨Decidable.byContradiction h304, Decidable.byContradiction h308⟩)) | exact jb (fun z => (hcom.mp z).elim h299 (fun w => absurd w.1 h304)) | exact jb (fun z => (hcom.mp z).elim h299 (fun w => absurd w.2 h308))
          · refine ax_iload dX10_looksOut_302 rfl ?_
            refine ax_if_ne (tgt := 315) dX10_looksOut_304 (by decide) (fun h304 => ?_) (fun h304 => ?_)
            · refine ax_iconst (v := 0) dX10_looksOut_315 (by decide) ?_
              first | exact ja (hcom.mpr (Or.inl h299)) | exact ja (hcom.mpr (Or.inr ⟨h304, h308⟩)) | exact jb (fun z => (hcom.mp z).elim h299 (fun w => h304 w.1)) | exact jb (fun z => (hcom.mp z).elim h299 (fun w => h308 w.2)) | exact ja (hcom.mpr (Or.inr ⟨Decidable.byContradiction h304, Decidable.byContradiction h308⟩)) | exact jb (fun z => (hcom.mp z).elim h299 (fun w => absurd w.1 h304)) | exact jb (fun z => (hcom.mp z).elim h299 (fun w => absurd w.2 h308))
            · refine ax_iload_n dX10_looksOut_307 rfl ?_
              refine ax_if_ne (tgt := 315) dX10_looksOut_308 (by decide) (fun h308 => ?_) (fun h308 => ?_)
              · refine ax_iconst (v := 0) dX10_looksOut_315 (by decide) ?_
                first | exact ja (hcom.mpr (Or.inl h299)) | exact ja (hcom.mpr (Or.inr ⟨h304, h308⟩)) | exact jb (fun z => (hcom.mp z).elim h299 (fun w => h304 w.1)) | exact jb (fun z => (hcom.mp z).elim h299 (fun w => h308 w.2)) | exact ja (hcom.mpr (Or.inr ⟨Decidable.byContradiction h304, Decidable.byContradiction h308⟩)) | exact jb (fun z => (hcom.mp z).elim h299 (fun w => absurd w.1 h304)) | exact jb (fun z => (hcom.mp z).elim h299 (fun w => absurd w.2 h308))
              · refine ax_iconst (v := 1) dX10_looksOut_311 (by decide) ?_
                refine ax_goto (tgt := 316) dX10_looksOut_312 (by decide) ?_
                first | exact ja (hcom.mpr (Or.inl h299)) | exact ja (hcom.mpr (Or.inr ⟨h304, h308⟩)) | exact jb (fun z => (hcom.mp z).elim h299 (fun w => h304 w.1)) | exact jb (fun z => (hcom.mp z).elim h299 (fun w => h308 w.2)) | exact ja (hcom.mpr (Or.inr ⟨Decidable.byContradiction h304, Decidable.byContradiction h308⟩)) | exact jb (fun z => (hcom.mp z).elim h299 (fun w => absurd w.1 h304)) | exact jb (fun z => (hcom.mp z).elim h299 (fun w => absurd w.2 h308))
        refine ax_istore dX10_looksOut_316 (by decide) rfl ?_
        refine ax_iload dX10_looksOut_318 rfl ?_
        refine ax_ifB_eq (tgt := 363) dX10_looksOut_320 (by decide) (fun hc => ?_) (fun hc => ?_)
        · refine go N _ _ fr rw1 sn ?_
          rw [hh, hnx false (by rw [hdef, Bool.eq_false_iff.mpr hc, Bool.false_and]), if_neg (by decide)]
        · have hcm := hc
          have put : mt_late r 1 t (r (14 + 2 * i)) (mt_seen r lw dd 1 (r (14 + 2 * i)) (r (15 + 2 * i)) (t + 1)) = true → ∀ y11 y12, ax_W l G kX10_looksOut (ax_FQ G (fun o M2 => o = .inl none ∧ lk_o M M2 r lw dd 1 t)) 4 0 0 N 350 [some (av_r 90), some (av_i (nI 1)), some (av_i (nI t)), some (av_i (if mt_view r t = true then 1 else 0)), some (av_i (if mt_met r t = true then 1 else 0)), some (av_r (272 + t)), some (av_i (iI (mt_pos r 1 t))), some (av_i (-1)), some (av_i (iI (mt_si r lw dd 1 t))), some (av_i (iI (mt_stop r 1 t))), some (av_i (nI i)), y11, y12] [] := by
            intro hlt y11 y12
            refine ax_aload_n dX10_looksOut_350 rfl ?_
            refine ax_getK (f := 39) 377 dX10_looksOut_351 acl_10 wd_1639 (by decide) rfl (lo_s hok 90 rfl) (lo_r hok 104 rfl) ?_
            refine ax_iload_n dX10_looksOut_354 rfl ?_
            refine ax_dup2 dX10_looksOut_355 (by first | rfl | exact ax_crf _) (by first | rfl | exact ax_crf _) ?_
            refine ax_ialdN (1) dX10_looksOut_356 (lo_s hok 377 rfl) (by decide) (by decide) (by decide) ?_
            refine ax_iconst (v := 1) dX10_looksOut_357 (by decide) ?_
            refine ax_iload dX10_looksOut_358 rfl ?_
            refine ax_ishl dX10_looksOut_360 ?_
            refine ax_ior dX10_looksOut_361 ?_
            refine ax_iastN (1) dX10_looksOut_362 (lo_s hok 377 rfl) (by decide) (by decide) (by decide) ?_
            refine ax_gen (fun N2 hN2 => ?_)
            have hok : lo_ok N2.2 := by rw [hN2]; exact hok
            refine go N2 _ _ ?_ ?_ ?_ ?_
            · rw [hN2]; exact lk_fr_tr fr ⟨rfl, fun n i _ _ _ _ _ q => ax_pn (by omega)⟩
            · rw [hN2]; exact lk_row_fr rw1 (fun k => ax_pn (by omega))
            · rw [hN2]; exact sn
            · rw [hN2, ax_pa, hh, hnx true (by rw [hdef, hcm, hlt]; rfl), if_pos rfl]; rfl
          refine ax_aload_n dX10_looksOut_323 rfl ?_
          refine ax_getK (f := 37) 371 dX10_looksOut_324 acl_10 wd_1637 (by decide) rfl (lo_s hok 90 rfl) (lo_r hok 102 rfl) ?_
          refine ax_iload_n dX10_looksOut_327 rfl ?_
          refine ax_aaldN2 373 1 dX10_looksOut_328 (lo_s hok 371 rfl) (by decide) (by decide) (by decide) (lo_r hok 374 rfl) ?_
          refine ax_iload dX10_looksOut_329 rfl ?_
          refine ax_ialdN (i) dX10_looksOut_331 (lo_s hok 373 rfl) (by decide) (by first | with_reducible rfl | assumption | exact ax_nix (by simp only [nx_0, nx_1, nx_2, nx_3, nx_4, nx_10, nx_20, nx_21, nx_100, nI_add, pk_mul] <;> rfl) (by omega) | decide) (by omega) ?_
          refine ax_iconst (v := (-1)) dX10_looksOut_332 (by decide) ?_
          rw [hsa]
          refine ax_icmp_eq (tgt := 350) dX10_looksOut_333 (by decide) (fun hc => ?_) (fun hc => ?_)
          · exact put (by rw [(mt_sa_no hsab).mp hc]; rfl) _ _
          · have hne := fun z => hc ((mt_sa_no hsab).mpr z)
            refine ax_aload_n dX10_looksOut_336 rfl ?_
            refine ax_getK (f := 37) 371 dX10_looksOut_337 acl_10 wd_1637 (by decide) rfl (lo_s hok 90 rfl) (lo_r hok 102 rfl) ?_
            refine ax_iload_n dX10_looksOut_340 rfl ?_
            refine ax_aaldN2 373 1 dX10_looksOut_341 (lo_s hok 371 rfl) (by decide) (by decide) (by decide) (lo_r hok 374 rfl) ?_
            refine ax_iload dX10_looksOut_342 rfl ?_
            refine ax_ialdN (i) dX10_looksOut_344 (lo_s hok 373 rfl) (by decide) (by first | with_reducible rfl | assumption | exact ax_nix (by simp only [nx_0, nx_1, nx_2, nx_3, nx_4, nx_10, nx_20, nx_21, nx_100, nI_add, pk_mul] <;> rfl) (by omega) | decide) (by omega) ?_
            refine ax_iload dX10_looksOut_345 rfl ?_
            rw [hsa]
            obtain ⟨u, hu⟩ := Option.ne_none_iff_exists'.mp hne
            have hub := hsab u hu
            rw [hu]
            change ax_W l G kX10_looksOut _ 4 0 0 N _ _ (av_i (iI (mt_stop r 1 t)) :: av_i (iI (mt_aw r 1 u (r (14 + 2 * i)))) :: _)
            refine ax_icmp_ge (tgt := 363) dX10_looksOut_347 (by decide) (fun hc => ?_) (fun hc => ?_)
            · refine go N _ _ fr rw1 sn ?_
              have hc2 := (iI_le (by unfold iI_b; omega) (by unfold iI_b; omega)).mp hc
              rw [hh, hnx false (by rw [hdef, hu]; show _ = _; rw [show mt_late r 1 t (r (14 + 2 * i)) (some u) = false from decide_eq_false (by omega), Bool.and_false]), if_neg (by decide)]
            · have hc2 : ¬ mt_stop r 1 t ≤ mt_aw r 1 u (r (14 + 2 * i)) := fun z => hc ((iI_le (by unfold iI_b; omega) (by unfold iI_b; omega)).mpr z)
              exact put (by rw [hu]; exact decide_eq_true (by omega)) _ _
    · rintro N L ⟨y11, y12, rfl, fr, rw1, sn, hh⟩
      have hok := hoks N fr
      refine ax_iload dX10_looksOut_258 rfl ?_
      refine ax_aload_n dX10_looksOut_260 rfl ?_
      refine ax_getK (f := 12) 94 dX10_looksOut_261 acl_10 wd_1612 (by decide) rfl (lo_s hok 90 rfl) (lo_r hok 83 rfl) ?_
      refine ax_iconst (v := 2) dX10_looksOut_264 (by decide) ?_
      refine ax_ialdN (2) dX10_looksOut_265 (lo_s hok 94 rfl) (by decide) (by decide) (by decide) ?_
      rw [e94 N fr]
      refine ax_icmp_ge (tgt := 369) dX10_looksOut_266 (by decide) (fun hc => ?_) (fun hc => ?_)
      · refine ax_vret dX10_looksOut_369 rfl ?_
        refine ⟨rfl, fr, rw1, sn, hh.trans ?_⟩
        refine mt_or_cong 10 (fun k hk => ?_)
        by_cases q : (k : Int) < r 2
        · rw [if_pos (by omega)]
        · simp [q]
      · exact absurd ((nI_leI (by omega) (by omega)).mpr (Nat.le_refl _)) hc
  -- the first loop
  have loop1 : ∀ (N : ax_M) (y11 y12 : Option ax_V), lk_fr M N 1 t → lk_row N r lw dd 1 t → mt_sn N r lw dd 1 0 t → N.1 377 1 = mt_hit r lw dd 1 t → ax_W l G kX10_looksOut (ax_FQ G (fun o M2 => o = .inl none ∧ lk_o M M2 r lw dd 1 t)) 4 0 0 N 131 [some (av_r 90), some (av_i (nI 1)), some (av_i (nI t)), some (av_i (if mt_view r t = true then 1 else 0)), some (av_i (if mt_met r t = true then 1 else 0)), some (av_r (272 + t)), some (av_i (iI (mt_pos r 1 t))), some (av_i (-1)), some (av_i (iI (mt_si r lw dd 1 t))), some (av_i (iI (mt_stop r 1 t))), some (av_i (nI 0)), y11, y12] [] := by
    intro N y11 y12 q1 q2 q3 q4
    refine ax_for (r 2).toNat (fun i N L => ∃ y11 y12, L = [some (av_r 90), some (av_i (nI 1)), some (av_i (nI t)), some (av_i (if mt_view r t = true then 1 else 0)), some (av_i (if mt_met r t = true then 1 else 0)), some (av_r (272 + t)), some (av_i (iI (mt_pos r 1 t))), some (av_i (-1)), some (av_i (iI (mt_si r lw dd 1 t))), some (av_i (iI (mt_stop r 1 t))), some (av_i (nI i)), y11, y12] ∧ lk_fr M N 1 t ∧ lk_row N r lw dd 1 t ∧ mt_sn N r lw dd 1 i t ∧ N.1 377 1 = mt_hit r lw dd 1 t) 131 ?_ ?_ (i := 0) (by omega) ⟨y11, y12, rfl, q1, q2, q3, q4⟩
    · rintro i N L hi ⟨y11, y12, rfl, fr, rw1, sn, hh⟩ next
      have hok := hoks N fr
      have hX := ho.2.2.1 i (by omega)
      have hAb := hawb i (by omega)
      have go : ∀ (N2 : ax_M) (y11 y12 : Option ax_V), lk_fr M N2 1 t → lk_row N2 r lw dd 1 t → mt_sn N2 r lw dd 1 (i + 1) t → N2.1 377 1 = mt_hit r lw dd 1 t → ax_W l G kX10_looksOut (ax_FQ G (fun o M2 => o = .inl none ∧ lk_o M M2 r lw dd 1 t)) 4 0 0 N2 249 [some (av_r 90), some (av_i (nI 1)), some (av_i (nI t)), some (av_i (if mt_view r t = true then 1 else 0)), some (av_i (if mt_met r t = true then 1 else 0)), some (av_r (272 + t)), some (av_i (iI (mt_pos r 1 t))), some (av_i (-1)), some (av_i (iI (mt_si r lw dd 1 t))), some (av_i (iI (mt_stop r 1 t))), some (av_i (nI i)), y11, y12] [] := by
        intro N2 y11 y12 a1 a2 a3 a4
        refine ax_iinc (v := 1) dX10_looksOut_249 rfl (by decide) (by decide) rfl ?_
        refine ax_goto (tgt := 131) dX10_looksOut_252 (by decide) ?_
        exact next N2 _ ⟨y11, y12, by rw [nI_1]; rfl, a1, a2, a3, a4⟩
      have hs0 : ∀ t2, mt_sk r lw dd 1 i t2 = mt_seen r lw dd 1 (r (14 + 2 * i)) (r (15 + 2 * i)) t2 := fun t2 => if_pos (by omega)
      have hsa : N.1 373 i = mt_sa r 1 i (mt_seen r lw dd 1 (r (14 + 2 * i)) (r (15 + 2 * i)) t) := by
        have := (sn i (by omega)).1
        rw [if_neg (by omega), hs0] at this; exact this
      have hsab : ∀ u, mt_seen r lw dd 1 (r (14 + 2 * i)) (r (15 + 2 * i)) t = some u → 0 ≤ mt_aw r 1 u (r (14 + 2 * i)) ∧ mt_aw r 1 u (r (14 + 2 * i)) ≤ 1000 := fun u hu => (mt_sk_b ho lw dd (by decide) (by omega) (by omega) ((hs0 _).trans hu)).2
      have nos : mt_sees r lw dd 1 (r (14 + 2 * i)) (r (15 + 2 * i)) t = false → ∀ y11 y12, ax_W l G kX10_looksOut (ax_FQ G (fun o M2 => o = .inl none ∧ lk_o M M2 r lw dd 1 t)) 4 0 0 N 249 [some (av_r 90), some (av_i (nI 1)), some (av_i (nI t)), some (av_i (if mt_view r t = true then 1 else 0)), some (av_i (if mt_met r t = true then 1 else 0)), some (av_r (272 + t)), some (av_i (iI (mt_pos r 1 t))), some (av_i (-1)), some (av_i (iI (mt_si r lw dd 1 t))), some (av_i (iI (mt_stop r 1 t))), some (av_i (nI i)), y11, y12] [] := by
        intro hn y11 y12
        refine go N y11 y12 fr rw1 (mt_sn_next sn (by omega) ?_ (fun k => ⟨rfl, rfl⟩)) hh
        rw [hs0, hs0, mt_seen_s]
        cases e : mt_seen r lw dd 1 (r (14 + 2 * i)) (r (15 + 2 * i)) t with
        | some u => rfl
        | none => simp [hn]
      refine ax_iload dX10_looksOut_131 rfl ?_
      refine ax_aload_n dX10_looksOut_133 rfl ?_
      refine ax_getK (f := 12) 94 dX10_looksOut_134 acl_10 wd_1612 (by decide) rfl (lo_s hok 90 rfl) (lo_r hok 83 rfl) ?_
      refine ax_iconst (v := 2) dX10_looksOut_137 (by decide) ?_
      refine ax_ialdN (2) dX10_looksOut_138 (lo_s hok 94 rfl) (by decide) (by decide) (by decide) ?_
      rw [e94 N fr]
      refine ax_icmp_ge (tgt := 255) dX10_looksOut_139 (by decide) (fun hc => ?_) (fun hc => ?_)
      · exact absurd ((nI_leI (by omega) (by omega)).mp hc) (by omega)
      · refine ax_aload_n dX10_looksOut_142 rfl ?_
        refine ax_getK (f := 18) 100 dX10_looksOut_143 acl_10 wd_1618 (by decide) rfl (lo_s hok 90 rfl) (lo_r hok 89 rfl) ?_
        refine ax_iconst (v := 4) dX10_looksOut_146 (by decide) ?_
        refine ax_iconst (v := 2) dX10_looksOut_147 (by decide) ?_
        refine ax_iload dX10_looksOut_148 rfl ?_
        refine ax_imul dX10_looksOut_150 ?_
        refine ax_iadd dX10_looksOut_151 ?_
        refine ax_ialdN (4 + 2 * i) dX10_looksOut_152 (lo_s hok 100 rfl) (by decide) (by first | with_reducible rfl | assumption | exact ax_nix (by simp only [nx_0, nx_1, nx_2, nx_3, nx_4, nx_10, nx_20, nx_21, nx_100, nI_add, pk_mul] <;> rfl) (by omega) | decide) (by omega) ?_
        rw [e100 N fr (4 + 2 * i) (by omega)]
        refine ax_iload dX10_looksOut_153 rfl ?_
        refine ax_isub dX10_looksOut_155 ?_
        refine ax_iload dX10_looksOut_156 rfl ?_
        refine ax_imul dX10_looksOut_158 ?_
        rw [haw i (by omega)]
        refine ax_istore dX10_looksOut_159 (by decide) rfl ?_
        refine ax_iload dX10_looksOut_161 rfl ?_
        refine ax_if_eq (tgt := 249) dX10_looksOut_163 (by decide) (fun hc => ?_) (fun hc => ?_)
        · refine nos ?_ _ _
          have := (iI_eq (b := 0) (by unfold iI_b; omega) (by unfold iI_b; omega)).mp hc
          simp [mt_sees, this]
        · have c1 : ¬ mt_si r lw dd 1 t = 0 := fun z => hc ((iI_eq (b := 0) (by unfold iI_b; omega) (by unfold iI_b; omega)).mpr z)
          refine ax_iload dX10_looksOut_166 rfl ?_
          refine ax_if_lt (tgt := 249) dX10_looksOut_168 (by decide) (fun hc => ?_) (fun hc => ?_)
          · refine nos ?_ _ _
            have := (iI_lt (b := 0) hAb (by unfold iI_b; omega)).mp hc
            simp [mt_sees]; omega
          · have c2 : ¬ mt_aw r 1 t (r (14 + 2 * i)) < 0 := fun z => hc ((iI_lt (b := 0) hAb (by unfold iI_b; omega)).mpr z)
            refine ax_iload dX10_looksOut_171 rfl ?_
            refine ax_iload dX10_looksOut_173 rfl ?_
            refine ax_aload_n dX10_looksOut_175 rfl ?_
            refine ax_getK (f := 18) 100 dX10_looksOut_176 acl_10 wd_1618 (by decide) rfl (lo_s hok 90 rfl) (lo_r hok 89 rfl) ?_
            refine ax_iconst (v := 4) dX10_looksOut_179 (by decide) ?_
            refine ax_iconst (v := 2) dX10_looksOut_180 (by decide) ?_
            refine ax_iload dX10_looksOut_181 rfl ?_
            refine ax_imul dX10_looksOut_183 ?_
            refine ax_iadd dX10_looksOut_184 ?_
            refine ax_iconst (v := 1) dX10_looksOut_185 (by decide) ?_
            refine ax_iadd dX10_looksOut_186 ?_
            refine ax_ialdN (4 + 2 * i + 1) dX10_looksOut_187 (lo_s hok 100 rfl) (by decide) (by first | with_reducible rfl | assumption | exact ax_nix (by simp only [nx_0, nx_1, nx_2, nx_3, nx_4, nx_10, nx_20, nx_21, nx_100, nI_add, pk_mul] <;> rfl) (by omega) | decide) (by omega) ?_
            rw [e100 N fr (4 + 2 * i + 1) (by omega), show 10 + (4 + 2 * i + 1) = 15 + 2 * i by omega]
            refine ax_iadd dX10_looksOut_188 ?_
            rw [iI_add]
            refine ax_icmp_gt (tgt := 249) dX10_looksOut_189 (by decide) (fun hc => ?_) (fun hc => ?_)
            · refine nos ?_ _ _
              have := (iI_lt (by unfold iI_b; omega) hAb).mp hc
              simp [mt_sees]; omega
            · have c3 : ¬ mt_si r lw dd 1 t + r (15 + 2 * i) < mt_aw r 1 t (r (14 + 2 * i)) := fun z => hc ((iI_lt (by unfold iI_b; omega) hAb).mpr z)
              refine ax_aload_n dX10_looksOut_192 rfl ?_
              refine ax_iload dX10_looksOut_193 rfl ?_
              refine ax_aload_n dX10_looksOut_195 rfl ?_
              refine ax_getK (f := 18) 100 dX10_looksOut_196 acl_10 wd_1618 (by decide) rfl (lo_s hok 90 rfl) (lo_r hok 89 rfl) ?_
              refine ax_iconst (v := 4) dX10_looksOut_199 (by decide) ?_
              refine ax_iconst (v := 2) dX10_looksOut_200 (by decide) ?_
              refine ax_iload dX10_looksOut_201 rfl ?_
              refine ax_imul dX10_looksOut_203 ?_
              refine ax_iadd dX10_looksOut_204 ?_
              refine ax_ialdN (4 + 2 * i) dX10_looksOut_205 (lo_s hok 100 rfl) (by decide) (by first | with_reducible rfl | assumption | exact ax_nix (by simp only [nx_0, nx_1, nx_2, nx_3, nx_4, nx_10, nx_20, nx_21, nx_100, nI_add, pk_mul] <;> rfl) (by omega) | decide) (by omega) ?_
              rw [e100 N fr (4 + 2 * i) (by omega), show 10 + (4 + 2 * i) = 14 + 2 * i by omega]
              refine ax_callV (As := _) (d2 := _) (c1 := 0) (n1 := 0) (c_rBend (M := N) hok (rrs N fr) ho (mt_pos r 1 t) (r (14 + 2 * i)) (by unfold iI_b; omega) (by unfold iI_b; omega) rfl rfl) dX10_looksOut_206 mX10_isBendBetween wd_1901 acl_10 (lo_s hok 90 rfl) rfl (by omega) (by omega) (by omega) rfl rfl (fun _ _ h => by cases h.1) ?_
              rintro r M9 ⟨h1, h9⟩; cases h1; rw [h9]; clear h9 M9
              refine ax_ifB_ne (tgt := 249) dX10_looksOut_209 (by decide) (fun hc => ?_) (fun hc => ?_)
              · refine nos ?_ _ _
                simp [mt_sees, hc]
              · have c4 := hc
                refine ax_aload_n dX10_looksOut_212 rfl ?_
                refine ax_getK (f := 37) 371 dX10_looksOut_213 acl_10 wd_1637 (by decide) rfl (lo_s hok 90 rfl) (lo_r hok 102 rfl) ?_
                refine ax_iload_n dX10_looksOut_216 rfl ?_
                refine ax_aaldN2 373 1 dX10_looksOut_217 (lo_s hok 371 rfl) (by decide) (by decide) (by decide) (lo_r hok 374 rfl) ?_
                refine ax_iload dX10_looksOut_218 rfl ?_
                refine ax_ialdN (i) dX10_looksOut_220 (lo_s hok 373 rfl) (by decide) (by first | with_reducible rfl | assumption | exact ax_nix (by simp only [nx_0, nx_1, nx_2, nx_3, nx_4, nx_10, nx_20, nx_21, nx_100, nI_add, pk_mul] <;> rfl) (by omega) | decide) (by omega) ?_
                refine ax_iconst (v := (-1)) dX10_looksOut_221 (by decide) ?_
                rw [hsa]
                refine ax_icmp_eq (tgt := 228) dX10_looksOut_222 (by decide) (fun hc => ?_) (fun hc => ?_)
                · have hno := (mt_sa_no hsab).mp hc
                  refine ax_aload_n dX10_looksOut_228 rfl ?_
                  refine ax_getK (f := 37) 371 dX10_looksOut_229 acl_10 wd_1637 (by decide) rfl (lo_s hok 90 rfl) (lo_r hok 102 rfl) ?_
                  refine ax_iload_n dX10_looksOut_232 rfl ?_
                  refine ax_aaldN2 373 1 dX10_looksOut_233 (lo_s hok 371 rfl) (by decide) (by decide) (by decide) (lo_r hok 374 rfl) ?_
                  refine ax_iload dX10_looksOut_234 rfl ?_
                  refine ax_iload dX10_looksOut_236 rfl ?_
                  refine ax_iastN (i) dX10_looksOut_238 (lo_s hok 373 rfl) (by decide) (by first | with_reducible rfl | assumption | exact ax_nix (by simp only [nx_0, nx_1, nx_2, nx_3, nx_4, nx_10, nx_20, nx_21, nx_100, nI_add, pk_mul] <;> rfl) (by omega) | decide) (by omega) ?_
                  refine ax_aload_n dX10_looksOut_239 rfl ?_
                  refine ax_getK (f := 38) 374 dX10_looksOut_240 acl_10 wd_1638 (by decide) rfl (lo_s hok 90 rfl) (lo_r hok 103 rfl) ?_
                  refine ax_iload_n dX10_looksOut_243 rfl ?_
                  refine ax_aaldN2 376 1 dX10_looksOut_244 (lo_s hok 374 rfl) (by decide) (by decide) (by decide) (lo_r hok 376 rfl) ?_
                  refine ax_iload dX10_looksOut_245 rfl ?_
                  refine ax_iload_n dX10_looksOut_247 rfl ?_
                  refine ax_iastN (i) dX10_looksOut_248 (lo_s hok 376 rfl) (by decide) (by first | with_reducible rfl | assumption | exact ax_nix (by simp only [nx_0, nx_1, nx_2, nx_3, nx_4, nx_10, nx_20, nx_21, nx_100, nI_add, pk_mul] <;> rfl) (by omega) | decide) (by omega) ?_
                  refine ax_gen (fun N2 hN2 => ?_)
                  have hok : lo_ok N2.2 := by rw [hN2]; exact hok
                  have hsee : mt_sees r lw dd 1 (r (14 + 2 * i)) (r (15 + 2 * i)) t = true := by
                    simp [mt_sees, c4]; omega
                  refine go N2 _ _ ?_ ?_ ?_ ?_
                  · rw [hN2]; exact lk_fr_tr fr ⟨rfl, fun n i _ _ _ q q2 _ => by rw [ax_pn (by omega), ax_pn (by omega)]⟩
                  · rw [hN2]
                    have : ∀ k, (ax_pI (ax_pI N 373 i (iI (mt_aw r 1 t (r (14 + 2 * i))))) 376 i (nI t)).1 (272 + t) k = N.1 (272 + t) k := fun k => by rw [ax_pn (by omega), ax_pn (by omega)]
                    exact ⟨(this 0).trans rw1.1, (this 1).trans rw1.2.1, (this 2).trans rw1.2.2.1, (this 3).trans rw1.2.2.2.1, (this 4).trans rw1.2.2.2.2.1, (this 5).trans rw1.2.2.2.2.2⟩
                  · intro k hk
                    have sk := sn k hk
                    rw [hN2]
                    by_cases q : k = i
                    · subst q
                      rw [if_pos (by omega), hs0, mt_seen_s, hno]
                      simp only [hon, hsee, Bool.and_self, if_true]
                      constructor
                      · exact (ax_pn (by omega)).trans (ax_pa _ _ _ _)
                      · exact ax_pa _ _ _ _
                    · have e1 : (ax_pI (ax_pI N 373 i (iI (mt_aw r 1 t (r (14 + 2 * i))))) 376 i (nI t)).1 (372 + 1) k = N.1 (372 + 1) k := by rw [ax_pn (by omega), ax_pn (by omega)]
                      have e2 : (ax_pI (ax_pI N 373 i (iI (mt_aw r 1 t (r (14 + 2 * i))))) 376 i (nI t)).1 (375 + 1) k = N.1 (375 + 1) k := by rw [ax_pn (by omega), ax_pn (by omega)]
                      rw [e1, e2]
                      by_cases q2 : k < i
                      · rw [if_pos q2] at sk; rw [if_pos (by omega)]; exact sk
                      · rw [if_neg q2] at sk; rw [if_neg (by omega)]; exact sk
                  · rw [hN2]; exact hh
                · have hne := fun z => hc ((mt_sa_no hsab).mpr z)
                  obtain ⟨u, hu⟩ := Option.ne_none_iff_exists'.mp hne
                  refine ax_goto (tgt := 249) dX10_looksOut_225 (by decide) ?_
                  refine go N _ _ fr rw1 (mt_sn_next sn (by omega) ?_ (fun k => ⟨rfl, rfl⟩)) hh
                  rw [hs0, hs0, mt_seen_s, hu]
    · rintro N L ⟨y11, y12, rfl, fr, rw1, sn, hh⟩
      have hok := hoks N fr
      refine ax_iload dX10_looksOut_131 rfl ?_
      refine ax_aload_n dX10_looksOut_133 rfl ?_
      refine ax_getK (f := 12) 94 dX10_looksOut_134 acl_10 wd_1612 (by decide) rfl (lo_s hok 90 rfl) (lo_r hok 83 rfl) ?_
      refine ax_iconst (v := 2) dX10_looksOut_137 (by decide) ?_
      refine ax_ialdN (2) dX10_looksOut_138 (lo_s hok 94 rfl) (by decide) (by decide) (by decide) ?_
      rw [e94 N fr]
      refine ax_icmp_ge (tgt := 255) dX10_looksOut_139 (by decide) (fun hc => ?_) (fun hc => ?_)
      · refine ax_iconst (v := 0) dX10_looksOut_255 (by decide) ?_
        refine ax_istore dX10_looksOut_256 (by decide) rfl ?_
        refine loop2 N _ _ fr rw1 ?_ hh
        intro k hk
        have sk := sn k hk
        rw [if_neg (by omega)]
        by_cases q : k < (r 2).toNat
        · rw [if_pos q] at sk; exact sk
        · have : ∀ t2, mt_sk r lw dd 1 k t2 = none := fun t2 => if_neg (by omega)
          rw [this] at sk ⊢; exact sk
      · exact absurd ((nI_leI (by omega) (by omega)).mpr (Nat.le_refl _)) hc
  refine ax_body (by decide) (Nat.le_of_ble_eq_true rfl) ?_
  refine ax_aload_n dX10_looksOut_0 rfl ?_
  refine ax_getK (f := 36) 170 dX10_looksOut_1 acl_10 wd_1636 (by decide) rfl (lo_s hok 90 rfl) (lo_r hok 101 rfl) ?_
  refine ax_iload_n dX10_looksOut_4 rfl ?_
  refine ax_aaldN3 271 1 dX10_looksOut_5 (lo_s hok 170 rfl) (by decide) (by decide) (by decide) (lo_r hok 174 rfl) ?_
  refine ax_iload_n dX10_looksOut_6 rfl ?_
  refine ax_aaldN2 (272 + (t)) (t) dX10_looksOut_7 (lo_s hok 271 rfl) (by decide) (by first | with_reducible rfl | assumption | exact ax_nix (by simp only [nx_0, nx_1, nx_2, nx_3, nx_4, nx_10, nx_20, nx_21, nx_100, nI_add, pk_mul] <;> rfl) (by omega) | decide) (by omega) (lo_w_m_t1 hok (by omega)) ?_
  refine ax_astore dX10_looksOut_8 (by decide) rfl ?_
  refine ax_aload_n dX10_looksOut_10 rfl ?_
  refine ax_iload_n dX10_looksOut_11 rfl ?_
  refine ax_iload_n dX10_looksOut_12 rfl ?_
  refine ax_aload_n dX10_looksOut_13 rfl ?_
  refine ax_getK (f := 43) 381 dX10_looksOut_14 acl_10 wd_1643 (by decide) rfl (lo_s hok 90 rfl) (lo_r hok 108 rfl) ?_
  refine ax_iload_n dX10_looksOut_17 rfl ?_
  refine ax_ialdN (1) dX10_looksOut_18 (lo_s hok 381 rfl) (by decide) (by decide) (by decide) ?_
  rw [hfull _ (by decide)]
  refine ax_iload_n dX10_looksOut_19 rfl ?_
  refine ax_iload dX10_looksOut_20 rfl ?_
  refine ax_aload_n dX10_looksOut_22 rfl ?_
  refine ax_getK (f := 43) 381 dX10_looksOut_23 acl_10 wd_1643 (by decide) rfl (lo_s hok 90 rfl) (lo_r hok 108 rfl) ?_
  refine ax_iconst (v := 1) dX10_looksOut_26 (by decide) ?_
  refine ax_iload_n dX10_looksOut_27 rfl ?_
  refine ax_isub dX10_looksOut_28 ?_
  refine ax_ialdN (0) dX10_looksOut_29 (lo_s hok 381 rfl) (by decide) (by decide) (by decide) ?_
  rw [hfull _ (by decide)]
  refine ax_callV (As := _) (d2 := _) (c1 := 0) (n1 := 0) (c_X10_knows (M := M) (b := mt_b r lw dd 1 t) hok hr ho (c := 1) (t := t) (by decide) (by omega) hcell hbl hv rfl rfl rfl rfl) dX10_looksOut_30 mX10_knows wd_1959 acl_10 (lo_s hok 90 rfl) rfl (by omega) (by omega) (by omega) rfl rfl (fun _ _ h => by cases h.1) ?_
  rintro o9 M1 ⟨h1, k1⟩; cases h1
  have hok : lo_ok M1.2 := by rw [k1.1]; exact hok
  refine ax_aload_n dX10_looksOut_33 rfl ?_
  refine ax_getK (f := 41) 379 dX10_looksOut_34 acl_10 wd_1641 (by decide) rfl (lo_s hok 90 rfl) (lo_r hok 106 rfl) ?_
  refine ax_iload_n dX10_looksOut_37 rfl ?_
  refine ax_ialdN (1) dX10_looksOut_38 (lo_s hok 379 rfl) (by decide) (by decide) (by decide) ?_
  rw [k1.2.1 379 1 (by decide), hcell]
  refine ax_istore dX10_looksOut_39 (by decide) rfl ?_
  refine ax_iload_n dX10_looksOut_41 rfl ?_
  refine ax_if_ne (tgt := 49) dX10_looksOut_42 (by decide) (fun hc => ?_) (fun hc => ?_)
  rotate_right
  · exact absurd hc (by decide)
  refine ax_iconst (v := (-1)) dX10_looksOut_49 (by decide) ?_
  skip
  refine ax_istore dX10_looksOut_50 (by decide) rfl ?_
  refine ax_aload_n dX10_looksOut_52 rfl ?_
  refine ax_callV (As := _) (d2 := _) (c1 := 0) (n1 := 0) (c_X10_sightBy (M := M1) hok (ml_law_fr hl (fun n i q => k1.2.1 n i (by omega))) (by rw [k1.2.2 2 (by decide)]; show ¬ iI (mt_b r lw dd 1 t) + iI 1 = iI 0; rw [iI_add, iI_eq (by unfold iI_b; omega) (by unfold iI_b; omega)]; omega)) dX10_looksOut_53 mX10_sightBy wd_1985 acl_10 (lo_s hok 90 rfl) rfl (by omega) (by omega) (by omega) rfl rfl (fun _ _ h => by cases h.1) ?_
  rintro o9 M2 ⟨h1, k2⟩; cases h1
  have hok : lo_ok M2.2 := by rw [k2.1]; exact hok
  rw [ev_sight_cong (fun k hk => k1.2.2 k hk) (ml_law_ev hl), ← iI_of (ev_sight _ _)]
  change ax_W l G kX10_looksOut _ 4 0 0 M2 _ _ (av_i (iI (mt_si r lw dd 1 t)) :: _)
  have fr2 : lk_fr M M2 1 t := ⟨k2.1.trans k1.1, fun n i a b _ _ _ _ => (k2.2 n i a).trans (k1.2.1 n i b)⟩
  refine ax_istore dX10_looksOut_56 (by decide) rfl ?_
  refine ax_aload_n dX10_looksOut_58 rfl ?_
  refine ax_iload_n dX10_looksOut_59 rfl ?_
  refine ax_iload dX10_looksOut_60 rfl ?_
  refine ax_callV (As := _) (d2 := _) (c1 := 0) (n1 := 0) (c_rStop (M := M2) hok (rrs M2 fr2) ho (c := 1) (by decide) (mt_pos r 1 t) (by unfold iI_b; omega) rfl rfl) dX10_looksOut_62 mX10_stopOf wd_1989 acl_10 (lo_s hok 90 rfl) rfl (by omega) (by omega) (by omega) rfl rfl (fun _ _ h => by cases h.1) ?_
  rintro r M9 ⟨h1, h9⟩; cases h1; rw [h9]; clear h9 M9
  change ax_W l G kX10_looksOut _ 4 0 0 M2 _ _ (av_i (iI (mt_stop r 1 t)) :: _)
  refine ax_istore dX10_looksOut_65 (by decide) rfl ?_
  refine ax_aload dX10_looksOut_67 rfl ?_
  refine ax_iconst (v := 0) dX10_looksOut_69 (by decide) ?_
  refine ax_iload dX10_looksOut_70 rfl ?_
  refine ax_iastN (0) dX10_looksOut_72 (by first | assumption | exact lo_tz hok (by omega) (by omega) | exact lo_z_m_wet hok (by omega) | exact lo_z_m_readWet hok (by omega) | exact lo_z_m_law hok (by omega) | exact lo_z_m_book hok (by omega) | exact lo_z_m_readBook hok (by omega) | exact lo_z_m_before hok (by omega) | exact lo_z_m_kept hok (by omega) | exact lo_z_m_seenAt hok (by omega) | exact lo_z_m_seenIn hok (by omega) | exact lo_z_m_t0 hok (by omega) | exact lo_z_m_t1 hok (by omega) | exact lo_z_m_c0 hok (by omega) | exact lo_z_m_c1 hok (by omega) | exact lo_z_x_kept hok (by omega)) (by decide) (by decide) (by decide) ?_
  refine ax_gen (fun M3 hM3 => ?_)
  have hok : lo_ok M3.2 := by rw [hM3]; exact hok
  have fr3 := row _ _ _ _ fr2 hM3
  refine ax_aload dX10_looksOut_73 rfl ?_
  refine ax_iconst (v := 1) dX10_looksOut_75 (by decide) ?_
  refine ax_aload_n dX10_looksOut_76 rfl ?_
  refine ax_getK (f := 43) 381 dX10_looksOut_77 acl_10 wd_1643 (by decide) rfl (lo_s hok 90 rfl) (lo_r hok 108 rfl) ?_
  refine ax_iload_n dX10_looksOut_80 rfl ?_
  refine ax_ialdN (1) dX10_looksOut_81 (lo_s hok 381 rfl) (by decide) (by decide) (by decide) ?_
  rw [e81 _ fr3]
  refine ax_iastN (1) dX10_looksOut_82 (by first | assumption | exact lo_tz hok (by omega) (by omega) | exact lo_z_m_wet hok (by omega) | exact lo_z_m_readWet hok (by omega) | exact lo_z_m_law hok (by omega) | exact lo_z_m_book hok (by omega) | exact lo_z_m_readBook hok (by omega) | exact lo_z_m_before hok (by omega) | exact lo_z_m_kept hok (by omega) | exact lo_z_m_seenAt hok (by omega) | exact lo_z_m_seenIn hok (by omega) | exact lo_z_m_t0 hok (by omega) | exact lo_z_m_t1 hok (by omega) | exact lo_z_m_c0 hok (by omega) | exact lo_z_m_c1 hok (by omega) | exact lo_z_x_kept hok (by omega)) (by decide) (by decide) (by decide) ?_
  refine ax_gen (fun M4 hM4 => ?_)
  have hok : lo_ok M4.2 := by rw [hM4]; exact hok
  have fr4 := row _ _ _ _ fr3 hM4
  refine ax_aload dX10_looksOut_83 rfl ?_
  refine ax_iconst (v := 2) dX10_looksOut_85 (by decide) ?_
  refine ax_aload_n dX10_looksOut_86 rfl ?_
  refine ax_getK (f := 42) 380 dX10_looksOut_87 acl_10 wd_1642 (by decide) rfl (lo_s hok 90 rfl) (lo_r hok 107 rfl) ?_
  refine ax_iload_n dX10_looksOut_90 rfl ?_
  refine ax_ialdN (1) dX10_looksOut_91 (lo_s hok 380 rfl) (by decide) (by decide) (by decide) ?_
  rw [e80 _ fr4]
  refine ax_iastN (2) dX10_looksOut_92 (by first | assumption | exact lo_tz hok (by omega) (by omega) | exact lo_z_m_wet hok (by omega) | exact lo_z_m_readWet hok (by omega) | exact lo_z_m_law hok (by omega) | exact lo_z_m_book hok (by omega) | exact lo_z_m_readBook hok (by omega) | exact lo_z_m_before hok (by omega) | exact lo_z_m_kept hok (by omega) | exact lo_z_m_seenAt hok (by omega) | exact lo_z_m_seenIn hok (by omega) | exact lo_z_m_t0 hok (by omega) | exact lo_z_m_t1 hok (by omega) | exact lo_z_m_c0 hok (by omega) | exact lo_z_m_c1 hok (by omega) | exact lo_z_x_kept hok (by omega)) (by decide) (by decide) (by decide) ?_
  refine ax_gen (fun M5 hM5 => ?_)
  have hok : lo_ok M5.2 := by rw [hM5]; exact hok
  have fr5 := row _ _ _ _ fr4 hM5
  refine ax_aload dX10_looksOut_93 rfl ?_
  refine ax_iconst (v := 3) dX10_looksOut_95 (by decide) ?_
  refine ax_iload dX10_looksOut_96 rfl ?_
  refine ax_iastN (3) dX10_looksOut_98 (by first | assumption | exact lo_tz hok (by omega) (by omega) | exact lo_z_m_wet hok (by omega) | exact lo_z_m_readWet hok (by omega) | exact lo_z_m_law hok (by omega) | exact lo_z_m_book hok (by omega) | exact lo_z_m_readBook hok (by omega) | exact lo_z_m_before hok (by omega) | exact lo_z_m_kept hok (by omega) | exact lo_z_m_seenAt hok (by omega) | exact lo_z_m_seenIn hok (by omega) | exact lo_z_m_t0 hok (by omega) | exact lo_z_m_t1 hok (by omega) | exact lo_z_m_c0 hok (by omega) | exact lo_z_m_c1 hok (by omega) | exact lo_z_x_kept hok (by omega)) (by decide) (by decide) (by decide) ?_
  refine ax_gen (fun M6 hM6 => ?_)
  have hok : lo_ok M6.2 := by rw [hM6]; exact hok
  have fr6 := row _ _ _ _ fr5 hM6
  refine ax_aload dX10_looksOut_99 rfl ?_
  refine ax_iconst (v := 4) dX10_looksOut_101 (by decide) ?_
  refine ax_iload dX10_looksOut_102 rfl ?_
  refine ax_iload dX10_looksOut_104 rfl ?_
  refine ax_join2 (mt_si r lw dd 1 t < mt_stop r 1 t) 114 (1) (0) ?_ (fun ja jb => ?_)
  rotate_left
  · refine ax_icmp_ge (tgt := 113) dX10_looksOut_106 (by decide) (fun h106 => ?_) (fun h106 => ?_)
    · refine ax_iconst (v := 0) dX10_looksOut_113 (by decide) ?_
      first | exact ja (by have : ¬ mt_stop r 1 t ≤ mt_si r lw dd 1 t := (fun z => h106 ((iI_le (by unfold iI_b; omega) (by unfold iI_b; omega)).mpr z)); omega) | exact jb (by have := (iI_le (by unfold iI_b; omega) (by unfold iI_b; omega)).mp h106; omega)
    · refine ax_iconst (v := 1) dX10_looksOut_109 (by decide) ?_
      refine ax_goto (tgt := 114) dX10_looksOut_110 (by decide) ?_
      first | exact ja (by have : ¬ mt_stop r 1 t ≤ mt_si r lw dd 1 t := (fun z => h106 ((iI_le (by unfold iI_b; omega) (by unfold iI_b; omega)).mpr z)); omega) | exact jb (by have := (iI_le (by unfold iI_b; omega) (by unfold iI_b; omega)).mp h106; omega)
  refine ax_iastN (4) dX10_looksOut_114 (by first | assumption | exact lo_tz hok (by omega) (by omega) | exact lo_z_m_wet hok (by omega) | exact lo_z_m_readWet hok (by omega) | exact lo_z_m_law hok (by omega) | exact lo_z_m_book hok (by omega) | exact lo_z_m_readBook hok (by omega) | exact lo_z_m_before hok (by omega) | exact lo_z_m_kept hok (by omega) | exact lo_z_m_seenAt hok (by omega) | exact lo_z_m_seenIn hok (by omega) | exact lo_z_m_t0 hok (by omega) | exact lo_z_m_t1 hok (by omega) | exact lo_z_m_c0 hok (by omega) | exact lo_z_m_c1 hok (by omega) | exact lo_z_x_kept hok (by omega)) (by decide) (by decide) (by decide) ?_
  refine ax_gen (fun M7 hM7 => ?_)
  have hok : lo_ok M7.2 := by rw [hM7]; exact hok
  have fr7 := row _ _ _ _ fr6 hM7
  refine ax_aload dX10_looksOut_115 rfl ?_
  refine ax_iconst (v := 5) dX10_looksOut_117 (by decide) ?_
  refine ax_iload_n dX10_looksOut_118 rfl ?_
  refine ax_join1 (mt_view r t = true) 127 (1) (0) ?_ (fun ja jb => ?_)
  rotate_left
  · refine ax_ifB_eq (tgt := 126) dX10_looksOut_119 (by decide) (fun h119 => ?_) (fun h119 => ?_)
    · refine ax_iconst (v := 0) dX10_looksOut_126 (by decide) ?_
      first | exact ja h119 | exact jb h119
    · refine ax_iconst (v := 1) dX10_looksOut_122 (by decide) ?_
      refine ax_goto (tgt := 127) dX10_looksOut_123 (by decide) ?_
      first | exact ja h119 | exact jb h119
  refine ax_iastN (5) dX10_looksOut_127 (by first | assumption | exact lo_tz hok (by omega) (by omega) | exact lo_z_m_wet hok (by omega) | exact lo_z_m_readWet hok (by omega) | exact lo_z_m_law hok (by omega) | exact lo_z_m_book hok (by omega) | exact lo_z_m_readBook hok (by omega) | exact lo_z_m_before hok (by omega) | exact lo_z_m_kept hok (by omega) | exact lo_z_m_seenAt hok (by omega) | exact lo_z_m_seenIn hok (by omega) | exact lo_z_m_t0 hok (by omega) | exact lo_z_m_t1 hok (by omega) | exact lo_z_m_c0 hok (by omega) | exact lo_z_m_c1 hok (by omega) | exact lo_z_x_kept hok (by omega)) (by decide) (by decide) (by decide) ?_
  refine ax_gen (fun M8 hM8 => ?_)
  have hok : lo_ok M8.2 := by rw [hM8]; exact hok
  have fr8 := row _ _ _ _ fr7 hM8
  refine ax_iconst (v := 0) dX10_looksOut_128 (by decide) ?_
  refine ax_istore dX10_looksOut_129 (by decide) rfl ?_
  refine loop1 M8 _ _ fr8 ?_ ?_ ?_
  · show M8.1 (272 + t) 0 = _ ∧ M8.1 (272 + t) 1 = _ ∧ M8.1 (272 + t) 2 = _ ∧ M8.1 (272 + t) 3 = _ ∧ M8.1 (272 + t) 4 = _ ∧ M8.1 (272 + t) 5 = _
    rw [hM8, hM7, hM6, hM5, hM4, hM3]
    refine ⟨?_, ?_, ?_, ?_, ?_, ?_⟩
    · rw [ax_pn (by omega), ax_pn (by omega), ax_pn (by omega), ax_pn (by omega), ax_pn (by omega), ax_pa]
    · rw [ax_pn (by omega), ax_pn (by omega), ax_pn (by omega), ax_pn (by omega), ax_pa]
    · rw [ax_pn (by omega), ax_pn (by omega), ax_pn (by omega), ax_pa]
    · rw [ax_pn (by omega), ax_pn (by omega), ax_pa]
    · rw [ax_pn (by omega), ax_pa]
    · rw [ax_pa]
  · intro k hk
    have := hs k hk
    have e : ∀ n, n = 373 ∨ n = 376 → M8.1 n k = M.1 n k := fun n hn => by
      rw [hM8, ax_pn (by omega), hM7, ax_pn (by omega), hM6, ax_pn (by omega), hM5, ax_pn (by omega), hM4, ax_pn (by omega), hM3, ax_pn (by omega), k2.2 _ _ (by omega), k1.2.1 _ _ (by omega)]
    exact ⟨(e 373 (by omega)).trans this.1, (e 376 (by omega)).trans this.2⟩
  · rw [hM8, ax_pn (by omega), hM7, ax_pn (by omega), hM6, ax_pn (by omega), hM5, ax_pn (by omega), hM4, ax_pn (by omega), hM3, ax_pn (by omega), k2.2 _ _ (by omega), k1.2.1 _ _ (by omega)]
    exact hh
end MO

