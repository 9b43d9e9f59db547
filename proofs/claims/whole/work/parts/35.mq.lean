/-! ===== a whole tenth: the reference ===== -/
def mt_rw (M : ax_M) (r : Nat → Int) (lw : mt_L) (d : Nat → Int32) (c u : Nat) : Prop := (mt_on r c u = true → lk_row M r lw d c u) ∧ (mt_on r c u = false → M.1 (172 + 100 * c + u) 0 = -1)
def mt_J (M : ax_M) (r : Nat → Int) (lw : mt_L) (d : Nat → Int32) (t : Nat) : Prop := ∀ c, c < 2 → mt_cl r c t (M.1 379 c) ∧ M.1 380 c = iI ((mt_s r lw d t).1 c) ∧ M.1 381 c = (mt_s r lw d t).2 c ∧ mt_sn M r lw d c 0 t ∧ M.1 377 c = mt_hit r lw d c t ∧ M.1 378 c = nI (mt_gl r lw d c t) ∧ M.1 383 c = d c ∧ ∀ u, u < t → mt_rw M r lw d c u
def gt_fr (M M2 : ax_M) : Prop := M2.2 = M.2 ∧ ∀ n i, n ≠ 117 → n ≠ 118 → ¬ (170 ≤ n ∧ n ≤ 383) → M2.1 n i = M.1 n i
def gt_S (M N : ax_M) (t : Nat) : Prop := N.2 = M.2 ∧ ∀ n i, n ≠ 117 → n ≠ 118 → n ≠ 378 → n ≠ 380 → n ≠ 381 → n ≠ 382 → ¬ ((n = 172 + t ∨ n = 272 + t) ∧ i = 0) → N.1 n i = M.1 n i
theorem gt_S_tr {M M1 M2 : ax_M} {t : Nat} (h1 : gt_S M M1 t) (h2 : gt_S M1 M2 t) : gt_S M M2 t := ⟨h2.1.trans h1.1, fun n i a b e f g h k => (h2.2 n i a b e f g h k).trans (h1.2 n i a b e f g h k)⟩
theorem mt_sn_fr {M N : ax_M} {r : Nat → Int} {lw : mt_L} {d : Nat → Int32} {c i t : Nat} (h : mt_sn M r lw d c i t) (e : ∀ k, N.1 (372 + c) k = M.1 (372 + c) k ∧ N.1 (375 + c) k = M.1 (375 + c) k) : mt_sn N r lw d c i t := fun k hk => ⟨(e k).1.trans (h k hk).1, (e k).2.trans (h k hk).2⟩
theorem mt_rw_fr {M N : ax_M} {r : Nat → Int} {lw : mt_L} {d : Nat → Int32} {c u : Nat} (h : mt_rw M r lw d c u) (e : ∀ k, N.1 (172 + 100 * c + u) k = M.1 (172 + 100 * c + u) k) : mt_rw N r lw d c u := ⟨fun q => lk_row_fr (h.1 q) e, fun q => (e 0).trans (h.2 q)⟩
theorem mt_sk_off {r : Nat → Int} {lw : mt_L} {d : Nat → Int32} {c k t : Nat} (h : mt_on r c t = false) : mt_sk r lw d c k (t + 1) = mt_sk r lw d c k t := by
  unfold mt_sk
  split
  · rw [mt_seen_s, h]
    cases mt_seen r lw d c (r (14 + 2 * k)) (r (15 + 2 * k)) t with
    | none => rfl
    | some u => rfl
  · rfl
theorem mt_sn_off {M : ax_M} {r : Nat → Int} {lw : mt_L} {d : Nat → Int32} {c t : Nat} (h : mt_on r c t = false) (hs : mt_sn M r lw d c 0 t) : mt_sn M r lw d c 0 (t + 1) := by
  intro k hk
  have := hs k hk
  rw [if_neg (by omega)] at this ⊢
  rw [mt_sk_off h]; exact this
theorem mt_hit_off {r : Nat → Int} {lw : mt_L} {d : Nat → Int32} {c t : Nat} (h : mt_on r c t = false) : mt_hit r lw d c (t + 1) = mt_hit r lw d c t := by
  refine mt_or_cong 10 (fun k hk => ?_)
  show (_ && (_ || (mt_on r c t && _))) = _
  rw [h, Bool.false_and, Bool.or_false]
section MQ
variable {l : Launch} {G : ax_G} {M : ax_M} {r : Nat → Int} {lw : mt_L} {dd : Nat → Int32}
theorem c_X10_goesTenth (hok : lo_ok M.2) (hr : rr M r) (ho : rd_ok r) (hl : ∀ w, w < 3 → ml_law M w (lw w)) {t : Nat} (ht : t < 99) (hJ : mt_J M r lw dd t) {y m : Int32} (hy : y = nI t) (hm : m = if mt_met r t = true then 1 else 0) : ax_Met l G kX10_goesTenth 5 0 0 M [av_r 90, av_i y, av_i m] (fun o M2 => o = .inl none ∧ gt_fr M M2 ∧ mt_J M2 r lw dd (t + 1)) := by
  subst hy hm
  have h9 := ho.1
  have hsb := fun c (hc : c < 2) => mt_s_b ho lw dd hc t
  have hpb := fun c (hc : c < 2) => mt_pos_b ho (c := c) (t := t) hc (by omega)
  have hv : mt_view r t = true → M.1 379 0 = iI (mt_pos r 0 t) ∧ M.1 379 1 = iI (mt_pos r 1 t) := fun q => ⟨mt_cl_on (hJ 0 (by decide)).1 (mt_view_iff.mp q).1, mt_cl_on (hJ 1 (by decide)).1 (mt_view_iff.mp q).2.1⟩
  have hfar : ∀ N : ax_M, (∀ i, N.1 379 i = M.1 379 i) → mt_view r t = true → (if N.1 379 1 < N.1 379 0 then N.1 379 0 - N.1 379 1 else N.1 379 1 - N.1 379 0) = iI (mt_far r t) := by
    intro N hN q
    have h0 := hpb 0 (by decide); have h1 := hpb 1 (by decide)
    have h2 := mt_view_lt ho q
    rw [hN, hN, (hv q).1, (hv q).2, if_neg (fun z => by have := (iI_lt (by unfold iI_b; omega) (by unfold iI_b; omega)).mp z; omega), iI_sub]
    rfl
  have oks : ∀ N, gt_S M N t → lo_ok N.2 := fun N h => by rw [h.1]; exact hok
  have rrs : ∀ N, gt_S M N t → rr N r := fun N h => rr_fr hr (fun n i q => h.2 n i (by omega) (by omega) (by omega) (by omega) (by omega) (by omega) (by omega))
  have cls : ∀ N, gt_S M N t → ∀ i, N.1 379 i = M.1 379 i := fun N h i => h.2 379 i (by omega) (by omega) (by omega) (by omega) (by omega) (by omega) (by omega)
  have hcl : ∀ N, gt_S M N t → ∀ c, c < 2 → mt_cl r c t (N.1 379 c) := fun N h c hc => by rw [cls N h]; exact (hJ c hc).1
  -- the last: leaving
  have st5 : ∀ (N : ax_M) (y5 y6 : Option ax_V) (v4 : Int32), N.2 = M.2 → (∀ i, N.1 379 i = M.1 379 i) → gt_fr M N → (∀ q, q < 2 → N.1 380 q = iI ((mt_s r lw dd (t + 1)).1 q) ∧ N.1 381 q = (mt_s r lw dd (t + 1)).2 q ∧ mt_sn N r lw dd q 0 (t + 1) ∧ N.1 377 q = mt_hit r lw dd q (t + 1) ∧ N.1 378 q = nI (mt_gl r lw dd q (t + 1)) ∧ N.1 383 q = dd q ∧ ∀ u, u < t + 1 → mt_rw N r lw dd q u) → ax_W l G kX10_goesTenth (ax_FQ G (fun o M2 => o = .inl none ∧ gt_fr M M2 ∧ mt_J M2 r lw dd (t + 1))) 5 0 0 N 369 [some (av_r 90), some (av_i (nI t)), some (av_i (if mt_met r t = true then 1 else 0)), some (av_i (if mt_view r t = true then 1 else 0)), some (av_i v4), y5, y6] [] := by
    intro N y5 y6 v4 f1 f2 f3 f4
    have hok : lo_ok N.2 := by rw [f1]; exact hok
    refine ax_aload_n dX10_goesTenth_369 rfl ?_
    refine ax_callV (As := _) (d2 := _) (c1 := 0) (n1 := 0) (c_X10_leaves (M := N) hok (rr_fr hr (fun n i q => f3.2 n i (by omega) (by omega) (by omega))) ho ht (fun c hc => by rw [f2]; exact (hJ c hc).1)) dX10_goesTenth_370 mX10_leaves wd_1993 acl_10 (lo_s hok 90 rfl) rfl (by omega) (by omega) (by omega) rfl rfl (fun _ _ h => by cases h.1) ?_
    rintro o9 N2 ⟨h1, g1, g2, g3⟩; cases h1
    refine ax_vret dX10_goesTenth_373 rfl ?_
    refine ⟨rfl, ⟨g1.trans f1, fun n i a b e => (g2 n i (by omega)).trans (f3.2 n i a b e)⟩, fun c hc => ?_⟩
    have f := f4 c hc
    exact ⟨g3 c hc, (g2 _ _ (by decide)).trans f.1, (g2 _ _ (by decide)).trans f.2.1, mt_sn_fr f.2.2.1 (fun k => ⟨g2 _ _ (by omega), g2 _ _ (by omega)⟩), (g2 _ _ (by decide)).trans f.2.2.2.1, (g2 _ _ (by decide)).trans f.2.2.2.2.1, (g2 _ _ (by decide)).trans f.2.2.2.2.2.1, fun u hu => mt_rw_fr (f.2.2.2.2.2.2 u hu) (fun k => g2 _ _ (by omega))⟩
  -- the fourth loop: looking out
  have st4 : ∀ (N : ax_M) (y6 : Option ax_V) (v4 : Int32), gt_S M N t → (∀ q, q < 2 → N.1 380 q = iI ((mt_s r lw dd (t + 1)).1 q) ∧ N.1 381 q = (mt_s r lw dd (t + 1)).2 q ∧ N.1 378 q = nI (mt_gl r lw dd q (t + 1)) ∧ N.1 (172 + 100 * q + t) 0 = -1) → ax_W l G kX10_goesTenth (ax_FQ G (fun o M2 => o = .inl none ∧ gt_fr M M2 ∧ mt_J M2 r lw dd (t + 1))) 5 0 0 N 339 [some (av_r 90), some (av_i (nI t)), some (av_i (if mt_met r t = true then 1 else 0)), some (av_i (if mt_view r t = true then 1 else 0)), some (av_i v4), some (av_i (nI 0)), y6] [] := by
    intro N3 y6 v4 s3 f3
    refine ax_for 2 (fun i N L => L = [some (av_r 90), some (av_i (nI t)), some (av_i (if mt_met r t = true then 1 else 0)), some (av_i (if mt_view r t = true then 1 else 0)), some (av_i v4), some (av_i (nI i)), y6] ∧ N.2 = M.2 ∧ (∀ n j, n ≠ 117 → n ≠ 118 → ¬ (n = 172 + t ∨ n = 272 + t) → ¬ (n = 372 ∨ n = 373 ∨ n = 375 ∨ n = 376 ∨ n = 377) → N.1 n j = N3.1 n j) ∧ (∀ q, q < 2 → if q < i then mt_rw N r lw dd q t ∧ mt_sn N r lw dd q 0 (t + 1) ∧ N.1 377 q = mt_hit r lw dd q (t + 1) else N.1 (172 + 100 * q + t) 0 = -1 ∧ mt_sn N r lw dd q 0 t ∧ N.1 377 q = mt_hit r lw dd q t)) 339 ?_ ?_ (i := 0) (by omega) ⟨rfl, s3.1, fun _ _ _ _ _ _ => rfl, ?_⟩
    · rintro i N L hi ⟨rfl, f1, f2, f4⟩ next
      have hok : lo_ok N.2 := by rw [f1]; exact hok
      have fi := f4 i hi
      rw [if_neg (by omega)] at fi
      have hrN : rr N r := rr_fr (rrs N3 s3) (fun n j q => f2 n j (by omega) (by omega) (by omega) (by omega))
      have c79 : ∀ j, N.1 379 j = M.1 379 j := fun j => (f2 379 j (by omega) (by omega) (by omega) (by omega)).trans (cls N3 s3 j)
      refine ax_iload dX10_goesTenth_339 rfl ?_
      refine ax_iconst (v := 2) dX10_goesTenth_341 (by decide) ?_
      refine ax_icmp_ge (tgt := 369) dX10_goesTenth_342 (by decide) (fun hc => ?_) (fun hc => ?_)
      · exact absurd ((nI_leI (a := 2) (by omega) (by omega)).mp hc) (by omega)
      · refine ax_aload_n dX10_goesTenth_345 rfl ?_
        refine ax_iload dX10_goesTenth_346 rfl ?_
        refine ax_callV (As := _) (d2 := _) (c1 := 0) (n1 := 0) (c_rOn (M := N) hok hrN ho (c := i) (t := t) hi (by omega) (by rw [c79]; exact (hJ i hi).1) rfl) dX10_goesTenth_348 mX10_isOn wd_1951 acl_10 (lo_s hok 90 rfl) rfl (by omega) (by omega) (by omega) rfl rfl (fun _ _ h => by cases h.1) ?_
        rintro r M9 ⟨h1, h9⟩; cases h1; rw [h9]; clear h9 M9
        refine ax_ifB_eq (tgt := 363) dX10_goesTenth_351 (by decide) (fun hc => ?_) (fun hc => ?_)
        · refine ax_iinc (v := 1) dX10_goesTenth_363 rfl (by decide) (by decide) rfl ?_
          refine ax_goto (tgt := 339) dX10_goesTenth_366 (by decide) ?_
          have hoff := mt_nf hc
          refine next N _ ⟨by rw [nI_1]; rfl, f1, f2, fun q hq => ?_⟩
          by_cases e : q = i
          · subst e; rw [if_pos (by omega)]
            exact ⟨⟨fun z => absurd z hc, fun _ => fi.1⟩, mt_sn_off hoff fi.2.1, by rw [mt_hit_off hoff]; exact fi.2.2⟩
          · have := f4 q hq
            by_cases e2 : q < i
            · rw [if_pos e2] at this; rw [if_pos (by omega)]; exact this
            · rw [if_neg e2] at this; rw [if_neg (by omega)]; exact this
        · have hon := hc
          refine ax_aload_n dX10_goesTenth_354 rfl ?_
          refine ax_iload dX10_goesTenth_355 rfl ?_
          refine ax_iload_n dX10_goesTenth_357 rfl ?_
          refine ax_iload_n dX10_goesTenth_358 rfl ?_
          refine ax_iload_n dX10_goesTenth_359 rfl ?_
          refine ax_callV (As := _) (d2 := _) (c1 := 0) (n1 := 0) (c_looks (M := N) (lw := lw) (dd := dd) hok hrN ho (ml_law_fr (hl 0 (by decide)) (fun n j q => (f2 n j (by omega) (by omega) (by omega) (by omega)).trans (s3.2 n j (by omega) (by omega) (by omega) (by omega) (by omega) (by omega) (by omega)))) (c := i) (t := t) hi ht hon (by rw [c79]; exact mt_cl_on (hJ i hi).1 hon) (fun q hq => (f2 381 q (by omega) (by omega) (by omega) (by omega)).trans (f3 q hq).2.1) ((f2 380 i (by omega) (by omega) (by omega) (by omega)).trans (f3 i hi).1) (fun q => by rw [c79, c79]; exact hv q) fi.2.1 fi.2.2 rfl rfl rfl rfl) dX10_goesTenth_360 mX10_looksOut wd_1981 acl_10 (lo_s hok 90 rfl) rfl (by omega) (by omega) (by omega) rfl rfl (fun _ _ h => by cases h.1) ?_
          rintro o9 N2 ⟨h1, g⟩; cases h1
          refine ax_iinc (v := 1) dX10_goesTenth_363 rfl (by decide) (by decide) rfl ?_
          refine ax_goto (tgt := 339) dX10_goesTenth_366 (by decide) ?_
          refine next N2 _ ⟨by rw [nI_1]; rfl, g.1.1.trans f1, fun n j a b e f => (g.1.2 n j a b (by omega) (by omega) (by omega) (by omega)).trans (f2 n j a b e f), fun q hq => ?_⟩
          by_cases e : q = i
          · subst e; rw [if_pos (by omega)]
            exact ⟨⟨fun _ => g.2.1, fun z => by rw [hon] at z; cases z⟩, g.2.2.1, g.2.2.2⟩
          · have := f4 q hq
            have z1 : ∀ k, N2.1 (172 + 100 * q + t) k = N.1 (172 + 100 * q + t) k := fun k => g.1.2 _ _ (by omega) (by omega) (by omega) (by omega) (by omega) (by omega)
            have z2 : ∀ k, N2.1 (372 + q) k = N.1 (372 + q) k ∧ N2.1 (375 + q) k = N.1 (375 + q) k := fun k => ⟨g.1.2 _ _ (by omega) (by omega) (by omega) (by omega) (by omega) (by omega), g.1.2 _ _ (by omega) (by omega) (by omega) (by omega) (by omega) (by omega)⟩
            have z3 : N2.1 377 q = N.1 377 q := g.1.2 _ _ (by omega) (by omega) (by omega) (by omega) (by omega) (by omega)
            by_cases e2 : q < i
            · rw [if_pos e2] at this; rw [if_pos (by omega)]
              exact ⟨mt_rw_fr this.1 z1, mt_sn_fr this.2.1 z2, z3.trans this.2.2⟩
            · rw [if_neg e2] at this; rw [if_neg (by omega)]
              exact ⟨(z1 0).trans this.1, mt_sn_fr this.2.1 z2, z3.trans this.2.2⟩
    · rintro N L ⟨rfl, f1, f2, f4⟩
      refine ax_iload dX10_goesTenth_339 rfl ?_
      refine ax_iconst (v := 2) dX10_goesTenth_341 (by decide) ?_
      refine ax_icmp_ge (tgt := 369) dX10_goesTenth_342 (by decide) (fun hc => ?_) (fun hc => ?_)
      · refine st5 N _ _ _ f1 (fun j => (f2 379 j (by omega) (by omega) (by omega) (by omega)).trans (cls N3 s3 j)) ⟨f1, fun n j a b e => (f2 n j a b (by omega) (by omega)).trans (s3.2 n j a b (by omega) (by omega) (by omega) (by omega) (by omega))⟩ (fun q hq => ?_)
        have g := f3 q hq
        have h4 := f4 q hq
        rw [if_pos hq] at h4
        refine ⟨(f2 _ _ (by omega) (by omega) (by omega) (by omega)).trans g.1, (f2 _ _ (by omega) (by omega) (by omega) (by omega)).trans g.2.1, h4.2.1, h4.2.2, (f2 _ _ (by omega) (by omega) (by omega) (by omega)).trans g.2.2.1, (f2 _ _ (by omega) (by omega) (by omega) (by omega)).trans ((s3.2 _ _ (by omega) (by omega) (by omega) (by omega) (by omega) (by omega) (by omega)).trans (hJ q hq).2.2.2.2.2.2.1), fun u hu => ?_⟩
        by_cases e : u = t
        · subst e; exact h4.1
        · exact mt_rw_fr ((hJ q hq).2.2.2.2.2.2.2 u (by omega)) (fun k => (f2 _ _ (by omega) (by omega) (by omega) (by omega)).trans (s3.2 _ _ (by omega) (by omega) (by omega) (by omega) (by omega) (by omega) (by omega)))
      · exact absurd ((nI_leI (a := 2) (by omega) (by omega)).mpr (Nat.le_refl _)) hc
    · intro q hq
      rw [if_neg (by omega)]
      exact ⟨(f3 q hq).2.2.2, mt_sn_fr (hJ q hq).2.2.2.1 (fun k => ⟨s3.2 _ _ (by omega) (by omega) (by omega) (by omega) (by omega) (by omega) (by omega), s3.2 _ _ (by omega) (by omega) (by omega) (by omega) (by omega) (by omega) (by omega)⟩), (s3.2 _ _ (by omega) (by omega) (by omega) (by omega) (by omega) (by omega) (by omega)).trans (hJ q hq).2.2.2.2.1⟩
  -- the third loop: dazzled
  have st3 : ∀ (N : ax_M) (y6 : Option ax_V), gt_S M N t → (∀ q, q < 2 → N.1 380 q = iI ((mt_s r lw dd t).1 q) ∧ N.1 381 q = (mt_s r lw dd (t + 1)).2 q ∧ N.1 378 q = nI (mt_gl r lw dd q t) ∧ N.1 (172 + 100 * q + t) 0 = -1) → ax_W l G kX10_goesTenth (ax_FQ G (fun o M2 => o = .inl none ∧ gt_fr M M2 ∧ mt_J M2 r lw dd (t + 1))) 5 0 0 N 204 [some (av_r 90), some (av_i (nI t)), some (av_i (if mt_met r t = true then 1 else 0)), some (av_i (if mt_view r t = true then 1 else 0)), some (av_i (if mt_near r t = true then 1 else 0)), some (av_i (nI 0)), y6] [] := by
    intro N3 y6 s3 f3
    refine ax_for 2 (fun i N L => ∃ y6, L = [some (av_r 90), some (av_i (nI t)), some (av_i (if mt_met r t = true then 1 else 0)), some (av_i (if mt_view r t = true then 1 else 0)), some (av_i (if mt_near r t = true then 1 else 0)), some (av_i (nI i)), y6] ∧ gt_S M N t ∧ ∀ q, q < 2 → N.1 380 q = iI ((mt_s r lw dd (if q < i then t + 1 else t)).1 q) ∧ N.1 381 q = (mt_s r lw dd (t + 1)).2 q ∧ N.1 378 (1 - q) = nI (mt_gl r lw dd (1 - q) (if q < i then t + 1 else t)) ∧ N.1 (172 + 100 * q + t) 0 = -1) 204 ?_ ?_ (i := 0) (by omega) ⟨y6, rfl, s3, fun q hq => by rw [if_neg (by omega)]; exact ⟨(f3 q hq).1, (f3 q hq).2.1, (f3 (1 - q) (by omega)).2.2.1, (f3 q hq).2.2.2⟩⟩
    · rintro i N L hi ⟨y6, rfl, s, f⟩ next
      have hok := oks N s
      have hrN := rrs N s
      have fi := f i hi
      rw [if_neg (by omega)] at fi
      have hgl : mt_gl r lw dd (1 - i) (t + 1) = mt_gl r lw dd (1 - i) t + (if (mt_on r i t && mt_dz r t (mt_s r lw dd (t + 1)).2 i) = true then 1 else 0) := by
        rcases (show i = 0 ∨ i = 1 by omega) with rfl | rfl <;> rfl
      have hB : (mt_s r lw dd (t + 1)).1 i = if mt_on r i t = true then (if mt_dz r t (mt_s r lw dd (t + 1)).2 i = true then max ((mt_s r lw dd t).1 i) (mt_bf r i) else max 0 ((mt_s r lw dd t).1 i - 1)) else (mt_s r lw dd t).1 i := rfl
      refine ax_iload dX10_goesTenth_204 rfl ?_
      refine ax_iconst (v := 2) dX10_goesTenth_206 (by decide) ?_
      refine ax_icmp_ge (tgt := 336) dX10_goesTenth_207 (by decide) (fun hc => ?_) (fun hc => ?_)
      · exact absurd ((nI_leI (a := 2) (by omega) (by omega)).mp hc) (by omega)
      · refine ax_aload_n dX10_goesTenth_210 rfl ?_
        refine ax_iload dX10_goesTenth_211 rfl ?_
        refine ax_callV (As := _) (d2 := _) (c1 := 0) (n1 := 0) (c_rOn (M := N) hok hrN ho (c := i) (t := t) hi (by omega) (hcl N s i hi) rfl) dX10_goesTenth_213 mX10_isOn wd_1951 acl_10 (lo_s hok 90 rfl) rfl (by omega) (by omega) (by omega) rfl rfl (fun _ _ h => by cases h.1) ?_
        rintro r M9 ⟨h1, h9⟩; cases h1; rw [h9]; clear h9 M9
        refine ax_ifB_ne (tgt := 222) dX10_goesTenth_216 (by decide) (fun hc => ?_) (fun hc => ?_)
        · have hon := hc
          have h1m := nI_1m hi
          have htl := ho.2.1 (1 - i) (by omega)
          unfold rd_oc at htl
          refine ax_iload dX10_goesTenth_222 rfl ?_
          refine ax_join1 (mt_dz r t (mt_s r lw dd (t + 1)).2 i = true) 257 (1) (0) ?_ (fun ja jb => ?_)
          rotate_left
          · refine ax_ifB_eq (tgt := 256) dX10_goesTenth_224 (by decide) (fun h224 => ?_) (fun h224 => ?_)
            · refine ax_iconst (v := 0) dX10_goesTenth_256 (by decide) ?_
              first | (refine jb ?_; simp [mt_dz, h224]; done) | (refine ja ?_; rw [(f (1 - i) (by omega)).2.1] at h237; simp [mt_dz, h224, h237]; done) | (refine jb ?_; rw [(f (1 - i) (by omega)).2.1] at h237; have h5 := (iI_lt (b := 5) (by unfold iI_b; omega) (by unfold iI_b; omega)).mp h249; simp [mt_dz, h224, h237]; omega) | (refine ja ?_; have h5 : ¬ r (11 + 2 * (1 - i)) < 5 := (fun z => h249 ((iI_lt (b := 5) (by unfold iI_b; omega) (by unfold iI_b; omega)).mpr z)); simp [mt_dz, h224]; exact Or.inr (by omega))
            · refine ax_aload_n dX10_goesTenth_227 rfl ?_
              refine ax_getK (f := 43) 381 dX10_goesTenth_228 acl_10 wd_1643 (by decide) rfl (lo_s hok 90 rfl) (lo_r hok 108 rfl) ?_
              refine ax_iconst (v := 1) dX10_goesTenth_231 (by decide) ?_
              refine ax_iload dX10_goesTenth_232 rfl ?_
              refine ax_isub dX10_goesTenth_234 ?_
              refine ax_ialdN (1 - i) dX10_goesTenth_235 (lo_s hok 381 rfl) (by decide) (by first | with_reducible rfl | assumption | exact ax_nix (by simp only [nx_0, nx_1, nx_2, nx_3, nx_4, nx_10, nx_20, nx_21, nx_100, nI_add, pk_mul] <;> rfl) (by omega) | decide) (by omega) ?_
              refine ax_iconst (v := 1) dX10_goesTenth_236 (by decide) ?_
              refine ax_icmp_eq (tgt := 252) dX10_goesTenth_237 (by decide) (fun h237 => ?_) (fun h237 => ?_)
              · refine ax_iconst (v := 1) dX10_goesTenth_252 (by decide) ?_
                refine ax_goto (tgt := 257) dX10_goesTenth_253 (by decide) ?_
                first | (refine jb ?_; simp [mt_dz, h224]; done) | (refine ja ?_; rw [(f (1 - i) (by omega)).2.1] at h237; simp [mt_dz, h224, h237]; done) | (refine jb ?_; rw [(f (1 - i) (by omega)).2.1] at h237; have h5 := (iI_lt (b := 5) (by unfold iI_b; omega) (by unfold iI_b; omega)).mp h249; simp [mt_dz, h224, h237]; omega) | (refine ja ?_; have h5 : ¬ r (11 + 2 * (1 - i)) < 5 := (fun z => h249 ((iI_lt (b := 5) (by unfold iI_b; omega) (by unfold iI_b; omega)).mpr z)); simp [mt_dz, h224]; exact Or.inr (by omega))
              · refine ax_aload_n dX10_goesTenth_240 rfl ?_
                refine ax_iconst (v := 1) dX10_goesTenth_241 (by decide) ?_
                refine ax_iload dX10_goesTenth_242 rfl ?_
                refine ax_isub dX10_goesTenth_244 ?_
                refine ax_callV (As := _) (d2 := _) (c1 := 0) (n1 := 0) (c_rTilt (d := 0) (M := N) hok hrN (c := 1 - i) (by omega) (nI_1m hi)) dX10_goesTenth_245 mX10_tiltOf wd_1927 acl_10 (lo_s hok 90 rfl) rfl (by omega) (by omega) (by omega) rfl rfl (fun _ _ h => by cases h.1) ?_
                rintro r M9 ⟨h1, h9⟩; cases h1; rw [h9]; clear h9 M9
                refine ax_iconst (v := 5) dX10_goesTenth_248 (by decide) ?_
                refine ax_icmp_lt (tgt := 256) dX10_goesTenth_249 (by decide) (fun h249 => ?_) (fun h249 => ?_)
                · refine ax_iconst (v := 0) dX10_goesTenth_256 (by decide) ?_
                  first | (refine jb ?_; simp [mt_dz, h224]; done) | (refine ja ?_; rw [(f (1 - i) (by omega)).2.1] at h237; simp [mt_dz, h224, h237]; done) | (refine jb ?_; rw [(f (1 - i) (by omega)).2.1] at h237; have h5 := (iI_lt (b := 5) (by unfold iI_b; omega) (by unfold iI_b; omega)).mp h249; simp [mt_dz, h224, h237]; omega) | (refine ja ?_; have h5 : ¬ r (11 + 2 * (1 - i)) < 5 := (fun z => h249 ((iI_lt (b := 5) (by unfold iI_b; omega) (by unfold iI_b; omega)).mpr z)); simp [mt_dz, h224]; exact Or.inr (by omega))
                · refine ax_iconst (v := 1) dX10_goesTenth_252 (by decide) ?_
                  refine ax_goto (tgt := 257) dX10_goesTenth_253 (by decide) ?_
                  first | (refine jb ?_; simp [mt_dz, h224]; done) | (refine ja ?_; rw [(f (1 - i) (by omega)).2.1] at h237; simp [mt_dz, h224, h237]; done) | (refine jb ?_; rw [(f (1 - i) (by omega)).2.1] at h237; have h5 := (iI_lt (b := 5) (by unfold iI_b; omega) (by unfold iI_b; omega)).mp h249; simp [mt_dz, h224, h237]; omega) | (refine ja ?_; have h5 : ¬ r (11 + 2 * (1 - i)) < 5 := (fun z => h249 ((iI_lt (b := 5) (by unfold iI_b; omega) (by unfold iI_b; omega)).mpr z)); simp [mt_dz, h224]; exact Or.inr (by omega))
          refine ax_istore dX10_goesTenth_257 (by decide) rfl ?_
          refine ax_aload_n dX10_goesTenth_259 rfl ?_
          refine ax_getK (f := 40) 378 dX10_goesTenth_260 acl_10 wd_1640 (by decide) rfl (lo_s hok 90 rfl) (lo_r hok 105 rfl) ?_
          refine ax_iconst (v := 1) dX10_goesTenth_263 (by decide) ?_
          refine ax_iload dX10_goesTenth_264 rfl ?_
          refine ax_isub dX10_goesTenth_266 ?_
          refine ax_dup2 dX10_goesTenth_267 (by first | rfl | exact ax_crf _) (by first | rfl | exact ax_crf _) ?_
          refine ax_ialdN (1 - i) dX10_goesTenth_268 (lo_s hok 378 rfl) (by decide) (by first | with_reducible rfl | assumption | exact ax_nix (by simp only [nx_0, nx_1, nx_2, nx_3, nx_4, nx_10, nx_20, nx_21, nx_100, nI_add, pk_mul] <;> rfl) (by omega) | decide) (by omega) ?_
          refine ax_iload dX10_goesTenth_269 rfl ?_
          rw [fi.2.2.1]
          refine ax_join1 (mt_dz r t (mt_s r lw dd (t + 1)).2 i = true) 279 (1) (0) ?_ (fun ja jb => ?_)
          rotate_left
          · refine ax_ifB_eq (tgt := 278) dX10_goesTenth_271 (by decide) (fun h271 => ?_) (fun h271 => ?_)
            · refine ax_iconst (v := 0) dX10_goesTenth_278 (by decide) ?_
              first | exact ja h271 | exact jb h271
            · refine ax_iconst (v := 1) dX10_goesTenth_274 (by decide) ?_
              refine ax_goto (tgt := 279) dX10_goesTenth_275 (by decide) ?_
              first | exact ja h271 | exact jb h271
          refine ax_iadd dX10_goesTenth_279 ?_
          refine ax_iastN (1 - i) dX10_goesTenth_280 (lo_s hok 378 rfl) (by decide) (by first | with_reducible rfl | assumption | exact ax_nix (by simp only [nx_0, nx_1, nx_2, nx_3, nx_4, nx_10, nx_20, nx_21, nx_100, nI_add, pk_mul] <;> rfl) (by omega) | decide) (by omega) ?_
          refine ax_gen (fun N2 hN2 => ?_)
          have hok : lo_ok N2.2 := by rw [hN2]; exact hok
          have s2 : gt_S M N2 t := gt_S_tr s (by rw [hN2]; exact ⟨rfl, fun n j _ _ a _ _ _ _ => ax_pn (by omega)⟩)
          have b2 : N2.1 380 i = iI ((mt_s r lw dd t).1 i) := by rw [hN2, ax_pn (by omega)]; exact fi.1
          have hrN2 := rrs N2 s2
          have hage := ho.2.1 i hi
          unfold rd_oc at hage
          have hsi := hsb i hi
          have hbf := mt_bf_b ho hi
          refine ax_aload_n dX10_goesTenth_281 rfl ?_
          refine ax_getK (f := 42) 380 dX10_goesTenth_282 acl_10 wd_1642 (by decide) rfl (lo_s hok 90 rfl) (lo_r hok 107 rfl) ?_
          refine ax_iload dX10_goesTenth_285 rfl ?_
          refine ax_iload dX10_goesTenth_287 rfl ?_
          refine ax_join1 (mt_dz r t (mt_s r lw dd (t + 1)).2 i = true) 329 (iI (max ((mt_s r lw dd t).1 i) (mt_bf r i))) (iI (max 0 ((mt_s r lw dd t).1 i - 1))) ?_ (fun ja jb => ?_)
          rotate_left
          · refine ax_ifB_eq (tgt := 316) dX10_goesTenth_289 (by decide) (fun h289 => ?_) (fun h289 => ?_)
            · refine ax_iconst (v := 0) dX10_goesTenth_316 (by decide) ?_
              refine ax_aload_n dX10_goesTenth_317 rfl ?_
              refine ax_getK (f := 42) 380 dX10_goesTenth_318 acl_10 wd_1642 (by decide) rfl (lo_s hok 90 rfl) (lo_r hok 107 rfl) ?_
              refine ax_iload dX10_goesTenth_321 rfl ?_
              refine ax_ialdN (i) dX10_goesTenth_323 (lo_s hok 380 rfl) (by decide) (by first | with_reducible rfl | assumption | exact ax_nix (by simp only [nx_0, nx_1, nx_2, nx_3, nx_4, nx_10, nx_20, nx_21, nx_100, nI_add, pk_mul] <;> rfl) (by omega) | decide) (by omega) ?_
              refine ax_iconst (v := 1) dX10_goesTenth_324 (by decide) ?_
              refine ax_isub dX10_goesTenth_325 ?_
              refine ax_callS (As := _) (c1 := 0) (n1 := 0) (c_X10_more (d := 0) (M := N2) _ _) dX10_goesTenth_326 mX10_more wd_1908 rfl (by omega) (by omega) (by omega) rfl rfl (fun _ _ h => by cases h.1) ?_
              rintro r M9 ⟨h1, h9⟩; cases h1; rw [h9]; clear h9 M9
              first | (rw [b2]; rw [show (if iI (r 35 + r (40 + i) / 20) < iI ((mt_s r lw dd t).1 i) then iI ((mt_s r lw dd t).1 i) else iI (r 35 + r (40 + i) / 20)) = iI (max ((mt_s r lw dd t).1 i) (mt_bf r i)) from iI_max (by unfold iI_b; omega) (by unfold mt_bf at hbf; unfold iI_b; omega)]; exact ja h289) | (rw [b2, show (1 : Int32) = iI 1 from rfl, iI_sub, show (if iI ((mt_s r lw dd t).1 i - 1) < 0 then 0 else iI ((mt_s r lw dd t).1 i - 1)) = iI (max 0 ((mt_s r lw dd t).1 i - 1)) from iI_max (a := 0) (by unfold iI_b; omega) (by unfold iI_b; omega)]; exact jb h289)
            · refine ax_aload_n dX10_goesTenth_292 rfl ?_
              refine ax_getK (f := 42) 380 dX10_goesTenth_293 acl_10 wd_1642 (by decide) rfl (lo_s hok 90 rfl) (lo_r hok 107 rfl) ?_
              refine ax_iload dX10_goesTenth_296 rfl ?_
              refine ax_ialdN (i) dX10_goesTenth_298 (lo_s hok 380 rfl) (by decide) (by first | with_reducible rfl | assumption | exact ax_nix (by simp only [nx_0, nx_1, nx_2, nx_3, nx_4, nx_10, nx_20, nx_21, nx_100, nI_add, pk_mul] <;> rfl) (by omega) | decide) (by omega) ?_
              refine ax_aload_n dX10_goesTenth_299 rfl ?_
              refine ax_aload_n dX10_goesTenth_300 rfl ?_
              refine ax_getK (f := 14) 96 dX10_goesTenth_301 acl_10 wd_1614 (by decide) rfl (lo_s hok 90 rfl) (lo_r hok 85 rfl) ?_
              refine ax_iload dX10_goesTenth_304 rfl ?_
              refine ax_ialdN (i) dX10_goesTenth_306 (lo_s hok 96 rfl) (by decide) (by first | with_reducible rfl | assumption | exact ax_nix (by simp only [nx_0, nx_1, nx_2, nx_3, nx_4, nx_10, nx_20, nx_21, nx_100, nI_add, pk_mul] <;> rfl) (by omega) | decide) (by omega) ?_
              refine ax_callV (As := _) (d2 := _) (c1 := 0) (n1 := 0) (c_rBlinds (d := 0) (M := N2) hok hrN2 ho (r (40 + i)) (by omega) (by omega) (hrN2.2.2.1 i hi)) dX10_goesTenth_307 mX10_blindsFor wd_1977 acl_10 (lo_s hok 90 rfl) rfl (by omega) (by omega) (by omega) rfl rfl (fun _ _ h => by cases h.1) ?_
              rintro r M9 ⟨h1, h9⟩; cases h1; rw [h9]; clear h9 M9
              refine ax_callS (As := _) (c1 := 0) (n1 := 0) (c_X10_more (d := 0) (M := N2) _ _) dX10_goesTenth_310 mX10_more wd_1908 rfl (by omega) (by omega) (by omega) rfl rfl (fun _ _ h => by cases h.1) ?_
              rintro r M9 ⟨h1, h9⟩; cases h1; rw [h9]; clear h9 M9
              refine ax_goto (tgt := 329) dX10_goesTenth_313 (by decide) ?_
              first | (rw [b2]; rw [show (if iI (r 35 + r (40 + i) / 20) < iI ((mt_s r lw dd t).1 i) then iI ((mt_s r lw dd t).1 i) else iI (r 35 + r (40 + i) / 20)) = iI (max ((mt_s r lw dd t).1 i) (mt_bf r i)) from iI_max (by unfold iI_b; omega) (by unfold mt_bf at hbf; unfold iI_b; omega)]; exact ja h289) | (rw [b2, show (1 : Int32) = iI 1 from rfl, iI_sub, show (if iI ((mt_s r lw dd t).1 i - 1) < 0 then 0 else iI ((mt_s r lw dd t).1 i - 1)) = iI (max 0 ((mt_s r lw dd t).1 i - 1)) from iI_max (a := 0) (by unfold iI_b; omega) (by unfold iI_b; omega)]; exact jb h289)
          refine ax_iastN (i) dX10_goesTenth_329 (lo_s hok 380 rfl) (by decide) (by first | with_reducible rfl | assumption | exact ax_nix (by simp only [nx_0, nx_1, nx_2, nx_3, nx_4, nx_10, nx_20, nx_21, nx_100, nI_add, pk_mul] <;> rfl) (by omega) | decide) (by omega) ?_
          refine ax_gen (fun N3 hN3 => ?_)
          have hok : lo_ok N3.2 := by rw [hN3]; exact hok
          have s4 : gt_S M N3 t := gt_S_tr s2 (by rw [hN3]; exact ⟨rfl, fun n j _ _ _ a _ _ _ => ax_pn (by omega)⟩)
          refine ax_iinc (v := 1) dX10_goesTenth_330 rfl (by decide) (by decide) rfl ?_
          refine ax_goto (tgt := 204) dX10_goesTenth_333 (by decide) ?_
          refine next N3 _ ⟨_, by rw [nI_1]; rfl, s4, fun q hq => ?_⟩
          have fq := f q hq
          have e81 : N3.1 381 q = N.1 381 q := by rw [hN3, ax_pn (by omega), hN2, ax_pn (by omega)]
          have erw : N3.1 (172 + 100 * q + t) 0 = N.1 (172 + 100 * q + t) 0 := by rw [hN3, ax_pn (by omega), hN2, ax_pn (by omega)]
          by_cases e : q = i
          · subst e
            rw [if_pos (by omega)]
            refine ⟨?_, e81.trans fq.2.1, ?_, erw.trans fq.2.2.2⟩
            · rw [hN3, ax_pa, hB, if_pos hon]; split <;> rfl
            · rw [hN3, ax_pn (by omega), hN2, ax_pa, hgl, hon, Bool.true_and, ← nI_add]; congr 1; split <;> rfl
          · have e80 : N3.1 380 q = N.1 380 q := by rw [hN3, ax_pn (by omega), hN2, ax_pn (by omega)]
            have e78 : N3.1 378 (1 - q) = N.1 378 (1 - q) := by rw [hN3, ax_pn (by omega), hN2, ax_pn (by omega)]
            rw [e80, e81, e78, erw]
            by_cases e2 : q < i
            · rw [if_pos e2] at fq; rw [if_pos (by omega)]; exact fq
            · rw [if_neg e2] at fq; rw [if_neg (by omega)]; exact fq
        · have hoff := mt_nf hc
          refine ax_goto (tgt := 330) dX10_goesTenth_219 (by decide) ?_
          refine ax_iinc (v := 1) dX10_goesTenth_330 rfl (by decide) (by decide) rfl ?_
          refine ax_goto (tgt := 204) dX10_goesTenth_333 (by decide) ?_
          refine next N _ ⟨y6, by rw [nI_1]; rfl, s, fun q hq => ?_⟩
          have fq := f q hq
          by_cases e : q = i
          · subst e
            rw [if_pos (by omega), hB, if_neg hc, hgl, hoff, Bool.false_and, if_neg (by decide), Nat.add_zero]
            exact ⟨fi.1, fq.2.1, fi.2.2.1, fq.2.2.2⟩
          · by_cases e2 : q < i
            · rw [if_pos e2] at fq; rw [if_pos (by omega)]; exact fq
            · rw [if_neg e2] at fq; rw [if_neg (by omega)]; exact fq
    · rintro N L ⟨y6, rfl, s, f⟩
      refine ax_iload dX10_goesTenth_204 rfl ?_
      refine ax_iconst (v := 2) dX10_goesTenth_206 (by decide) ?_
      refine ax_icmp_ge (tgt := 336) dX10_goesTenth_207 (by decide) (fun hc => ?_) (fun hc => ?_)
      · refine ax_iconst (v := 0) dX10_goesTenth_336 (by decide) ?_
        refine ax_istore dX10_goesTenth_337 (by decide) rfl ?_
        refine st4 N _ _ s (fun q hq => ?_)
        have fq := f q hq
        have fq2 := f (1 - q) (by omega)
        rw [if_pos hq] at fq
        rw [if_pos (by omega), show 1 - (1 - q) = q by omega] at fq2
        exact ⟨fq.1, fq.2.1, fq2.2.2.1, fq.2.2.2⟩
      · exact absurd ((nI_leI (a := 2) (by omega) (by omega)).mpr (Nat.le_refl _)) hc
  -- the second loop: the beams
  have st2 : ∀ (N : ax_M), gt_S M N t → (∀ q, q < 2 → N.1 380 q = iI ((mt_s r lw dd t).1 q) ∧ N.1 381 q = (mt_s r lw dd t).2 q ∧ N.1 378 q = nI (mt_gl r lw dd q t) ∧ N.1 (172 + 100 * q + t) 0 = -1 ∧ (mt_on r q t = true → N.1 382 q = (mt_s r lw dd (t + 1)).2 q)) → ax_W l G kX10_goesTenth (ax_FQ G (fun o M2 => o = .inl none ∧ gt_fr M M2 ∧ mt_J M2 r lw dd (t + 1))) 5 0 0 N 125 [some (av_r 90), some (av_i (nI t)), some (av_i (if mt_met r t = true then 1 else 0)), some (av_i (if mt_view r t = true then 1 else 0)), some (av_i (nI 0)), none, none] [] := by
    intro N3 s3 f3
    refine ax_for 2 (fun i N L => L = [some (av_r 90), some (av_i (nI t)), some (av_i (if mt_met r t = true then 1 else 0)), some (av_i (if mt_view r t = true then 1 else 0)), some (av_i (nI i)), none, none] ∧ gt_S M N t ∧ ∀ q, q < 2 → N.1 380 q = iI ((mt_s r lw dd t).1 q) ∧ N.1 381 q = (mt_s r lw dd (if q < i then t + 1 else t)).2 q ∧ N.1 378 q = nI (mt_gl r lw dd q t) ∧ N.1 (172 + 100 * q + t) 0 = -1 ∧ (mt_on r q t = true → N.1 382 q = (mt_s r lw dd (t + 1)).2 q)) 125 ?_ ?_ (i := 0) (by omega) ⟨rfl, s3, fun q hq => by rw [if_neg (by omega)]; exact f3 q hq⟩
    · rintro i N L hi ⟨rfl, s, f⟩ next
      have hok := oks N s
      have hrN := rrs N s
      have fi := f i hi
      rw [if_neg (by omega)] at fi
      have hF : (mt_s r lw dd (t + 1)).2 i = if mt_on r i t = true then (mt_s r lw dd (t + 1)).2 i else (mt_s r lw dd t).2 i := by
        split
        · rfl
        · rename_i hn; show mt_F r lw dd t _ i = _; unfold mt_F; rw [if_neg hn]
      refine ax_iload dX10_goesTenth_125 rfl ?_
      refine ax_iconst (v := 2) dX10_goesTenth_127 (by decide) ?_
      refine ax_icmp_ge (tgt := 170) dX10_goesTenth_128 (by decide) (fun hc => ?_) (fun hc => ?_)
      · exact absurd ((nI_leI (a := 2) (by omega) (by omega)).mp hc) (by omega)
      · refine ax_aload_n dX10_goesTenth_131 rfl ?_
        refine ax_getK (f := 43) 381 dX10_goesTenth_132 acl_10 wd_1643 (by decide) rfl (lo_s hok 90 rfl) (lo_r hok 108 rfl) ?_
        refine ax_iload dX10_goesTenth_135 rfl ?_
        refine ax_aload_n dX10_goesTenth_137 rfl ?_
        refine ax_iload dX10_goesTenth_138 rfl ?_
        refine ax_callV (As := _) (d2 := _) (c1 := 0) (n1 := 0) (c_rOn (M := N) hok hrN ho (c := i) (t := t) hi (by omega) (hcl N s i hi) rfl) dX10_goesTenth_140 mX10_isOn wd_1951 acl_10 (lo_s hok 90 rfl) rfl (by omega) (by omega) (by omega) rfl rfl (fun _ _ h => by cases h.1) ?_
        rintro r M9 ⟨h1, h9⟩; cases h1; rw [h9]; clear h9 M9
        refine ax_join1 (mt_on r i t = true) 163 ((mt_s r lw dd (t + 1)).2 i) ((mt_s r lw dd t).2 i) ?_ (fun ja jb => ?_)
        rotate_left
        · refine ax_ifB_eq (tgt := 156) dX10_goesTenth_143 (by decide) (fun h143 => ?_) (fun h143 => ?_)
          · refine ax_aload_n dX10_goesTenth_156 rfl ?_
            refine ax_getK (f := 43) 381 dX10_goesTenth_157 acl_10 wd_1643 (by decide) rfl (lo_s hok 90 rfl) (lo_r hok 108 rfl) ?_
            refine ax_iload dX10_goesTenth_160 rfl ?_
            refine ax_ialdN (i) dX10_goesTenth_162 (lo_s hok 381 rfl) (by decide) (by first | with_reducible rfl | assumption | exact ax_nix (by simp only [nx_0, nx_1, nx_2, nx_3, nx_4, nx_10, nx_20, nx_21, nx_100, nI_add, pk_mul] <;> rfl) (by omega) | decide) (by omega) ?_
            first | (rw [fi.2.2.2.2 h143]; exact ja h143) | (rw [fi.2.1]; exact jb h143)
          · refine ax_aload_n dX10_goesTenth_146 rfl ?_
            refine ax_getK (f := 44) 382 dX10_goesTenth_147 acl_10 wd_1644 (by decide) rfl (lo_s hok 90 rfl) (lo_r hok 109 rfl) ?_
            refine ax_iload dX10_goesTenth_150 rfl ?_
            refine ax_ialdN (i) dX10_goesTenth_152 (lo_s hok 382 rfl) (by decide) (by first | with_reducible rfl | assumption | exact ax_nix (by simp only [nx_0, nx_1, nx_2, nx_3, nx_4, nx_10, nx_20, nx_21, nx_100, nI_add, pk_mul] <;> rfl) (by omega) | decide) (by omega) ?_
            refine ax_goto (tgt := 163) dX10_goesTenth_153 (by decide) ?_
            first | (rw [fi.2.2.2.2 h143]; exact ja h143) | (rw [fi.2.1]; exact jb h143)
        rw [← hF]
        refine ax_iastN (i) dX10_goesTenth_163 (lo_s hok 381 rfl) (by decide) (by first | with_reducible rfl | assumption | exact ax_nix (by simp only [nx_0, nx_1, nx_2, nx_3, nx_4, nx_10, nx_20, nx_21, nx_100, nI_add, pk_mul] <;> rfl) (by omega) | decide) (by omega) ?_
        refine ax_gen (fun N2 hN2 => ?_)
        have hok : lo_ok N2.2 := by rw [hN2]; exact hok
        refine ax_iinc (v := 1) dX10_goesTenth_164 rfl (by decide) (by decide) rfl ?_
        refine ax_goto (tgt := 125) dX10_goesTenth_167 (by decide) ?_
        refine next N2 _ ⟨by rw [nI_1]; rfl, gt_S_tr s (by rw [hN2]; exact ⟨rfl, fun n j _ _ _ _ a _ _ => ax_pn (by omega)⟩), fun q hq => ?_⟩
        have fq := f q hq
        have e80 : N2.1 380 q = N.1 380 q := by rw [hN2, ax_pn (by omega)]
        have e78 : N2.1 378 q = N.1 378 q := by rw [hN2, ax_pn (by omega)]
        have e82 : N2.1 382 q = N.1 382 q := by rw [hN2, ax_pn (by omega)]
        have erw : N2.1 (172 + 100 * q + t) 0 = N.1 (172 + 100 * q + t) 0 := by rw [hN2, ax_pn (by omega)]
        rw [e80, e78, e82, erw]
        refine ⟨fq.1, ?_, fq.2.2⟩
        by_cases e : q = i
        · subst e; rw [if_pos (by omega), hN2, ax_pa]
        · rw [hN2, ax_pn (by omega)]
          by_cases e2 : q < i
          · rw [if_pos e2] at fq; rw [if_pos (by omega)]; exact fq.2.1
          · rw [if_neg e2] at fq; rw [if_neg (by omega)]; exact fq.2.1
    · rintro N L ⟨rfl, s, f⟩
      have hok := oks N s
      refine ax_iload dX10_goesTenth_125 rfl ?_
      refine ax_iconst (v := 2) dX10_goesTenth_127 (by decide) ?_
      refine ax_icmp_ge (tgt := 170) dX10_goesTenth_128 (by decide) (fun hc => ?_) (fun hc => ?_)
      · have hfb : iI_b (mt_far r t) := by have := hpb 0 (by decide); have := hpb 1 (by decide); unfold iI_b mt_far; omega
        refine ax_iload_n dX10_goesTenth_170 rfl ?_
        refine ax_join1 (mt_near r t = true) 199 (1) (0) ?_ (fun ja jb => ?_)
        rotate_left
        · refine ax_ifB_eq (tgt := 198) dX10_goesTenth_171 (by decide) (fun h171 => ?_) (fun h171 => ?_)
          · refine ax_iconst (v := 0) dX10_goesTenth_198 (by decide) ?_
            first | (refine jb ?_; simp [mt_near, h171]; done) | (rw [hfar N (cls N s) h171] at h191; refine jb ?_; have hh := (iI_lt (a := 15) (by unfold iI_b; omega) hfb).mp h191; simp [mt_near, h171]; omega) | (rw [hfar N (cls N s) h171] at h191; refine ja ?_; have hh : ¬ 15 < mt_far r t := (fun z => h191 ((iI_lt (a := 15) (by unfold iI_b; omega) hfb).mpr z)); simp [mt_near, h171]; omega)
          · refine ax_aload_n dX10_goesTenth_174 rfl ?_
            refine ax_getK (f := 41) 379 dX10_goesTenth_175 acl_10 wd_1641 (by decide) rfl (lo_s hok 90 rfl) (lo_r hok 106 rfl) ?_
            refine ax_iconst (v := 0) dX10_goesTenth_178 (by decide) ?_
            refine ax_ialdN (0) dX10_goesTenth_179 (lo_s hok 379 rfl) (by decide) (by decide) (by decide) ?_
            refine ax_aload_n dX10_goesTenth_180 rfl ?_
            refine ax_getK (f := 41) 379 dX10_goesTenth_181 acl_10 wd_1641 (by decide) rfl (lo_s hok 90 rfl) (lo_r hok 106 rfl) ?_
            refine ax_iconst (v := 1) dX10_goesTenth_184 (by decide) ?_
            refine ax_ialdN (1) dX10_goesTenth_185 (lo_s hok 379 rfl) (by decide) (by decide) (by decide) ?_
            refine ax_callS (As := _) (c1 := 0) (n1 := 0) (c_X10_far (d := 0) (M := N) _ _) dX10_goesTenth_186 mX10_far wd_1963 rfl (by omega) (by omega) (by omega) rfl rfl (fun _ _ h => by cases h.1) ?_
            rintro r M9 ⟨h1, h9⟩; cases h1; rw [h9]; clear h9 M9
            refine ax_bipush (v := 15) dX10_goesTenth_189 (by decide) ?_
            refine ax_icmp_gt (tgt := 198) dX10_goesTenth_191 (by decide) (fun h191 => ?_) (fun h191 => ?_)
            · refine ax_iconst (v := 0) dX10_goesTenth_198 (by decide) ?_
              first | (refine jb ?_; simp [mt_near, h171]; done) | (rw [hfar N (cls N s) h171] at h191; refine jb ?_; have hh := (iI_lt (a := 15) (by unfold iI_b; omega) hfb).mp h191; simp [mt_near, h171]; omega) | (rw [hfar N (cls N s) h171] at h191; refine ja ?_; have hh : ¬ 15 < mt_far r t := (fun z => h191 ((iI_lt (a := 15) (by unfold iI_b; omega) hfb).mpr z)); simp [mt_near, h171]; omega)
            · refine ax_iconst (v := 1) dX10_goesTenth_194 (by decide) ?_
              refine ax_goto (tgt := 199) dX10_goesTenth_195 (by decide) ?_
              first | (refine jb ?_; simp [mt_near, h171]; done) | (rw [hfar N (cls N s) h171] at h191; refine jb ?_; have hh := (iI_lt (a := 15) (by unfold iI_b; omega) hfb).mp h191; simp [mt_near, h171]; omega) | (rw [hfar N (cls N s) h171] at h191; refine ja ?_; have hh : ¬ 15 < mt_far r t := (fun z => h191 ((iI_lt (a := 15) (by unfold iI_b; omega) hfb).mpr z)); simp [mt_near, h171]; omega)
        refine ax_istore dX10_goesTenth_199 (by decide) rfl ?_
        refine ax_iconst (v := 0) dX10_goesTenth_201 (by decide) ?_
        refine ax_istore dX10_goesTenth_202 (by decide) rfl ?_
        refine st3 N _ s (fun q hq => ?_)
        have fq := f q hq
        rw [if_pos hq] at fq
        exact ⟨fq.1, fq.2.1, fq.2.2.1, fq.2.2.2.1⟩
      · exact absurd ((nI_leI (a := 2) (by omega) (by omega)).mpr (Nat.le_refl _)) hc
  -- the first loop: what each chooses
  have st1 : ax_W l G kX10_goesTenth (ax_FQ G (fun o M2 => o = .inl none ∧ gt_fr M M2 ∧ mt_J M2 r lw dd (t + 1))) 5 0 0 M 48 [some (av_r 90), some (av_i (nI t)), some (av_i (if mt_met r t = true then 1 else 0)), some (av_i (if mt_view r t = true then 1 else 0)), some (av_i (nI 0)), none, none] [] := by
    refine ax_for 2 (fun i N L => L = [some (av_r 90), some (av_i (nI t)), some (av_i (if mt_met r t = true then 1 else 0)), some (av_i (if mt_view r t = true then 1 else 0)), some (av_i (nI i)), none, none] ∧ gt_S M N t ∧ ∀ q, q < 2 → N.1 380 q = iI ((mt_s r lw dd t).1 q) ∧ N.1 381 q = (mt_s r lw dd t).2 q ∧ N.1 378 q = nI (mt_gl r lw dd q t) ∧ (q < i → N.1 (172 + 100 * q + t) 0 = -1) ∧ (q < i → mt_on r q t = true → N.1 382 q = (mt_s r lw dd (t + 1)).2 q)) 48 ?_ ?_ (i := 0) (by omega) ⟨rfl, ⟨rfl, fun _ _ _ _ _ _ _ _ _ => rfl⟩, fun q hq => ⟨(hJ q hq).2.1, (hJ q hq).2.2.1, (hJ q hq).2.2.2.2.2.1, fun z => by omega, fun z => by omega⟩⟩
    · rintro i N L hi ⟨rfl, s, f⟩ next
      have hok := oks N s
      refine ax_iload dX10_goesTenth_48 rfl ?_
      refine ax_iconst (v := 2) dX10_goesTenth_50 (by decide) ?_
      refine ax_icmp_ge (tgt := 122) dX10_goesTenth_51 (by decide) (fun hc => ?_) (fun hc => ?_)
      · exact absurd ((nI_leI (a := 2) (by omega) (by omega)).mp hc) (by omega)
      · refine ax_aload_n dX10_goesTenth_54 rfl ?_
        refine ax_getK (f := 36) 170 dX10_goesTenth_55 acl_10 wd_1636 (by decide) rfl (lo_s hok 90 rfl) (lo_r hok 101 rfl) ?_
        refine ax_iload dX10_goesTenth_58 rfl ?_
        refine ax_aaldN3 (171 + 100 * (i)) (i) dX10_goesTenth_60 (lo_s hok 170 rfl) (by decide) (by first | with_reducible rfl | assumption | exact ax_nix (by simp only [nx_0, nx_1, nx_2, nx_3, nx_4, nx_10, nx_20, nx_21, nx_100, nI_add, pk_mul] <;> rfl) (by omega) | decide) (by omega) (lo_tt hok (by omega)) ?_
        refine ax_iload_n dX10_goesTenth_61 rfl ?_
        refine ax_aaldN2 (172 + 100 * (i) + (t)) (t) dX10_goesTenth_62 (lo_ts hok (by omega)) (by decide) (by first | with_reducible rfl | assumption | exact ax_nix (by simp only [nx_0, nx_1, nx_2, nx_3, nx_4, nx_10, nx_20, nx_21, nx_100, nI_add, pk_mul] <;> rfl) (by omega) | decide) (by omega) (lo_tr hok (by omega) (by omega)) ?_
        refine ax_iconst (v := 0) dX10_goesTenth_63 (by decide) ?_
        refine ax_iconst (v := (-1)) dX10_goesTenth_64 (by decide) ?_
        refine ax_iastN (0) dX10_goesTenth_65 (by first | assumption | exact lo_tz hok (by omega) (by omega) | exact lo_z_m_wet hok (by omega) | exact lo_z_m_readWet hok (by omega) | exact lo_z_m_law hok (by omega) | exact lo_z_m_book hok (by omega) | exact lo_z_m_readBook hok (by omega) | exact lo_z_m_before hok (by omega) | exact lo_z_m_kept hok (by omega) | exact lo_z_m_seenAt hok (by omega) | exact lo_z_m_seenIn hok (by omega) | exact lo_z_m_t0 hok (by omega) | exact lo_z_m_t1 hok (by omega) | exact lo_z_m_c0 hok (by omega) | exact lo_z_m_c1 hok (by omega) | exact lo_z_x_kept hok (by omega)) (by decide) (by decide) (by decide) ?_
        refine ax_gen (fun N1 hN1 => ?_)
        have hok : lo_ok N1.2 := by rw [hN1]; exact hok
        have s1 : gt_S M N1 t := gt_S_tr s (by rw [hN1]; exact ⟨rfl, fun n j _ _ _ _ _ _ a => ax_pn (by omega)⟩)
        have hrN := rrs N1 s1
        have g : ∀ q, q < 2 → N1.1 380 q = iI ((mt_s r lw dd t).1 q) ∧ N1.1 381 q = (mt_s r lw dd t).2 q ∧ N1.1 378 q = nI (mt_gl r lw dd q t) ∧ (q < i + 1 → N1.1 (172 + 100 * q + t) 0 = -1) ∧ (q < i → mt_on r q t = true → N1.1 382 q = (mt_s r lw dd (t + 1)).2 q) := by
          intro q hq
          have fq := f q hq
          rw [hN1, ax_pn (by omega), ax_pn (by omega), ax_pn (by omega), ax_pn (a := 172 + 100 * i + t) (b := 382) (by omega)]
          refine ⟨fq.1, fq.2.1, fq.2.2.1, fun z => ?_, fq.2.2.2.2⟩
          by_cases e : q = i
          · subst e; exact ax_pa _ _ _ _
          · rw [ax_pn (by omega)]; exact fq.2.2.2.1 (by omega)
        refine ax_aload_n dX10_goesTenth_66 rfl ?_
        refine ax_iload dX10_goesTenth_67 rfl ?_
        refine ax_callV (As := _) (d2 := _) (c1 := 0) (n1 := 0) (c_rOn (M := N1) hok hrN ho (c := i) (t := t) hi (by omega) (hcl N1 s1 i hi) rfl) dX10_goesTenth_69 mX10_isOn wd_1951 acl_10 (lo_s hok 90 rfl) rfl (by omega) (by omega) (by omega) rfl rfl (fun _ _ h => by cases h.1) ?_
        rintro r M9 ⟨h1, h9⟩; cases h1; rw [h9]; clear h9 M9
        refine ax_ifB_ne (tgt := 78) dX10_goesTenth_72 (by decide) (fun hc => ?_) (fun hc => ?_)
        · have hon := hc
          have h1m := nI_1m hi
          refine ax_aload_n dX10_goesTenth_78 rfl ?_
          refine ax_iload dX10_goesTenth_79 rfl ?_
          refine ax_iload_n dX10_goesTenth_81 rfl ?_
          refine ax_aload_n dX10_goesTenth_82 rfl ?_
          refine ax_getK (f := 43) 381 dX10_goesTenth_83 acl_10 wd_1643 (by decide) rfl (lo_s hok 90 rfl) (lo_r hok 108 rfl) ?_
          refine ax_iload dX10_goesTenth_86 rfl ?_
          refine ax_ialdN (i) dX10_goesTenth_88 (lo_s hok 381 rfl) (by decide) (by first | with_reducible rfl | assumption | exact ax_nix (by simp only [nx_0, nx_1, nx_2, nx_3, nx_4, nx_10, nx_20, nx_21, nx_100, nI_add, pk_mul] <;> rfl) (by omega) | decide) (by omega) ?_
          rw [(g i hi).2.1]
          refine ax_iload_n dX10_goesTenth_89 rfl ?_
          refine ax_iload_n dX10_goesTenth_90 rfl ?_
          refine ax_aload_n dX10_goesTenth_91 rfl ?_
          refine ax_getK (f := 43) 381 dX10_goesTenth_92 acl_10 wd_1643 (by decide) rfl (lo_s hok 90 rfl) (lo_r hok 108 rfl) ?_
          refine ax_iconst (v := 1) dX10_goesTenth_95 (by decide) ?_
          refine ax_iload dX10_goesTenth_96 rfl ?_
          refine ax_isub dX10_goesTenth_98 ?_
          refine ax_ialdN (1 - i) dX10_goesTenth_99 (lo_s hok 381 rfl) (by decide) (by first | with_reducible rfl | assumption | exact ax_nix (by simp only [nx_0, nx_1, nx_2, nx_3, nx_4, nx_10, nx_20, nx_21, nx_100, nI_add, pk_mul] <;> rfl) (by omega) | decide) (by omega) ?_
          rw [(g (1 - i) (by omega)).2.1]
          refine ax_callV (As := _) (d2 := _) (c1 := 0) (n1 := 0) (c_X10_knows (M := N1) (b := (mt_s r lw dd t).1 i) hok hrN ho (c := i) (t := t) hi (by omega) (by rw [cls N1 s1]; exact mt_cl_on (hJ i hi).1 hon) (g i hi).1 (fun q => by rw [cls N1 s1, cls N1 s1]; exact hv q) rfl rfl rfl rfl) dX10_goesTenth_100 mX10_knows wd_1959 acl_10 (lo_s hok 90 rfl) rfl (by omega) (by omega) (by omega) rfl rfl (fun _ _ h => by cases h.1) ?_
          rintro o9 N2 ⟨h1, k2⟩; cases h1
          have hok : lo_ok N2.2 := by rw [k2.1]; exact hok
          refine ax_aload_n dX10_goesTenth_103 rfl ?_
          refine ax_getK (f := 44) 382 dX10_goesTenth_104 acl_10 wd_1644 (by decide) rfl (lo_s hok 90 rfl) (lo_r hok 109 rfl) ?_
          refine ax_iload dX10_goesTenth_107 rfl ?_
          refine ax_aload_n dX10_goesTenth_109 rfl ?_
          refine ax_iload dX10_goesTenth_110 rfl ?_
          refine ax_callV (As := _) (d2 := _) (c1 := 0) (n1 := 0) (c_X10_beamsBy (M := N2) hok (c := i) hi (lw := lw (1 + i)) (ml_law_fr (hl (1 + i) (by omega)) (fun n j q => (k2.2.1 n j (by omega)).trans (s1.2 n j (by omega) (by omega) (by omega) (by omega) (by omega) (by omega) (by omega)))) rfl) dX10_goesTenth_112 mX10_beamsBy wd_1966 acl_10 (lo_s hok 90 rfl) rfl (by omega) (by omega) (by omega) rfl rfl (fun _ _ h => by cases h.1) ?_
          rintro o9 N3 ⟨h1, k3⟩; cases h1
          have hok : lo_ok N3.2 := by rw [k3.1]; exact hok
          have hd3 : N2.1 383 i = dd i := (k2.2.1 383 i (by decide)).trans ((s1.2 383 i (by omega) (by omega) (by omega) (by omega) (by omega) (by omega) (by omega)).trans (hJ i hi).2.2.2.2.2.2.1)
          rw [hd3, ev_beam_cong (fun k hk => k2.2.2 k hk) (ml_law_ev (hl (1 + i) (by omega)))]
          have hF : (mt_s r lw dd (t + 1)).2 i = ev_beam (dd i) (lw (1 + i)) (mt_kn r i t ((mt_s r lw dd t).1 i) ((mt_s r lw dd t).2 i) ((mt_s r lw dd t).2 (1 - i))) := by
            show mt_F r lw dd t _ i = _; unfold mt_F; rw [if_pos hon]
          rw [← hF]
          refine ax_iastN (i) dX10_goesTenth_115 (lo_s hok 382 rfl) (by decide) (by first | with_reducible rfl | assumption | exact ax_nix (by simp only [nx_0, nx_1, nx_2, nx_3, nx_4, nx_10, nx_20, nx_21, nx_100, nI_add, pk_mul] <;> rfl) (by omega) | decide) (by omega) ?_
          refine ax_gen (fun N4 hN4 => ?_)
          have hok : lo_ok N4.2 := by rw [hN4]; exact hok
          have fr4 : ∀ n j, n ≠ 117 → n ≠ 118 → ¬ (n = 382 ∧ j = i) → N4.1 n j = N1.1 n j := fun n j a b e => by rw [hN4, ax_pn (by omega), k3.2 n j a, k2.2.1 n j b]
          refine ax_iinc (v := 1) dX10_goesTenth_116 rfl (by decide) (by decide) rfl ?_
          refine ax_goto (tgt := 48) dX10_goesTenth_119 (by decide) ?_
          refine next N4 _ ⟨by rw [nI_1]; rfl, gt_S_tr s1 ⟨by rw [hN4]; exact k3.1.trans k2.1, fun n j a b _ _ _ e _ => fr4 n j a b (by omega)⟩, fun q hq => ?_⟩
          have gq := g q hq
          refine ⟨(fr4 _ _ (by omega) (by omega) (by omega)).trans gq.1, (fr4 _ _ (by omega) (by omega) (by omega)).trans gq.2.1, (fr4 _ _ (by omega) (by omega) (by omega)).trans gq.2.2.1, fun z => (fr4 _ _ (by omega) (by omega) (by omega)).trans (gq.2.2.2.1 z), fun z w => ?_⟩
          by_cases e : q = i
          · subst e; rw [hN4, ax_pa]
          · rw [fr4 _ _ (by omega) (by omega) (by omega)]; exact gq.2.2.2.2 (by omega) w
        · have hoff := mt_nf hc
          refine ax_goto (tgt := 116) dX10_goesTenth_75 (by decide) ?_
          refine ax_iinc (v := 1) dX10_goesTenth_116 rfl (by decide) (by decide) rfl ?_
          refine ax_goto (tgt := 48) dX10_goesTenth_119 (by decide) ?_
          refine next N1 _ ⟨by rw [nI_1]; rfl, s1, fun q hq => ?_⟩
          have gq := g q hq
          refine ⟨gq.1, gq.2.1, gq.2.2.1, gq.2.2.2.1, fun z w => ?_⟩
          by_cases e : q = i
          · subst e; exact absurd w hc
          · exact gq.2.2.2.2 (by omega) w
    · rintro N L ⟨rfl, s, f⟩
      refine ax_iload dX10_goesTenth_48 rfl ?_
      refine ax_iconst (v := 2) dX10_goesTenth_50 (by decide) ?_
      refine ax_icmp_ge (tgt := 122) dX10_goesTenth_51 (by decide) (fun hc => ?_) (fun hc => ?_)
      · refine ax_iconst (v := 0) dX10_goesTenth_122 (by decide) ?_
        refine ax_istore dX10_goesTenth_123 (by decide) rfl ?_
        refine st2 N s (fun q hq => ?_)
        have fq := f q hq
        exact ⟨fq.1, fq.2.1, fq.2.2.1, fq.2.2.2.1 hq, fq.2.2.2.2 hq⟩
      · exact absurd ((nI_leI (a := 2) (by omega) (by omega)).mpr (Nat.le_refl _)) hc
  refine ax_body (by decide) (Nat.le_of_ble_eq_true rfl) ?_
  refine ax_aload_n dX10_goesTenth_0 rfl ?_
  refine ax_iconst (v := 0) dX10_goesTenth_1 (by decide) ?_
  refine ax_callV (As := _) (d2 := _) (c1 := 0) (n1 := 0) (c_rOn (M := M) hok hr ho (c := 0) (t := t) (by decide) (by omega) (hJ 0 (by decide)).1 rfl) dX10_goesTenth_2 mX10_isOn wd_1951 acl_10 (lo_s hok 90 rfl) rfl (by omega) (by omega) (by omega) rfl rfl (fun _ _ h => by cases h.1) ?_
  rintro r M9 ⟨h1, h9⟩; cases h1; rw [h9]; clear h9 M9
  refine ax_join1 (mt_view r t = true) 44 (1) (0) ?_ (fun ja jb => ?_)
  rotate_left
  · refine ax_ifB_eq (tgt := 43) dX10_goesTenth_5 (by decide) (fun h5 => ?_) (fun h5 => ?_)
    · refine ax_iconst (v := 0) dX10_goesTenth_43 (by decide) ?_
      first | exact jb (fun z => h5 (mt_view_iff.mp z).1) | exact jb (fun z => h13 (mt_view_iff.mp z).2.1) | exact jb (fun z => by have := (mt_view_iff.mp z).2.2.1; rw [h17] at this; cases this) | exact jb (fun z => by have := (mt_view_iff.mp z).2.2.2; rw [h36] at this; cases this) | exact ja (mt_view_iff.mpr ⟨h5, h13, mt_nf h17, mt_nf h36⟩)
    · refine ax_aload_n dX10_goesTenth_8 rfl ?_
      refine ax_iconst (v := 1) dX10_goesTenth_9 (by decide) ?_
      refine ax_callV (As := _) (d2 := _) (c1 := 0) (n1 := 0) (c_rOn (M := M) hok hr ho (c := 1) (t := t) (by decide) (by omega) (hJ 1 (by decide)).1 rfl) dX10_goesTenth_10 mX10_isOn wd_1951 acl_10 (lo_s hok 90 rfl) rfl (by omega) (by omega) (by omega) rfl rfl (fun _ _ h => by cases h.1) ?_
      rintro r M9 ⟨h1, h9⟩; cases h1; rw [h9]; clear h9 M9
      refine ax_ifB_eq (tgt := 43) dX10_goesTenth_13 (by decide) (fun h13 => ?_) (fun h13 => ?_)
      · refine ax_iconst (v := 0) dX10_goesTenth_43 (by decide) ?_
        first | exact jb (fun z => h5 (mt_view_iff.mp z).1) | exact jb (fun z => h13 (mt_view_iff.mp z).2.1) | exact jb (fun z => by have := (mt_view_iff.mp z).2.2.1; rw [h17] at this; cases this) | exact jb (fun z => by have := (mt_view_iff.mp z).2.2.2; rw [h36] at this; cases this) | exact ja (mt_view_iff.mpr ⟨h5, h13, mt_nf h17, mt_nf h36⟩)
      · refine ax_iload_n dX10_goesTenth_16 rfl ?_
        refine ax_ifB_ne (tgt := 43) dX10_goesTenth_17 (by decide) (fun h17 => ?_) (fun h17 => ?_)
        · refine ax_iconst (v := 0) dX10_goesTenth_43 (by decide) ?_
          first | exact jb (fun z => h5 (mt_view_iff.mp z).1) | exact jb (fun z => h13 (mt_view_iff.mp z).2.1) | exact jb (fun z => by have := (mt_view_iff.mp z).2.2.1; rw [h17] at this; cases this) | exact jb (fun z => by have := (mt_view_iff.mp z).2.2.2; rw [h36] at this; cases this) | exact ja (mt_view_iff.mpr ⟨h5, h13, mt_nf h17, mt_nf h36⟩)
        · refine ax_aload_n dX10_goesTenth_20 rfl ?_
          refine ax_aload_n dX10_goesTenth_21 rfl ?_
          refine ax_getK (f := 41) 379 dX10_goesTenth_22 acl_10 wd_1641 (by decide) rfl (lo_s hok 90 rfl) (lo_r hok 106 rfl) ?_
          refine ax_iconst (v := 0) dX10_goesTenth_25 (by decide) ?_
          refine ax_ialdN (0) dX10_goesTenth_26 (lo_s hok 379 rfl) (by decide) (by decide) (by decide) ?_
          refine ax_aload_n dX10_goesTenth_27 rfl ?_
          refine ax_getK (f := 41) 379 dX10_goesTenth_28 acl_10 wd_1641 (by decide) rfl (lo_s hok 90 rfl) (lo_r hok 106 rfl) ?_
          refine ax_iconst (v := 1) dX10_goesTenth_31 (by decide) ?_
          refine ax_ialdN (1) dX10_goesTenth_32 (lo_s hok 379 rfl) (by decide) (by decide) (by decide) ?_
          refine ax_callV (As := _) (d2 := _) (c1 := 0) (n1 := 0) (c_rBend (M := M) hok hr ho (mt_pos r 0 t) (mt_pos r 1 t) (by have := hpb 0 (by decide); unfold iI_b; omega) (by have := hpb 1 (by decide); unfold iI_b; omega) (mt_cl_on (hJ 0 (by decide)).1 h5) (mt_cl_on (hJ 1 (by decide)).1 h13)) dX10_goesTenth_33 mX10_isBendBetween wd_1901 acl_10 (lo_s hok 90 rfl) rfl (by omega) (by omega) (by omega) rfl rfl (fun _ _ h => by cases h.1) ?_
          rintro r M9 ⟨h1, h9⟩; cases h1; rw [h9]; clear h9 M9
          refine ax_ifB_ne (tgt := 43) dX10_goesTenth_36 (by decide) (fun h36 => ?_) (fun h36 => ?_)
          · refine ax_iconst (v := 0) dX10_goesTenth_43 (by decide) ?_
            first | exact jb (fun z => h5 (mt_view_iff.mp z).1) | exact jb (fun z => h13 (mt_view_iff.mp z).2.1) | exact jb (fun z => by have := (mt_view_iff.mp z).2.2.1; rw [h17] at this; cases this) | exact jb (fun z => by have := (mt_view_iff.mp z).2.2.2; rw [h36] at this; cases this) | exact ja (mt_view_iff.mpr ⟨h5, h13, mt_nf h17, mt_nf h36⟩)
          · refine ax_iconst (v := 1) dX10_goesTenth_39 (by decide) ?_
            refine ax_goto (tgt := 44) dX10_goesTenth_40 (by decide) ?_
            first | exact jb (fun z => h5 (mt_view_iff.mp z).1) | exact jb (fun z => h13 (mt_view_iff.mp z).2.1) | exact jb (fun z => by have := (mt_view_iff.mp z).2.2.1; rw [h17] at this; cases this) | exact jb (fun z => by have := (mt_view_iff.mp z).2.2.2; rw [h36] at this; cases this) | exact ja (mt_view_iff.mpr ⟨h5, h13, mt_nf h17, mt_nf h36⟩)
  refine ax_istore_n dX10_goesTenth_44 (by decide) rfl ?_
  refine ax_iconst (v := 0) dX10_goesTenth_45 (by decide) ?_
  refine ax_istore dX10_goesTenth_46 (by decide) rfl ?_
  exact st1
end MQ

