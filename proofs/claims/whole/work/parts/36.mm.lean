/-! ===== a whole meeting: the reference ===== -/
def mt_d (a b : Int32) (c : Nat) : Int32 := if c = 0 then a else b
def mt_fr (M M2 : ax_M) : Prop := M2.2 = M.2 ∧ ∀ n i, ¬ (n = 90 ∧ (i = 46 ∨ i = 47)) → n ≠ 117 → n ≠ 118 → ¬ (170 ≤ n ∧ n ≤ 383) → M2.1 n i = M.1 n i
theorem mt_fr_tr {M M1 M2 : ax_M} (h1 : mt_fr M M1) (h2 : mt_fr M1 M2) : mt_fr M M2 := ⟨h2.1.trans h1.1, fun n i a b e f => (h2.2 n i a b e f).trans (h1.2 n i a b e f)⟩
theorem mt_fr_gt {M M2 : ax_M} (h : gt_fr M M2) : mt_fr M M2 := ⟨h.1, fun n i _ b e f => h.2 n i b e f⟩
theorem mt_fr_p {M : ax_M} {n i : Nat} {x : Int32} (h : (n = 90 ∧ (i = 46 ∨ i = 47)) ∨ n = 117 ∨ n = 118 ∨ (170 ≤ n ∧ n ≤ 383)) : mt_fr M (ax_pI M n i x) := ⟨rfl, fun m j a b e f => ax_pn (by omega)⟩
theorem mt_fr_0 (M : ax_M) : mt_fr M M := ⟨rfl, fun _ _ _ _ _ _ => rfl⟩
theorem mt_fr_rr {M M2 : ax_M} {r : Nat → Int} (h : mt_fr M M2) (hr : rr M r) : rr M2 r := rr_fr hr (fun n i q => h.2 n i (by omega) (by omega) (by omega) (by omega))
theorem mt_fr_law {M M2 : ax_M} {w : Nat} {lw : Option (List (Int32 × Int32))} (h : mt_fr M M2) (hw : w < 3) (hl : ml_law M w lw) : ml_law M2 w lw := ml_law_fr hl (fun n i q => h.2 n i (by omega) (by omega) (by omega) (by omega))
def mt_R (M : ax_M) (r : Nat → Int) (lw : mt_L) (d : Nat → Int32) : Prop := mt_J M r lw d (mt_T r) ∧ M.1 90 46 = nI (mt_T r) ∧ M.1 90 47 = mt_sb (mt_ps r (mt_T r))
theorem mt_or_ff {p : Nat → Bool} : ∀ n, (∀ k, k < n → p k = false) → mt_or p n = 0
  | 0, _ => rfl
  | n + 1, h => by
    show mt_or p n ||| (if p n = true then _ else 0) = 0
    rw [mt_or_ff n (fun k hk => h k (by omega)), h n (by omega), if_neg (by decide), Int32.or_zero]
theorem mt_sb_no {s : Option Nat} (h : ∀ u, s = some u → u < 100) : mt_sb s = -1 ↔ s = none := by
  cases s with
  | none => exact ⟨fun _ => rfl, fun _ => rfl⟩
  | some u => exact ⟨fun e => absurd e (nI_m1 (by have := h u rfl; omega)), fun e => by cases e⟩
theorem mt_met_mono {r : Nat → Int} (h : rd_ok r) {u : Nat} (hm : mt_met r u = true) : ∀ {t : Nat}, u ≤ t → mt_met r t = true := by
  intro t ht
  obtain ⟨k, rfl⟩ : ∃ k, t = u + k := ⟨t - u, by omega⟩
  clear ht
  induction k with
  | zero => exact hm
  | succ k ih => exact mt_met_s h ih
theorem mt_ps_s (r : Nat → Int) (t : Nat) : mt_ps r (t + 1) = match mt_ps r t with
    | some u => some u
    | none => if mt_met r t = true then some t else none := rfl
section MM
variable {l : Launch} {G : ax_G} {M : ax_M} {r : Nat → Int} {lw : mt_L}
theorem mt_J_0 {d : Nat → Int32} (ho : rd_ok r) (h0 : M.1 379 0 = 0) (h1 : M.1 379 1 = iI (r 0 - 1)) (hq : ∀ q, q < 2 → M.1 380 q = 0 ∧ M.1 381 q = 1 ∧ M.1 377 q = 0 ∧ M.1 378 q = 0 ∧ M.1 383 q = d q ∧ ∀ k, k < 10 → M.1 (372 + q) k = -1 ∧ M.1 (375 + q) k = -1) : mt_J M r lw d 0 := by
  intro c hc
  have h9 := ho.1
  have h := hq c hc
  refine ⟨?_, h.1, h.2.1, ?_, ?_, h.2.2.2.1, h.2.2.2.2.1, fun u hu => by omega⟩
  · rcases (show c = 0 ∨ c = 1 by omega) with rfl | rfl
    · refine ⟨0, h0, fun _ => (mt_pos_z0 r).symm, fun q z => ?_⟩
      have q2 : ¬ mt_on r 0 0 = true := by rw [q]; decide
      rw [mt_on_iff, mt_pos_z0] at q2
      omega
    · refine ⟨r 0 - 1, h1, fun _ => (mt_pos_z1 r).symm, fun q z => ?_⟩
      have q2 : ¬ mt_on r 1 0 = true := by rw [q]; decide
      rw [mt_on_iff, mt_pos_z1] at q2
      omega
  · intro k hk
    have e : mt_sk r lw d c k 0 = none := by unfold mt_sk; split <;> rfl
    rw [if_neg (by omega), e]
    exact h.2.2.2.2.2 k hk
  · rw [h.2.2.1]
    exact (mt_or_ff 10 (fun k hk => by show (_ && false) = false; rw [Bool.and_false])).symm
theorem c_X10_meets (hok : lo_ok M.2) (hr : rr M r) (ho : rd_ok r) (hl : ∀ w, w < 3 → ml_law M w (lw w)) (d0 d1 : Int32) : ax_Met l G kX10_meets 6 0 0 M [av_r 90, av_i d0, av_i d1] (fun o M2 => o = .inl none ∧ mt_fr M M2 ∧ mt_R M2 r lw (mt_d d0 d1)) := by
  have h9 := ho.1
  have hTT := mt_T_le r
  -- the meeting
  have main : ∀ (N : ax_M) (y3 y4 : Option ax_V), mt_fr M N → mt_J N r lw (mt_d d0 d1) 0 → N.1 90 46 = 0 → N.1 90 47 = -1 → ax_W l G kX10_meets (ax_FQ G (fun o M2 => o = .inl none ∧ mt_fr M M2 ∧ mt_R M2 r lw (mt_d d0 d1))) 6 0 0 N 122 [some (av_r 90), some (av_i d0), some (av_i d1), y3, y4] [] := by
    intro N y3 y4 q1 q2 q3 q4
    refine ax_for (mt_T r) (fun t N L => ∃ y3 y4, L = [some (av_r 90), some (av_i d0), some (av_i d1), y3, y4] ∧ mt_fr M N ∧ mt_J N r lw (mt_d d0 d1) t ∧ N.1 90 46 = nI t ∧ N.1 90 47 = mt_sb (mt_ps r t)) 122 ?_ ?_ (i := 0) (by omega) ⟨y3, y4, rfl, q1, q2, q3, q4⟩
    · rintro t N L hi ⟨y3, y4, rfl, fr, hJ, h46, h47⟩ next
      have hok : lo_ok N.2 := by rw [fr.1]; exact hok
      have hrN := mt_fr_rr fr hr
      have hgo := mt_T_lt hi
      have hpb := fun c (hc : c < 2) => mt_pos_b ho (c := c) (t := t) hc (by omega)
      have body : ax_W l G kX10_meets (ax_FQ G (fun o M2 => o = .inl none ∧ mt_fr M M2 ∧ mt_R M2 r lw (mt_d d0 d1))) 6 0 0 N 147 [some (av_r 90), some (av_i d0), some (av_i d1), y3, y4] [] := by
        have hmet : mt_met r t = true ↔ (N.1 94 1 = 2 ∧ N.1 379 1 ≤ N.1 379 0) := by
          rw [hrN.1 1 (by decide), show (2 : Int32) = iI 2 from rfl, iI_eq (by unfold iI_b; omega) (by unfold iI_b; omega), mt_met_iff]
          refine and_congr_right (fun e2 => ?_)
          have p0 := hpb 0 (by decide); have p1 := hpb 1 (by decide)
          have b0 := mt_pos_b0 ho t; have b1 := mt_pos_b1 ho t
          obtain ⟨w0, e0, a0, c0⟩ := (hJ 0 (by decide)).1
          obtain ⟨w1, e1, a1, c1⟩ := (hJ 1 (by decide)).1
          rw [e0, e1]
          by_cases o0 : mt_on r 0 t = true
          · have x0 := a0 o0
            by_cases o1 : mt_on r 1 t = true
            · rw [x0, a1 o1, iI_le (by unfold iI_b; omega) (by unfold iI_b; omega)]
            · have := (c1 (mt_nf o1) (by omega)).2 rfl
              rw [iI_le (by unfold iI_b; omega) (by unfold iI_b; omega)]
              omega
          · have := (c0 (mt_nf o0) (by omega)).1 rfl
            by_cases o1 : mt_on r 1 t = true
            · have x1 := a1 o1
              rw [iI_le (by unfold iI_b; omega) (by unfold iI_b; omega)]
              omega
            · have := (c1 (mt_nf o1) (by omega)).2 rfl
              rw [iI_le (by unfold iI_b; omega) (by unfold iI_b; omega)]
              omega
        have hpsb : ∀ u, mt_ps r t = some u → u < 100 := fun u hu => by have := (mt_first_some hu).1; omega
        refine ax_aload_n dX10_meets_147 rfl ?_
        refine ax_getK (f := 12) 94 dX10_meets_148 acl_10 wd_1612 (by decide) rfl (lo_s hok 90 rfl) (lo_r hok 83 rfl) ?_
        refine ax_iconst (v := 1) dX10_meets_151 (by decide) ?_
        refine ax_ialdN (1) dX10_meets_152 (lo_s hok 94 rfl) (by decide) (by decide) (by decide) ?_
        refine ax_iconst (v := 2) dX10_meets_153 (by decide) ?_
        refine ax_join2 (mt_met r t = true) 177 (1) (0) ?_ (fun ja jb => ?_)
        rotate_left
        · refine ax_icmp_ne (tgt := 176) dX10_meets_154 (by decide) (fun h154 => ?_) (fun h154 => ?_)
          · refine ax_iconst (v := 0) dX10_meets_176 (by decide) ?_
            first | exact jb (fun z => h154 (hmet.mp z).1) | exact jb (fun z => absurd (hmet.mp z).2 (Int32.not_le.mpr h169)) | exact ja (hmet.mpr ⟨h154, Int32.not_lt.mp h169⟩)
          · refine ax_aload_n dX10_meets_157 rfl ?_
            refine ax_getK (f := 41) 379 dX10_meets_158 acl_10 wd_1641 (by decide) rfl (lo_s hok 90 rfl) (lo_r hok 106 rfl) ?_
            refine ax_iconst (v := 0) dX10_meets_161 (by decide) ?_
            refine ax_ialdN (0) dX10_meets_162 (lo_s hok 379 rfl) (by decide) (by decide) (by decide) ?_
            refine ax_aload_n dX10_meets_163 rfl ?_
            refine ax_getK (f := 41) 379 dX10_meets_164 acl_10 wd_1641 (by decide) rfl (lo_s hok 90 rfl) (lo_r hok 106 rfl) ?_
            refine ax_iconst (v := 1) dX10_meets_167 (by decide) ?_
            refine ax_ialdN (1) dX10_meets_168 (lo_s hok 379 rfl) (by decide) (by decide) (by decide) ?_
            refine ax_icmp_lt (tgt := 176) dX10_meets_169 (by decide) (fun h169 => ?_) (fun h169 => ?_)
            · refine ax_iconst (v := 0) dX10_meets_176 (by decide) ?_
              first | exact jb (fun z => h154 (hmet.mp z).1) | exact jb (fun z => absurd (hmet.mp z).2 (Int32.not_le.mpr h169)) | exact ja (hmet.mpr ⟨h154, Int32.not_lt.mp h169⟩)
            · refine ax_iconst (v := 1) dX10_meets_172 (by decide) ?_
              refine ax_goto (tgt := 177) dX10_meets_173 (by decide) ?_
              first | exact jb (fun z => h154 (hmet.mp z).1) | exact jb (fun z => absurd (hmet.mp z).2 (Int32.not_le.mpr h169)) | exact ja (hmet.mpr ⟨h154, Int32.not_lt.mp h169⟩)
        refine ax_istore_n dX10_meets_177 (by decide) rfl ?_
        refine ax_aload_n dX10_meets_178 rfl ?_
        refine ax_iload_n dX10_meets_179 rfl ?_
        refine ax_join1 (mt_met r t = true ∧ mt_ps r t = none) 202 (nI t) (mt_sb (mt_ps r t)) ?_ (fun ja jb => ?_)
        rotate_left
        · refine ax_ifB_eq (tgt := 198) dX10_meets_180 (by decide) (fun h180 => ?_) (fun h180 => ?_)
          · refine ax_aload_n dX10_meets_198 rfl ?_
            refine ax_getI (f := 47) dX10_meets_199 acl_10 wd_1647 (by decide) rfl (lo_s hok 90 rfl) ?_
            first | (rw [h47]; exact jb (fun z => h180 z.1)) | (rw [h47]; exact jb (fun z => h188 (by rw [h47, z.2]; rfl))) | (rw [h46]; exact ja ⟨h180, (mt_sb_no hpsb).mp (h47.symm.trans h188)⟩)
          · refine ax_aload_n dX10_meets_183 rfl ?_
            refine ax_getI (f := 47) dX10_meets_184 acl_10 wd_1647 (by decide) rfl (lo_s hok 90 rfl) ?_
            refine ax_iconst (v := (-1)) dX10_meets_187 (by decide) ?_
            refine ax_icmp_ne (tgt := 198) dX10_meets_188 (by decide) (fun h188 => ?_) (fun h188 => ?_)
            · refine ax_aload_n dX10_meets_198 rfl ?_
              refine ax_getI (f := 47) dX10_meets_199 acl_10 wd_1647 (by decide) rfl (lo_s hok 90 rfl) ?_
              first | (rw [h47]; exact jb (fun z => h180 z.1)) | (rw [h47]; exact jb (fun z => h188 (by rw [h47, z.2]; rfl))) | (rw [h46]; exact ja ⟨h180, (mt_sb_no hpsb).mp (h47.symm.trans h188)⟩)
            · refine ax_aload_n dX10_meets_191 rfl ?_
              refine ax_getI (f := 46) dX10_meets_192 acl_10 wd_1646 (by decide) rfl (lo_s hok 90 rfl) ?_
              refine ax_goto (tgt := 202) dX10_meets_195 (by decide) ?_
              first | (rw [h47]; exact jb (fun z => h180 z.1)) | (rw [h47]; exact jb (fun z => h188 (by rw [h47, z.2]; rfl))) | (rw [h46]; exact ja ⟨h180, (mt_sb_no hpsb).mp (h47.symm.trans h188)⟩)
        have e47 : (if mt_met r t = true ∧ mt_ps r t = none then nI t else mt_sb (mt_ps r t)) = mt_sb (mt_ps r (t + 1)) := by
          rw [mt_ps_s]
          cases e : mt_ps r t with
          | some u => simp
          | none =>
            by_cases q : mt_met r t = true
            · simp [q]; rfl
            · simp [q]
        rw [e47]
        refine ax_putI (f := 47) dX10_meets_202 acl_10 wd_1647 (by decide) rfl rfl (ax_nfI rfl) (lo_s hok 90 rfl) ?_
        refine ax_gen (fun N2 hN2 => ?_)
        have hok : lo_ok N2.2 := by rw [hN2]; exact hok
        have fr2 : mt_fr N N2 := by rw [hN2]; exact mt_fr_p (by omega)
        have hpsb2 : ∀ u, mt_ps r (t + 1) = some u → u < 100 := fun u hu => by have := (mt_first_some hu).1; omega
        have h472 : N2.1 90 47 = mt_sb (mt_ps r (t + 1)) := by rw [hN2, ax_pa]
        have h462 : N2.1 90 46 = nI t := by rw [hN2, ax_pn (by omega)]; exact h46
        refine ax_aload_n dX10_meets_205 rfl ?_
        refine ax_aload_n dX10_meets_206 rfl ?_
        refine ax_getI (f := 46) dX10_meets_207 acl_10 wd_1646 (by decide) rfl (lo_s hok 90 rfl) ?_
        refine ax_iload_n dX10_meets_210 rfl ?_
        rw [h462]
        refine ax_join1 (mt_met r t = true) 227 (1) (0) ?_ (fun ja jb => ?_)
        rotate_left
        · refine ax_ifB_ne (tgt := 222) dX10_meets_211 (by decide) (fun h211 => ?_) (fun h211 => ?_)
          · refine ax_iconst (v := 1) dX10_meets_222 (by decide) ?_
            refine ax_goto (tgt := 227) dX10_meets_223 (by decide) ?_
            first | exact ja h211 | (refine ja ?_; have hne : ¬ mt_ps r (t + 1) = none := (fun z => h219 (by rw [h472, z]; rfl)); obtain ⟨u, hu⟩ := Option.ne_none_iff_exists'.mp hne; have hs := mt_first_some hu; exact mt_met_mono ho hs.2.1 (by omega)) | exact jb h211
          · refine ax_aload_n dX10_meets_214 rfl ?_
            refine ax_getI (f := 47) dX10_meets_215 acl_10 wd_1647 (by decide) rfl (lo_s hok 90 rfl) ?_
            refine ax_iconst (v := (-1)) dX10_meets_218 (by decide) ?_
            refine ax_icmp_eq (tgt := 226) dX10_meets_219 (by decide) (fun h219 => ?_) (fun h219 => ?_)
            · refine ax_iconst (v := 0) dX10_meets_226 (by decide) ?_
              first | exact ja h211 | (refine ja ?_; have hne : ¬ mt_ps r (t + 1) = none := (fun z => h219 (by rw [h472, z]; rfl)); obtain ⟨u, hu⟩ := Option.ne_none_iff_exists'.mp hne; have hs := mt_first_some hu; exact mt_met_mono ho hs.2.1 (by omega)) | exact jb h211
            · refine ax_iconst (v := 1) dX10_meets_222 (by decide) ?_
              refine ax_goto (tgt := 227) dX10_meets_223 (by decide) ?_
              first | exact ja h211 | (refine ja ?_; have hne : ¬ mt_ps r (t + 1) = none := (fun z => h219 (by rw [h472, z]; rfl)); obtain ⟨u, hu⟩ := Option.ne_none_iff_exists'.mp hne; have hs := mt_first_some hu; exact mt_met_mono ho hs.2.1 (by omega)) | exact jb h211
        have hJ2 : mt_J N2 r lw (mt_d d0 d1) t := by
          intro c hc
          have h := hJ c hc
          have e : ∀ n i, n ≠ 90 → N2.1 n i = N.1 n i := fun n i q => by rw [hN2, ax_pn (by omega)]
          rw [e 379 c (by decide), e 380 c (by decide), e 381 c (by decide), e 377 c (by decide), e 378 c (by decide), e 383 c (by decide)]
          exact ⟨h.1, h.2.1, h.2.2.1, mt_sn_fr h.2.2.2.1 (fun k => ⟨e _ _ (by omega), e _ _ (by omega)⟩), h.2.2.2.2.1, h.2.2.2.2.2.1, h.2.2.2.2.2.2.1, fun u hu => mt_rw_fr (h.2.2.2.2.2.2.2 u hu) (fun k => e _ _ (by omega))⟩
        refine ax_callV (As := _) (d2 := _) (c1 := 0) (n1 := 0) (c_X10_goesTenth (M := N2) (lw := lw) (dd := mt_d d0 d1) hok (mt_fr_rr fr2 hrN) ho (fun w hw => mt_fr_law (mt_fr_tr fr fr2) hw (hl w hw)) (t := t) (by omega) hJ2 rfl rfl) dX10_meets_227 mX10_goesTenth wd_1955 acl_10 (lo_s hok 90 rfl) rfl (by omega) (by omega) (by omega) rfl rfl (fun _ _ h => by cases h.1) ?_
        rintro o9 N3 ⟨h1, g1, g2⟩; cases h1
        have hok : lo_ok N3.2 := by rw [g1.1]; exact hok
        have h463 : N3.1 90 46 = nI t := (g1.2 90 46 (by omega) (by omega) (by omega)).trans h462
        have h473 : N3.1 90 47 = mt_sb (mt_ps r (t + 1)) := (g1.2 90 47 (by omega) (by omega) (by omega)).trans h472
        refine ax_aload_n dX10_meets_230 rfl ?_
        refine ax_dup dX10_meets_231 (by first | rfl | exact ax_crf _) ?_
        refine ax_getI (f := 46) dX10_meets_232 acl_10 wd_1646 (by decide) rfl (lo_s hok 90 rfl) ?_
        refine ax_iconst (v := 1) dX10_meets_235 (by decide) ?_
        rw [h463]
        refine ax_iadd dX10_meets_236 ?_
        refine ax_putI (f := 46) dX10_meets_237 acl_10 wd_1646 (by decide) rfl rfl (ax_nfI rfl) (lo_s hok 90 rfl) ?_
        rw [nI_1]
        refine ax_gen (fun N4 hN4 => ?_)
        have hok : lo_ok N4.2 := by rw [hN4]; exact hok
        refine ax_goto (tgt := 122) dX10_meets_240 (by decide) ?_
        refine next N4 _ ⟨_, y4, rfl, mt_fr_tr (mt_fr_tr fr (mt_fr_tr fr2 (mt_fr_gt g1))) (by rw [hN4]; exact mt_fr_p (by omega)), ?_, by rw [hN4, ax_pa], by rw [hN4, ax_pn (by omega)]; exact h473⟩
        intro c hc
        have h := g2 c hc
        have e : ∀ n i, n ≠ 90 → N4.1 n i = N3.1 n i := fun n i q => by rw [hN4, ax_pn (by omega)]
        rw [e 379 c (by decide), e 380 c (by decide), e 381 c (by decide), e 377 c (by decide), e 378 c (by decide), e 383 c (by decide)]
        exact ⟨h.1, h.2.1, h.2.2.1, mt_sn_fr h.2.2.2.1 (fun k => ⟨e _ _ (by omega), e _ _ (by omega)⟩), h.2.2.2.2.1, h.2.2.2.2.2.1, h.2.2.2.2.2.2.1, fun u hu => mt_rw_fr (h.2.2.2.2.2.2.2 u hu) (fun k => e _ _ (by omega))⟩
      refine ax_aload_n dX10_meets_122 rfl ?_
      refine ax_getI (f := 46) dX10_meets_123 acl_10 wd_1646 (by decide) rfl (lo_s hok 90 rfl) ?_
      refine ax_bipush (v := 99) dX10_meets_126 (by decide) ?_
      rw [h46]
      refine ax_icmp_ge (tgt := 243) dX10_meets_128 (by decide) (fun hc => ?_) (fun hc => ?_)
      · exact absurd ((nI_leI (a := 99) (by omega) (by omega)).mp hc) (by omega)
      · refine ax_aload_n dX10_meets_131 rfl ?_
        refine ax_iconst (v := 0) dX10_meets_132 (by decide) ?_
        refine ax_callV (As := _) (d2 := _) (c1 := 0) (n1 := 0) (c_rOn (M := N) hok hrN ho (c := 0) (t := t) (by decide) (by omega) (hJ 0 (by decide)).1 rfl) dX10_meets_133 mX10_isOn wd_1951 acl_10 (lo_s hok 90 rfl) rfl (by omega) (by omega) (by omega) rfl rfl (fun _ _ h => by cases h.1) ?_
        rintro r M9 ⟨h1, h9⟩; cases h1; rw [h9]; clear h9 M9
        refine ax_ifB_ne (tgt := 147) dX10_meets_136 (by decide) (fun hc => ?_) (fun hc => ?_)
        · exact body
        · have h0 := mt_nf hc
          refine ax_aload_n dX10_meets_139 rfl ?_
          refine ax_iconst (v := 1) dX10_meets_140 (by decide) ?_
          refine ax_callV (As := _) (d2 := _) (c1 := 0) (n1 := 0) (c_rOn (M := N) hok hrN ho (c := 1) (t := t) (by decide) (by omega) (hJ 1 (by decide)).1 rfl) dX10_meets_141 mX10_isOn wd_1951 acl_10 (lo_s hok 90 rfl) rfl (by omega) (by omega) (by omega) rfl rfl (fun _ _ h => by cases h.1) ?_
          rintro r M9 ⟨h1, h9⟩; cases h1; rw [h9]; clear h9 M9
          refine ax_ifB_eq (tgt := 243) dX10_meets_144 (by decide) (fun hc => ?_) (fun hc => ?_)
          · exfalso; unfold mt_go at hgo; rw [h0, mt_nf hc] at hgo; cases hgo
          · exact body
    · rintro N L ⟨y3, y4, rfl, fr, hJ, h46, h47⟩
      have hok : lo_ok N.2 := by rw [fr.1]; exact hok
      have hrN := mt_fr_rr fr hr
      refine ax_aload_n dX10_meets_122 rfl ?_
      refine ax_getI (f := 46) dX10_meets_123 acl_10 wd_1646 (by decide) rfl (lo_s hok 90 rfl) ?_
      refine ax_bipush (v := 99) dX10_meets_126 (by decide) ?_
      rw [h46]
      refine ax_icmp_ge (tgt := 243) dX10_meets_128 (by decide) (fun hc => ?_) (fun hc => ?_)
      · refine ax_vret dX10_meets_243 rfl ?_
        exact ⟨rfl, fr, hJ, h46, h47⟩
      · have hlt : mt_T r < 99 := by
          rcases Nat.lt_or_ge (mt_T r) 99 with q | q
          · exact q
          · exact absurd ((nI_leI (a := 99) (by omega) (by omega)).mpr q) hc
        have hend := mt_T_end hlt
        unfold mt_go at hend
        have hend2 := Bool.or_eq_false_iff.mp hend
        refine ax_aload_n dX10_meets_131 rfl ?_
        refine ax_iconst (v := 0) dX10_meets_132 (by decide) ?_
        refine ax_callV (As := _) (d2 := _) (c1 := 0) (n1 := 0) (c_rOn (M := N) hok hrN ho (c := 0) (t := mt_T r) (by decide) (by omega) (hJ 0 (by decide)).1 rfl) dX10_meets_133 mX10_isOn wd_1951 acl_10 (lo_s hok 90 rfl) rfl (by omega) (by omega) (by omega) rfl rfl (fun _ _ h => by cases h.1) ?_
        rintro r M9 ⟨h1, h9⟩; cases h1; rw [h9]; clear h9 M9
        refine ax_ifB_ne (tgt := 147) dX10_meets_136 (by decide) (fun hc => ?_) (fun hc => ?_)
        · rw [hend2.1] at hc; cases hc
        · refine ax_aload_n dX10_meets_139 rfl ?_
          refine ax_iconst (v := 1) dX10_meets_140 (by decide) ?_
          refine ax_callV (As := _) (d2 := _) (c1 := 0) (n1 := 0) (c_rOn (M := N) hok hrN ho (c := 1) (t := mt_T r) (by decide) (by omega) (hJ 1 (by decide)).1 rfl) dX10_meets_141 mX10_isOn wd_1951 acl_10 (lo_s hok 90 rfl) rfl (by omega) (by omega) (by omega) rfl rfl (fun _ _ h => by cases h.1) ?_
          rintro r M9 ⟨h1, h9⟩; cases h1; rw [h9]; clear h9 M9
          refine ax_ifB_eq (tgt := 243) dX10_meets_144 (by decide) (fun hc => ?_) (fun hc => ?_)
          · refine ax_vret dX10_meets_243 rfl ?_
            exact ⟨rfl, fr, hJ, h46, h47⟩
          · rw [hend2.2] at hc; cases hc
  refine ax_body (by decide) (Nat.le_of_ble_eq_true rfl) ?_
  refine ax_aload_n dX10_meets_0 rfl ?_
  refine ax_getK (f := 45) 383 dX10_meets_1 acl_10 wd_1645 (by decide) rfl (lo_s hok 90 rfl) (lo_r hok 110 rfl) ?_
  refine ax_iconst (v := 0) dX10_meets_4 (by decide) ?_
  refine ax_iload_n dX10_meets_5 rfl ?_
  refine ax_iastN (0) dX10_meets_6 (lo_s hok 383 rfl) (by decide) (by decide) (by decide) ?_
  refine ax_aload_n dX10_meets_7 rfl ?_
  refine ax_getK (f := 45) 383 dX10_meets_8 acl_10 wd_1645 (by decide) rfl (lo_s hok 90 rfl) (lo_r hok 110 rfl) ?_
  refine ax_iconst (v := 1) dX10_meets_11 (by decide) ?_
  refine ax_iload_n dX10_meets_12 rfl ?_
  refine ax_iastN (1) dX10_meets_13 (lo_s hok 383 rfl) (by decide) (by decide) (by decide) ?_
  refine ax_aload_n dX10_meets_14 rfl ?_
  refine ax_iconst (v := 0) dX10_meets_15 (by decide) ?_
  refine ax_putI (f := 46) dX10_meets_16 acl_10 wd_1646 (by decide) rfl rfl (ax_nfI rfl) (lo_s hok 90 rfl) ?_
  refine ax_aload_n dX10_meets_19 rfl ?_
  refine ax_iconst (v := (-1)) dX10_meets_20 (by decide) ?_
  refine ax_putI (f := 47) dX10_meets_21 acl_10 wd_1647 (by decide) rfl rfl (ax_nfI rfl) (lo_s hok 90 rfl) ?_
  refine ax_aload_n dX10_meets_24 rfl ?_
  refine ax_getK (f := 41) 379 dX10_meets_25 acl_10 wd_1641 (by decide) rfl (lo_s hok 90 rfl) (lo_r hok 106 rfl) ?_
  refine ax_iconst (v := 0) dX10_meets_28 (by decide) ?_
  refine ax_iconst (v := 0) dX10_meets_29 (by decide) ?_
  refine ax_iastN (0) dX10_meets_30 (lo_s hok 379 rfl) (by decide) (by decide) (by decide) ?_
  refine ax_aload_n dX10_meets_31 rfl ?_
  refine ax_getK (f := 41) 379 dX10_meets_32 acl_10 wd_1641 (by decide) rfl (lo_s hok 90 rfl) (lo_r hok 106 rfl) ?_
  refine ax_iconst (v := 1) dX10_meets_35 (by decide) ?_
  refine ax_aload_n dX10_meets_36 rfl ?_
  refine ax_getK (f := 12) 94 dX10_meets_37 acl_10 wd_1612 (by decide) rfl (lo_s hok 90 rfl) (lo_r hok 83 rfl) ?_
  refine ax_iconst (v := 0) dX10_meets_40 (by decide) ?_
  refine ax_ialdN (0) dX10_meets_41 (lo_s hok 94 rfl) (by decide) (by decide) (by decide) ?_
  refine ax_iconst (v := 1) dX10_meets_42 (by decide) ?_
  refine ax_isub dX10_meets_43 ?_
  refine ax_iastN (1) dX10_meets_44 (lo_s hok 379 rfl) (by decide) (by decide) (by decide) ?_
  refine ax_gen (fun M1 hM1 => ?_)
  have hok : lo_ok M1.2 := by rw [hM1]; exact hok
  have a1 : M1.1 379 0 = 0 := by rw [hM1, ax_pn (by decide), ax_pa]
  have a2 : M1.1 379 1 = iI (r 0 - 1) := by
    rw [hM1, ax_pa, ax_pn (by decide), ax_pn (by decide), ax_pn (by decide), ax_pn (by decide), ax_pn (by decide), hr.1 0 (by decide), show (1 : Int32) = iI 1 from rfl, iI_sub]
  have a3 : M1.1 383 0 = d0 := by rw [hM1, ax_pn (by decide), ax_pn (by decide), ax_pn (by decide), ax_pn (by decide), ax_pn (by decide), ax_pa]
  have a4 : M1.1 383 1 = d1 := by rw [hM1, ax_pn (by decide), ax_pn (by decide), ax_pn (by decide), ax_pn (by decide), ax_pa]
  have a5 : M1.1 90 46 = 0 := by rw [hM1, ax_pn (by decide), ax_pn (by decide), ax_pn (by decide), ax_pa]
  have a6 : M1.1 90 47 = -1 := by rw [hM1, ax_pn (by decide), ax_pn (by decide), ax_pa]
  have frM : mt_fr M M1 := by
    rw [hM1]
    exact mt_fr_tr (mt_fr_tr (mt_fr_tr (mt_fr_tr (mt_fr_tr (mt_fr_p (by omega)) (mt_fr_p (by omega))) (mt_fr_p (by omega))) (mt_fr_p (by omega))) (mt_fr_p (by omega))) (mt_fr_p (by omega))
  clear hM1
  refine ax_iconst (v := 0) dX10_meets_45 (by decide) ?_
  refine ax_istore_n dX10_meets_46 (by decide) rfl ?_
  refine ax_for 2 (fun c N L => ∃ y4, L = [some (av_r 90), some (av_i d0), some (av_i d1), some (av_i (nI c)), y4] ∧ N.2 = M1.2 ∧ (∀ n i, ¬ (n = 380 ∨ n = 381 ∨ n = 377 ∨ n = 378 ∨ n = 372 ∨ n = 373 ∨ n = 375 ∨ n = 376) → N.1 n i = M1.1 n i) ∧ ∀ q, q < c → N.1 380 q = 0 ∧ N.1 381 q = 1 ∧ N.1 377 q = 0 ∧ N.1 378 q = 0 ∧ ∀ k, k < 10 → N.1 (372 + q) k = -1 ∧ N.1 (375 + q) k = -1) 47 ?_ ?_ (i := 0) (by omega) ⟨_, rfl, rfl, fun _ _ _ => rfl, fun q hq => by omega⟩
  · rintro c N L hi ⟨y4, rfl, f1, f2, f3⟩ next
    have hok : lo_ok N.2 := by rw [f1]; exact hok
    refine ax_iload_n dX10_meets_47 rfl ?_
    refine ax_iconst (v := 2) dX10_meets_48 (by decide) ?_
    refine ax_icmp_ge (tgt := 122) dX10_meets_49 (by decide) (fun hc => ?_) (fun hc => ?_)
    · exact absurd ((nI_leI (a := 2) (by omega) (by omega)).mp hc) (by omega)
    · refine ax_aload_n dX10_meets_52 rfl ?_
      refine ax_getK (f := 42) 380 dX10_meets_53 acl_10 wd_1642 (by decide) rfl (lo_s hok 90 rfl) (lo_r hok 107 rfl) ?_
      refine ax_iload_n dX10_meets_56 rfl ?_
      refine ax_iconst (v := 0) dX10_meets_57 (by decide) ?_
      refine ax_iastN (c) dX10_meets_58 (lo_s hok 380 rfl) (by decide) (by first | with_reducible rfl | assumption | exact ax_nix (by simp only [nx_0, nx_1, nx_2, nx_3, nx_4, nx_10, nx_20, nx_21, nx_100, nI_add, pk_mul] <;> rfl) (by omega) | decide) (by omega) ?_
      refine ax_aload_n dX10_meets_59 rfl ?_
      refine ax_getK (f := 43) 381 dX10_meets_60 acl_10 wd_1643 (by decide) rfl (lo_s hok 90 rfl) (lo_r hok 108 rfl) ?_
      refine ax_iload_n dX10_meets_63 rfl ?_
      refine ax_iconst (v := 1) dX10_meets_64 (by decide) ?_
      refine ax_iastN (c) dX10_meets_65 (lo_s hok 381 rfl) (by decide) (by first | with_reducible rfl | assumption | exact ax_nix (by simp only [nx_0, nx_1, nx_2, nx_3, nx_4, nx_10, nx_20, nx_21, nx_100, nI_add, pk_mul] <;> rfl) (by omega) | decide) (by omega) ?_
      refine ax_aload_n dX10_meets_66 rfl ?_
      refine ax_getK (f := 39) 377 dX10_meets_67 acl_10 wd_1639 (by decide) rfl (lo_s hok 90 rfl) (lo_r hok 104 rfl) ?_
      refine ax_iload_n dX10_meets_70 rfl ?_
      refine ax_iconst (v := 0) dX10_meets_71 (by decide) ?_
      refine ax_iastN (c) dX10_meets_72 (lo_s hok 377 rfl) (by decide) (by first | with_reducible rfl | assumption | exact ax_nix (by simp only [nx_0, nx_1, nx_2, nx_3, nx_4, nx_10, nx_20, nx_21, nx_100, nI_add, pk_mul] <;> rfl) (by omega) | decide) (by omega) ?_
      refine ax_aload_n dX10_meets_73 rfl ?_
      refine ax_getK (f := 40) 378 dX10_meets_74 acl_10 wd_1640 (by decide) rfl (lo_s hok 90 rfl) (lo_r hok 105 rfl) ?_
      refine ax_iload_n dX10_meets_77 rfl ?_
      refine ax_iconst (v := 0) dX10_meets_78 (by decide) ?_
      refine ax_iastN (c) dX10_meets_79 (lo_s hok 378 rfl) (by decide) (by first | with_reducible rfl | assumption | exact ax_nix (by simp only [nx_0, nx_1, nx_2, nx_3, nx_4, nx_10, nx_20, nx_21, nx_100, nI_add, pk_mul] <;> rfl) (by omega) | decide) (by omega) ?_
      refine ax_gen (fun N2 hN2 => ?_)
      have hok : lo_ok N2.2 := by rw [hN2]; exact hok
      have g1 : N2.1 380 c = 0 ∧ N2.1 381 c = 1 ∧ N2.1 377 c = 0 ∧ N2.1 378 c = 0 := by
        rw [hN2]
        exact ⟨by rw [ax_pn (by omega), ax_pn (by omega), ax_pn (by omega), ax_pa], by rw [ax_pn (by omega), ax_pn (by omega), ax_pa], by rw [ax_pn (by omega), ax_pa], by rw [ax_pa]⟩
      have g2 : ∀ n i, ¬ ((n = 380 ∨ n = 381 ∨ n = 377 ∨ n = 378) ∧ i = c) → N2.1 n i = N.1 n i := fun n i q => by
        rw [hN2, ax_pn (by omega), ax_pn (by omega), ax_pn (by omega), ax_pn (by omega)]
      have g3 : N2.2 = M1.2 := by rw [hN2]; exact f1
      clear hN2
      refine ax_iconst (v := 0) dX10_meets_80 (by decide) ?_
      refine ax_istore dX10_meets_81 (by decide) rfl ?_
      refine ax_for 10 (fun k N3 L => L = [some (av_r 90), some (av_i d0), some (av_i d1), some (av_i (nI c)), some (av_i (nI k))] ∧ N3.2 = M1.2 ∧ (∀ n i, n ≠ 372 + c → n ≠ 375 + c → N3.1 n i = N2.1 n i) ∧ ∀ j, j < k → N3.1 (372 + c) j = -1 ∧ N3.1 (375 + c) j = -1) 83 ?_ ?_ (i := 0) (by omega) ⟨rfl, g3, fun _ _ _ _ => rfl, fun q hq => by omega⟩
      · rintro k N3 L hk ⟨rfl, e1, e2, e3⟩ next2
        have hok : lo_ok N3.2 := by rw [e1, ← f1]; exact ‹lo_ok N.2›
        refine ax_iload dX10_meets_83 rfl ?_
        refine ax_bipush (v := 10) dX10_meets_85 (by decide) ?_
        refine ax_icmp_ge (tgt := 116) dX10_meets_87 (by decide) (fun hc => ?_) (fun hc => ?_)
        · exact absurd ((nI_leI (a := 10) (by omega) (by omega)).mp hc) (by omega)
        · refine ax_aload_n dX10_meets_90 rfl ?_
          refine ax_getK (f := 37) 371 dX10_meets_91 acl_10 wd_1637 (by decide) rfl (lo_s hok 90 rfl) (lo_r hok 102 rfl) ?_
          refine ax_iload_n dX10_meets_94 rfl ?_
          refine ax_aaldN2 (372 + (c)) (c) dX10_meets_95 (lo_s hok 371 rfl) (by decide) (by first | with_reducible rfl | assumption | exact ax_nix (by simp only [nx_0, nx_1, nx_2, nx_3, nx_4, nx_10, nx_20, nx_21, nx_100, nI_add, pk_mul] <;> rfl) (by omega) | decide) (by omega) (lo_w_m_seenAt hok (by omega)) ?_
          refine ax_iload dX10_meets_96 rfl ?_
          refine ax_iconst (v := (-1)) dX10_meets_98 (by decide) ?_
          refine ax_iastN (k) dX10_meets_99 (by first | assumption | exact lo_tz hok (by omega) (by omega) | exact lo_z_m_wet hok (by omega) | exact lo_z_m_readWet hok (by omega) | exact lo_z_m_law hok (by omega) | exact lo_z_m_book hok (by omega) | exact lo_z_m_readBook hok (by omega) | exact lo_z_m_before hok (by omega) | exact lo_z_m_kept hok (by omega) | exact lo_z_m_seenAt hok (by omega) | exact lo_z_m_seenIn hok (by omega) | exact lo_z_m_t0 hok (by omega) | exact lo_z_m_t1 hok (by omega) | exact lo_z_m_c0 hok (by omega) | exact lo_z_m_c1 hok (by omega) | exact lo_z_x_kept hok (by omega)) (by decide) (by first | with_reducible rfl | assumption | exact ax_nix (by simp only [nx_0, nx_1, nx_2, nx_3, nx_4, nx_10, nx_20, nx_21, nx_100, nI_add, pk_mul] <;> rfl) (by omega) | decide) (by omega) ?_
          refine ax_aload_n dX10_meets_100 rfl ?_
          refine ax_getK (f := 38) 374 dX10_meets_101 acl_10 wd_1638 (by decide) rfl (lo_s hok 90 rfl) (lo_r hok 103 rfl) ?_
          refine ax_iload_n dX10_meets_104 rfl ?_
          refine ax_aaldN2 (375 + (c)) (c) dX10_meets_105 (lo_s hok 374 rfl) (by decide) (by first | with_reducible rfl | assumption | exact ax_nix (by simp only [nx_0, nx_1, nx_2, nx_3, nx_4, nx_10, nx_20, nx_21, nx_100, nI_add, pk_mul] <;> rfl) (by omega) | decide) (by omega) (lo_w_m_seenIn hok (by omega)) ?_
          refine ax_iload dX10_meets_106 rfl ?_
          refine ax_iconst (v := (-1)) dX10_meets_108 (by decide) ?_
          refine ax_iastN (k) dX10_meets_109 (by first | assumption | exact lo_tz hok (by omega) (by omega) | exact lo_z_m_wet hok (by omega) | exact lo_z_m_readWet hok (by omega) | exact lo_z_m_law hok (by omega) | exact lo_z_m_book hok (by omega) | exact lo_z_m_readBook hok (by omega) | exact lo_z_m_before hok (by omega) | exact lo_z_m_kept hok (by omega) | exact lo_z_m_seenAt hok (by omega) | exact lo_z_m_seenIn hok (by omega) | exact lo_z_m_t0 hok (by omega) | exact lo_z_m_t1 hok (by omega) | exact lo_z_m_c0 hok (by omega) | exact lo_z_m_c1 hok (by omega) | exact lo_z_x_kept hok (by omega)) (by decide) (by first | with_reducible rfl | assumption | exact ax_nix (by simp only [nx_0, nx_1, nx_2, nx_3, nx_4, nx_10, nx_20, nx_21, nx_100, nI_add, pk_mul] <;> rfl) (by omega) | decide) (by omega) ?_
          refine ax_gen (fun N4 hN4 => ?_)
          have hok : lo_ok N4.2 := by rw [hN4]; exact hok
          refine ax_iinc (v := 1) dX10_meets_110 rfl (by decide) (by decide) rfl ?_
          refine ax_goto (tgt := 83) dX10_meets_113 (by decide) ?_
          refine next2 N4 _ ⟨by rw [nI_1]; rfl, by rw [hN4]; exact e1, fun n i q1 q2 => by rw [hN4, ax_pn (by omega), ax_pn (by omega)]; exact e2 n i q1 q2, fun j hj => ?_⟩
          rw [hN4]
          by_cases q : j = k
          · subst q
            exact ⟨(ax_pn (by omega)).trans (ax_pa _ _ _ _), ax_pa _ _ _ _⟩
          · rw [ax_pn (by omega), ax_pn (by omega), ax_pn (by omega), ax_pn (by omega)]
            exact e3 j (by omega)
      · rintro N3 L ⟨rfl, e1, e2, e3⟩
        refine ax_iload dX10_meets_83 rfl ?_
        refine ax_bipush (v := 10) dX10_meets_85 (by decide) ?_
        refine ax_icmp_ge (tgt := 116) dX10_meets_87 (by decide) (fun hc => ?_) (fun hc => ?_)
        · refine ax_iinc (v := 1) dX10_meets_116 rfl (by decide) (by decide) rfl ?_
          refine ax_goto (tgt := 47) dX10_meets_119 (by decide) ?_
          refine next N3 _ ⟨_, by rw [nI_1]; rfl, e1, fun n i q => ?_, fun q hq => ?_⟩
          · rw [e2 n i (by omega) (by omega), g2 n i (by omega)]; exact f2 n i q
          · by_cases z : q = c
            · subst z
              rw [e2 380 q (by omega) (by omega), e2 381 q (by omega) (by omega), e2 377 q (by omega) (by omega), e2 378 q (by omega) (by omega)]
              exact ⟨g1.1, g1.2.1, g1.2.2.1, g1.2.2.2, e3⟩
            · have := f3 q (by omega)
              rw [e2 380 q (by omega) (by omega), e2 381 q (by omega) (by omega), e2 377 q (by omega) (by omega), e2 378 q (by omega) (by omega), g2 380 q (by omega), g2 381 q (by omega), g2 377 q (by omega), g2 378 q (by omega)]
              refine ⟨this.1, this.2.1, this.2.2.1, this.2.2.2.1, fun k hk => ?_⟩
              rw [e2 _ _ (by omega) (by omega), e2 _ _ (by omega) (by omega), g2 _ _ (by omega), g2 _ _ (by omega)]
              exact this.2.2.2.2 k hk
        · exact absurd ((nI_leI (a := 10) (by omega) (by omega)).mpr (Nat.le_refl _)) hc
  · rintro N L ⟨y4, rfl, f1, f2, f3⟩
    refine ax_iload_n dX10_meets_47 rfl ?_
    refine ax_iconst (v := 2) dX10_meets_48 (by decide) ?_
    refine ax_icmp_ge (tgt := 122) dX10_meets_49 (by decide) (fun hc => ?_) (fun hc => ?_)
    · refine main N _ _ ⟨f1.trans frM.1, fun n i a b e f => (f2 n i (by omega)).trans (frM.2 n i a b e f)⟩ (mt_J_0 ho ((f2 _ _ (by decide)).trans a1) ((f2 _ _ (by decide)).trans a2) (fun q hq => ?_)) ((f2 _ _ (by decide)).trans a5) ((f2 _ _ (by decide)).trans a6)
      have := f3 q hq
      refine ⟨this.1, this.2.1, this.2.2.1, this.2.2.2.1, ?_, this.2.2.2.2⟩
      rw [f2 383 q (by omega)]
      rcases (show q = 0 ∨ q = 1 by omega) with rfl | rfl
      · exact a3
      · exact a4
    · exact absurd ((nI_leI (a := 2) (by omega) (by omega)).mpr (Nat.le_refl _)) hc
theorem c_X10_asTold (hok : lo_ok M.2) (hr : rr M r) (ho : rd_ok r) (hl : ∀ w, w < 3 → ml_law M w (lw w)) : ax_Met l G kX10_asTold 7 0 0 M [av_r 90] (fun o M2 => o = .inl none ∧ mt_fr M M2 ∧ mt_R M2 r lw (mt_d (-1) (-1))) := by
  refine ax_body (by decide) (Nat.le_of_ble_eq_true rfl) ?_
  refine ax_aload_n dX10_asTold_0 rfl ?_
  refine ax_iconst (v := (-1)) dX10_asTold_1 (by decide) ?_
  refine ax_iconst (v := (-1)) dX10_asTold_2 (by decide) ?_
  refine ax_callV (As := _) (d2 := _) (c1 := 0) (n1 := 0) (c_X10_meets (M := M) hok hr ho hl _ _) dX10_asTold_3 mX10_meets wd_1947 acl_10 (lo_s hok 90 rfl) rfl (by omega) (by omega) (by omega) rfl rfl (fun _ _ h => by cases h.1) ?_
  rintro o9 N3 ⟨h1, g⟩; cases h1
  refine ax_vret dX10_asTold_6 rfl ?_
  exact ⟨rfl, g⟩
end MM

