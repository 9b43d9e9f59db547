/-! ===== texts that stand in the class file; String's own methods; arraycopy ===== -/
def ax_cpy (M : ax_M) (t dp f sp n : Nat) : ax_M := (fun b j => if b = t ∧ dp ≤ j ∧ j < dp + n then M.1 f (sp + (j - dp)) else M.1 b j, M.2)
section AXS
variable {l : Launch} {G : ax_G} {k : ax_K} {F : ax_F} {d c n : Nat} {M : ax_M} {pc : Nat} {L : List (Option ax_V)} {S : List ax_V} {Q : ax_O → ax_M → Prop}
theorem ax_nret {x : Int32} {ty : FieldType} (hd : decode k.2.1 pc = .ok (.ireturn, 1)) (hr : k.2.2.2 = some ty) (hn : narrow ty (.int x) = .int x) (hq : Q (.inl (some (av_i x))) M) : ax_W l G k (ax_FQ G Q) d c n M pc L [av_i x] := by
  intro p e R s m args below meth cd Z H locs cells slots ls h
  obtain ⟨hB, ⟨rfl, -⟩, ⟨-, -, h3, h4⟩, hS, hR, -⟩ := h
  refine vx_ret (W.widen (k := R.cells) (n := R.slots) (by omega) (by omega) ?_)
  exact W.zret hB.1 hB.2.1 (hB.2.2.2.2.2.1.trans hr) hn (fun t ht hW => ⟨(some (av_i x)), M, rfl, hq, by rw [ht]; exact hR, hS.F ht⟩) hS.2.2 hd hB.2.2.2.2.1
theorem ax_ldcT {ix j : Nat} {t : ax_T} (hd : decode k.2.1 pc = .ok (.ldc ix, 2)) (ht : ax_txts[j]? = some t) (ht1 : t.1 = k.1.cls) (ht2 : t.2.1 = ix) (kk : ax_W l G k F d c n M (pc + 2) L (av_o (2 * j) :: S)) : ax_W l G k F d c n M pc L (S) := by
  intro p e R s m args below meth cd Z H locs cells slots ls h
  obtain ⟨hB, hF, hr, hS, hR, hl⟩ := id h
  obtain ⟨hx1, hb, hml, hown, hlo, hrt, hnm, hC⟩ := id hB
  have htx := (hC.2.2.2.2.2.2 j t ht).1
  rw [ht1, ht2] at htx
  exact va_ldcS hx1 hb hown htx hd (kk p e R s m args below meth cd Z H locs cells slots ls h)
theorem ax_getT {ix j : Nat} {t : ax_T} (hd : decode k.2.1 pc = .ok (.getfield ix, 3)) (ht : ax_txts[j]? = some t) (hlink : Cond.fieldLink k.1.cls ix "java/lang/String" "value" "[B" ∈ lw_tbl) (kk : ax_W l G k F d c n M (pc + 3) L (av_o (2 * j + 1) :: S)) : ax_W l G k F d c n M pc L (av_o (2 * j) :: S) := by
  intro p e R s m args below meth cd Z H locs cells slots ls h
  obtain ⟨hB, hF, hr, hS, hR, hl⟩ := id h
  obtain ⟨hx1, hb, hml, hown, hlo, hrt, hnm, hC⟩ := id hB
  exact vk_getf hx1 hb (hC.2.2.2.2.2.2 j t ht).2.2.2.1 hS hown (ax_use hC hlink rfl) (fun _ h9 => h9) hd (kk p e R s m args below meth cd Z H locs cells slots ls h)
theorem ax_getC {ix j : Nat} {t : ax_T} (hd : decode k.2.1 pc = .ok (.getfield ix, 3)) (ht : ax_txts[j]? = some t) (hlink : Cond.fieldLink k.1.cls ix "java/lang/String" "coder" "B" ∈ lw_tbl) (kk : ax_W l G k F d c n M (pc + 3) L (av_i 0 :: S)) : ax_W l G k F d c n M pc L (av_o (2 * j) :: S) := by
  intro p e R s m args below meth cd Z H locs cells slots ls h
  obtain ⟨hB, hF, hr, hS, hR, hl⟩ := id h
  obtain ⟨hx1, hb, hml, hown, hlo, hrt, hnm, hC⟩ := id hB
  exact vk_getf hx1 hb (hC.2.2.2.2.2.2 j t ht).2.2.1 hS hown (ax_use hC hlink rfl) (fun _ h9 => h9) hd (kk p e R s m args below meth cd Z H locs cells slots ls h)
theorem ax_getsC {ix : Nat} (hd : decode k.2.1 pc = .ok (.getstatic ix, 3)) (hlink : Cond.fieldLink k.1.cls ix "java/lang/String" "COMPACT_STRINGS" "Z" ∈ lw_tbl) (kk : ax_W l G k F d c n M (pc + 3) L (av_i 1 :: S)) : ax_W l G k F d c n M pc L (S) := by
  intro p e R s m args below meth cd Z H locs cells slots ls h
  obtain ⟨hB, hF, hr, hS, hR, hl⟩ := id h
  obtain ⟨hx1, hb, hml, hown, hlo, hrt, hnm, hC⟩ := id hB
  exact va_gets hx1 hb hC.2.2.2.2.2.1.1 hS hown (ax_use hC hlink rfl) (fun _ h9 => h9) hd (kk p e R s m args below meth cd Z H locs cells slots ls h)
theorem ax_getsF {ix : Nat} (hd : decode k.2.1 pc = .ok (.getstatic ix, 3)) (hlink : Cond.fieldLink k.1.cls ix "jdk/internal/util/Preconditions" "SIOOBE_FORMATTER" "Ljava/util/function/BiFunction;" ∈ lw_tbl) (kk : ∀ v : ax_V, (v = av_r 0 ∨ v = av_o 999) → ax_W l G k F d c n M (pc + 3) L (v :: S)) : ax_W l G k F d c n M pc L (S) := by
  intro p e R s m args below meth cd Z H locs cells slots ls h
  obtain ⟨hB, hF, hr, hS, hR, hl⟩ := id h
  obtain ⟨hx1, hb, hml, hown, hlo, hrt, hnm, hC⟩ := id hB
  rcases hC.2.2.2.2.2.1.2 with hz | hz
  · exact va_gets hx1 hb hz hS hown (ax_use hC hlink rfl) (fun _ h9 => h9) hd (kk (av_r 0) (Or.inl rfl) p e R s m args below meth cd Z H locs cells slots ls h)
  · exact va_gets hx1 hb hz hS hown (ax_use hC hlink rfl) (fun _ h9 => h9) hd (kk (av_o 999) (Or.inr rfl) p e R s m args below meth cd Z H locs cells slots ls h)
theorem ax_alenT {j : Nat} {t : ax_T} (hd : decode k.2.1 pc = .ok (.arraylength, 1)) (ht : ax_txts[j]? = some t) (kk : ax_W l G k F d c n M (pc + 1) L (av_i (nI t.2.2.2.length) :: S)) : ax_W l G k F d c n M pc L (av_o (2 * j + 1) :: S) := by
  intro p e R s m args below meth cd Z H locs cells slots ls h
  obtain ⟨hB, hF, hr, hS, hR, hl⟩ := id h
  obtain ⟨hx1, hb, hml, hown, hlo, hrt, hnm, hC⟩ := id hB
  exact va_tlen hx1 hb (hC.2.2.2.2.2.2 j t ht).2.2.2.2 hS (v := nI t.2.2.2.length) rfl hd (kk p e R s m args below meth cd Z H locs cells slots ls h)
theorem ax_baldT {j : Nat} {t : ax_T} {i : Int32} (hd : decode k.2.1 pc = .ok (.baload, 1)) (ht : ax_txts[j]? = some t) (hin : vp_in i t.2.2.2.length) (kk : ax_W l G k F d c n M (pc + 1) L (av_i (t.2.2.2.getD i.toNatClampNeg 0) :: S)) : ax_W l G k F d c n M pc L (av_i i :: av_o (2 * j + 1) :: S) := by
  intro p e R s m args below meth cd Z H locs cells slots ls h
  obtain ⟨hB, hF, hr, hS, hR, hl⟩ := id h
  obtain ⟨hx1, hb, hml, hown, hlo, hrt, hnm, hC⟩ := id hB
  exact va_tb hx1 hb (hC.2.2.2.2.2.2 j t ht).2.2.2.2 hS hin (v := .int (t.2.2.2.getD i.toNatClampNeg 0)) rfl hd (kk p e R s m args below meth cd Z H locs cells slots ls h)
theorem ax_callT {ky : ax_K} {nA ix d2 c2 n2 c1 n1 j : Nat} {t : ax_T} {As : List ax_V} {St : List ax_V} {Q2 : ax_O → ax_M → Prop} (hM : ax_Met l G ky d2 c2 n2 M (av_o (2 * j) :: As) Q2) (hd : decode k.2.1 pc = .ok (.invokevirtual ix, 3)) (hm : ax_mv ky nA) (hlink : Cond.methodLink k.1.cls ix ky.1 ∈ lw_tbl) (ht : ax_txts[j]? = some t) (hcls : ky.1.cls = "java/lang/String") (hA : As.length = nA) (hd2 : d2 + 1 ≤ d) (hc2 : c1 + c2 ≤ c) (hn2 : n1 + n2 ≤ n) (hlow : ax_low S = true) (hSt : St = As.reverse ++ av_o (2 * j) :: S) (hx : ∀ E M2, ¬ Q2 (.inr E) M2) (kk : ∀ (r : Option ax_V) (M2 : ax_M), Q2 (.inl r) M2 → ax_W l G k F d c1 n1 M2 (pc + 3) L (r.toList ++ S)) : ax_W l G k F d c n M pc L (St) := by
  intro p e R s m args below meth cd Z H locs cells slots ls h
  obtain ⟨hB, hF, ⟨h1, h2, h3, h4⟩, hS, hR, hl⟩ := h
  obtain ⟨hx1, hb, hml, hown, hlo, hrt, hnm, hC⟩ := id hB
  subst hSt
  have hrecv : ∃ cell : Cell, H[G.2.2.2 (2 * j)]? = some cell ∧ cell.vm.isStatics = false ∧ s.vm.findClass ky.1.cls = some cell.cls := by
    obtain ⟨cell, g1, g2, g3, -⟩ := (hC.2.2.2.2.2.2 j t ht).2.1.kept hS.2.1
    rw [hcls]
    exact ⟨cell, g1, g2, g3⟩
  have hstk : ((As.reverse ++ av_o (2 * j) :: S).map (ax_tv G)) = (As.map (ax_tv G)).reverse ++ .ref (G.2.2.2 (2 * j)) :: S.map (ax_tv G) := by
    rw [List.map_append, List.map_reverse]; rfl
  have hrun := vx_runV (Ts := []) (C := ky.1.cls) (b := G.2.2.2 (2 * j)) (As := As.map (ax_tv G)) (rest := S.map (ax_tv G)) (locs := locs) (cells := cells) (slots := slots) (l := l) (e := e) (below := below) (meth := meth) (g := F0 m pc ls ((As.reverse ++ av_o (2 * j) :: S).map (ax_tv G))) ⟨hx1, hb, hml, hown, (fun (w : Cond) (hw : w ∈ ([] : List Cond)) => absurd hw List.not_mem_nil)⟩ hM ⟨ax_callB (d := d) (args := args) (R := R) hC hm.1 hlink h1 h2 hd2, ax_use hC hm.2.1 rfl, ax_use hC hm.2.2 rfl⟩ ⟨ax_blind, hrecv, ax_pay (As := av_o (2 * j) :: As) hC hS hR⟩ rfl (by rw [List.length_map]; exact hA) (hl.1) hstk (lv_room (ax_low_ok hlow)) hd ⟨by omega, by omega⟩
  refine ax_after (mc := c2) (ms := n2) hrun hS (fun r M2 H1 locs1 hq hR1 hS1 => kk r M2 hq p e R s m args below meth cd Z H1 locs1 _ _ ls ⟨hB, hF, ⟨h1, h2, by omega, by omega⟩, hS1, hR1, hl⟩) (fun E M2 H1 locs1 q9 ce hq hR1 hS1 hce hcv hcl9 => ?_)
  exact absurd hq (hx E M2)
theorem ax_acopy {ix a0 a n0 n1 sp dp w : Nat} (hd : decode k.2.1 pc = .ok (.invokestatic ix, 3)) (hlink : Cond.methodLink k.1.cls ix arraycopyName ∈ lw_tbl) (hs0 : M.2.2.2.1 a0 = some (.inl (0, n0))) (hs1 : M.2.2.2.1 a = some (.inl (0, n1))) (h4 : sp + w ≤ n0) (h5 : dp + w ≤ n1) (hb0 : n0 < 2 ^ 31) (hb1 : n1 < 2 ^ 31) (hd1 : 1 ≤ d) (hlow : ax_low S = true) (kk : ax_W l G k F d c n (ax_cpy M a dp a0 sp w) (pc + 3) L S) : ax_W l G k F d c n M pc L (av_i (nI w) :: av_i (nI dp) :: av_r a :: av_i (nI sp) :: av_r a0 :: S) := by
  intro p e R s m args below meth cd Z H locs cells slots ls h
  obtain ⟨hB, hF, hr, hS, hR, hl⟩ := id h
  obtain ⟨hx1, hb, hml, hown, hlo, hrt, hnm, hC⟩ := id hB
  cases a0 with
  | zero => rw [hR.2.1] at hs0; cases hs0
  | succ q0 =>
  cases a with
  | zero => rw [hR.2.1] at hs1; cases hs1
  | succ q1 =>
  obtain ⟨hlt0, hc0⟩ := hR.2.2 q0 _ hs0
  obtain ⟨hlt1, hc1⟩ := hR.2.2 q1 _ hs1
  have hc0' : H[G.1 + q0]? = some (vp_cell (G.2.2.1 0) (n0, .inl (fun j => M.1 (q0 + 1) j))) := hc0
  have hc1' : H[G.1 + q1]? = some (vp_cell (G.2.2.1 0) (n1, .inl (fun j => M.1 (q1 + 1) j))) := hc1
  have ht : (ax_tys G)[0]? = some (G.2.2.1 0, FieldType.int) := rfl
  have hK := hC.2.2.1.2 0 _ ht
  obtain ⟨-, k0, hk0, cm0, hkk0⟩ := hK.1 n0 (fun j => .int (M.1 (q0 + 1) j))
  obtain ⟨-, k1, hk1, cm1, hkk1⟩ := hK.1 n1 (fun j => .int (M.1 (q1 + 1) j))
  have nn : ∀ z : Nat, z < 2 ^ 31 → ¬ nI z < 0 := fun z hz h9 => by have := (nI_ltI (b := 0) hz (by omega)).mp h9; omega
  have hlw := ax_low_ok (G := G) hlow
  have hnw : nativeFrameWords "java/lang/System" "arraycopy" 5 ≤ 50 := by decide +kernel
  intro T hT X
  obtain ⟨vm', X', step⟩ := X.arraycopy hx1 hown (ax_use hC hlink rfl) (ax_use hC wd_acn rfl) (ax_use hC wd_acs rfl) (ax_use hC wd_190 rfl) (src := G.1 + q0) (dst := G.1 + q1) (cs := vp_cell (G.2.2.1 0) (n0, .inl (fun j => M.1 (q0 + 1) j))) (cd := vp_cell (G.2.2.1 0) (n1, .inl (fun j => M.1 (q1 + 1) j))) (srcPos := nI sp) (destPos := nI dp) (n := nI w) (by rw [hT]; exact hc0') (by rw [hT]; exact hc1')
    (fun _ h => by cases h) (fun _ h => by cases h) (fun h => by cases h) (fun h => by cases h) hk0 hk1 hkk0 hkk1 (by simp [refKind]) (nn sp (by omega)) (nn dp (by omega)) (nn w (by omega))
    (by rw [nI_toInt (by omega), nI_toInt (by omega)]; show ¬ _ > ((arrV _ n0 (fun j => .int (M.1 (q0 + 1) j))).slots.size : Int); rw [arrV_size]; omega)
    (by rw [nI_toInt (by omega), nI_toInt (by omega)]; show ¬ _ > ((arrV _ n1 (fun j => .int (M.1 (q1 + 1) j))).slots.size : Int); rw [arrV_size]; omega)
    (fun vm₁ _ i hi => by
      rw [nI_clamp (by omega)] at hi
      have e : (vp_cell (G.2.2.1 0) (n0, .inl (fun j => M.1 (q0 + 1) j))).slots.getD ((nI sp).toNatClampNeg + i) .null = .int (M.1 (q0 + 1) (sp + i)) := by
        show (arrV _ n0 (fun j => .int (M.1 (q0 + 1) j))).slots.getD _ _ = _
        rw [nI_clamp (by omega), Array.getD_eq_getD_getElem?, arrV_read _ _ (by omega)]
        rfl
      refine ⟨?_, ?_⟩
      · rw [e]; rfl
      · rw [e]; exact trivial)
    (g := F0 m pc ls ((av_i (nI w) :: av_i (nI dp) :: av_r (q1 + 1) :: av_i (nI sp) :: av_r (q0 + 1) :: S).map (ax_tv G))) rfl (by rw [hml]; exact hl.1) (rest := S.map (ax_tv G)) rfl (by rw [hb]; exact hd) (by have := hr.1; omega) (by have := hr.2.1; show 2 * 0 + _ + _ ≤ _; omega)
  have e1 : copied (vp_cell (G.2.2.1 0) (n0, .inl (fun j => M.1 (q0 + 1) j))) (vp_cell (G.2.2.1 0) (n1, .inl (fun j => M.1 (q1 + 1) j))) (nI sp) (nI dp) (nI w) = vp_cell (G.2.2.1 0) (n1, .inl (va_cpy (fun j => M.1 (q0 + 1) j) (fun j => M.1 (q1 + 1) j) sp dp w)) := by
    have := va_copied (fun z => .int z) (G.2.2.1 0) (G.2.2.1 0) (n1 := n1) (fun j => M.1 (q0 + 1) j) (fun j => M.1 (q1 + 1) j) (sp := (nI sp).toNatClampNeg) (dp := (nI dp).toNatClampNeg) (n := (nI w).toNatClampNeg) (n0 := n0) (by rw [nI_clamp (by omega), nI_clamp (by omega)]; exact h4)
    have e2 : copied (vp_cell (G.2.2.1 0) (n0, .inl (fun j => M.1 (q0 + 1) j))) (vp_cell (G.2.2.1 0) (n1, .inl (fun j => M.1 (q1 + 1) j))) (nI sp) (nI dp) (nI w) = arrV (G.2.2.1 0) n1 (fun j => .int (va_cpy (fun j => M.1 (q0 + 1) j) (fun j => M.1 (q1 + 1) j) (nI sp).toNatClampNeg (nI dp).toNatClampNeg (nI w).toNatClampNeg j)) := this
    rw [e2, nI_clamp (by omega), nI_clamp (by omega), nI_clamp (by omega)]
    rfl
  rw [e1] at X' step
  generalize hcc : vp_cell (G.2.2.1 0) (n1, .inl (va_cpy (fun j => M.1 (q0 + 1) j) (fun j => M.1 (q1 + 1) j) sp dp w)) = cc at X' step
  have hlq : G.1 + q1 < H.size := (Array.getElem?_eq_some_iff.mp hc1').1
  have hheap : ((T.setVm vm').setCell (G.1 + q1) cc).heap = H.setIfInBounds (G.1 + q1) cc := by rw [← hT]; rfl
  have oq : ∀ q : Nat, q ≠ G.1 + q1 → (H.setIfInBounds (G.1 + q1) cc)[q]? = H[q]? := fun q hq => by simp [Array.getElem?_setIfInBounds, Ne.symm hq]
  have hsz : (H.setIfInBounds (G.1 + q1) cc).size = H.size := by simp
  have hcell : ax_cell G (ax_cpy M (q1 + 1) dp (q0 + 1) sp w) q1 (.inl (0, n1)) (H.setIfInBounds (G.1 + q1) cc) := by
    show (H.setIfInBounds (G.1 + q1) cc)[G.1 + q1]? = some (arrV _ _ _)
    have : (H.setIfInBounds (G.1 + q1) cc)[G.1 + q1]? = some cc := by simp [Array.getElem?_setIfInBounds, hlq]
    rw [this, ← hcc]
    show some (arrV (G.2.2.1 0) n1 (fun j => .int (va_cpy (fun j => M.1 (q0 + 1) j) (fun j => M.1 (q1 + 1) j) sp dp w j))) = some (arrV (G.2.2.1 0) n1 (fun j => .int ((ax_cpy M (q1 + 1) dp (q0 + 1) sp w).1 (q1 + 1) j)))
    congr 3
    funext j
    simp only [ax_cpy, va_cpy, true_and]
  refine (kk p e R s m args below meth cd Z _ _ cells slots ls ⟨hB, hF, hr, ⟨by rw [hsz]; exact hS.1, fun q g1 g2 => ?_, fun q hq => ?_⟩, ax_R_put hR hsz oq rfl (fun a9 h9 => ?_) (fun _ _ => rfl) (fun _ _ => rfl) hs1 hcell, hl⟩ _ hheap X').elim fun t ht => ⟨t, step t ht.1, ht.2⟩
  · rw [oq q (fun e9 => g2 (by rw [e9]; exact Nat.le_add_right _ _))]
    exact hS.2.1 q g1 g2
  · rcases List.mem_append.mp hq with h9 | h9
    · exact hS.2.2 q h9
    · obtain ⟨z, -, hz⟩ := List.mem_map.mp h9
      rw [← hz]
      exact Nat.le_add_right _ _
  · funext j
    show (if a9 = q1 + 1 ∧ _ then _ else _) = _
    rw [if_neg (fun z => h9 z.1)]
end AXS
/-! ===== String.length, String.charAt over a text of the class file ===== -/
section AXT
variable {l : Launch} {G : ax_G} {M : ax_M}
theorem c_coder {j d : Nat} {t : ax_T} (ht : ax_txts[j]? = some t) : ax_Met l G kJ0_coder_7d493 d 0 0 M [av_o (2 * j)] (ax_p (av_i 0) M) := by
  refine ax_body (by decide) (Nat.le_of_ble_eq_true rfl) ?_
  refine ax_getsC dJ0_coder_7d493_0 wd_899 ?_
  refine ax_if_eq (tgt := 13) dJ0_coder_7d493_3 (by decide) (fun hc => ?_) (fun hc => ?_)
  · exact absurd hc (by decide)
  refine ax_aload_n dJ0_coder_7d493_6 rfl ?_
  refine ax_getC dJ0_coder_7d493_7 ht wd_2245 ?_
  refine ax_goto (tgt := 14) dJ0_coder_7d493_10 (by decide) ?_
  exact ax_nret dJ0_coder_7d493_14 rfl (by decide) ⟨rfl, rfl⟩
theorem c_isLatin1 {j d : Nat} {t : ax_T} (ht : ax_txts[j]? = some t) : ax_Met l G kJ0_isLatin1_aae02 d 0 0 M [av_o (2 * j)] (ax_p (av_i 1) M) := by
  refine ax_body (by decide) (Nat.le_of_ble_eq_true rfl) ?_
  refine ax_getsC dJ0_isLatin1_aae02_0 wd_899 ?_
  refine ax_if_eq (tgt := 17) dJ0_isLatin1_aae02_3 (by decide) (fun hc => ?_) (fun hc => ?_)
  · exact absurd hc (by decide)
  refine ax_aload_n dJ0_isLatin1_aae02_6 rfl ?_
  refine ax_getC dJ0_isLatin1_aae02_7 ht wd_2245 ?_
  refine ax_if_ne (tgt := 17) dJ0_isLatin1_aae02_10 (by decide) (fun hc => ?_) (fun hc => ?_)
  · exact absurd rfl hc
  refine ax_iconst (v := 1) dJ0_isLatin1_aae02_13 (by decide) ?_
  refine ax_goto (tgt := 18) dJ0_isLatin1_aae02_14 (by decide) ?_
  refine ax_zret dJ0_isLatin1_aae02_18 rfl ?_ ?_
  · exact Or.inr rfl
  · exact ⟨rfl, rfl⟩
theorem c_length {j : Nat} {t : ax_T} (ht : ax_txts[j]? = some t) : ax_Met l G kJ0_length_8abf5 1 0 0 M [av_o (2 * j)] (ax_p (av_i (nI t.2.2.2.length)) M) := by
  refine ax_body (by decide) (Nat.le_of_ble_eq_true rfl) ?_
  refine ax_aload_n dJ0_length_8abf5_0 rfl ?_
  refine ax_getT dJ0_length_8abf5_1 ht wd_2244 ?_
  refine ax_alenT dJ0_length_8abf5_4 ht ?_
  refine ax_aload_n dJ0_length_8abf5_5 rfl ?_
  refine ax_callT (As := []) (c1 := 0) (n1 := 0) (c_coder (d := 0) (M := M) ht) dJ0_length_8abf5_6 mJ0_coder_7d493 wd_895 ht rfl rfl (by omega) (by omega) (by omega) rfl rfl (fun _ _ h => by cases h.1) ?_
  rintro r M9 ⟨h1, h9⟩; cases h1; rw [h9]; clear h9 M9
  refine ax_ishr dJ0_length_8abf5_9 ?_
  refine ax_iret dJ0_length_8abf5_10 rfl ?_
  refine ⟨?_, rfl⟩
  show _ = Sum.inl (some (av_i _))
  congr 3
  simp
theorem c_pcheck {d : Nat} {i n : Nat} (hi : i < n) (hn : n < 2 ^ 31) (v : ax_V) (hv : v = av_r 0 ∨ v = av_o 999) : ax_Met l G kJ3_checkIndex_8e157 d 0 0 M [av_i (nI i), av_i (nI n), v] (ax_p (av_i (nI i)) M) := by
  have hs : (ax_sl [av_i (nI i), av_i (nI n), v]).length ≤ 3 := by rcases hv with rfl | rfl <;> exact Nat.le_refl _
  have he : ax_en [av_i (nI i), av_i (nI n), v] 3 = [some (av_i (nI i)), some (av_i (nI n)), some v] := by rcases hv with rfl | rfl <;> rfl
  refine ax_body (by decide) hs ?_
  rw [show kJ3_checkIndex_8e157.2.2.1 = 3 from rfl, he]
  refine ax_iload_n dJ3_checkIndex_8e157_0 rfl ?_
  refine ax_if_lt (tgt := 9) dJ3_checkIndex_8e157_1 (by decide) (fun hc => ?_) (fun hc => ?_)
  · exact absurd ((nI_ltI (b := 0) (by omega) (by omega)).mp hc) (by omega)
  refine ax_iload_n dJ3_checkIndex_8e157_4 rfl ?_
  refine ax_iload_n dJ3_checkIndex_8e157_5 rfl ?_
  refine ax_icmp_lt (tgt := 16) dJ3_checkIndex_8e157_6 (by decide) (fun hc => ?_) (fun hc => ?_)
  · refine ax_iload_n dJ3_checkIndex_8e157_16 rfl ?_
    refine ax_iret dJ3_checkIndex_8e157_17 rfl ?_
    exact ⟨rfl, rfl⟩
  · exact absurd ((nI_ltI (by omega) (by omega)).mpr hi) hc
theorem c_check {i n : Nat} (hi : i < n) (hn : n < 2 ^ 31) : ax_Met l G kJ0_checkIndex_df160 1 0 0 M [av_i (nI i), av_i (nI n)] (fun o M2 => o = .inl none ∧ M2 = M) := by
  refine ax_body (by decide) (Nat.le_of_ble_eq_true rfl) ?_
  refine ax_iload_n dJ0_checkIndex_df160_0 rfl ?_
  refine ax_iload_n dJ0_checkIndex_df160_1 rfl ?_
  refine ax_getsF dJ0_checkIndex_df160_2 wd_915 (fun v hv => ?_)
  refine ax_callS (As := [av_i (nI i), av_i (nI n), v]) (c1 := 0) (n1 := 0) (c_pcheck (d := 0) (M := M) hi hn v hv) dJ0_checkIndex_df160_5 mJ3_checkIndex_8e157 wd_917 rfl (by omega) (by omega) (by omega) rfl rfl (fun _ _ h => by cases h.1) ?_
  rintro r M9 ⟨h1, h9⟩; cases h1; rw [h9]; clear h9 M9
  refine ax_pop dJ0_checkIndex_df160_8 (by first | rfl | exact ax_crf _) ?_
  refine ax_vret dJ0_checkIndex_df160_9 rfl ?_
  exact ⟨rfl, rfl⟩
def ax_asc (t : ax_T) : Bool := decide (t.2.2.2.length < 100) && t.2.2.2.all (fun b => decide ((((b &&& 255).toUInt32 % 65536).toInt32 = b) ∧ 0 ≤ b ∧ b < 128))
theorem ax_txts_asc : ax_txts.all ax_asc = true := by decide +kernel
theorem ax_asc_at {j : Nat} {t : ax_T} (ht : ax_txts[j]? = some t) : t.2.2.2.length < 100 ∧ ∀ i, i < t.2.2.2.length → ((((t.2.2.2.getD i 0 &&& 255).toUInt32 % 65536).toInt32 = t.2.2.2.getD i 0) ∧ 0 ≤ t.2.2.2.getD i 0 ∧ t.2.2.2.getD i 0 < 128) := by
  have h := List.all_eq_true.mp ax_txts_asc t (List.mem_of_getElem? ht)
  unfold ax_asc at h
  rw [Bool.and_eq_true, decide_eq_true_eq, List.all_eq_true] at h
  refine ⟨h.1, fun i hi => ?_⟩
  have := h.2 (t.2.2.2[i]) (List.getElem_mem hi)
  rw [decide_eq_true_eq] at this
  rw [List.getD_eq_getElem?_getD, List.getElem?_eq_getElem hi]
  exact this
theorem ax_c128 {x : Int32} (h4 : 0 ≤ x) (h5 : x < 128) : narrow .char (.int x) = .int x := by
  have h7 : x.toInt < 128 := Int32.lt_iff_toInt_lt.mp h5
  have h8 : 0 ≤ x.toInt := Int32.le_iff_toInt_le.mp h4
  obtain ⟨n, hn⟩ := Int.eq_ofNat_of_zero_le h8
  have e : x = nI n := by rw [iv_eq, nI_toInt (by omega)]; exact hn
  have h9 : n < 128 := by omega
  subst e
  show Value.int (nI n).toUInt32.toUInt16.toUInt32.toInt32 = _
  rw [(show ∀ n, n < 128 → (nI n).toUInt32.toUInt16.toUInt32.toInt32 = nI n by decide +kernel) n h9]
theorem c_l1 {j : Nat} {t : ax_T} (ht : ax_txts[j]? = some t) {i : Nat} (hi : i < t.2.2.2.length) : ax_Met l G kJ1_charAt_3b067 2 0 0 M [av_o (2 * j + 1), av_i (nI i)] (ax_p (av_i (t.2.2.2.getD i 0)) M) := by
  obtain ⟨h1, h2⟩ := ax_asc_at ht
  obtain ⟨h3, h4, h5⟩ := h2 i hi
  refine ax_body (by decide) (Nat.le_of_ble_eq_true rfl) ?_
  refine ax_iload_n dJ1_charAt_3b067_0 rfl ?_
  refine ax_aload_n dJ1_charAt_3b067_1 rfl ?_
  refine ax_alenT dJ1_charAt_3b067_2 ht ?_
  refine ax_callS (As := [av_i (nI i), av_i (nI t.2.2.2.length)]) (c1 := 0) (n1 := 0) (c_check (M := M) hi (by omega)) dJ1_charAt_3b067_3 mJ0_checkIndex_df160 wd_912 rfl (by omega) (by omega) (by omega) rfl rfl (fun _ _ h => by cases h.1) ?_
  rintro r M9 ⟨h1, h9⟩; cases h1; rw [h9]; clear h9 M9
  refine ax_aload_n dJ1_charAt_3b067_6 rfl ?_
  refine ax_iload_n dJ1_charAt_3b067_7 rfl ?_
  refine ax_baldT dJ1_charAt_3b067_8 ht (vp_in_nI hi (by omega)) ?_
  rw [nI_clamp (by omega)]
  refine ax_sipush (v := 255) dJ1_charAt_3b067_9 (by decide) ?_
  refine ax_iand dJ1_charAt_3b067_12 ?_
  refine ax_i2c dJ1_charAt_3b067_13 ?_
  rw [h3]
  exact ax_nret dJ1_charAt_3b067_14 rfl (ax_c128 h4 h5) ⟨rfl, rfl⟩
theorem c_charAt {j : Nat} {t : ax_T} (ht : ax_txts[j]? = some t) {i : Nat} (hi : i < t.2.2.2.length) {x : Int32} (hx : x = nI i) : ax_Met l G kJ0_charAt_5068e 3 0 0 M [av_o (2 * j), av_i x] (ax_p (av_i (t.2.2.2.getD i 0)) M) := by
  subst hx
  refine ax_body (by decide) (Nat.le_of_ble_eq_true rfl) ?_
  refine ax_aload_n dJ0_charAt_5068e_0 rfl ?_
  refine ax_callT (As := []) (c1 := 0) (n1 := 0) (c_isLatin1 (d := 0) (M := M) ht) dJ0_charAt_5068e_1 mJ0_isLatin1_aae02 wd_905 ht rfl rfl (by omega) (by omega) (by omega) rfl rfl (fun _ _ h => by cases h.1) ?_
  rintro r M9 ⟨h1, h9⟩; cases h1; rw [h9]; clear h9 M9
  refine ax_if_eq (tgt := 16) dJ0_charAt_5068e_4 (by decide) (fun hc => ?_) (fun hc => ?_)
  · exact absurd hc (by decide)
  refine ax_aload_n dJ0_charAt_5068e_7 rfl ?_
  refine ax_getT dJ0_charAt_5068e_8 ht wd_2244 ?_
  refine ax_iload_n dJ0_charAt_5068e_11 rfl ?_
  refine ax_callS (As := [av_o (2 * j + 1), av_i (nI i)]) (c1 := 0) (n1 := 0) (c_l1 (M := M) ht hi) dJ0_charAt_5068e_12 mJ1_charAt_3b067 wd_909 rfl (by omega) (by omega) (by omega) rfl rfl (fun _ _ h => by cases h.1) ?_
  rintro r M9 ⟨h1, h9⟩; cases h1; rw [h9]; clear h9 M9
  obtain ⟨h1, h2⟩ := ax_asc_at ht
  obtain ⟨h3, h4, h5⟩ := h2 i hi
  exact ax_nret dJ0_charAt_5068e_15 rfl (ax_c128 h4 h5) ⟨rfl, rfl⟩
end AXT

