/-! ===== new cells, Math, throws ===== -/
theorem ax_new_i {M : ax_M} {x : (Nat × Nat) ⊕ Nat} {b j : Nat} : (ax_new M x).1 b j = if b = M.2.2.2.2 + 1 then 0 else M.1 b j := rfl
theorem ax_R_new {G : ax_G} {M : ax_M} {x : (Nat × Nat) ⊕ Nat} {H H1 : Heap} (hR : ax_R G M H) (hz : H1.size = H.size + 1) (ho : ∀ q, q < H.size → H1[q]? = H[q]?) (hc : ax_cell G (ax_new M x) M.2.2.2.2 x H1) : ax_R G (ax_new M x) H1 := by
  refine ⟨by rw [hz, hR.1]; rfl, ?_, fun q y hy => ?_⟩
  · show (if 0 = M.2.2.2.2 + 1 then some x else M.2.2.2.1 0) = none
    rw [if_neg (by omega)]
    exact hR.2.1
  · have hy2 : (if q + 1 = M.2.2.2.2 + 1 then some x else M.2.2.2.1 (q + 1)) = some y := hy
    by_cases e : q = M.2.2.2.2
    · subst e
      rw [if_pos rfl] at hy2
      cases hy2
      exact ⟨by show M.2.2.2.2 < M.2.2.2.2 + 1; omega, hc⟩
    · rw [if_neg (by omega)] at hy2
      obtain ⟨hlt, hcell⟩ := hR.2.2 q y hy2
      refine ⟨by show q < M.2.2.2.2 + 1; omega, ax_cell_cong (ax_val_cong ?_ ?_ ?_) (ho _ (by rw [hR.1]; omega)) hcell⟩
      · funext j
        show (if q + 1 = M.2.2.2.2 + 1 then 0 else M.1 (q + 1) j) = _
        rw [if_neg (by omega)]
      · funext j
        show (if q + 1 = M.2.2.2.2 + 1 then 0 else M.2.1 (q + 1) j) = _
        rw [if_neg (by omega)]
      · funext j
        show (if q + 1 = M.2.2.2.2 + 1 then 0 else M.2.2.1 (q + 1) j) = _
        rw [if_neg (by omega)]
theorem ax_S_new {G : ax_G} {H0 H H1 : Heap} {locs : List Loc} (hS : va_S (ax_A G) H0 H locs) (hz : H1.size = H.size + 1) (ho : ∀ q, q < H.size → H1[q]? = H[q]?) : va_S (ax_A G) H0 H1 locs :=
  ⟨by have := hS.1; omega, fun q h1 h2 => (ho q (Nat.lt_of_lt_of_le h1 hS.1)).trans (hS.2.1 q h1 h2), hS.2.2⟩
def ax_tok (ty : FieldType) : Bool := match ty with
  | .int => true
  | .boolean => true
  | .long => true
  | .object _ => true
  | .array _ => true
  | _ => false
theorem ax_dflt {G : ax_G} {M : ax_M} {x : (Nat × Nat) ⊕ Nat} {ty : FieldType} (h : ax_tok ty = true) (j : Nat) : defaultValue ty = ax_val G (ax_new M x) (M.2.2.2.2 + 1) (ax_fk ty) j := by
  cases ty <;> simp [ax_tok] at h <;> simp [ax_fk, ax_val, ax_new, defaultValue, ax_rf]
section AXN
variable {l : Launch} {G : ax_G} {k : ax_K} {F : ax_F} {d c n : Nat} {M : ax_M} {pc : Nat} {L : List (Option ax_V)} {S : List ax_V} {Q : ax_O → ax_M → Prop}

theorem ax_newo {ix ci c1 n1 : Nat} {C : String} {T : u_T} {N : Nat} (hd : decode k.2.1 pc = .ok (.new ix, 3)) (hcl : ax_cls ci C T N) (hlink : Cond.classLink k.1.cls ix C ∈ lw_tbl) (hins : Cond.instantiable C N ∈ lw_tbl) (hini : Cond.initialized C ∈ lw_tbl) (htok : ∀ j, j < N → ax_tok (ax_ft ci j) = true) (hc2 : c1 + 1 ≤ c) (hn2 : n1 + N ≤ n) (kk : ax_W l G k F d c1 n1 (ax_new M (.inr ci)) (pc + 3) L (av_r (M.2.2.2.2 + 1) :: S)) : ax_W l G k F d c n M pc L (S) := by
  intro p e R s m args below meth cd Z H locs cells slots ls h
  obtain ⟨hB, hF, ⟨h1, h2, h3, h4⟩, hS, hR, hl⟩ := h
  obtain ⟨hx1, hb, hml, hown, hlo, hrt, hnm, hC⟩ := id hB
  obtain ⟨hS1, hfc, kC0, hkC0, hkind⟩ := hC.2.2.1.1 ci _ hcl.1
  refine W.newcK hx1 hb hown (ax_use hC hlink rfl) (ax_use hC hins rfl) (ax_use hC hini rfl) rfl hd (by omega) (by omega) hfc hR.1 fun H1 kC hkC e1 e2 e3 => ?_
  have hts : ∀ w ∈ u_ws C T N, w.before args s = true := fun w hw => ax_use hC (hcl.2.1 w hw).1 (hcl.2.1 w hw).2
  have hborn := u_born (ax_ft ci) hts (fun _ h9 => h9) (hC.2.2.1.1 ci _ hcl.1) hkC e1 hcl.2.2.1
  have hcell : ax_cell G (ax_new M (.inr ci)) M.2.2.2.2 (.inr ci) H1 := ⟨_, hcl.1, t_OB.to hborn (fun j hj => ax_dflt (htok j hj) j)⟩
  have hz : H1.size = H.size + 1 := by rw [e2, hR.1]
  have ho : ∀ q, q < H.size → H1[q]? = H[q]? := fun q hq => e3 q (by rw [← hR.1]; exact hq)
  exact kk p e R s m args below meth cd Z H1 locs _ _ ls ⟨hB, hF, ⟨h1, h2, by omega, by omega⟩, ax_S_new hS hz ho, ax_R_new hR hz ho hcell, hl⟩
theorem ax_newa {kd len c1 n1 : Nat} {at9 : ArrayType} {z : Int32} (hd : decode k.2.1 pc = .ok (.newarray at9, 2)) (hty : newarray.typeOf at9 = ax_aty kd) (hkd : kd < 2) (harr : Cond.arrayClass (ax_aty kd) ∈ lw_tbl) (hz0 : ¬ z < 0) (hz1 : z.toNatClampNeg = len) (hsz : len ≤ 60000000) (hc2 : c1 + 1 ≤ c) (hn2 : n1 + len ≤ n) (kk : ax_W l G k F d c1 n1 (ax_new M (.inl (kd, len))) (pc + 2) L (av_r (M.2.2.2.2 + 1) :: S)) : ax_W l G k F d c n M pc L (av_i z :: S) := by
  intro p e R s m args below meth cd Z H locs cells slots ls h
  obtain ⟨hB, hF, ⟨h1, h2, h3, h4⟩, hS, hR, hl⟩ := h
  obtain ⟨hx1, hb, hml, hown, hlo, hrt, hnm, hC⟩ := id hB
  have ht : (ax_tys G)[kd]? = some (G.2.2.1 kd, ax_aty kd) := by
    rcases (show kd = 0 ∨ kd = 1 by omega) with rfl | rfl <;> rfl
  have hRA := (hC.2.2.1.2 kd _ ht).2
  have hcA : s.vm.findClass ("[" ++ (ax_aty kd).toString) = some (G.2.2.1 kd) := by
    rcases (show kd = 0 ∨ kd = 1 by omega) with rfl | rfl <;> exact hRA
  have hby : len * componentBytes (newarray.typeOf at9) ≤ 536870912 := by
    rw [hty]
    rcases (show kd = 0 ∨ kd = 1 by omega) with rfl | rfl
    · show len * 4 ≤ _; omega
    · show len * 8 ≤ _; omega
  refine va_newaK hx1 hb (by rw [hty]; exact ax_use hC harr rfl) rfl hd rfl hz0 hz1 hby (by omega) (by omega) hR.1 fun H1 cA e1 e2 e3 hAr hfc => ?_
  rw [hty] at hfc e1
  cases Option.some.inj (hfc.symm.trans hcA)
  have hcell : ax_cell G (ax_new M (.inl (kd, len))) M.2.2.2.2 (.inl (kd, len)) H1 := by
    show H1[G.1 + M.2.2.2.2]? = some (arrV _ _ _)
    rw [e1]
    congr 2
    funext j
    rcases (show kd = 0 ∨ kd = 1 by omega) with rfl | rfl
    · simp [ax_val, ax_new, ax_aty, defaultValue]
    · simp [ax_val, ax_new, ax_aty, defaultValue]
  have hz : H1.size = H.size + 1 := by rw [e2, hR.1]
  have ho : ∀ q, q < H.size → H1[q]? = H[q]? := fun q hq => e3 q (by rw [← hR.1]; exact hq)
  exact kk p e R s m args below meth cd Z H1 locs _ _ ls ⟨hB, hF, ⟨h1, h2, by omega, by omega⟩, ax_S_new hS hz ho, ax_R_new hR hz ho hcell, hl⟩
theorem ax_objInit {ix a : Nat} (hd : decode k.2.1 pc = .ok (.invokespecial ix, 3)) (hlink : Cond.methodLink k.1.cls ix Lib.objectInit ∈ lw_tbl) (hin : Cond.instanceMethod Lib.objectInit ∈ lw_tbl) (hco : Cond.code Lib.objectInit ⟨#[0xb1]⟩ 1 none ∈ lw_tbl) (hne : a ≠ 0) (hd1 : 1 ≤ d) (hlow : ax_low S = true) (kk : ax_W l G k F d c n M (pc + 3) L (S)) : ax_W l G k F d c n M pc L (av_r a :: S) := by
  intro p e R s m args below meth cd Z H locs cells slots ls h
  obtain ⟨hB, hF, ⟨h1, h2, h3, h4⟩, hS, hR, hl⟩ := id h
  obtain ⟨hx1, hb, hml, hown, hlo, hrt, hnm, hC⟩ := id hB
  cases a with
  | zero => exact absurd rfl hne
  | succ q => exact W.objInit hx1 hb hown (ax_use hC hlink rfl) (ax_use hC hin rfl) (ax_use hC hco rfl) rfl (by rw [hml]; exact hl.1) rfl hd (by omega) (by have := ax_low_ok (G := G) hlow; show 2 * 0 + _ + 12 ≤ _; omega) (kk p e R s m args below meth cd Z H locs cells slots ls h)
theorem ax_mmax {ix : Nat} {x y : Int32} (hd : decode k.2.1 pc = .ok (.invokestatic ix, 3)) (hlink : Cond.methodLink k.1.cls ix Lib.Math.max.name ∈ lw_tbl) (hst : Cond.static Lib.Math.max.name ∈ lw_tbl) (hini : Cond.initialized "java/lang/Math" ∈ lw_tbl) (hco : Cond.code Lib.Math.max.name Lib.Math.max.code 2 (some .int) ∈ lw_tbl) (hd1 : 1 ≤ d) (hlow : ax_low S = true) (kk : ax_W l G k F d c n M (pc + 3) L (av_i (if x < y then y else x) :: S)) : ax_W l G k F d c n M pc L (av_i y :: av_i x :: S) := by
  intro p e R s m args below meth cd Z H locs cells slots ls h
  obtain ⟨hB, hF, ⟨h1, h2, h3, h4⟩, hS, hR, hl⟩ := id h
  obtain ⟨hx1, hb, hml, hown, hlo, hrt, hnm, hC⟩ := id hB
  exact va_mmax hx1 hb (by rw [hml]; exact hl.1.symm) hown (ax_use hC hlink rfl) (ax_use hC hst rfl) (ax_use hC hini rfl) (ax_use hC hco rfl) (by omega) (by have := ax_low_ok (G := G) hlow; omega) (by omega) (by omega) hd (kk p e R s m args below meth cd Z H locs cells slots ls h)
theorem ax_mmin {ix : Nat} {x y : Int32} (hd : decode k.2.1 pc = .ok (.invokestatic ix, 3)) (hlink : Cond.methodLink k.1.cls ix Lib.Math.min.name ∈ lw_tbl) (hst : Cond.static Lib.Math.min.name ∈ lw_tbl) (hini : Cond.initialized "java/lang/Math" ∈ lw_tbl) (hco : Cond.code Lib.Math.min.name Lib.Math.min.code 2 (some .int) ∈ lw_tbl) (hd1 : 1 ≤ d) (hlow : ax_low S = true) (kk : ax_W l G k F d c n M (pc + 3) L (av_i (if y < x then y else x) :: S)) : ax_W l G k F d c n M pc L (av_i y :: av_i x :: S) := by
  intro p e R s m args below meth cd Z H locs cells slots ls h
  obtain ⟨hB, hF, ⟨h1, h2, h3, h4⟩, hS, hR, hl⟩ := id h
  obtain ⟨hx1, hb, hml, hown, hlo, hrt, hnm, hC⟩ := id hB
  exact va_mmin hx1 hb (by rw [hml]; exact hl.1.symm) hown (ax_use hC hlink rfl) (ax_use hC hst rfl) (ax_use hC hini rfl) (ax_use hC hco rfl) (by omega) (by have := ax_low_ok (G := G) hlow; omega) (by omega) (by omega) hd (kk p e R s m args below meth cd Z H locs cells slots ls h)
theorem ax_throwS {ik ist ic j : Nat} {E : String} {names : List String} {t : ax_T} (hl9 : l.stackTraces = false) (hcls : Bundle.fit E = true) (hnames : ∀ z ∈ names, Bundle.fit z = true) (hk : Cond.classLink k.1.cls ik E ∈ lw_tbl) (hini : Cond.initialized E ∈ lw_tbl) (ht : ax_txts[j]? = some t) (ht1 : t.1 = k.1.cls) (ht2 : t.2.1 = ist) (hat : ∀ w ∈ vx_atS k.1.cls ic E names, w ∈ lw_tbl ∧ ax_okw w = true) (hgood : ∀ w ∈ Cond.classLink k.1.cls ik E :: Cond.initialized E :: vx_atS k.1.cls ic E names, vx_ot w = true)
    (d0 : decode k.2.1 pc = .ok (.new ik, 3)) (d3 : decode k.2.1 (pc + 3) = .ok (.dup, 1)) (d4 : decode k.2.1 (pc + 4) = .ok (.ldc ist, 2)) (d6 : decode k.2.1 (pc + 6) = .ok (.invokespecial ic, 3)) (d9 : decode k.2.1 (pc + 9) = .ok (.athrow, 1)) (hd1 : names.length + 4 ≤ d) (hc1 : 1 ≤ c) (hn1 : 6 ≤ n) (hlow : ax_low S = true) (hq : ∀ M2 : ax_M, M2.1 = M.1 → M2.2.1 = M.2.1 → M2.2.2.1 = M.2.2.1 → M2.2.2.2.1 = M.2.2.2.1 → M.2.2.2.2 ≤ M2.2.2.2.2 → Q (.inr E) M2) : ax_W l G k (ax_FQ G Q) d c n M pc L S := by
  intro p e R s m args below meth cd Z H locs cells slots ls h
  obtain ⟨hB, ⟨rfl, hT⟩, ⟨h1, h2, h3, h4⟩, hS, hR, hl⟩ := h
  obtain ⟨hx1, hb, hml, hown, hlo, hrt, hnm, hC⟩ := id hB
  obtain ⟨hX1, hX2, -, hX4⟩ := hC.2.2.2
  have htx := (hX4 j t ht).1
  rw [ht1, ht2] at htx
  refine vx_throwS (cls := E) (names := names) (text := t.2.2.1) (sa := G.2.2.2 (2 * j)) (A := ax_A G) hx1 hb hl9 hown hcls hnames (ax_use hC hk rfl) (ax_use hC hini rfl) htx (fun w hw => ax_use hC (hat w hw).1 (hat w hw).2) hgood hX1 hX2 hS (by rw [hml]; exact hl.1) d0 d3 d4 d6 d9 (fun x hx9 => absurd (hT x hx9) id) (by omega) (by have := ax_low_ok (G := G) hlow; omega) (by omega) (by omega) hlo (fun t9 hal hz ho => ?_) hS.2.2 (by omega) (by omega)
  refine ⟨(M.1, M.2.1, M.2.2.1, M.2.2.2.1, t9.heap.size - G.1), hq _ rfl rfl rfl rfl (by have := hR.1; show M.2.2.2.2 ≤ t9.heap.size - G.1; omega), ⟨by have := hR.1; show t9.heap.size = G.1 + (t9.heap.size - G.1); omega, hR.2.1, fun q y hy => ?_⟩, ⟨Nat.le_trans hS.1 hz, fun q q1 q2 => (ho q (Nat.lt_of_lt_of_le q1 hS.1)).trans (hS.2.1 q q1 q2)⟩⟩
  obtain ⟨hlt, hcell⟩ := hR.2.2 q y hy
  exact ⟨by have := hR.1; show q < t9.heap.size - G.1; omega, ax_cell_cong (fun kd j => by unfold ax_val; rfl) (ho _ (by rw [hR.1]; omega)) hcell⟩
theorem ax_throwSW {ik ist ic j : Nat} {E : String} {names : List String} {t : ax_T} (hl9 : l.stackTraces = false) (hcls : Bundle.fit E = true) (hnames : ∀ z ∈ names, Bundle.fit z = true) (hk : Cond.classLink k.1.cls ik E ∈ lw_tbl) (hini : Cond.initialized E ∈ lw_tbl) (ht : ax_txts[j]? = some t) (ht1 : t.1 = k.1.cls) (ht2 : t.2.1 = ist) (hat : ∀ w ∈ vx_atS k.1.cls ic E names, w ∈ lw_tbl ∧ ax_okw w = true) (hgood : ∀ w ∈ Cond.classLink k.1.cls ik E :: Cond.initialized E :: vx_atS k.1.cls ic E names, vx_ot w = true)
    (d0 : decode k.2.1 pc = .ok (.new ik, 3)) (d3 : decode k.2.1 (pc + 3) = .ok (.dup, 1)) (d4 : decode k.2.1 (pc + 4) = .ok (.ldc_w ist, 3)) (d6 : decode k.2.1 (pc + 7) = .ok (.invokespecial ic, 3)) (d9 : decode k.2.1 (pc + 10) = .ok (.athrow, 1)) (hd1 : names.length + 4 ≤ d) (hc1 : 1 ≤ c) (hn1 : 6 ≤ n) (hlow : ax_low S = true) (hq : ∀ M2 : ax_M, M2.1 = M.1 → M2.2.1 = M.2.1 → M2.2.2.1 = M.2.2.1 → M2.2.2.2.1 = M.2.2.2.1 → M.2.2.2.2 ≤ M2.2.2.2.2 → Q (.inr E) M2) : ax_W l G k (ax_FQ G Q) d c n M pc L S := by
  intro p e R s m args below meth cd Z H locs cells slots ls h
  obtain ⟨hB, ⟨rfl, hT⟩, ⟨h1, h2, h3, h4⟩, hS, hR, hl⟩ := h
  obtain ⟨hx1, hb, hml, hown, hlo, hrt, hnm, hC⟩ := id hB
  obtain ⟨hX1, hX2, -, hX4⟩ := hC.2.2.2
  have htx := (hX4 j t ht).1
  rw [ht1, ht2] at htx
  refine vx_throwSW (cls := E) (names := names) (text := t.2.2.1) (sa := G.2.2.2 (2 * j)) (A := ax_A G) hx1 hb hl9 hown hcls hnames (ax_use hC hk rfl) (ax_use hC hini rfl) htx (fun w hw => ax_use hC (hat w hw).1 (hat w hw).2) hgood hX1 hX2 hS (by rw [hml]; exact hl.1) d0 d3 d4 d6 d9 (fun x hx9 => absurd (hT x hx9) id) (by omega) (by have := ax_low_ok (G := G) hlow; omega) (by omega) (by omega) hlo (fun t9 hal hz ho => ?_) hS.2.2 (by omega) (by omega)
  refine ⟨(M.1, M.2.1, M.2.2.1, M.2.2.2.1, t9.heap.size - G.1), hq _ rfl rfl rfl rfl (by have := hR.1; show M.2.2.2.2 ≤ t9.heap.size - G.1; omega), ⟨by have := hR.1; show t9.heap.size = G.1 + (t9.heap.size - G.1); omega, hR.2.1, fun q y hy => ?_⟩, ⟨Nat.le_trans hS.1 hz, fun q q1 q2 => (ho q (Nat.lt_of_lt_of_le q1 hS.1)).trans (hS.2.1 q q1 q2)⟩⟩
  obtain ⟨hlt, hcell⟩ := hR.2.2 q y hy
  exact ⟨by have := hR.1; show q < t9.heap.size - G.1; omega, ax_cell_cong (fun kd j => by unfold ax_val; rfl) (ho _ (by rw [hR.1]; omega)) hcell⟩
end AXN
