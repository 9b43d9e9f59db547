/-! ===== arrays of arrays as rows; constructors' contracts ===== -/
/-- what the tables say of array classes and thrown ones, kept by hand -/
def ax_E (G : ax_G) (U : State) : Prop := (∃ k : Class, U.vm.classes[G.2.2.1 2]? = some k ∧ k.kind = .array (G.2.2.1 0) (.array .int)) ∧ (∃ k : Class, U.vm.classes[G.2.2.1 3]? = some k ∧ k.kind = .array (G.2.2.1 2) (.array (.array .int))) ∧ (∃ (k : Class) (cc : ClassId), U.vm.classes[G.2.2.1 0]? = some k ∧ k.kind = .array cc .int) ∧ ∀ i j : Nat, i < 3 → j < 3 → ∃ c t : ClassId, U.vm.findClass (cz_n i) = some c ∧ U.vm.findClass (cz_n j) = some t ∧ U.vm.assignable c t = decide (i = j)
theorem ax_E_kept {G : ax_G} {u U : State} (hW : u.WarmedH U.vm) (h : ax_E G u) : ax_E G U := by
  have hvm : u.vm.Alike U.vm := hW.alike
  obtain ⟨⟨k1, a1, b1⟩, ⟨k2, a2, b2⟩, ⟨k3, cc, a3, b3⟩, h4⟩ := h
  obtain ⟨k1', c1, e1⟩ := hvm.2.2 _ _ a1
  obtain ⟨k2', c2, e2⟩ := hvm.2.2 _ _ a2
  obtain ⟨k3', c3, e3⟩ := hvm.2.2 _ _ a3
  refine ⟨⟨k1', c1, by rw [e1]; exact b1⟩, ⟨k2', c2, by rw [e2]; exact b2⟩, ⟨k3', cc, c3, by rw [e3]; exact b3⟩, fun i j hi hj => ?_⟩
  obtain ⟨c, t, g1, g2, g3⟩ := h4 i j hi hj
  exact ⟨c, t, by rw [hvm.findClass]; exact g1, by rw [hvm.findClass]; exact g2, by rw [hvm.assignable]; exact g3⟩
/-- several cells at once -/
def ax_al (M : ax_M) (sh : List ((Nat × Nat) ⊕ Nat)) (rf : Nat → Nat → Nat) : ax_M := (fun b j => if M.2.2.2.2 < b ∧ b ≤ M.2.2.2.2 + sh.length then 0 else M.1 b j, fun b j => if M.2.2.2.2 < b ∧ b ≤ M.2.2.2.2 + sh.length then rf (b - M.2.2.2.2) j else M.2.1 b j, fun b j => if M.2.2.2.2 < b ∧ b ≤ M.2.2.2.2 + sh.length then 0 else M.2.2.1 b j, fun b => if M.2.2.2.2 < b ∧ b ≤ M.2.2.2.2 + sh.length then sh[b - M.2.2.2.2 - 1]? else M.2.2.2.1 b, M.2.2.2.2 + sh.length)
theorem ax_R_al {G : ax_G} {M : ax_M} {sh : List ((Nat × Nat) ⊕ Nat)} {rf : Nat → Nat → Nat} {H H1 : Heap} (hR : ax_R G M H) (hz : H1.size = H.size + sh.length) (ho : ∀ q, q < H.size → H1[q]? = H[q]?) (hc : ∀ i x, sh[i]? = some x → ax_cell G (ax_al M sh rf) (M.2.2.2.2 + i) x H1) : ax_R G (ax_al M sh rf) H1 := by
  refine ⟨by rw [hz, hR.1]; show _ = G.1 + (M.2.2.2.2 + sh.length); omega, ?_, fun q y hy => ?_⟩
  · show (if M.2.2.2.2 < 0 ∧ 0 ≤ M.2.2.2.2 + sh.length then sh[0 - M.2.2.2.2 - 1]? else M.2.2.2.1 0) = none
    rw [if_neg (by omega)]
    exact hR.2.1
  · have hy2 : (if M.2.2.2.2 < q + 1 ∧ q + 1 ≤ M.2.2.2.2 + sh.length then sh[q + 1 - M.2.2.2.2 - 1]? else M.2.2.2.1 (q + 1)) = some y := hy
    by_cases e : M.2.2.2.2 < q + 1 ∧ q + 1 ≤ M.2.2.2.2 + sh.length
    · rw [if_pos e] at hy2
      refine ⟨by show q < M.2.2.2.2 + sh.length; omega, ?_⟩
      have := hc _ _ hy2
      rw [show M.2.2.2.2 + (q + 1 - M.2.2.2.2 - 1) = q by omega] at this
      exact this
    · rw [if_neg e] at hy2
      obtain ⟨hlt, hcell⟩ := hR.2.2 q y hy2
      refine ⟨by show q < M.2.2.2.2 + sh.length; omega, ax_cell_cong (ax_val_cong ?_ ?_ ?_) (ho _ (by rw [hR.1]; omega)) hcell⟩
      · funext j
        show (if M.2.2.2.2 < q + 1 ∧ q + 1 ≤ M.2.2.2.2 + sh.length then 0 else M.1 (q + 1) j) = _
        rw [if_neg e]
      · funext j
        show (if M.2.2.2.2 < q + 1 ∧ q + 1 ≤ M.2.2.2.2 + sh.length then rf (q + 1 - M.2.2.2.2) j else M.2.1 (q + 1) j) = _
        rw [if_neg e]
      · funext j
        show (if M.2.2.2.2 < q + 1 ∧ q + 1 ≤ M.2.2.2.2 + sh.length then 0 else M.2.2.1 (q + 1) j) = _
        rw [if_neg e]
theorem ax_S_al {G : ax_G} {H0 H H1 : Heap} {locs : List Loc} {w : Nat} (hS : va_S (ax_A G) H0 H locs) (hz : H1.size = H.size + w) (ho : ∀ q, q < H.size → H1[q]? = H[q]?) : va_S (ax_A G) H0 H1 locs :=
  ⟨by have := hS.1; omega, fun q h1 h2 => (ho q (Nat.lt_of_lt_of_le h1 hS.1)).trans (hS.2.1 q h1 h2), hS.2.2⟩
def sh2 (N K : Nat) : List ((Nat × Nat) ⊕ Nat) := .inl (2, N) :: List.replicate N (.inl (0, K))
def rf2 (x N : Nat) (i j : Nat) : Nat := if i = 1 ∧ j < N then x + 2 + j else 0
theorem sh2_len (N K : Nat) : (sh2 N K).length = 1 + N := by simp [sh2]; omega
def sh3 (N K L : Nat) : List ((Nat × Nat) ⊕ Nat) := .inl (3, N) :: (List.replicate N (sh2 K L)).flatten
def rf3 (x N K : Nat) (i j : Nat) : Nat := if i = 1 then (if j < N then x + 2 + j * (1 + K) else 0) else if (i - 2) % (1 + K) = 0 then (if j < K then x + i + 1 + j else 0) else 0
theorem sh3_len (N K L : Nat) : (sh3 N K L).length = 1 + N * (1 + K) := by
  simp [sh3, sh2_len, List.length_flatten, List.map_replicate, List.sum_replicate_nat]; omega
theorem sh3_at {K L : Nat} : ∀ {N i : Nat}, ((List.replicate N (sh2 K L)).flatten)[i]? = if i < N * (1 + K) then (sh2 K L)[i % (1 + K)]? else none
  | 0, i => by simp
  | N + 1, i => by
    rw [List.replicate_succ, List.flatten_cons]
    by_cases h : i < 1 + K
    · rw [List.getElem?_append_left (by rw [sh2_len]; exact h), if_pos (by rw [Nat.succ_mul]; omega), Nat.mod_eq_of_lt h]
    · rw [List.getElem?_append_right (by rw [sh2_len]; omega), sh2_len, sh3_at (N := N)]
      rw [show (i - (1 + K)) % (1 + K) = i % (1 + K) from (Nat.mod_eq_sub_mod (by omega)).symm]
      by_cases h2 : i < (N + 1) * (1 + K)
      · rw [if_pos h2, if_pos (by rw [Nat.succ_mul] at h2; omega)]
      · rw [if_neg h2, if_neg (by rw [Nat.succ_mul] at h2; omega)]
def ax_FE (G : ax_G) (F : ax_F) : ax_F := fun p e R s m args below meth cd Z => F p e R s m args below meth cd Z ∧ ax_E G s
section AXM
variable {l : Launch} {G : ax_G} {k : ax_K} {F : ax_F} {d c n : Nat} {M : ax_M} {pc : Nat} {L : List (Option ax_V)} {S : List ax_V} {Q : ax_O → ax_M → Prop}
theorem ax_FE_of (h : ax_W l G k F d c n M pc L S) : ax_W l G k (ax_FE G F) d c n M pc L S := fun p e R s m args below meth cd Z H locs cells slots ls q => h p e R s m args below meth cd Z H locs cells slots ls ⟨q.1, q.2.1.1, q.2.2⟩
theorem ax_mna2 {ix N K c1 n1 : Nat} {x y : Int32} (hd : decode k.2.1 pc = .ok (.multianewarray ix 2, 4)) (hlink : Cond.classLink k.1.cls ix "[[I" ∈ lw_tbl) (hx : x = nI N) (hy : y = nI K) (hN : N ≤ 10000) (hK : K ≤ 10000) (hc2 : c1 + (1 + N) ≤ c) (hn2 : n1 + (N + N * K) ≤ n) (kk : ax_W l G k (ax_FE G F) d c1 n1 (ax_al M (sh2 N K) (rf2 M.2.2.2.2 N)) (pc + 4) L (av_r (M.2.2.2.2 + 1) :: S)) : ax_W l G k (ax_FE G F) d c n M pc L (av_i y :: av_i x :: S) := by
  subst hx hy
  intro p e R s m args below meth cd Z H locs cells slots ls h
  obtain ⟨hB, hF, ⟨h1, h2, h3, h4⟩, hS, hR, hl⟩ := h
  obtain ⟨hx1, hb, hml, hown, hlo, hrt, hnm, hC⟩ := id hB
  obtain ⟨⟨kA, a1, b1⟩, -, ⟨k1, cc, a3, b3⟩, -⟩ := hF.2
  have hnA : s.vm.findClass "[[I" = some (G.2.2.1 2) := (hC.2.2.1.2 2 _ rfl).2
  have eN : (nI N).toNatClampNeg = N := nI_clamp (by omega)
  have eK : (nI K).toNatClampNeg = K := nI_clamp (by omega)
  intro T hT X
  obtain ⟨vm₁, X', step⟩ := st_mna2 X hx1 hown (ax_use hC hlink rfl) hnA a1 b1 a3 b3 (g := F0 m pc ls ((av_i (nI K) :: av_i (nI N) :: S).map (ax_tv G))) rfl (by rw [hb]; exact hd) rfl (nI_pos (by omega)) (nI_pos (by omega)) (by rw [eN]; exact hN) (by rw [eK]; exact hK) (by rw [eN]; omega) (by rw [eN, eK]; omega)
  rw [eN, eK] at X' step
  have hTh : (T.setVm vm₁).heap = H := hT
  generalize hFF : Multi.fill (T.setVm vm₁) (G.2.2.1 2) (G.2.2.1 0) N K (defaultValue .int) N = U at X' step
  obtain ⟨f1, f2, -, -⟩ := Multi.fill_facts (T.setVm vm₁) (G.2.2.1 2) (G.2.2.1 0) N K (defaultValue .int) N
  rw [hFF, hTh] at f1 f2
  have hold : ∀ x : Nat, x < H.size → U.heap[x]? = H[x]? := fun x hx => by
    have := Multi.fill_old (T.setVm vm₁) (G.2.2.1 2) (G.2.2.1 0) N K (defaultValue .int) (a := x) (by rw [hTh]; exact hx) N
    rw [hFF, hTh] at this
    exact this
  have hrow : ∀ j : Nat, j < N → U.heap[H.size + 1 + j]? = some (Multi.innerC (G.2.2.1 0) K (defaultValue .int)) := fun j hj => by
    have := Multi.fill_inner (T.setVm vm₁) (G.2.2.1 2) (G.2.2.1 0) N K (defaultValue .int) N j hj
    rw [hFF, hTh] at this
    exact this
  have hz : U.heap.size = H.size + (sh2 N K).length := by rw [f1, sh2_len]; omega
  have hR2 : ax_R G (ax_al M (sh2 N K) (rf2 M.2.2.2.2 N)) U.heap := by
    refine ax_R_al hR hz hold (fun i x hi => ?_)
    cases i with
    | zero =>
      cases hi
      show U.heap[G.1 + (M.2.2.2.2 + 0)]? = some (arrV _ _ _)
      rw [Nat.add_zero, ← hR.1, f2, vr_outer]
      congr 2
      funext j
      show va_rf (if j < N then some (H.size + 1 + j) else none) = ax_rf G (if M.2.2.2.2 < M.2.2.2.2 + 0 + 1 ∧ M.2.2.2.2 + 0 + 1 ≤ M.2.2.2.2 + (sh2 N K).length then rf2 M.2.2.2.2 N (M.2.2.2.2 + 0 + 1 - M.2.2.2.2) j else M.2.1 (M.2.2.2.2 + 0 + 1) j)
      have hin : M.2.2.2.2 < M.2.2.2.2 + 0 + 1 ∧ M.2.2.2.2 + 0 + 1 ≤ M.2.2.2.2 + (sh2 N K).length := by rw [sh2_len]; omega
      rw [if_pos hin, show M.2.2.2.2 + 0 + 1 - M.2.2.2.2 = 1 by omega]
      unfold rf2
      by_cases hj : j < N
      · rw [if_pos hj, if_pos ⟨rfl, hj⟩, show M.2.2.2.2 + 2 + j = (M.2.2.2.2 + 1 + j) + 1 by omega]
        have hRR := hR.1
        exact congrArg Value.ref (show (H.size + 1 + j : Nat) = G.1 + (M.2.2.2.2 + 1 + j) by omega)
      · rw [if_neg hj, if_neg (fun z => hj z.2)]; rfl
    | succ i =>
      have hi2 : (List.replicate N (Sum.inl (0, K) : (Nat × Nat) ⊕ Nat))[i]? = some x := hi
      rw [List.getElem?_replicate] at hi2
      by_cases hiN : i < N
      · rw [if_pos hiN] at hi2
        cases hi2
        show U.heap[G.1 + (M.2.2.2.2 + (i + 1))]? = some (arrV _ _ _)
        have := hrow i hiN
        rw [show G.1 + (M.2.2.2.2 + (i + 1)) = H.size + 1 + i by rw [hR.1]; omega, this]
        congr 1
        show ({ cls := G.2.2.1 0, slots := Array.replicate K (defaultValue .int), vm := .none } : Cell) = _
        rw [arrV_new]
        congr 1
        funext j
        show defaultValue .int = Value.int (if M.2.2.2.2 < M.2.2.2.2 + (i + 1) + 1 ∧ M.2.2.2.2 + (i + 1) + 1 ≤ M.2.2.2.2 + (sh2 N K).length then 0 else M.1 (M.2.2.2.2 + (i + 1) + 1) j)
        rw [if_pos (by rw [sh2_len]; omega)]
        rfl
      · rw [if_neg hiN] at hi2; cases hi2
  obtain ⟨t, q1, q2⟩ := kk p e R s m args below meth cd Z U.heap locs (cells + 1 + N) (slots + N + N * K) ls ⟨hB, hF, ⟨h1, h2, by omega, by omega⟩, ax_S_al hS hz hold, hR2, hl⟩ U rfl X'
  refine ⟨t, step t ?_, q2⟩
  have e9 : (av_r (M.2.2.2.2 + 1) :: S).map (ax_tv G) = Value.ref T.heap.size :: S.map (ax_tv G) := by
    show Value.ref (G.1 + M.2.2.2.2) :: _ = _
    rw [← hR.1, hT]
  rw [e9] at q1
  exact q1
theorem ax_mna3 {ix N K B c1 n1 : Nat} {x y z : Int32} (hd : decode k.2.1 pc = .ok (.multianewarray ix 3, 4)) (hlink : Cond.classLink k.1.cls ix "[[[I" ∈ lw_tbl) (hx : x = nI N) (hy : y = nI K) (hz9 : z = nI B) (hN : N ≤ 10000) (hK : K ≤ 10000) (hB9 : B ≤ 10000) (hc2 : c1 + (1 + N * (1 + K)) ≤ c) (hn2 : n1 + (N + N * (K + K * B)) ≤ n) (kk : ax_W l G k (ax_FE G F) d c1 n1 (ax_al M (sh3 N K B) (rf3 M.2.2.2.2 N K)) (pc + 4) L (av_r (M.2.2.2.2 + 1) :: S)) : ax_W l G k (ax_FE G F) d c n M pc L (av_i z :: av_i y :: av_i x :: S) := by
  subst hx hy hz9
  intro p e R s m args below meth cd Z H locs cells slots ls h
  obtain ⟨hB, hF, ⟨h1, h2, h3, h4⟩, hS, hR, hl⟩ := h
  obtain ⟨hx1, hb, hml, hown, hlo, hrt, hnm, hC⟩ := id hB
  obtain ⟨⟨kA, a1, b1⟩, ⟨kB, a2, b2⟩, ⟨k1, cc, a3, b3⟩, -⟩ := hF.2
  have hnA : s.vm.findClass "[[[I" = some (G.2.2.1 3) := (hC.2.2.1.2 3 _ rfl).2
  have eN : (nI N).toNatClampNeg = N := nI_clamp (by omega)
  have eK : (nI K).toNatClampNeg = K := nI_clamp (by omega)
  have eB : (nI B).toNatClampNeg = B := nI_clamp (by omega)
  intro T hT X
  obtain ⟨vm₁, X', step⟩ := st_mna3 X hx1 hown (ax_use hC hlink rfl) hnA a2 b2 a1 b1 a3 b3 (g := F0 m pc ls ((av_i (nI B) :: av_i (nI K) :: av_i (nI N) :: S).map (ax_tv G))) rfl (by rw [hb]; exact hd) rfl (nI_pos (by omega)) (nI_pos (by omega)) (nI_pos (by omega)) (by rw [eN]; exact hN) (by rw [eK]; exact hK) (by rw [eB]; exact hB9) (by rw [eN, eK]; omega) (by rw [eN, eK, eB]; omega)
  rw [eN, eK, eB] at X' step
  have hTh : (T.setVm vm₁).heap = H := hT
  generalize hFF : f3 (T.setVm vm₁) (G.2.2.1 3) (G.2.2.1 2) (G.2.2.1 0) N K B (defaultValue .int) N = U at X' step
  obtain ⟨f1, f2, -, -⟩ := f3_facts (T.setVm vm₁) (G.2.2.1 3) (G.2.2.1 2) (G.2.2.1 0) N K B (defaultValue .int) N
  rw [hFF, hTh] at f1 f2
  have hold : ∀ x : Nat, x < H.size → U.heap[x]? = H[x]? := fun x hx => by
    have := f3_old (T.setVm vm₁) (G.2.2.1 3) (G.2.2.1 2) (G.2.2.1 0) N K B (defaultValue .int) (a := x) (by rw [hTh]; exact hx) N
    rw [hFF, hTh] at this
    exact this
  have hrow : ∀ j : Nat, j < N → U.heap[H.size + 1 + j * (1 + K)]? = some (Multi.outerC (G.2.2.1 2) K (H.size + 1 + j * (1 + K)) K) ∧ ∀ q, q < K → U.heap[H.size + 1 + j * (1 + K) + 1 + q]? = some (Multi.innerC (G.2.2.1 0) B (defaultValue .int)) := fun j hj => by
    have := f3_mid (T.setVm vm₁) (G.2.2.1 3) (G.2.2.1 2) (G.2.2.1 0) N K B (defaultValue .int) N j hj
    rw [hFF, hTh] at this
    exact this
  have hz : U.heap.size = H.size + (sh3 N K B).length := by rw [f1, sh3_len]; omega
  have hR2 : ax_R G (ax_al M (sh3 N K B) (rf3 M.2.2.2.2 N K)) U.heap := by
    refine ax_R_al hR hz hold (fun i x hi => ?_)
    cases i with
    | zero =>
      cases hi
      show U.heap[G.1 + (M.2.2.2.2 + 0)]? = some (arrV _ _ _)
      rw [Nat.add_zero, ← hR.1, f2, o3_arr]
      congr 2
      funext j
      show va_rf (if j < N then some (H.size + 1 + j * (1 + K)) else none) = ax_rf G (if M.2.2.2.2 < M.2.2.2.2 + 0 + 1 ∧ M.2.2.2.2 + 0 + 1 ≤ M.2.2.2.2 + (sh3 N K B).length then rf3 M.2.2.2.2 N K (M.2.2.2.2 + 0 + 1 - M.2.2.2.2) j else M.2.1 (M.2.2.2.2 + 0 + 1) j)
      have hin : M.2.2.2.2 < M.2.2.2.2 + 0 + 1 ∧ M.2.2.2.2 + 0 + 1 ≤ M.2.2.2.2 + (sh3 N K B).length := by rw [sh3_len]; omega
      rw [if_pos hin, show M.2.2.2.2 + 0 + 1 - M.2.2.2.2 = 1 by omega]
      unfold rf3
      rw [if_pos rfl]
      by_cases hj : j < N
      · rw [if_pos hj, if_pos hj, show M.2.2.2.2 + 2 + j * (1 + K) = (M.2.2.2.2 + 1 + j * (1 + K)) + 1 by omega]
        have hRR := hR.1
        exact congrArg Value.ref (show (H.size + 1 + j * (1 + K) : Nat) = G.1 + (M.2.2.2.2 + 1 + j * (1 + K)) by omega)
      · rw [if_neg hj, if_neg hj]; rfl
    | succ i =>
      have hi2 : ((List.replicate N (sh2 K B)).flatten)[i]? = some x := hi
      rw [sh3_at] at hi2
      by_cases hiN : i < N * (1 + K)
      · rw [if_pos hiN] at hi2
        have hdm := Nat.div_add_mod i (1 + K)
        have hmod : i % (1 + K) < 1 + K := Nat.mod_lt _ (by omega)
        have hdiv : i / (1 + K) < N := Nat.div_lt_of_lt_mul (by rw [Nat.mul_comm]; exact hiN)
        have hcm : (1 + K) * (i / (1 + K)) = i / (1 + K) * (1 + K) := Nat.mul_comm _ _
        obtain ⟨r1, r2⟩ := hrow (i / (1 + K)) hdiv
        have hin : M.2.2.2.2 < M.2.2.2.2 + (i + 1) + 1 ∧ M.2.2.2.2 + (i + 1) + 1 ≤ M.2.2.2.2 + (sh3 N K B).length := by rw [sh3_len]; omega
        have e2 : M.2.2.2.2 + (i + 1) + 1 - M.2.2.2.2 = i + 2 := by omega
        have hRR := hR.1
        cases hq : i % (1 + K) with
        | zero =>
          rw [hq] at hi2
          cases hi2
          show U.heap[G.1 + (M.2.2.2.2 + (i + 1))]? = some (arrV _ _ _)
          rw [show G.1 + (M.2.2.2.2 + (i + 1)) = H.size + 1 + i / (1 + K) * (1 + K) by omega, r1, vr_outer]
          congr 2
          funext j
          show va_rf (if j < K then some (H.size + 1 + i / (1 + K) * (1 + K) + 1 + j) else none) = ax_rf G (if M.2.2.2.2 < M.2.2.2.2 + (i + 1) + 1 ∧ M.2.2.2.2 + (i + 1) + 1 ≤ M.2.2.2.2 + (sh3 N K B).length then rf3 M.2.2.2.2 N K (M.2.2.2.2 + (i + 1) + 1 - M.2.2.2.2) j else M.2.1 (M.2.2.2.2 + (i + 1) + 1) j)
          rw [if_pos hin, e2]
          unfold rf3
          rw [if_neg (show ¬ i + 2 = 1 by omega), show i + 2 - 2 = i by omega, if_pos hq]
          by_cases hj : j < K
          · rw [if_pos hj, if_pos hj, show M.2.2.2.2 + (i + 2) + 1 + j = (M.2.2.2.2 + i + 2 + j) + 1 by omega]
            exact congrArg Value.ref (show (H.size + 1 + i / (1 + K) * (1 + K) + 1 + j : Nat) = G.1 + (M.2.2.2.2 + i + 2 + j) by omega)
          · rw [if_neg hj, if_neg hj]; rfl
        | succ q =>
          rw [hq] at hi2
          have hi3 : (List.replicate K (Sum.inl (0, B) : (Nat × Nat) ⊕ Nat))[q]? = some x := hi2
          rw [List.getElem?_replicate, if_pos (by omega)] at hi3
          cases hi3
          show U.heap[G.1 + (M.2.2.2.2 + (i + 1))]? = some (arrV _ _ _)
          rw [show G.1 + (M.2.2.2.2 + (i + 1)) = H.size + 1 + i / (1 + K) * (1 + K) + 1 + q by omega, r2 q (by omega)]
          congr 1
          show ({ cls := G.2.2.1 0, slots := Array.replicate B (defaultValue .int), vm := .none } : Cell) = _
          rw [arrV_new]
          congr 1
          funext j
          show defaultValue .int = Value.int (if M.2.2.2.2 < M.2.2.2.2 + (i + 1) + 1 ∧ M.2.2.2.2 + (i + 1) + 1 ≤ M.2.2.2.2 + (sh3 N K B).length then 0 else M.1 (M.2.2.2.2 + (i + 1) + 1) j)
          rw [if_pos hin]
          rfl
      · rw [if_neg hiN] at hi2; cases hi2
  obtain ⟨t, q1, q2⟩ := kk p e R s m args below meth cd Z U.heap locs (cells + 1 + N * (1 + K)) (slots + N + N * (K + K * B)) ls ⟨hB, hF, ⟨h1, h2, by omega, by omega⟩, ax_S_al hS hz hold, hR2, hl⟩ U rfl X'
  refine ⟨t, step t ?_, q2⟩
  have e9 : (av_r (M.2.2.2.2 + 1) :: S).map (ax_tv G) = Value.ref T.heap.size :: S.map (ax_tv G) := by
    show Value.ref (G.1 + M.2.2.2.2) :: _ = _
    rw [← hR.1, hT]
  rw [e9] at q1
  exact q1
/-- contracts of constructors that make arrays of arrays -/
def ax_PcE (G : ax_G) (M : ax_M) (As : List ax_V) : Array Value → State → Prop := va_Pc (As.map (ax_tv G)) (fun U => (ax_C G U ∧ ax_E G U) ∧ ax_R G M U.heap)
def ax_MetE (l : Launch) (G : ax_G) (k : ax_K) (d c n : Nat) (M : ax_M) (As : List ax_V) (Q : ax_O → ax_M → Prop) : Prop := vx_Met l k.1 (ax_ws k) (ax_rm d c n) (ax_PcE G M As) (ax_Qc G Q) (ax_XC G Q) c n (ax_A G)
theorem ax_blindE {As : List ax_V} : FrameBlind (ax_PcE G M As) := by
  intro a U g mk h
  obtain ⟨h1, ⟨h2, h4⟩, h3⟩ := h
  exact ⟨h1, ⟨ax_C_kept (U := U.calling g mk a) h2 (State.WarmedH.refl U) (Nat.le_refl _) (fun _ _ _ => rfl), ax_E_kept (U := U.calling g mk a) (State.WarmedH.refl U) h4⟩, h3⟩
theorem ax_bodyE {As : List ax_V} (hy : plainName k.1.cls = true) (hn : (ax_sl As).length ≤ k.2.2.1) (kk : ax_W l G k (ax_FE G (ax_FQ G Q)) d c n M 0 (ax_en As k.2.2.1) []) : ax_MetE l G k d c n M As Q := by
  refine vx_ofW (cc := k.2.1) (maxL := k.2.2.1) (ret := k.2.2.2) (ws' := []) hy rfl ?_
  intro p e s m args below meth cd s₁ B hml ht hv
  obtain ⟨rfl, ⟨hC, hE⟩, hR⟩ := hv
  rw [lg_entry_eq]
  exact kk p e _ s m _ below meth cd _ s.heap [] 0 0 _ ⟨⟨B.exec, B.bytes, hml, findClass_of_methodNamed B.named, B.notSynchronized, B.returns, (name_of_methodNamed B.named B.method).1, hC⟩, ⟨⟨rfl, ht⟩, hE⟩, ⟨Nat.le_refl _, Nat.le_refl _, by show 0 + c ≤ c; omega, by show 0 + n ≤ n; omega⟩, va_S.rf, hR, ax_entry hn⟩
theorem ax_ntE {ky : ax_K} {As : List ax_V} (hM : ax_MetE l G ky d c n M As Q) (hx : ∀ E M2, ¬ Q (.inr E) M2) : Met l ky.1 (ax_ws ky) (ax_rm d c n) (ax_PcE G M As) (ax_Qc G Q) c n (ax_A G) := by
  refine MetFree.mono hM (fun _ _ h => h) (fun _ _ _ _ _ h => h) (fun a st o t hp hq => ?_)
  rcases hq with hq | ⟨q, rfl, E, ce, L9, ⟨M2, h1, -⟩, -⟩
  · exact hq
  · exact absurd h1 (hx E M2)
theorem ax_payE {As : List ax_V} {s : State} {H : Heap} {locs : List Loc} (hC : ax_C G s) (hE : ax_E G s) (hS : va_S (ax_A G) s.heap H locs) (hR : ax_R G M H) : ∀ U : State, U.heap = H → s.WarmedH U.vm → ax_PcE G M As (As.map (ax_tv G)).toArray U := fun U hU hW => ⟨rfl, ⟨ax_C_kept hC hW (by rw [hU]; exact hS.1) (fun a h1 h2 => by rw [hU]; exact hS.2.1 a h1 h2), ax_E_kept hW hE⟩, by rw [hU]; exact hR⟩
theorem ax_callIE {ky : ax_K} {nA ix d2 c2 n2 c1 n1 : Nat} {a : Nat} {As : List ax_V} {St : List ax_V} {Q2 : ax_O → ax_M → Prop} (hM : ax_MetE l G ky d2 c2 n2 M (av_r a :: As) Q2) (hd : decode k.2.1 pc = .ok (.invokespecial ix, 3)) (hm : ax_mi ky nA) (hlink : Cond.methodLink k.1.cls ix ky.1 ∈ lw_tbl) (hne : a ≠ 0) (hret : ky.2.2.2 = none) (hA : As.length = nA) (hd2 : d2 + 1 ≤ d) (hc2 : c1 + c2 ≤ c) (hn2 : n1 + n2 ≤ n) (hlow : ax_low S = true) (hSt : St = As.reverse ++ av_r a :: S) (hx : ∀ E M2, ¬ Q2 (.inr E) M2) (kk : ∀ (r : Option ax_V) (M2 : ax_M), Q2 (.inl r) M2 → ax_W l G k (ax_FE G F) d c1 n1 M2 (pc + 3) L (r.toList ++ S)) : ax_W l G k (ax_FE G F) d c n M pc L (St) := by
  intro p e R s m args below meth cd Z H locs cells slots ls h
  obtain ⟨hB, hF, ⟨h1, h2, h3, h4⟩, hS, hR, hl⟩ := h
  obtain ⟨hx1, hb, hml, hown, hlo, hrt, hnm, hC⟩ := id hB
  subst hSt
  cases a with
  | zero => exact absurd rfl hne
  | succ q =>
    have hstk : ((As.reverse ++ av_r (q + 1) :: S).map (ax_tv G)) = (As.map (ax_tv G)).reverse ++ .ref (G.1 + q) :: S.map (ax_tv G) := by
      rw [List.map_append, List.map_reverse]; rfl
    have hrun := ax_va (XC := ax_XC G Q2) (va_runI (Ts := []) (b := G.1 + q) (As := As.map (ax_tv G)) (rest := S.map (ax_tv G)) (locs := locs) (cells := cells) (slots := slots) (l := l) (e := e) (below := below) (meth := meth) (g := F0 m pc ls ((As.reverse ++ av_r (q + 1) :: S).map (ax_tv G))) ⟨hx1, hb, hml, hown, (fun (w : Cond) (hw : w ∈ ([] : List Cond)) => absurd hw List.not_mem_nil)⟩ (ax_ntE hM hx) ⟨by have h9 := ax_callB (k := k) (d := d) (c2 := c2) (n2 := n2) (args := args) (R := R) hC hm.1 hlink h1 h2 hd2; rw [hret] at h9; exact h9, hm.2.2, ax_use hC hm.2.1 rfl⟩ ⟨ax_blindE, ax_payE (As := av_r (q + 1) :: As) hC hF.2 hS hR⟩ rfl (by rw [List.length_map]; exact hA) (hl.1) hstk (lv_room (ax_low_ok hlow)) hd ⟨by omega, by omega⟩)
    refine ax_after (mc := c2) (ms := n2) hrun hS (fun r M2 H1 locs1 hq hR1 hS1 => kk r M2 hq p e R s m args below meth cd Z H1 locs1 _ _ ls ⟨hB, hF, ⟨h1, h2, by omega, by omega⟩, hS1, hR1, hl⟩) (fun E M2 H1 locs1 q9 ce hq hR1 hS1 hce hcv hcl9 => ?_)
    exact absurd hq (hx E M2)
theorem ax_callINE {ky : ax_K} {nA ix d2 c2 n2 c1 n1 : Nat} {a : Nat} {host : String} {As : List ax_V} {St : List ax_V} {Q2 : ax_O → ax_M → Prop} (hM : ax_MetE l G ky d2 c2 n2 M (av_r a :: As) Q2) (hd : decode k.2.1 pc = .ok (.invokespecial ix, 3)) (hm : ax_mi ky nA) (hlink : Cond.methodLinkNest k.1.cls ix ky.1 host ∈ lw_tbl) (hne : a ≠ 0) (hret : ky.2.2.2 = none) (hA : As.length = nA) (hd2 : d2 + 1 ≤ d) (hc2 : c1 + c2 ≤ c) (hn2 : n1 + n2 ≤ n) (hlow : ax_low S = true) (hSt : St = As.reverse ++ av_r a :: S) (hx : ∀ E M2, ¬ Q2 (.inr E) M2) (kk : ∀ (r : Option ax_V) (M2 : ax_M), Q2 (.inl r) M2 → ax_W l G k (ax_FE G F) d c1 n1 M2 (pc + 3) L (r.toList ++ S)) : ax_W l G k (ax_FE G F) d c n M pc L (St) := by
  intro p e R s m args below meth cd Z H locs cells slots ls h
  obtain ⟨hB, hF, ⟨h1, h2, h3, h4⟩, hS, hR, hl⟩ := h
  obtain ⟨hx1, hb, hml, hown, hlo, hrt, hnm, hC⟩ := id hB
  subst hSt
  cases a with
  | zero => exact absurd rfl hne
  | succ q =>
    have hstk : ((As.reverse ++ av_r (q + 1) :: S).map (ax_tv G)) = (As.map (ax_tv G)).reverse ++ .ref (G.1 + q) :: S.map (ax_tv G) := by
      rw [List.map_append, List.map_reverse]; rfl
    have hrun := ax_va (XC := ax_XC G Q2) (va_runIN (Ts := []) (b := G.1 + q) (As := As.map (ax_tv G)) (rest := S.map (ax_tv G)) (locs := locs) (cells := cells) (slots := slots) (l := l) (e := e) (below := below) (meth := meth) (g := F0 m pc ls ((As.reverse ++ av_r (q + 1) :: S).map (ax_tv G))) ⟨hx1, hb, hml, hown, (fun (w : Cond) (hw : w ∈ ([] : List Cond)) => absurd hw List.not_mem_nil)⟩ (ax_ntE hM hx) ⟨by have h9 := ax_callN (k := k) (d := d) (c2 := c2) (n2 := n2) (args := args) (R := R) hC hm.1 hlink h1 h2 hd2; rw [hret] at h9; exact h9, hm.2.2, ax_use hC hm.2.1 rfl⟩ ⟨ax_blindE, ax_payE (As := av_r (q + 1) :: As) hC hF.2 hS hR⟩ rfl (by rw [List.length_map]; exact hA) (hl.1) hstk (lv_room (ax_low_ok hlow)) hd ⟨by omega, by omega⟩)
    refine ax_after (mc := c2) (ms := n2) hrun hS (fun r M2 H1 locs1 hq hR1 hS1 => kk r M2 hq p e R s m args below meth cd Z H1 locs1 _ _ ls ⟨hB, hF, ⟨h1, h2, by omega, by omega⟩, hS1, hR1, hl⟩) (fun E M2 H1 locs1 q9 ce hq hR1 hS1 hce hcv hcl9 => ?_)
    exact absurd hq (hx E M2)
end AXM

