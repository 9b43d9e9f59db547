/-! ===== contracts ===== -/
abbrev ax_O : Type := Option ax_V ⊕ String
def ax_Qc (G : ax_G) (Q : ax_O → ax_M → Prop) : Array Value → State → Outcome → State → Prop := fun _ st o t => ∃ (r : Option ax_V) (M2 : ax_M), o = .returned (r.map (ax_tv G)) ∧ Q (.inl r) M2 ∧ ax_R G M2 t.heap ∧ va_F (ax_A G) st t
def ax_XC (G : ax_G) (Q : ax_O → ax_M → Prop) : String → State → State → Prop := fun E st t => ∃ M2 : ax_M, Q (.inr E) M2 ∧ ax_R G M2 t.heap ∧ va_F (ax_A G) st t
def ax_FQ (G : ax_G) (Q : ax_O → ax_M → Prop) : ax_F := fun _ _ R s _ args below _ cd Z => Z = vx_MQ below (ax_Qc G Q) (ax_XC G Q) args s R.cells R.slots (ax_A G) ∧ ∀ x ∈ cd.exceptionTable.toList, False
def ax_ws (k : ax_K) : List Cond := [Cond.code k.1 k.2.1 k.2.2.1 k.2.2.2]
def ax_rm (d c n : Nat) : Room := { frames := d, cells := c, slots := n, locals := 80 * d }
def ax_Pc (G : ax_G) (M : ax_M) (As : List ax_V) : Array Value → State → Prop := va_Pc (As.map (ax_tv G)) (fun U => ax_C G U ∧ ax_R G M U.heap)
def ax_Met (l : Launch) (G : ax_G) (k : ax_K) (d c n : Nat) (M : ax_M) (As : List ax_V) (Q : ax_O → ax_M → Prop) : Prop := vx_Met l k.1 (ax_ws k) (ax_rm d c n) (ax_Pc G M As) (ax_Qc G Q) (ax_XC G Q) c n (ax_A G)
theorem ax_blind {G : ax_G} {M : ax_M} {As : List ax_V} : FrameBlind (ax_Pc G M As) := by
  intro a U g mk h
  obtain ⟨h1, h2, h3⟩ := h
  exact ⟨h1, ax_C_kept (U := U.calling g mk a) h2 (State.WarmedH.refl U) (Nat.le_refl _) (fun _ _ _ => rfl), h3⟩
def ax_sl (As : List ax_V) : List (Option ax_V) := As.flatMap fun v => match v with
  | .inr (.inl x) => [some (av_l x), none]
  | v => [some v]
def ax_en (As : List ax_V) (nL : Nat) : List (Option ax_V) := ax_sl As ++ List.replicate (nL - (ax_sl As).length) none
theorem ax_sl_cons (v : ax_V) (As : List ax_V) : ax_sl (v :: As) = (match v with
  | .inr (.inl x) => [some (av_l x), none]
  | v => [some v]) ++ ax_sl As := rfl
theorem ax_sl_len {G : ax_G} : ∀ As : List ax_V, (ax_sl As).length = (lg_sl (As.map (ax_tv G))).length
  | [] => rfl
  | v :: As => by
    have ih := ax_sl_len (G := G) As
    rw [ax_sl_cons]
    show _ = (lg_sl (ax_tv G v :: As.map (ax_tv G))).length
    have e : lg_sl (ax_tv G v :: As.map (ax_tv G)) = (if (ax_tv G v).category = 2 then [Slot.val (ax_tv G v), .second] else [.val (ax_tv G v)]) ++ lg_sl (As.map (ax_tv G)) := rfl
    rw [e, List.length_append, List.length_append, ih]
    congr 1
    rcases v with x | x | q | j
    · rfl
    · rfl
    · cases q <;> rfl
    · rfl
theorem ax_sl_at {G : ax_G} : ∀ (As : List ax_V) (i j : Nat) (v : ax_V), (ax_sl As)[j]? = some (some v) → (i + j, ax_tv G v) ∈ lv_args i (As.map (ax_tv G))
  | [], i, j, v, h => by simp [ax_sl] at h
  | u :: As, i, j, v, h => by
    rw [ax_sl_cons] at h
    show (i + j, ax_tv G v) ∈ (i, ax_tv G u) :: lv_args (if (ax_tv G u).category = 2 then i + 2 else i + 1) (As.map (ax_tv G))
    have one : ∀ (hc : (ax_tv G u).category = 1) (_ : ([some u] ++ ax_sl As)[j]? = some (some v)), (i + j, ax_tv G v) ∈ (i, ax_tv G u) :: lv_args (if (ax_tv G u).category = 2 then i + 2 else i + 1) (As.map (ax_tv G)) := by
      intro hc h
      rw [if_neg (by omega)]
      cases j with
      | zero =>
        cases h
        exact List.mem_cons_self
      | succ j =>
        have h2 : (ax_sl As)[j]? = some (some v) := by simpa using h
        have := ax_sl_at (G := G) As (i + 1) j v h2
        rw [show i + (j + 1) = i + 1 + j by omega]
        exact List.mem_cons_of_mem _ this
    rcases u with x | x | q | y
    · exact one rfl h
    · show (i + j, ax_tv G v) ∈ (i, Value.long x) :: lv_args (i + 2) (As.map (ax_tv G))
      cases j with
      | zero =>
        cases h
        exact List.mem_cons_self
      | succ j => cases j with
        | zero => simp at h
        | succ j =>
          have h2 : (ax_sl As)[j]? = some (some v) := by simpa using h
          have := ax_sl_at (G := G) As (i + 2) j v h2
          rw [show i + (j + 1 + 1) = i + 2 + j by omega]
          exact List.mem_cons_of_mem _ this
    · exact one (ax_crf (G := G) q) h
    · exact one rfl h
theorem ax_entry {G : ax_G} {As : List ax_V} {nL : Nat} (hn : (ax_sl As).length ≤ nL) : ax_lh G ((lg_sl (As.map (ax_tv G)) ++ List.replicate (nL - (lg_sl (As.map (ax_tv G))).length) Slot.unset).toArray) nL (ax_en As nL) := by
  have h := lv_entry (As.map (ax_tv G)) (n := nL) (by rw [← ax_sl_len]; exact hn)
  refine ⟨h.1, h.2.1, fun q hq => ?_⟩
  obtain ⟨v, h1, h2⟩ := ax_ll_mem.mp hq
  have h3 : (ax_sl As)[q.1]? = some (some v) := by
    unfold ax_en at h1
    by_cases hlt : q.1 < (ax_sl As).length
    · rwa [List.getElem?_append_left hlt] at h1
    · rw [List.getElem?_append_right (by omega)] at h1
      rw [List.getElem?_replicate] at h1
      split at h1 <;> cases h1
  have h4 := ax_sl_at (G := G) As 0 q.1 v h3
  rw [Nat.zero_add, ← h2] at h4
  exact h.2.2 q h4
theorem ax_body {l : Launch} {G : ax_G} {k : ax_K} {d c n : Nat} {M : ax_M} {As : List ax_V} {Q : ax_O → ax_M → Prop} (hy : plainName k.1.cls = true) (hn : (ax_sl As).length ≤ k.2.2.1) (kk : ax_W l G k (ax_FQ G Q) d c n M 0 (ax_en As k.2.2.1) []) : ax_Met l G k d c n M As Q := by
  refine vx_ofW (cc := k.2.1) (maxL := k.2.2.1) (ret := k.2.2.2) (ws' := []) hy rfl ?_
  intro p e s m args below meth cd s₁ B hml ht hv
  obtain ⟨rfl, hC, hR⟩ := hv
  rw [lg_entry_eq]
  exact kk p e _ s m _ below meth cd _ s.heap [] 0 0 _ ⟨⟨B.exec, B.bytes, hml, findClass_of_methodNamed B.named, B.notSynchronized, B.returns, (name_of_methodNamed B.named B.method).1, hC⟩, ⟨rfl, ht⟩, ⟨Nat.le_refl _, Nat.le_refl _, by show 0 + c ≤ c; omega, by show 0 + n ≤ n; omega⟩, va_S.rf, hR, ax_entry hn⟩
section AXC
variable {l : Launch} {G : ax_G} {k : ax_K} {F : ax_F} {d c n : Nat} {M : ax_M} {pc : Nat} {L : List (Option ax_V)} {S : List ax_V} {Q : ax_O → ax_M → Prop}

theorem ax_iret {x : Int32} (hd : decode k.2.1 pc = .ok (.ireturn, 1)) (hr : k.2.2.2 = some .int) (hq : Q (.inl (some (av_i x))) M) : ax_W l G k (ax_FQ G Q) d c n M pc L [av_i x] := by
  intro p e R s m args below meth cd Z H locs cells slots ls h
  obtain ⟨hB, ⟨rfl, -⟩, ⟨-, -, h3, h4⟩, hS, hR, -⟩ := h
  refine vx_ret (W.widen (k := R.cells) (n := R.slots) (by omega) (by omega) ?_)
  exact W.iret hB.1 hB.2.1 (hB.2.2.2.2.2.1.trans hr) (fun t ht hW => ⟨(some (av_i x)), M, rfl, hq, by rw [ht]; exact hR, hS.F ht⟩) hS.2.2 hd hB.2.2.2.2.1
theorem ax_zret {x : Int32} (hd : decode k.2.1 pc = .ok (.ireturn, 1)) (hr : k.2.2.2 = some .boolean) (hx : x = 0 ∨ x = 1) (hq : Q (.inl (some (av_i x))) M) : ax_W l G k (ax_FQ G Q) d c n M pc L [av_i x] := by
  intro p e R s m args below meth cd Z H locs cells slots ls h
  obtain ⟨hB, ⟨rfl, -⟩, ⟨-, -, h3, h4⟩, hS, hR, -⟩ := h
  refine vx_ret (W.widen (k := R.cells) (n := R.slots) (by omega) (by omega) ?_)
  exact W.zret hB.1 hB.2.1 (hB.2.2.2.2.2.1.trans hr) (by rcases hx with rfl | rfl <;> decide) (fun t ht hW => ⟨(some (av_i x)), M, rfl, hq, by rw [ht]; exact hR, hS.F ht⟩) hS.2.2 hd hB.2.2.2.2.1
theorem ax_lret {x : Int64} (hd : decode k.2.1 pc = .ok (.lreturn, 1)) (hr : k.2.2.2 = some .long) (hq : Q (.inl (some (av_l x))) M) : ax_W l G k (ax_FQ G Q) d c n M pc L [av_l x] := by
  intro p e R s m args below meth cd Z H locs cells slots ls h
  obtain ⟨hB, ⟨rfl, -⟩, ⟨-, -, h3, h4⟩, hS, hR, -⟩ := h
  refine vx_ret (W.widen (k := R.cells) (n := R.slots) (by omega) (by omega) ?_)
  exact W.lret hB.1 hB.2.1 (hB.2.2.2.2.2.1.trans hr) (fun t ht hW => ⟨(some (av_l x)), M, rfl, hq, by rw [ht]; exact hR, hS.F ht⟩) hS.2.2 hd hB.2.2.2.2.1
theorem ax_vret  (hd : decode k.2.1 pc = .ok (.return_, 1)) (hr : k.2.2.2 = none) (hq : Q (.inl none) M) : ax_W l G k (ax_FQ G Q) d c n M pc L [] := by
  intro p e R s m args below meth cd Z H locs cells slots ls h
  obtain ⟨hB, ⟨rfl, -⟩, ⟨-, -, h3, h4⟩, hS, hR, -⟩ := h
  refine vx_ret (W.widen (k := R.cells) (n := R.slots) (by omega) (by omega) ?_)
  exact W.vret hB.1 hB.2.1 (hB.2.2.2.2.2.1.trans hr) (fun t ht hW => ⟨none, M, rfl, hq, by rw [ht]; exact hR, hS.F ht⟩) hS.2.2 hd hB.2.2.2.2.1
theorem ax_aret {x : Nat} {ty : FieldType} (hd : decode k.2.1 pc = .ok (.areturn, 1)) (hr : k.2.2.2 = some ty) (hty : (∃ n, ty = .object n) ∨ ∃ t, ty = .array t) (hq : Q (.inl (some (av_r x))) M) : ax_W l G k (ax_FQ G Q) d c n M pc L [av_r x] := by
  intro p e R s m args below meth cd Z H locs cells slots ls h
  obtain ⟨hB, ⟨rfl, -⟩, ⟨-, -, h3, h4⟩, hS, hR, -⟩ := h
  refine vx_ret (W.widen (k := R.cells) (n := R.slots) (by omega) (by omega) ?_)
  exact W.aret hB.1 hB.2.1 (hB.2.2.2.2.2.1.trans hr) hty (by cases x; exact Or.inl rfl; exact Or.inr ⟨_, rfl⟩) (fun t ht hW => ⟨(some (av_r x)), M, rfl, hq, by rw [ht]; exact hR, hS.F ht⟩) hS.2.2 hd hB.2.2.2.2.1
theorem ax_nt {ky : ax_K} {As : List ax_V} (hM : ax_Met l G ky d c n M As Q) (hx : ∀ E M2, ¬ Q (.inr E) M2) : Met l ky.1 (ax_ws ky) (ax_rm d c n) (ax_Pc G M As) (ax_Qc G Q) c n (ax_A G) := by
  refine MetFree.mono hM (fun _ _ h => h) (fun _ _ _ _ _ h => h) (fun a st o t hp hq => ?_)
  rcases hq with hq | ⟨q, rfl, E, ce, L9, ⟨M2, h1, -⟩, -⟩
  · exact hq
  · exact absurd h1 (hx E M2)
theorem ax_mono {ky : ax_K} {As : List ax_V} {Q2 : ax_O → ax_M → Prop} (hM : ax_Met l G ky d c n M As Q) (hq : ∀ o M2, Q o M2 → Q2 o M2) : ax_Met l G ky d c n M As Q2 := by
  refine MetFree.mono hM (fun _ _ h => h) (fun _ _ _ _ _ h => h) (fun a st o t hp hqq => ?_)
  rcases hqq with ⟨⟨r, M2, h1, h2, h3, h4⟩, h5⟩ | ⟨q, rfl, E, ce, L9, ⟨M2, h1, h2⟩, h3⟩
  · exact Or.inl ⟨⟨r, M2, h1, hq _ _ h2, h3, h4⟩, h5⟩
  · exact Or.inr ⟨q, rfl, E, ce, L9, ⟨M2, hq _ _ h1, h2⟩, h3⟩
section After
variable {p : Program} {e : Env} {R : Room} {s : State} {m : MethodId} {args : Array Value} {below : List Frame} {meth : Method} {cd : Code} {Z : State → Prop} {H : Heap} {locs : List Loc} {cells slots mc ms : Nat} {ls : Array Slot} {a : Array Value}
theorem ax_va {g : JFrame} {rest : List Value} {Qa : State → Outcome → State → Prop} {XC : String → State → State → Prop} {free : Addr → Prop} (h : va_Run p l e R s m args below meth cd H locs cells slots mc ms g rest Qa free) : vx_Run p l e R s m args below meth cd H locs cells slots mc ms g rest Qa XC free := fun T hT X => Or.inl (h T hT X)
theorem ax_after {st : List Value} (hr : vx_Run p l e R s m args below meth cd H locs cells slots mc ms (F0 m pc ls st) (S.map (ax_tv G)) (ax_Qc G Q a) (ax_XC G Q) (ax_A G)) (hS : va_S (ax_A G) s.heap H locs)
    (kk : ∀ (r : Option ax_V) (M2 : ax_M) (H1 : Heap) (locs1 : List Loc), Q (.inl r) M2 → ax_R G M2 H1 → va_S (ax_A G) s.heap H1 locs1 → W p l e R s m args below meth cd H1 locs1 (cells + mc) (slots + ms) Z (F0 m (pc + 3) ls ((r.toList ++ S).map (ax_tv G))))
    (kx : ∀ (E : String) (M2 : ax_M) (H1 : Heap) (locs1 : List Loc) (q : Addr) (ce : Cell), Q (.inr E) M2 → ax_R G M2 H1 → va_S (ax_A G) s.heap H1 locs1 → H1[q]? = some ce → ce.vm = .none → s.vm.findClass E = some ce.cls → vx_W p l e R s m args below meth cd H1 locs1 (cells + mc) (slots + ms) Z (F0 m pc ls (S.map (ax_tv G))) q) : W p l e R s m args below meth cd H locs cells slots Z (F0 m pc ls st) := by
  intro T hT X
  rcases hr T hT X with ⟨v, st₀, t, T', L, h0, X', hL, e1, e2, ⟨r, M2, hv, hq, hR2, hF⟩, st1⟩ | ⟨q, st₀, t, T', L, E, ce, h0, X', hL, e1, e2, ⟨M2, hq, hR2, hF⟩, hce, hcv, hcl, st1⟩
  · obtain ⟨k1, k2, k3⟩ := vx_keep h0 e1 hS (fun _ _ h9 => h9) (fun _ h9 => h9) hL hF
    cases hv
    obtain ⟨t2, a1, b1⟩ := kk r M2 T'.heap (locs ++ L) hq (by rw [e1]; exact hR2) k3 T' rfl X'
    refine ⟨t2, st1 t2 ?_, b1⟩
    cases r <;> exact a1
  · obtain ⟨k1, k2, k3⟩ := vx_keep h0 e1 hS (fun _ _ h9 => h9) (fun _ h9 => h9) hL hF
    obtain ⟨t2, a1, b1⟩ := kx E M2 T'.heap (locs ++ L) q ce hq (by rw [e1]; exact hR2) k3 (by rw [e1]; exact hce) hcv hcl T' rfl X'
    exact ⟨t2, st1.trans a1, b1⟩
end After
/-- what a callee's words say, once a method -/
def ax_mo (ky : ax_K) (nA : Nat) : Prop := Cond.initialized ky.1.cls ∈ lw_tbl ∧ Cond.code ky.1 ky.2.1 ky.2.2.1 ky.2.2.2 ∈ lw_tbl ∧ (ky.1.cls ≠ "java/lang/invoke/MethodHandle" ∧ ky.1.cls ≠ "java/lang/invoke/VarHandle") ∧ (parseMethodDescriptor ky.1.desc).map (fun d => d.parameters.length) = some nA ∧ ky.2.2.1 ≤ 61
def ax_mv (ky : ax_K) (nA : Nat) : Prop := ax_mo ky nA ∧ Cond.instanceMethod ky.1 ∈ lw_tbl ∧ Cond.selects ky.1.cls ky.1 ky.1 ∈ lw_tbl
def ax_ms (ky : ax_K) (nA : Nat) : Prop := ax_mo ky nA ∧ Cond.static ky.1 ∈ lw_tbl
def ax_mi (ky : ax_K) (nA : Nat) : Prop := ax_mo ky nA ∧ Cond.instanceMethod ky.1 ∈ lw_tbl ∧ ky.1.name = "<init>"
theorem ax_sig {ky : ax_K} {nA : Nat} (h : ax_mo ky nA) : ∀ sig, parseMethodDescriptor ky.1.desc = some sig → nA = sig.parameters.length := by
  intro sig hs
  have h2 := h.2.2.2.1
  rw [hs] at h2
  exact (Option.some.inj h2).symm
theorem ax_callB {ky : ax_K} {nA ix d2 c2 n2 : Nat} {R : Room} {s : State} {args : Array Value} (hC : ax_C G s) (hm : ax_mo ky nA) (hlink : Cond.methodLink k.1.cls ix ky.1 ∈ lw_tbl) (h1 : d ≤ R.frames) (h2 : 80 * d ≤ R.locals) (hd : d2 + 1 ≤ d) : CallB R s args k.1.cls ix ky.1 ky.2.1 ky.2.2.1 ky.2.2.2 (ax_ws ky) (ax_rm d2 c2 n2) c2 n2 nA :=
  ⟨rfl, rfl, by show d2 + 1 ≤ R.frames; omega, by have := hm.2.2.2.2; show 8 + (ky.2.2.1 + 11) + 80 * d2 ≤ R.locals; omega, fun w hw a' U hW => by
    cases List.mem_singleton.mp hw
    exact ax_word rfl hW (hC.2.1 _ hm.2.1 rfl), List.mem_singleton.mpr rfl, ax_use hC hm.2.1 rfl, ax_use hC hm.1 rfl, hm.2.2.1, ax_sig hm, ax_use hC hlink rfl⟩
theorem ax_callN {ky : ax_K} {nA ix d2 c2 n2 : Nat} {R : Room} {s : State} {args : Array Value} {host : String} (hC : ax_C G s) (hm : ax_mo ky nA) (hlink : Cond.methodLinkNest k.1.cls ix ky.1 host ∈ lw_tbl) (h1 : d ≤ R.frames) (h2 : 80 * d ≤ R.locals) (hd : d2 + 1 ≤ d) : va_CN R s args k.1.cls ix ky.1 host ky.2.1 ky.2.2.1 ky.2.2.2 (ax_ws ky) (ax_rm d2 c2 n2) c2 n2 nA :=
  ⟨⟨rfl, rfl, by show d2 + 1 ≤ R.frames; omega, by have := hm.2.2.2.2; show 8 + (ky.2.2.1 + 11) + 80 * d2 ≤ R.locals; omega, fun w hw a' U hW => by
    cases List.mem_singleton.mp hw
    exact ax_word rfl hW (hC.2.1 _ hm.2.1 rfl), List.mem_singleton.mpr rfl⟩, ax_use hC hm.2.1 rfl, ax_use hC hm.1 rfl, hm.2.2.1, ax_sig hm, ax_use hC hlink rfl⟩
theorem ax_pay {As : List ax_V} {s : State} {H : Heap} {locs : List Loc} (hC : ax_C G s) (hS : va_S (ax_A G) s.heap H locs) (hR : ax_R G M H) : ∀ U : State, U.heap = H → s.WarmedH U.vm → ax_Pc G M As (As.map (ax_tv G)).toArray U := fun U hU hW => ⟨rfl, ax_C_kept hC hW (by rw [hU]; exact hS.1) (fun a h1 h2 => by rw [hU]; exact hS.2.1 a h1 h2), by rw [hU]; exact hR⟩
theorem ax_recv {ky : ax_K} {ci a : Nat} {s : State} {H : Heap} {T : u_T} {N : Nat} (hC : ax_C G s) (hR : ax_R G M H) (hcl : vwCl[ci]? = some (ky.1.cls, T, N)) (hsh : M.2.2.2.1 (a + 1) = some (.inr ci)) : ∃ cellB : Cell, H[G.1 + a]? = some cellB ∧ cellB.vm.isStatics = false ∧ s.vm.findClass ky.1.cls = some cellB.cls := by
  obtain ⟨hlt, r, hr1, cell, q1, q2, q3, q4⟩ := hR.2.2 a _ hsh
  obtain ⟨hS1, hfc, kC, hkC, hkind⟩ := hC.2.2.1.1 ci _ hcl
  exact ⟨cell, q1, by rw [q3]; rfl, by rw [q2]; exact hfc⟩
def ax_low (S : List ax_V) : Bool := decide ((S.map fun v => match v with
  | .inr (.inl _) => 2
  | _ => 1).sum ≤ 8)
theorem ax_low_ok {S : List ax_V} (h : ax_low S = true) : ((S.map (ax_tv G)).map fun v => v.category).sum ≤ 8 := by
  have e : (S.map (ax_tv G)).map (fun v => v.category) = S.map fun v => match v with
      | .inr (.inl _) => 2
      | _ => 1 := by
    rw [List.map_map]
    apply List.map_congr_left
    intro v _
    rcases v with x | x | q | j
    · rfl
    · rfl
    · cases q <;> rfl
    · rfl
  rw [e]
  exact of_decide_eq_true h

theorem ax_callV {ky : ax_K} {nA ix d2 c2 n2 c1 n1 : Nat} {ci a : Nat} {T : u_T} {N : Nat} {As : List ax_V} {St : List ax_V} {Q2 : ax_O → ax_M → Prop} (hM : ax_Met l G ky d2 c2 n2 M (av_r a :: As) Q2) (hd : decode k.2.1 pc = .ok (.invokevirtual ix, 3)) (hm : ax_mv ky nA) (hlink : Cond.methodLink k.1.cls ix ky.1 ∈ lw_tbl) (hcl : ax_cls ci ky.1.cls T N) (hsh : M.2.2.2.1 a = some (.inr ci)) (hA : As.length = nA) (hd2 : d2 + 1 ≤ d) (hc2 : c1 + c2 ≤ c) (hn2 : n1 + n2 ≤ n) (hlow : ax_low S = true) (hSt : St = As.reverse ++ av_r a :: S) (hx : ∀ E M2, ¬ Q2 (.inr E) M2) (kk : ∀ (r : Option ax_V) (M2 : ax_M), Q2 (.inl r) M2 → ax_W l G k F d c1 n1 M2 (pc + 3) L (r.toList ++ S)) : ax_W l G k F d c n M pc L (St) := by
  intro p e R s m args below meth cd Z H locs cells slots ls h
  obtain ⟨hB, hF, ⟨h1, h2, h3, h4⟩, hS, hR, hl⟩ := h
  obtain ⟨hx1, hb, hml, hown, hlo, hrt, hnm, hC⟩ := id hB
  subst hSt
  cases a with
  | zero => rw [hR.2.1] at hsh; cases hsh
  | succ q =>
    have hstk : ((As.reverse ++ av_r (q + 1) :: S).map (ax_tv G)) = (As.map (ax_tv G)).reverse ++ .ref (G.1 + q) :: S.map (ax_tv G) := by
      rw [List.map_append, List.map_reverse]; rfl
    have hrun := vx_runV (Ts := []) (C := ky.1.cls) (b := G.1 + q) (As := As.map (ax_tv G)) (rest := S.map (ax_tv G)) (locs := locs) (cells := cells) (slots := slots) (l := l) (e := e) (below := below) (meth := meth) (g := F0 m pc ls ((As.reverse ++ av_r (q + 1) :: S).map (ax_tv G))) ⟨hx1, hb, hml, hown, (fun (w : Cond) (hw : w ∈ ([] : List Cond)) => absurd hw List.not_mem_nil)⟩ hM ⟨ax_callB (d := d) (args := args) (R := R) hC hm.1 hlink h1 h2 hd2, ax_use hC hm.2.1 rfl, ax_use hC hm.2.2 rfl⟩ ⟨ax_blind, ax_recv (ky := ky) hC hR hcl.1 hsh, ax_pay (As := av_r (q + 1) :: As) hC hS hR⟩ rfl (by rw [List.length_map]; exact hA) (hl.1) hstk (lv_room (ax_low_ok hlow)) hd ⟨by omega, by omega⟩
    refine ax_after (mc := c2) (ms := n2) hrun hS (fun r M2 H1 locs1 hq hR1 hS1 => kk r M2 hq p e R s m args below meth cd Z H1 locs1 _ _ ls ⟨hB, hF, ⟨h1, h2, by omega, by omega⟩, hS1, hR1, hl⟩) (fun E M2 H1 locs1 q9 ce hq hR1 hS1 hce hcv hcl9 => ?_)
    exact absurd hq (hx E M2)
theorem ax_callVX {ky : ax_K} {nA ix d2 c2 n2 c1 n1 : Nat} {ci a : Nat} {T : u_T} {N : Nat} {As : List ax_V} {St : List ax_V} {Q2 : ax_O → ax_M → Prop} (hM : ax_Met l G ky d2 c2 n2 M (av_r a :: As) Q2) (hd : decode k.2.1 pc = .ok (.invokevirtual ix, 3)) (hm : ax_mv ky nA) (hlink : Cond.methodLink k.1.cls ix ky.1 ∈ lw_tbl) (hcl : ax_cls ci ky.1.cls T N) (hsh : M.2.2.2.1 a = some (.inr ci)) (hA : As.length = nA) (hd2 : d2 + 1 ≤ d) (hc2 : c1 + c2 ≤ c) (hn2 : n1 + n2 ≤ n) (hlow : ax_low S = true) (hSt : St = As.reverse ++ av_r a :: S) (hx : ∀ E M2, Q2 (.inr E) M2 → Q (.inr E) M2) (kk : ∀ (r : Option ax_V) (M2 : ax_M), Q2 (.inl r) M2 → ax_W l G k (ax_FQ G Q) d c1 n1 M2 (pc + 3) L (r.toList ++ S)) : ax_W l G k (ax_FQ G Q) d c n M pc L (St) := by
  intro p e R s m args below meth cd Z H locs cells slots ls h
  obtain ⟨hB, hF, ⟨h1, h2, h3, h4⟩, hS, hR, hl⟩ := h
  obtain ⟨hx1, hb, hml, hown, hlo, hrt, hnm, hC⟩ := id hB
  subst hSt
  cases a with
  | zero => rw [hR.2.1] at hsh; cases hsh
  | succ q =>
    have hstk : ((As.reverse ++ av_r (q + 1) :: S).map (ax_tv G)) = (As.map (ax_tv G)).reverse ++ .ref (G.1 + q) :: S.map (ax_tv G) := by
      rw [List.map_append, List.map_reverse]; rfl
    have hrun := vx_runV (Ts := []) (C := ky.1.cls) (b := G.1 + q) (As := As.map (ax_tv G)) (rest := S.map (ax_tv G)) (locs := locs) (cells := cells) (slots := slots) (l := l) (e := e) (below := below) (meth := meth) (g := F0 m pc ls ((As.reverse ++ av_r (q + 1) :: S).map (ax_tv G))) ⟨hx1, hb, hml, hown, (fun (w : Cond) (hw : w ∈ ([] : List Cond)) => absurd hw List.not_mem_nil)⟩ hM ⟨ax_callB (d := d) (args := args) (R := R) hC hm.1 hlink h1 h2 hd2, ax_use hC hm.2.1 rfl, ax_use hC hm.2.2 rfl⟩ ⟨ax_blind, ax_recv (ky := ky) hC hR hcl.1 hsh, ax_pay (As := av_r (q + 1) :: As) hC hS hR⟩ rfl (by rw [List.length_map]; exact hA) (hl.1) hstk (lv_room (ax_low_ok hlow)) hd ⟨by omega, by omega⟩
    refine ax_after (mc := c2) (ms := n2) hrun hS (fun r M2 H1 locs1 hq hR1 hS1 => kk r M2 hq p e R s m args below meth cd Z H1 locs1 _ _ ls ⟨hB, hF, ⟨h1, h2, by omega, by omega⟩, hS1, hR1, hl⟩) (fun E M2 H1 locs1 q9 ce hq hR1 hS1 hce hcv hcl9 => ?_)
    obtain ⟨rfl, hT⟩ := hF
    exact vx_out (fun x hx9 => absurd (hT x hx9) id) hlo hce hcv hcl9 (fun t ht hal => ⟨M2, hx E M2 hq, by rw [ht]; exact hR1, hS1.F ht⟩) hS1.2.2 (by omega) (by omega)
theorem ax_callVN {ky : ax_K} {nA ix d2 c2 n2 c1 n1 : Nat} {ci a : Nat} {T : u_T} {N : Nat} {host : String} {As : List ax_V} {St : List ax_V} {Q2 : ax_O → ax_M → Prop} (hM : ax_Met l G ky d2 c2 n2 M (av_r a :: As) Q2) (hd : decode k.2.1 pc = .ok (.invokevirtual ix, 3)) (hm : ax_mv ky nA) (hlink : Cond.methodLinkNest k.1.cls ix ky.1 host ∈ lw_tbl) (hcl : ax_cls ci ky.1.cls T N) (hsh : M.2.2.2.1 a = some (.inr ci)) (hA : As.length = nA) (hd2 : d2 + 1 ≤ d) (hc2 : c1 + c2 ≤ c) (hn2 : n1 + n2 ≤ n) (hlow : ax_low S = true) (hSt : St = As.reverse ++ av_r a :: S) (hx : ∀ E M2, ¬ Q2 (.inr E) M2) (kk : ∀ (r : Option ax_V) (M2 : ax_M), Q2 (.inl r) M2 → ax_W l G k F d c1 n1 M2 (pc + 3) L (r.toList ++ S)) : ax_W l G k F d c n M pc L (St) := by
  intro p e R s m args below meth cd Z H locs cells slots ls h
  obtain ⟨hB, hF, ⟨h1, h2, h3, h4⟩, hS, hR, hl⟩ := h
  obtain ⟨hx1, hb, hml, hown, hlo, hrt, hnm, hC⟩ := id hB
  subst hSt
  cases a with
  | zero => rw [hR.2.1] at hsh; cases hsh
  | succ q =>
    have hstk : ((As.reverse ++ av_r (q + 1) :: S).map (ax_tv G)) = (As.map (ax_tv G)).reverse ++ .ref (G.1 + q) :: S.map (ax_tv G) := by
      rw [List.map_append, List.map_reverse]; rfl
    have hrun := ax_va (XC := ax_XC G Q2) (va_runVN (Ts := []) (C := ky.1.cls) (b := G.1 + q) (As := As.map (ax_tv G)) (rest := S.map (ax_tv G)) (locs := locs) (cells := cells) (slots := slots) (l := l) (e := e) (below := below) (meth := meth) (g := F0 m pc ls ((As.reverse ++ av_r (q + 1) :: S).map (ax_tv G))) ⟨hx1, hb, hml, hown, (fun (w : Cond) (hw : w ∈ ([] : List Cond)) => absurd hw List.not_mem_nil)⟩ (ax_nt hM hx) ⟨ax_callN (d := d) (args := args) (R := R) hC hm.1 hlink h1 h2 hd2, ax_use hC hm.2.1 rfl, ax_use hC hm.2.2 rfl⟩ ⟨ax_blind, ax_recv (ky := ky) hC hR hcl.1 hsh, ax_pay (As := av_r (q + 1) :: As) hC hS hR⟩ rfl (by rw [List.length_map]; exact hA) (hl.1) hstk (lv_room (ax_low_ok hlow)) hd ⟨by omega, by omega⟩)
    refine ax_after (mc := c2) (ms := n2) hrun hS (fun r M2 H1 locs1 hq hR1 hS1 => kk r M2 hq p e R s m args below meth cd Z H1 locs1 _ _ ls ⟨hB, hF, ⟨h1, h2, by omega, by omega⟩, hS1, hR1, hl⟩) (fun E M2 H1 locs1 q9 ce hq hR1 hS1 hce hcv hcl9 => ?_)
    exact absurd hq (hx E M2)
theorem ax_callS {ky : ax_K} {nA ix d2 c2 n2 c1 n1 : Nat} {As : List ax_V} {St : List ax_V} {Q2 : ax_O → ax_M → Prop} (hM : ax_Met l G ky d2 c2 n2 M As Q2) (hd : decode k.2.1 pc = .ok (.invokestatic ix, 3)) (hm : ax_ms ky nA) (hlink : Cond.methodLink k.1.cls ix ky.1 ∈ lw_tbl) (hA : As.length = nA) (hd2 : d2 + 1 ≤ d) (hc2 : c1 + c2 ≤ c) (hn2 : n1 + n2 ≤ n) (hlow : ax_low S = true) (hSt : St = As.reverse ++ S) (hx : ∀ E M2, ¬ Q2 (.inr E) M2) (kk : ∀ (r : Option ax_V) (M2 : ax_M), Q2 (.inl r) M2 → ax_W l G k F d c1 n1 M2 (pc + 3) L (r.toList ++ S)) : ax_W l G k F d c n M pc L (St) := by
  intro p e R s m args below meth cd Z H locs cells slots ls h
  obtain ⟨hB, hF, ⟨h1, h2, h3, h4⟩, hS, hR, hl⟩ := h
  obtain ⟨hx1, hb, hml, hown, hlo, hrt, hnm, hC⟩ := id hB
  subst hSt
  have hstk : ((As.reverse ++ S).map (ax_tv G)) = (As.map (ax_tv G)).reverse ++ S.map (ax_tv G) := by
    rw [List.map_append, List.map_reverse]
  have hrun := vx_runS (Ts := []) (As := As.map (ax_tv G)) (rest := S.map (ax_tv G)) (locs := locs) (cells := cells) (slots := slots) (l := l) (e := e) (below := below) (meth := meth) (g := F0 m pc ls ((As.reverse ++ S).map (ax_tv G))) ⟨hx1, hb, hml, hown, (fun (w : Cond) (hw : w ∈ ([] : List Cond)) => absurd hw List.not_mem_nil)⟩ hM ⟨ax_callB (d := d) (args := args) (R := R) hC hm.1 hlink h1 h2 hd2, ax_use hC hm.2 rfl⟩ ⟨ax_blind, ax_pay (As := As) hC hS hR⟩ rfl (by rw [List.length_map]; exact hA) (hl.1) hstk (lv_room (ax_low_ok hlow)) hd ⟨by omega, by omega⟩
  refine ax_after (mc := c2) (ms := n2) hrun hS (fun r M2 H1 locs1 hq hR1 hS1 => kk r M2 hq p e R s m args below meth cd Z H1 locs1 _ _ ls ⟨hB, hF, ⟨h1, h2, by omega, by omega⟩, hS1, hR1, hl⟩) (fun E M2 H1 locs1 q9 ce hq hR1 hS1 hce hcv hcl9 => ?_)
  exact absurd hq (hx E M2)
theorem ax_callI {ky : ax_K} {nA ix d2 c2 n2 c1 n1 : Nat} {a : Nat} {As : List ax_V} {St : List ax_V} {Q2 : ax_O → ax_M → Prop} (hM : ax_Met l G ky d2 c2 n2 M (av_r a :: As) Q2) (hd : decode k.2.1 pc = .ok (.invokespecial ix, 3)) (hm : ax_mi ky nA) (hlink : Cond.methodLink k.1.cls ix ky.1 ∈ lw_tbl) (hne : a ≠ 0) (hret : ky.2.2.2 = none) (hA : As.length = nA) (hd2 : d2 + 1 ≤ d) (hc2 : c1 + c2 ≤ c) (hn2 : n1 + n2 ≤ n) (hlow : ax_low S = true) (hSt : St = As.reverse ++ av_r a :: S) (hx : ∀ E M2, ¬ Q2 (.inr E) M2) (kk : ∀ (r : Option ax_V) (M2 : ax_M), Q2 (.inl r) M2 → ax_W l G k F d c1 n1 M2 (pc + 3) L (r.toList ++ S)) : ax_W l G k F d c n M pc L (St) := by
  intro p e R s m args below meth cd Z H locs cells slots ls h
  obtain ⟨hB, hF, ⟨h1, h2, h3, h4⟩, hS, hR, hl⟩ := h
  obtain ⟨hx1, hb, hml, hown, hlo, hrt, hnm, hC⟩ := id hB
  subst hSt
  cases a with
  | zero => exact absurd rfl hne
  | succ q =>
    have hstk : ((As.reverse ++ av_r (q + 1) :: S).map (ax_tv G)) = (As.map (ax_tv G)).reverse ++ .ref (G.1 + q) :: S.map (ax_tv G) := by
      rw [List.map_append, List.map_reverse]; rfl
    have hrun := ax_va (XC := ax_XC G Q2) (va_runI (Ts := []) (b := G.1 + q) (As := As.map (ax_tv G)) (rest := S.map (ax_tv G)) (locs := locs) (cells := cells) (slots := slots) (l := l) (e := e) (below := below) (meth := meth) (g := F0 m pc ls ((As.reverse ++ av_r (q + 1) :: S).map (ax_tv G))) ⟨hx1, hb, hml, hown, (fun (w : Cond) (hw : w ∈ ([] : List Cond)) => absurd hw List.not_mem_nil)⟩ (ax_nt hM hx) ⟨by have h9 := ax_callB (k := k) (d := d) (c2 := c2) (n2 := n2) (args := args) (R := R) hC hm.1 hlink h1 h2 hd2; rw [hret] at h9; exact h9, hm.2.2, ax_use hC hm.2.1 rfl⟩ ⟨ax_blind, ax_pay (As := av_r (q + 1) :: As) hC hS hR⟩ rfl (by rw [List.length_map]; exact hA) (hl.1) hstk (lv_room (ax_low_ok hlow)) hd ⟨by omega, by omega⟩)
    refine ax_after (mc := c2) (ms := n2) hrun hS (fun r M2 H1 locs1 hq hR1 hS1 => kk r M2 hq p e R s m args below meth cd Z H1 locs1 _ _ ls ⟨hB, hF, ⟨h1, h2, by omega, by omega⟩, hS1, hR1, hl⟩) (fun E M2 H1 locs1 q9 ce hq hR1 hS1 hce hcv hcl9 => ?_)
    exact absurd hq (hx E M2)
theorem ax_callIN {ky : ax_K} {nA ix d2 c2 n2 c1 n1 : Nat} {a : Nat} {host : String} {As : List ax_V} {St : List ax_V} {Q2 : ax_O → ax_M → Prop} (hM : ax_Met l G ky d2 c2 n2 M (av_r a :: As) Q2) (hd : decode k.2.1 pc = .ok (.invokespecial ix, 3)) (hm : ax_mi ky nA) (hlink : Cond.methodLinkNest k.1.cls ix ky.1 host ∈ lw_tbl) (hne : a ≠ 0) (hret : ky.2.2.2 = none) (hA : As.length = nA) (hd2 : d2 + 1 ≤ d) (hc2 : c1 + c2 ≤ c) (hn2 : n1 + n2 ≤ n) (hlow : ax_low S = true) (hSt : St = As.reverse ++ av_r a :: S) (hx : ∀ E M2, ¬ Q2 (.inr E) M2) (kk : ∀ (r : Option ax_V) (M2 : ax_M), Q2 (.inl r) M2 → ax_W l G k F d c1 n1 M2 (pc + 3) L (r.toList ++ S)) : ax_W l G k F d c n M pc L (St) := by
  intro p e R s m args below meth cd Z H locs cells slots ls h
  obtain ⟨hB, hF, ⟨h1, h2, h3, h4⟩, hS, hR, hl⟩ := h
  obtain ⟨hx1, hb, hml, hown, hlo, hrt, hnm, hC⟩ := id hB
  subst hSt
  cases a with
  | zero => exact absurd rfl hne
  | succ q =>
    have hstk : ((As.reverse ++ av_r (q + 1) :: S).map (ax_tv G)) = (As.map (ax_tv G)).reverse ++ .ref (G.1 + q) :: S.map (ax_tv G) := by
      rw [List.map_append, List.map_reverse]; rfl
    have hrun := ax_va (XC := ax_XC G Q2) (va_runIN (Ts := []) (b := G.1 + q) (As := As.map (ax_tv G)) (rest := S.map (ax_tv G)) (locs := locs) (cells := cells) (slots := slots) (l := l) (e := e) (below := below) (meth := meth) (g := F0 m pc ls ((As.reverse ++ av_r (q + 1) :: S).map (ax_tv G))) ⟨hx1, hb, hml, hown, (fun (w : Cond) (hw : w ∈ ([] : List Cond)) => absurd hw List.not_mem_nil)⟩ (ax_nt hM hx) ⟨by have h9 := ax_callN (k := k) (d := d) (c2 := c2) (n2 := n2) (args := args) (R := R) hC hm.1 hlink h1 h2 hd2; rw [hret] at h9; exact h9, hm.2.2, ax_use hC hm.2.1 rfl⟩ ⟨ax_blind, ax_pay (As := av_r (q + 1) :: As) hC hS hR⟩ rfl (by rw [List.length_map]; exact hA) (hl.1) hstk (lv_room (ax_low_ok hlow)) hd ⟨by omega, by omega⟩)
    refine ax_after (mc := c2) (ms := n2) hrun hS (fun r M2 H1 locs1 hq hR1 hS1 => kk r M2 hq p e R s m args below meth cd Z H1 locs1 _ _ ls ⟨hB, hF, ⟨h1, h2, by omega, by omega⟩, hS1, hR1, hl⟩) (fun E M2 H1 locs1 q9 ce hq hR1 hS1 hce hcv hcl9 => ?_)
    exact absurd hq (hx E M2)
end AXC
