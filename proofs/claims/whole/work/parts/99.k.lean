/-! ===== methods with handlers; the law's own rows (its head begins as the kit's skeleton) ===== -/
def R_law : String := "DipLightsLaw"
def lw_P (b : Addr) (xs : List Int32) (args : Array Value) (s : State) : Prop := args = #[.ref b] ∧ s.IntsAt b xs ∧ xs.length ≤ 3072 ∧ (Jvm.Cond.and given_1 narrow_1).before args s = true
def lw_Q (_ : Array Value) (s : State) (o : Outcome) (t : State) : Prop := o = .returned (some (.int 1)) ∧ Framed s o t [] 601024 7293034
def lw_Z (below : List Frame) (a : Array Value) (s : State) : State → Prop := fun t => ∃ o, t.status = .running ∧ Ended t below o ∧ lw_Q a s o t
/-- the law's own end, with 1 on the stack, nothing written that was there before, its room as the claim has it -/
theorem lw_ret {p : Program} {l : Launch} {e : Env} {s : State} {m : MethodId} {below : List Frame} {meth : Method} {c : Code} {b : Nat} (hx : p.tables.exec = Jvm.exec) (hb : c.code = code) (hr : meth.sig.returnType = ret) (hlocks : meth.locks = false) {pc : Nat} {H : Heap} {ls : Array Slot} (hdg : decode code pc = .ok (.ireturn, 1)) : W p l e room_1 s m #[Value.ref b] below meth c H [] 601024 7293034 (lw_Z below #[Value.ref b] s) (F0 m pc ls [.int 1]) := by
  intro T hT X
  obtain ⟨fs, hret, hrun, hended, hW, hframe⟩ := X.leave (v := some (.int 1)) (hlocks := hlocks) (fun h => by rw [hr] at h; cases h)
  have hmeth' : T.vm.method? m = some meth := X.method'
  refine ⟨T.setFrames fs, ?_, .returned (some (.int 1)), hrun, hended, rfl, ⟨_, rfl⟩, hW, hframe⟩
  jvm_step X.here [X.here.top, hx, hb, hdg, hmeth', hr, ret, narrow_b1]
  (try refine ⟨rfl, ?_⟩); (try refine ⟨rfl, ?_⟩)
  first | (intro acts; rw [hret _ acts rfl rfl rfl]) | rw [hret _ _ rfl rfl rfl]
  exact Steps.refl _
/-- what holds at the law's entry: the machine, the code, the tables' words (any of lw_tbl by 'hts w (by decide +kernel)'), the script of L ints xs at the cell b, what the Statement gives of the start (any of its parts by flat_of_before) -/
def lw_At (p : Program) (s : State) (m : MethodId) (meth : Method) (c : Code) (b L : Nat) (xs : Nat → Int32) : Prop :=
  p.tables.exec = Jvm.exec ∧ c.code = code ∧ meth.sig.returnType = ret ∧ c.maxLocals = 8 ∧ s.vm.findClass R_law = some m.cls ∧ (∀ w ∈ lw_tbl, w.before #[Value.ref b] s = true) ∧ va_X b L xs s s.heap ∧ b < s.heap.size ∧ meth.locks = false ∧ (Jvm.Cond.and given_1 narrow_1).before #[Value.ref b] s = true
def hdl (k : ax_K) (h v : Nat) : Prop := (∃ i : Fin 4, decode k.2.1 h = .ok (.astore_n i, 1) ∧ (i : Nat) < k.2.2.1 ∧ decode k.2.1 (h + 1) = .ok (.iconst (v : Int), 1) ∧ decode k.2.1 (h + 2) = .ok (.ireturn, 1)) ∨ (∃ i : Nat, decode k.2.1 h = .ok (.astore i, 2) ∧ i < k.2.2.1 ∧ decode k.2.1 (h + 2) = .ok (.iconst (v : Int), 1) ∧ decode k.2.1 (h + 3) = .ok (.ireturn, 1))
/-- the table's row that takes what is thrown: kind k9, answer v -/
def hco (k : ax_K) (hh : List (Nat × Nat × Nat × Nat)) (pc k9 v : Nat) : Prop := k9 < 3 ∧ v < 4 ∧ ∃ (pre : List ExceptionTableEntry) (x : ExceptionTableEntry) (suf : List ExceptionTableEntry), tableOf hh = pre ++ x :: suf ∧ (∀ z ∈ pre, z.catchType ≠ 0 ∧ ∃ k8, k8 < 3 ∧ k8 ≠ k9 ∧ Cond.classLink k.1.cls z.catchType (cz_n k8) ∈ lw_tbl) ∧ covers x pc = true ∧ x.catchType ≠ 0 ∧ Cond.classLink k.1.cls x.catchType (cz_n k9) ∈ lw_tbl ∧ hdl k x.handlerPc v
def ax_FW (G : ax_G) (Q : ax_O → ax_M → Prop) (hh : List (Nat × Nat × Nat × Nat)) : ax_F := fun _ _ R s _ args below _ cd Z => (Z = vx_MQ below (ax_Qc G Q) (ax_XC G Q) args s R.cells R.slots (ax_A G) ∧ cd.exceptionTable.toList = tableOf hh) ∧ ax_E G s
def ax_wsW (k : ax_K) (hh : List (Nat × Nat × Nat × Nat)) : List Cond := [Cond.codeWith k.1 k.2.1 k.2.2.1 k.2.2.2 hh]
def ax_MetW (l : Launch) (G : ax_G) (k : ax_K) (hh : List (Nat × Nat × Nat × Nat)) (d c n : Nat) (M : ax_M) (As : List ax_V) (Q : ax_O → ax_M → Prop) : Prop := vx_Met l k.1 (ax_wsW k hh) (ax_rm d c n) (ax_PcE G M As) (ax_Qc G Q) (ax_XC G Q) c n (ax_A G)
section AXK
variable {l : Launch} {G : ax_G} {k : ax_K} {F : ax_F} {d c n : Nat} {M : ax_M} {pc : Nat} {L : List (Option ax_V)} {S : List ax_V} {Q : ax_O → ax_M → Prop} {hh : List (Nat × Nat × Nat × Nat)}
theorem ax_bodyW {As : List ax_V} (hy : plainName k.1.cls = true) (hn : (ax_sl As).length ≤ k.2.2.1) (kk : ax_W l G k (ax_FW G Q hh) d c n M 0 (ax_en As k.2.2.1) []) : ax_MetW l G k hh d c n M As Q := by
  refine vx_ofWH (cc := k.2.1) (maxL := k.2.2.1) (ret := k.2.2.2) (hh := hh) (ws' := []) hy rfl ?_
  intro p e s m args below meth cd s₁ B hml hv
  obtain ⟨rfl, ⟨hC, hE⟩, hR⟩ := hv
  have ht := vx_table (x := k.1) B (atoms_spec (ws := ax_wsW k hh) B.pre _ List.mem_cons_self)
  rw [lg_entry_eq]
  exact kk p e _ s m _ below meth cd _ s.heap [] 0 0 _ ⟨⟨B.exec, B.bytes, hml, findClass_of_methodNamed B.named, B.notSynchronized, B.returns, (name_of_methodNamed B.named B.method).1, hC⟩, ⟨⟨rfl, ht⟩, hE⟩, ⟨Nat.le_refl _, Nat.le_refl _, by show 0 + c ≤ c; omega, by show 0 + n ≤ n; omega⟩, va_S.rf, hR, ax_entry hn⟩
theorem ax_iretW {x : Int32} (hd : decode k.2.1 pc = .ok (.ireturn, 1)) (hr : k.2.2.2 = some .int) (hq : Q (.inl (some (av_i x))) M) : ax_W l G k (ax_FW G Q hh) d c n M pc L [av_i x] := by
  intro p e R s m args below meth cd Z H locs cells slots ls h
  obtain ⟨hB, ⟨⟨rfl, -⟩, -⟩, ⟨-, -, h3, h4⟩, hS, hR, -⟩ := h
  refine vx_ret (W.widen (k := R.cells) (n := R.slots) (by omega) (by omega) ?_)
  exact W.iret hB.1 hB.2.1 (hB.2.2.2.2.2.1.trans hr) (fun t ht hW => ⟨(some (av_i x)), M, rfl, hq, by rw [ht]; exact hR, hS.F ht⟩) hS.2.2 hd hB.2.2.2.2.1
section CATCH
variable {p : Program} {e : Env} {R : Room} {s : State} {m : MethodId} {args : Array Value} {below : List Frame} {meth : Method} {cd : Code} {H : Heap} {locs : List Loc} {cells slots : Nat} {Q9 : State → Prop} {ls : Array Slot} {rest : List Value}
theorem ax_catch {own : String} {E : String} {ce : Cell} {q : Addr} (hown : s.vm.findClass own = some m.cls) (pre : List ExceptionTableEntry) (x : ExceptionTableEntry) (suf : List ExceptionTableEntry) (hsplit : cd.exceptionTable.toList = pre ++ x :: suf)
    (hpass : ∀ z ∈ pre, covers z pc = false ∨ (z.catchType ≠ 0 ∧ ∃ nm : String, (Cond.classLink own z.catchType nm).before args s = true ∧ va_Nc E nm s)) (hx : covers x pc = true) (h0 : x.catchType ≠ 0)
    (hlink : (Cond.classLink own x.catchType E).before args s = true) (hself : ∃ c4 : ClassId, s.vm.findClass E = some c4 ∧ s.vm.assignable c4 c4 = true) (hcell : H[q]? = some ce) (hv : ce.vm = .none) (hcl : s.vm.findClass E = some ce.cls)
    (kk : W p l e R s m args below meth cd H locs cells slots Q9 (F0 m x.handlerPc ls [.ref q])) : vx_W p l e R s m args below meth cd H locs cells slots Q9 (F0 m pc ls rest) q := by
  intro T hT X
  have hpl : e.platform.magicAccessors = ({} : Platform).magicAccessors := by rw [X.admits.platform]
  obtain ⟨c4, hc4, hasg⟩ := hself
  have e1 : c4 = ce.cls := Option.some.inj (hc4.symm.trans hcl)
  obtain ⟨c5, hc5, hcl5⟩ := Cond.classLink_spec hown hlink e.platform hpl
  have e2 : c5 = c4 := Option.some.inj (hc5.symm.trans hc4)
  subst e2
  obtain ⟨vm', X', st⟩ := X.thenCaughtThrough q (g := F0 m pc ls rest) rfl (Steps.refl _) (by rw [hT]; exact hcell) (by rw [hv]; rfl) (by obtain ⟨k9, h9, -⟩ := Vm.findClass_spec hcl; exact ⟨k9, h9⟩) pre x suf hsplit
    (fun z hz => by
      rcases hpass z hz with h | ⟨hz0, nm, hl1, hn1⟩
      · exact Or.inl h
      · obtain ⟨c6, hc6, hcl6⟩ := Cond.classLink_spec hown hl1 e.platform hpl
        obtain ⟨a8, b8, h1, h2, h3⟩ := hn1
        cases Option.some.inj (h1.symm.trans hcl)
        cases Option.some.inj (h2.symm.trans hc6)
        exact Or.inr ⟨hz0, _, hcl6, h3⟩) hx (Or.inr ⟨h0, c5, hcl5, by rw [← e1]; exact hasg⟩)
  obtain ⟨t, a1, b1⟩ := kk (T.setVm vm') hT X'
  exact ⟨t, st.trans a1, b1⟩
end CATCH
/-- a call whose throws the method itself takes, answering a number -/
theorem ax_callVH {ky : ax_K} {nA ix d2 c2 n2 c1 n1 : Nat} {ci a : Nat} {T : u_T} {N : Nat} {As : List ax_V} {St : List ax_V} {Q2 : ax_O → ax_M → Prop} (hr9 : k.2.2.2 = some .int) (hM : ax_Met l G ky d2 c2 n2 M (av_r a :: As) Q2) (hd : decode k.2.1 pc = .ok (.invokevirtual ix, 3)) (hm : ax_mv ky nA) (hlink : Cond.methodLink k.1.cls ix ky.1 ∈ lw_tbl) (hcl : ax_cls ci ky.1.cls T N) (hsh : M.2.2.2.1 a = some (.inr ci)) (hA : As.length = nA) (hd2 : d2 + 1 ≤ d) (hc2 : c1 + c2 ≤ c) (hn2 : n1 + n2 ≤ n) (hlow : ax_low S = true) (hSt : St = As.reverse ++ av_r a :: S) (hx : ∀ E M2, Q2 (.inr E) M2 → ∃ k9 v, E = cz_n k9 ∧ hco k hh pc k9 v ∧ Q (.inl (some (av_i (nI v)))) M2) (kk : ∀ (r : Option ax_V) (M2 : ax_M), Q2 (.inl r) M2 → ax_W l G k (ax_FW G Q hh) d c1 n1 M2 (pc + 3) L (r.toList ++ S)) : ax_W l G k (ax_FW G Q hh) d c n M pc L (St) := by
  intro p e R s m args below meth cd Z H locs cells slots ls h
  obtain ⟨hB, hF, ⟨h1, h2, h3, h4⟩, hS, hR, hl⟩ := h
  obtain ⟨hx1, hb, hml, hown, hlo, hrt, hnm, hC⟩ := id hB
  subst hSt
  cases a with
  | zero => rw [hR.2.1] at hsh; cases hsh
  | succ q =>
    have hrecv := ax_recv (ky := ky) hC hR hcl.1 hsh
    have hstk : ((As.reverse ++ av_r (q + 1) :: S).map (ax_tv G)) = (As.map (ax_tv G)).reverse ++ .ref (G.1 + q) :: S.map (ax_tv G) := by
      rw [List.map_append, List.map_reverse]; rfl
    have hrun := vx_runV (Ts := []) (C := ky.1.cls) (b := G.1 + q) (As := As.map (ax_tv G)) (rest := S.map (ax_tv G)) (locs := locs) (cells := cells) (slots := slots) (l := l) (e := e) (below := below) (meth := meth) (g := F0 m pc ls ((As.reverse ++ av_r (q + 1) :: S).map (ax_tv G))) ⟨hx1, hb, hml, hown, (fun (w : Cond) (hw : w ∈ ([] : List Cond)) => absurd hw List.not_mem_nil)⟩ hM ⟨ax_callB (d := d) (args := args) (R := R) hC hm.1 hlink h1 h2 hd2, ax_use hC hm.2.1 rfl, ax_use hC hm.2.2 rfl⟩ ⟨ax_blind, ax_recv (ky := ky) hC hR hcl.1 hsh, ax_pay (As := av_r (q + 1) :: As) hC hS hR⟩ rfl (by rw [List.length_map]; exact hA) (hl.1) hstk (lv_room (ax_low_ok hlow)) hd ⟨by omega, by omega⟩
    refine ax_after (mc := c2) (ms := n2) hrun hS (fun r M2 H1 locs1 hq hR1 hS1 => kk r M2 hq p e R s m args below meth cd Z H1 locs1 _ _ ls ⟨hB, hF, ⟨h1, h2, by omega, by omega⟩, hS1, hR1, hl⟩) (fun E M2 H1 locs1 q9 ce hq hR1 hS1 hce hcv hcl9 => ?_)
    obtain ⟨k9, v, rfl, hco9, hQ⟩ := hx E M2 hq
    obtain ⟨hk9, hv4, pre, x, suf, hsp, hpr, hcov, h0, hlk, hh9⟩ := hco9
    obtain ⟨⟨rfl, htab⟩, hE⟩ := hF
    refine ax_catch hown pre x suf (htab.trans hsp) (fun z hz => ?_) hcov h0 (ax_use hC hlk rfl) ?_ hce hcv hcl9 ?_
    · obtain ⟨hz0, k8, hk8, hne, hl8⟩ := hpr z hz
      refine Or.inr ⟨hz0, cz_n k8, ax_use hC hl8 rfl, ?_⟩
      obtain ⟨cc, tt, g1, g2, g3⟩ := hE.2.2.2 k9 k8 hk9 hk8
      exact ⟨cc, tt, g1, g2, by rw [g3, decide_eq_false (fun z => hne z.symm)]⟩
    · obtain ⟨cc, tt, g1, g2, g3⟩ := hE.2.2.2 k9 k9 hk9 hk9
      have : cc = tt := Option.some.inj (g1.symm.trans g2)
      subst this
      exact ⟨cc, g1, by rw [g3, decide_eq_true rfl]⟩
    · have fin : ∀ (pc9 : Nat) (ls2 : Array Slot), decode k.2.1 pc9 = .ok (.iconst (v : Int), 1) → decode k.2.1 (pc9 + 1) = .ok (.ireturn, 1) → W p l e R s m args below meth cd H1 locs1 (cells + c2) (slots + n2) (vx_MQ below (ax_Qc G Q) (ax_XC G Q) args s R.cells R.slots (ax_A G)) (F0 m pc9 ls2 []) := by
        intro pc9 ls2 d1 d2
        refine lv_iconst (v := nI v) hB.1 hB.2.1 d1 (iI_nI v).symm ?_
        refine vx_ret (W.widen (k := R.cells) (n := R.slots) (by omega) (by omega) ?_)
        exact W.iret hB.1 hB.2.1 (hB.2.2.2.2.2.1.trans hr9) (fun t ht hW => ⟨(some (av_i (nI v))), M2, rfl, hQ, by rw [ht]; exact hR1, hS1.F ht⟩) hS1.2.2 d2 hB.2.2.2.2.1
      rcases hh9 with ⟨i, g1, g2, g3, g4⟩ | ⟨i, g1, g2, g3, g4⟩
      · exact lv_astore_n hB.1 hB.2.1 g1 rfl hl g2 rfl (fun ls2 _ => fin _ ls2 g3 g4)
      · exact lv_astore hB.1 hB.2.1 g1 hl g2 rfl (fun ls2 _ => fin _ ls2 g3 g4)
/-- what a method with handlers is called by -/
def ax_mw (ky : ax_K) (hh : List (Nat × Nat × Nat × Nat)) (nA : Nat) : Prop := Cond.initialized ky.1.cls ∈ lw_tbl ∧ Cond.codeWith ky.1 ky.2.1 ky.2.2.1 ky.2.2.2 hh ∈ lw_tbl ∧ (ky.1.cls ≠ "java/lang/invoke/MethodHandle" ∧ ky.1.cls ≠ "java/lang/invoke/VarHandle") ∧ (parseMethodDescriptor ky.1.desc).map (fun d => d.parameters.length) = some nA ∧ ky.2.2.1 ≤ 61 ∧ Cond.static ky.1 ∈ lw_tbl
theorem ax_callSW {ky : ax_K} {hh2 : List (Nat × Nat × Nat × Nat)} {nA ix d2 c2 n2 c1 n1 : Nat} {As : List ax_V} {St : List ax_V} {Q2 : ax_O → ax_M → Prop} (hM : ax_MetW l G ky hh2 d2 c2 n2 M As Q2) (hd : decode k.2.1 pc = .ok (.invokestatic ix, 3)) (hm : ax_mw ky hh2 nA) (hlink : Cond.methodLink k.1.cls ix ky.1 ∈ lw_tbl) (hA : As.length = nA) (hd2 : d2 + 1 ≤ d) (hc2 : c1 + c2 ≤ c) (hn2 : n1 + n2 ≤ n) (hlow : ax_low S = true) (hSt : St = As.reverse ++ S) (hx : ∀ E M2, ¬ Q2 (.inr E) M2) (kk : ∀ (r : Option ax_V) (M2 : ax_M), Q2 (.inl r) M2 → ax_W l G k (ax_FE G F) d c1 n1 M2 (pc + 3) L (r.toList ++ S)) : ax_W l G k (ax_FE G F) d c n M pc L (St) := by
  intro p e R s m args below meth cd Z H locs cells slots ls h
  obtain ⟨hB, hF, ⟨h1, h2, h3, h4⟩, hS, hR, hl⟩ := h
  obtain ⟨hx1, hb, hml, hown, hlo, hrt, hnm, hC⟩ := id hB
  subst hSt
  have hstk : ((As.reverse ++ S).map (ax_tv G)) = (As.map (ax_tv G)).reverse ++ S.map (ax_tv G) := by
    rw [List.map_append, List.map_reverse]
  have hsig : ∀ sig, parseMethodDescriptor ky.1.desc = some sig → nA = sig.parameters.length := by
    intro sig hs
    have h9 := hm.2.2.2.1
    rw [hs] at h9
    exact (Option.some.inj h9).symm
  have cw : vx_CSW R s args k.1.cls ix ky.1 ky.2.1 ky.2.2.1 ky.2.2.2 hh2 (ax_wsW ky hh2) (ax_rm d2 c2 n2) c2 n2 nA := ⟨⟨rfl, rfl, by show d2 + 1 ≤ R.frames; omega, by have := hm.2.2.2.2.1; show 8 + (ky.2.2.1 + 11) + 80 * d2 ≤ R.locals; omega, fun w hw a' U hW => by
    cases List.mem_singleton.mp hw
    exact ax_word rfl hW (hC.2.1 _ hm.2.1 rfl), List.mem_singleton.mpr rfl⟩, ax_use hC hm.2.1 rfl, ax_use hC hm.1 rfl, hm.2.2.1, hsig, ax_use hC hlink rfl, ax_use hC hm.2.2.2.2.2 rfl⟩
  have hrun := vx_runSX (Ts := []) (As := As.map (ax_tv G)) (rest := S.map (ax_tv G)) (locs := locs) (cells := cells) (slots := slots) (l := l) (e := e) (below := below) (meth := meth) (g := F0 m pc ls ((As.reverse ++ S).map (ax_tv G))) ⟨hx1, hb, hml, hown, (fun (w : Cond) (hw : w ∈ ([] : List Cond)) => absurd hw List.not_mem_nil)⟩ hM cw ⟨ax_blindE, ax_payE (As := As) hC hF.2 hS hR⟩ rfl (by rw [List.length_map]; exact hA) (hl.1) hstk (lv_room (ax_low_ok hlow)) hd ⟨by omega, by omega⟩
  refine ax_after (mc := c2) (ms := n2) hrun hS (fun r M2 H1 locs1 hq hR1 hS1 => kk r M2 hq p e R s m args below meth cd Z H1 locs1 _ _ ls ⟨hB, hF, ⟨h1, h2, by omega, by omega⟩, hS1, hR1, hl⟩) (fun E M2 H1 locs1 q9 ce hq hR1 hS1 hce hcv hcl9 => ?_)
  exact absurd hq (hx E M2)
/-- the law's own frame -/
def ax_FL (G : ax_G) (b N : Nat) (xs : Nat → Int32) : ax_F := fun _ _ R s _ args below _ _ Z => R = room_1 ∧ args = #[Value.ref b] ∧ Z = lw_Z below #[Value.ref b] s ∧ va_X b N xs s s.heap ∧ b < G.1 ∧ G.1 = s.heap.size ∧ G.2.2.2 998 = b
theorem ax_sld {b N : Nat} {xs : Nat → Int32} {i : Int32} (hd : decode k.2.1 pc = .ok (.iaload, 1)) (hin : vp_in i N) (kk : ax_W l G k (ax_FE G (ax_FL G b N xs)) d c n M (pc + 1) L (av_i (xs i.toNatClampNeg) :: S)) : ax_W l G k (ax_FE G (ax_FL G b N xs)) d c n M pc L (av_i i :: av_o 998 :: S) := by
  intro p e R s m args below meth cd Z H locs cells slots ls h
  obtain ⟨hB, hF, hr, hS, hR, hl⟩ := id h
  obtain ⟨⟨rfl, rfl, rfl, hX, hbG, hGs, hGb⟩, hE⟩ := id hF
  have e9 : (av_i i :: av_o 998 :: S).map (ax_tv G) = .int i :: .ref b :: S.map (ax_tv G) := by
    show Value.int i :: Value.ref (G.2.2.2 998) :: _ = _
    rw [hGb]
  rw [e9]
  exact va_sld hB.1 hB.2.1 hX (by omega) (fun z => absurd hbG (Nat.not_lt.mpr z)) hS hin hd (kk p e _ s m _ below meth cd _ H locs cells slots ls h)
theorem ax_slen {b N : Nat} {xs : Nat → Int32} (hd : decode k.2.1 pc = .ok (.arraylength, 1)) (kk : ax_W l G k (ax_FE G (ax_FL G b N xs)) d c n M (pc + 1) L (av_i (nI N) :: S)) : ax_W l G k (ax_FE G (ax_FL G b N xs)) d c n M pc L (av_o 998 :: S) := by
  intro p e R s m args below meth cd Z H locs cells slots ls h
  obtain ⟨hB, hF, hr, hS, hR, hl⟩ := id h
  obtain ⟨⟨rfl, rfl, rfl, hX, hbG, hGs, hGb⟩, hE⟩ := id hF
  have e9 : (av_o 998 :: S).map (ax_tv G) = .ref b :: S.map (ax_tv G) := by
    show Value.ref (G.2.2.2 998) :: _ = _
    rw [hGb]
  rw [e9]
  exact va_slen hB.1 hB.2.1 hX (by omega) (fun z => absurd hbG (Nat.not_lt.mpr z)) hS hd (kk p e _ s m _ below meth cd _ H locs cells slots ls h)
/-- the law's end, with 1 -/
theorem ax_lwret {b N : Nat} {xs : Nat → Int32} (hk : k.2.1 = code) (hk2 : k.2.2.2 = ret) (hd : decode code pc = .ok (.ireturn, 1)) : ax_W l G k (ax_FE G (ax_FL G b N xs)) d c n M pc L [av_i 1] := by
  intro p e R s m args below meth cd Z H locs cells slots ls h
  obtain ⟨hB, ⟨⟨rfl, rfl, rfl, hX, hbG, hGs, hGb⟩, hE⟩, ⟨-, -, h3, h4⟩, hS, hR, -⟩ := h
  refine va_forget (fun q hq => ?_) (W.widen (k := 601024) (n := 7293034) (by have h9 : cells + c ≤ 601024 := h3; omega) (by have h9 : slots + n ≤ 7293034 := h4; omega) ?_)
  · have := hS.2.2 q hq
    rw [← hGs]; exact this
  · exact lw_ret hB.1 (hB.2.1.trans hk) (hB.2.2.2.2.2.1.trans hk2) hB.2.2.2.2.1 hd
end AXK

