/-! ===== what a memory becomes ===== -/
def ax_u2 {α : Type} (f : Nat → Nat → α) (a k : Nat) (x : α) : Nat → Nat → α := fun b j => if b = a ∧ j = k then x else f b j
theorem ax_u2_ne {α : Type} {f : Nat → Nat → α} {a k b : Nat} {x : α} (h : b ≠ a) : ax_u2 f a k x b = f b := by
  funext j
  simp [ax_u2, h]
theorem ax_u2_eq {α : Type} {f : Nat → Nat → α} {a k j : Nat} {x : α} : ax_u2 f a k x a j = if j = k then x else f a j := by
  simp [ax_u2]
def ax_pI (M : ax_M) (a k : Nat) (x : Int32) : ax_M := (ax_u2 M.1 a k x, M.2)
def ax_pR (M : ax_M) (a k : Nat) (x : Nat) : ax_M := (M.1, ax_u2 M.2.1 a k x, M.2.2)
def ax_pL (M : ax_M) (a k : Nat) (x : Int64) : ax_M := (M.1, M.2.1, ax_u2 M.2.2.1 a k x, M.2.2.2)
/-- a new cell of this shape, all nought -/
def ax_new (M : ax_M) (x : (Nat × Nat) ⊕ Nat) : ax_M := (fun b j => if b = M.2.2.2.2 + 1 then 0 else M.1 b j, fun b j => if b = M.2.2.2.2 + 1 then 0 else M.2.1 b j, fun b j => if b = M.2.2.2.2 + 1 then 0 else M.2.2.1 b j, fun b => if b = M.2.2.2.2 + 1 then some x else M.2.2.2.1 b, M.2.2.2.2 + 1)
theorem ax_cell_cong {G : ax_G} {M M2 : ax_M} {n : Nat} {x : (Nat × Nat) ⊕ Nat} {H H1 : Heap} (hv : ∀ kd j, ax_val G M2 (n + 1) kd j = ax_val G M (n + 1) kd j) (hq : H1[G.1 + n]? = H[G.1 + n]?) (h : ax_cell G M n x H) : ax_cell G M2 n x H1 := by
  cases x with
  | inl a =>
    show H1[G.1 + n]? = _
    have e : (fun j => ax_val G M2 (n + 1) a.1 j) = (fun j => ax_val G M (n + 1) a.1 j) := funext fun j => hv _ j
    rw [hq, e]
    exact h
  | inr ci =>
    obtain ⟨r, h1, h2⟩ := h
    refine ⟨r, h1, ?_⟩
    have e : (fun k => ax_val G M2 (n + 1) (ax_fk (ax_ft ci k)) k) = (fun k => ax_val G M (n + 1) (ax_fk (ax_ft ci k)) k) := funext fun j => hv _ j
    rw [e]
    exact h2.kept hq
theorem ax_val_cong {G : ax_G} {M M2 : ax_M} {a : Nat} (h1 : M2.1 a = M.1 a) (h2 : M2.2.1 a = M.2.1 a) (h3 : M2.2.2.1 a = M.2.2.1 a) (kd j : Nat) : ax_val G M2 a kd j = ax_val G M a kd j := by
  unfold ax_val
  split
  · rw [h1]
  · rw [h3]
  · rw [h2]
theorem ax_R_put {G : ax_G} {M M2 : ax_M} {n : Nat} {x : (Nat × Nat) ⊕ Nat} {H H1 : Heap} (hR : ax_R G M H) (hz : H1.size = H.size) (ho : ∀ q, q ≠ G.1 + n → H1[q]? = H[q]?) (hs : M2.2.2.2 = M.2.2.2) (h1 : ∀ a, a ≠ n + 1 → M2.1 a = M.1 a) (h2 : ∀ a, a ≠ n + 1 → M2.2.1 a = M.2.1 a) (h3 : ∀ a, a ≠ n + 1 → M2.2.2.1 a = M.2.2.1 a) (hx : M.2.2.2.1 (n + 1) = some x) (hc : ax_cell G M2 n x H1) : ax_R G M2 H1 := by
  refine ⟨by rw [hz, hs]; exact hR.1, by rw [hs]; exact hR.2.1, fun q y hy => ?_⟩
  rw [hs] at hy ⊢
  obtain ⟨hlt, hcell⟩ := hR.2.2 q y hy
  refine ⟨hlt, ?_⟩
  by_cases e : q = n
  · subst e
    cases Option.some.inj (hx.symm.trans hy)
    exact hc
  · have e1 : q + 1 ≠ n + 1 := by omega
    exact ax_cell_cong (ax_val_cong (h1 _ e1) (h2 _ e1) (h3 _ e1)) (ho _ (by omega)) hcell
theorem ax_S_put {G : ax_G} {H0 H H1 : Heap} {locs : List Loc} {n i : Nat} (hS : va_S (ax_A G) H0 H locs) (hz : H1.size = H.size) (ho : ∀ q, q ≠ G.1 + n → H1[q]? = H[q]?) : va_S (ax_A G) H0 H1 (locs ++ [⟨G.1 + n, i⟩]) := by
  refine ⟨by rw [hz]; exact hS.1, fun q h1 h2 => ?_, fun q hq => ?_⟩
  · rw [ho q (fun e => h2 (by show G.1 ≤ q; omega))]
    exact hS.2.1 q h1 h2
  · rcases List.mem_append.mp hq with h | h
    · exact hS.2.2 q h
    · cases List.mem_singleton.mp h
      show G.1 ≤ G.1 + n
      omega
def ax_cls (ci : Nat) (C : String) (T : u_T) (N : Nat) : Prop := vwCl[ci]? = some (C, T, N) ∧ (∀ w ∈ u_ws C T N, w ∈ lw_tbl ∧ ax_okw w = true) ∧ (∀ k, k < N → parseFieldDescriptor (T k).2.2.1 = some (ax_ft ci k)) ∧ (∀ a, a < N → ∀ b, b < N → a ≠ b → (T a).2.1 ≠ (T b).2.1) ∧ ∀ k, k < N → (T k).1 = C
section AXM
variable {l : Launch} {G : ax_G} {k : ax_K} {F : ax_F} {d c n : Nat} {M : ax_M} {pc : Nat} {L : List (Option ax_V)} {S : List ax_V}

theorem ax_getV {ix ci f a : Nat} {C : String} {T : u_T} {N : Nat} {v : ax_V} (hd : decode k.2.1 pc = .ok (.getfield ix, 3)) (hcl : ax_cls ci C T N) (hlink : Cond.fieldLink k.1.cls ix (T f).1 (T f).2.1 (T f).2.2.1 ∈ lw_tbl) (hf : f < N) (hsh : M.2.2.2.1 a = some (.inr ci)) (hv : ax_val G M a (ax_fk (ax_ft ci f)) f = ax_tv G v) (kk : ax_W l G k F d c n M (pc + 3) L (v :: S)) : ax_W l G k F d c n M pc L (av_r a :: S) := by
  intro p e R s m args below meth cd Z H locs cells slots ls h
  obtain ⟨hB, hF, hr, hS, hR, hl⟩ := id h
  obtain ⟨hx, hb, hml, hown, -, -, -, hC⟩ := id hB
  cases a with
  | zero => rw [hR.2.1] at hsh; cases hsh
  | succ q =>
    obtain ⟨hlt, r, hr1, cell, q1, q2, q3, q4⟩ := hR.2.2 q _ hsh
    cases Option.some.inj (hr1.symm.trans hcl.1)
    obtain ⟨hS1, hfc, kC, hkC, hkind⟩ := hC.2.2.1.1 ci _ hcl.1
    obtain ⟨cf, kf, fi, fd, hi, hsl⟩ := hS1 f hf
    refine W.getf hx hb hown (ax_use hC hlink rfl) hi (u_facts hfc hkC (u_lays (args := args) (fun w hw => ax_use hC (hcl.2.1 w hw).1 (hcl.2.1 w hw).2) (fun _ h9 => h9) hf) hi).1 q1 (by rw [q3]; exact fun h9 => by cases h9) (v := ax_tv G v) ?_ rfl rfl hd (kk p e R s m args below meth cd Z H locs cells slots ls h)
    rw [hsl, q4 f hf]
    exact congrArg some hv
theorem ax_getI {ix ci f a : Nat} {C : String} {T : u_T} {N : Nat} (hd : decode k.2.1 pc = .ok (.getfield ix, 3)) (hcl : ax_cls ci C T N) (hlink : Cond.fieldLink k.1.cls ix (T f).1 (T f).2.1 (T f).2.2.1 ∈ lw_tbl) (hf : f < N) (hk : ax_fk (ax_ft ci f) = 0) (hsh : M.2.2.2.1 a = some (.inr ci)) (kk : ax_W l G k F d c n M (pc + 3) L (av_i (M.1 a f) :: S)) : ax_W l G k F d c n M pc L (av_r a :: S) := ax_getV hd hcl hlink hf hsh (by rw [hk]; rfl) kk
theorem ax_getR {ix ci f a : Nat} {C : String} {T : u_T} {N : Nat} (hd : decode k.2.1 pc = .ok (.getfield ix, 3)) (hcl : ax_cls ci C T N) (hlink : Cond.fieldLink k.1.cls ix (T f).1 (T f).2.1 (T f).2.2.1 ∈ lw_tbl) (hf : f < N) (hk : ax_fk (ax_ft ci f) = 2) (hsh : M.2.2.2.1 a = some (.inr ci)) (kk : ax_W l G k F d c n M (pc + 3) L (av_r (M.2.1 a f) :: S)) : ax_W l G k F d c n M pc L (av_r a :: S) := ax_getV hd hcl hlink hf hsh (by rw [hk]; rfl) kk
theorem ax_getL {ix ci f a : Nat} {C : String} {T : u_T} {N : Nat} (hd : decode k.2.1 pc = .ok (.getfield ix, 3)) (hcl : ax_cls ci C T N) (hlink : Cond.fieldLink k.1.cls ix (T f).1 (T f).2.1 (T f).2.2.1 ∈ lw_tbl) (hf : f < N) (hk : ax_fk (ax_ft ci f) = 1) (hsh : M.2.2.2.1 a = some (.inr ci)) (kk : ax_W l G k F d c n M (pc + 3) L (av_l (M.2.2.1 a f) :: S)) : ax_W l G k F d c n M pc L (av_r a :: S) := ax_getV hd hcl hlink hf hsh (by rw [hk]; rfl) kk
theorem ax_getVN {ix ci f a : Nat} {C : String} {T : u_T} {N : Nat} {hst9 : String} {v : ax_V} (hd : decode k.2.1 pc = .ok (.getfield ix, 3)) (hcl : ax_cls ci C T N) (hlink : Cond.fieldLinkNest k.1.cls ix (T f).1 (T f).2.1 (T f).2.2.1 hst9 ∈ lw_tbl) (hf : f < N) (hsh : M.2.2.2.1 a = some (.inr ci)) (hv : ax_val G M a (ax_fk (ax_ft ci f)) f = ax_tv G v) (kk : ax_W l G k F d c n M (pc + 3) L (v :: S)) : ax_W l G k F d c n M pc L (av_r a :: S) := by
  intro p e R s m args below meth cd Z H locs cells slots ls h
  obtain ⟨hB, hF, hr, hS, hR, hl⟩ := id h
  obtain ⟨hx, hb, hml, hown, -, -, -, hC⟩ := id hB
  cases a with
  | zero => rw [hR.2.1] at hsh; cases hsh
  | succ q =>
    obtain ⟨hlt, r, hr1, cell, q1, q2, q3, q4⟩ := hR.2.2 q _ hsh
    cases Option.some.inj (hr1.symm.trans hcl.1)
    obtain ⟨hS1, hfc, kC, hkC, hkind⟩ := hC.2.2.1.1 ci _ hcl.1
    obtain ⟨cf, kf, fi, fd, hi, hsl⟩ := hS1 f hf
    refine va_Wgetf hx hb hown (ax_use hC hlink rfl) hi (u_facts hfc hkC (u_lays (args := args) (fun w hw => ax_use hC (hcl.2.1 w hw).1 (hcl.2.1 w hw).2) (fun _ h9 => h9) hf) hi).1 q1 (by rw [q3]; exact fun h9 => by cases h9) (v := ax_tv G v) ?_ rfl rfl hd (kk p e R s m args below meth cd Z H locs cells slots ls h)
    rw [hsl, q4 f hf]
    exact congrArg some hv
theorem ax_getIN {ix ci f a : Nat} {C : String} {T : u_T} {N : Nat} {hst9 : String} (hd : decode k.2.1 pc = .ok (.getfield ix, 3)) (hcl : ax_cls ci C T N) (hlink : Cond.fieldLinkNest k.1.cls ix (T f).1 (T f).2.1 (T f).2.2.1 hst9 ∈ lw_tbl) (hf : f < N) (hk : ax_fk (ax_ft ci f) = 0) (hsh : M.2.2.2.1 a = some (.inr ci)) (kk : ax_W l G k F d c n M (pc + 3) L (av_i (M.1 a f) :: S)) : ax_W l G k F d c n M pc L (av_r a :: S) := ax_getVN hd hcl hlink hf hsh (by rw [hk]; rfl) kk
theorem ax_getRN {ix ci f a : Nat} {C : String} {T : u_T} {N : Nat} {hst9 : String} (hd : decode k.2.1 pc = .ok (.getfield ix, 3)) (hcl : ax_cls ci C T N) (hlink : Cond.fieldLinkNest k.1.cls ix (T f).1 (T f).2.1 (T f).2.2.1 hst9 ∈ lw_tbl) (hf : f < N) (hk : ax_fk (ax_ft ci f) = 2) (hsh : M.2.2.2.1 a = some (.inr ci)) (kk : ax_W l G k F d c n M (pc + 3) L (av_r (M.2.1 a f) :: S)) : ax_W l G k F d c n M pc L (av_r a :: S) := ax_getVN hd hcl hlink hf hsh (by rw [hk]; rfl) kk
theorem ax_getLN {ix ci f a : Nat} {C : String} {T : u_T} {N : Nat} {hst9 : String} (hd : decode k.2.1 pc = .ok (.getfield ix, 3)) (hcl : ax_cls ci C T N) (hlink : Cond.fieldLinkNest k.1.cls ix (T f).1 (T f).2.1 (T f).2.2.1 hst9 ∈ lw_tbl) (hf : f < N) (hk : ax_fk (ax_ft ci f) = 1) (hsh : M.2.2.2.1 a = some (.inr ci)) (kk : ax_W l G k F d c n M (pc + 3) L (av_l (M.2.2.1 a f) :: S)) : ax_W l G k F d c n M pc L (av_r a :: S) := ax_getVN hd hcl hlink hf hsh (by rw [hk]; rfl) kk
theorem ax_setcell {V : Nat → Value} {a : Nat} (f : Nat) (v : Value) (h : ∀ j, V j = if j = f then v else ax_val G M (a + 1) (ax_fk (ax_ft c j)) j) : updV (fun j => ax_val G M (a + 1) (ax_fk (ax_ft c j)) j) f v = V := by
  funext j
  rw [h j]
  rfl
theorem ax_putI {ix ci f a : Nat} {x : Int32} {C : String} {T : u_T} {N : Nat} (hd : decode k.2.1 pc = .ok (.putfield ix, 3)) (hcl : ax_cls ci C T N) (hlink : Cond.fieldLink k.1.cls ix (T f).1 (T f).2.1 (T f).2.2.1 ∈ lw_tbl) (hf : f < N) (hk : ax_fk (ax_ft ci f) = 0) (hfin : (T f).2.2.2 = false) (hnf : narrow (ax_ft ci f) (ax_tv G (av_i x)) = ax_tv G (av_i x) ∧ fits (ax_ft ci f) (ax_tv G (av_i x)) = true) (hsh : M.2.2.2.1 a = some (.inr ci)) (kk : ax_W l G k F d c n (ax_pI M a f x) (pc + 3) L (S)) : ax_W l G k F d c n M pc L (av_i x :: av_r a :: S) := by
  intro p e R s m args below meth cd Z H locs cells slots ls h
  obtain ⟨hB, hF, hr, hS, hR, hl⟩ := id h
  obtain ⟨hx, hb, hml, hown, hlo, hrt, hnm, hC⟩ := id hB
  cases a with
  | zero => rw [hR.2.1] at hsh; cases hsh
  | succ q =>
    obtain ⟨hlt, r, hr1, cell, q1, q2, q3, q4⟩ := hR.2.2 q _ hsh
    cases Option.some.inj (hr1.symm.trans hcl.1)
    have hts : ∀ w ∈ u_ws C T N, w.before args s = true := fun w hw => ax_use hC (hcl.2.1 w hw).1 (hcl.2.1 w hw).2
    have hap := va_apart (own := C) hts (fun _ h9 => h9) (ax_ft ci) hcl.2.2.1 hcl.2.2.2.1 hC.2.2.1 hcl.1
    obtain ⟨hS1, hfc, kC, hkC, hkind⟩ := hC.2.2.1.1 ci _ hcl.1
    obtain ⟨cf, kf, fi, fd, hi, hsl⟩ := hS1 f hf
    have hlay := hts _ (u_in_lay hf)
    unfold u_lay at hlay
    rw [if_neg (by rw [hfin]; decide)] at hlay
    have hst := (u_facts hfc hkC (u_lays (args := args) hts (fun _ h9 => h9) hf) hi).1
    have h6 := u_store hfc hkC hkind hlay hi (hcl.2.2.1 f hf) hnf.1 hnf.2
    refine W.putK hx hb (f := fd) ⟨hown, ax_use hC hlink rfl, ⟨_, _, _, hi⟩, hst⟩ (by rw [q2]; exact h6) q1 q3 (by rw [hsl]; exact k2_hasslot (q4 f hf)) rfl rfl hd fun H1 e1 e2 e3 => ?_
    rw [hsl] at e1 ⊢
    have hcell : ax_cell G (ax_pI M (q + 1) f x) q (.inr ci) H1 := by
      refine ⟨_, hcl.1, t_OB.to (V := updV (fun j => ax_val G M (q + 1) (ax_fk (ax_ft ci j)) j) f (ax_tv G (av_i x))) ⟨_, e1, q2, q3, t_set q4 hap hf (ax_tv G (av_i x))⟩ (fun j _ => ?_)⟩
      by_cases e9 : j = f
      · subst e9
        simp only [updV, if_true]
        rw [hk]
        show ax_tv G (av_i x) = ax_tv G (av_i ((ax_pI M (q + 1) j x).1 (q + 1) j))
        congr 2
        simp [ax_pI, ax_u2]
      · simp only [updV, if_neg e9]
        unfold ax_val
        split <;> first | rfl | (congr 1; simp [ax_pI, ax_u2, e9])
    exact kk p e R s m args below meth cd Z H1 _ cells slots ls ⟨hB, hF, hr, ax_S_put hS e2 e3, ax_R_put hR e2 e3 rfl (fun a9 h9 => ax_u2_ne h9) (fun _ _ => rfl) (fun _ _ => rfl) hsh hcell, hl⟩
theorem ax_putR {ix ci f a : Nat} {x : Nat} {C : String} {T : u_T} {N : Nat} (hd : decode k.2.1 pc = .ok (.putfield ix, 3)) (hcl : ax_cls ci C T N) (hlink : Cond.fieldLink k.1.cls ix (T f).1 (T f).2.1 (T f).2.2.1 ∈ lw_tbl) (hf : f < N) (hk : ax_fk (ax_ft ci f) = 2) (hfin : (T f).2.2.2 = false) (hnf : narrow (ax_ft ci f) (ax_tv G (av_r x)) = ax_tv G (av_r x) ∧ fits (ax_ft ci f) (ax_tv G (av_r x)) = true) (hsh : M.2.2.2.1 a = some (.inr ci)) (kk : ax_W l G k F d c n (ax_pR M a f x) (pc + 3) L (S)) : ax_W l G k F d c n M pc L (av_r x :: av_r a :: S) := by
  intro p e R s m args below meth cd Z H locs cells slots ls h
  obtain ⟨hB, hF, hr, hS, hR, hl⟩ := id h
  obtain ⟨hx, hb, hml, hown, hlo, hrt, hnm, hC⟩ := id hB
  cases a with
  | zero => rw [hR.2.1] at hsh; cases hsh
  | succ q =>
    obtain ⟨hlt, r, hr1, cell, q1, q2, q3, q4⟩ := hR.2.2 q _ hsh
    cases Option.some.inj (hr1.symm.trans hcl.1)
    have hts : ∀ w ∈ u_ws C T N, w.before args s = true := fun w hw => ax_use hC (hcl.2.1 w hw).1 (hcl.2.1 w hw).2
    have hap := va_apart (own := C) hts (fun _ h9 => h9) (ax_ft ci) hcl.2.2.1 hcl.2.2.2.1 hC.2.2.1 hcl.1
    obtain ⟨hS1, hfc, kC, hkC, hkind⟩ := hC.2.2.1.1 ci _ hcl.1
    obtain ⟨cf, kf, fi, fd, hi, hsl⟩ := hS1 f hf
    have hlay := hts _ (u_in_lay hf)
    unfold u_lay at hlay
    rw [if_neg (by rw [hfin]; decide)] at hlay
    have hst := (u_facts hfc hkC (u_lays (args := args) hts (fun _ h9 => h9) hf) hi).1
    have h6 := u_store hfc hkC hkind hlay hi (hcl.2.2.1 f hf) hnf.1 hnf.2
    refine W.putK hx hb (f := fd) ⟨hown, ax_use hC hlink rfl, ⟨_, _, _, hi⟩, hst⟩ (by rw [q2]; exact h6) q1 q3 (by rw [hsl]; exact k2_hasslot (q4 f hf)) rfl rfl hd fun H1 e1 e2 e3 => ?_
    rw [hsl] at e1 ⊢
    have hcell : ax_cell G (ax_pR M (q + 1) f x) q (.inr ci) H1 := by
      refine ⟨_, hcl.1, t_OB.to (V := updV (fun j => ax_val G M (q + 1) (ax_fk (ax_ft ci j)) j) f (ax_tv G (av_r x))) ⟨_, e1, q2, q3, t_set q4 hap hf (ax_tv G (av_r x))⟩ (fun j _ => ?_)⟩
      by_cases e9 : j = f
      · subst e9
        simp only [updV, if_true]
        rw [hk]
        show ax_tv G (av_r x) = ax_tv G (av_r ((ax_pR M (q + 1) j x).2.1 (q + 1) j))
        congr 2
        simp [ax_pR, ax_u2]
      · simp only [updV, if_neg e9]
        unfold ax_val
        split <;> first | rfl | (congr 1; simp [ax_pR, ax_u2, e9])
    exact kk p e R s m args below meth cd Z H1 _ cells slots ls ⟨hB, hF, hr, ax_S_put hS e2 e3, ax_R_put hR e2 e3 rfl (fun _ _ => rfl) (fun a9 h9 => ax_u2_ne h9) (fun _ _ => rfl) hsh hcell, hl⟩
theorem ax_putIN {ix ci f a : Nat} {x : Int32} {C : String} {T : u_T} {N : Nat} {hst9 : String} (hd : decode k.2.1 pc = .ok (.putfield ix, 3)) (hcl : ax_cls ci C T N) (hlink : Cond.fieldLinkNest k.1.cls ix (T f).1 (T f).2.1 (T f).2.2.1 hst9 ∈ lw_tbl) (hf : f < N) (hk : ax_fk (ax_ft ci f) = 0) (hfin : (T f).2.2.2 = false) (hnf : narrow (ax_ft ci f) (ax_tv G (av_i x)) = ax_tv G (av_i x) ∧ fits (ax_ft ci f) (ax_tv G (av_i x)) = true) (hsh : M.2.2.2.1 a = some (.inr ci)) (kk : ax_W l G k F d c n (ax_pI M a f x) (pc + 3) L (S)) : ax_W l G k F d c n M pc L (av_i x :: av_r a :: S) := by
  intro p e R s m args below meth cd Z H locs cells slots ls h
  obtain ⟨hB, hF, hr, hS, hR, hl⟩ := id h
  obtain ⟨hx, hb, hml, hown, hlo, hrt, hnm, hC⟩ := id hB
  cases a with
  | zero => rw [hR.2.1] at hsh; cases hsh
  | succ q =>
    obtain ⟨hlt, r, hr1, cell, q1, q2, q3, q4⟩ := hR.2.2 q _ hsh
    cases Option.some.inj (hr1.symm.trans hcl.1)
    have hts : ∀ w ∈ u_ws C T N, w.before args s = true := fun w hw => ax_use hC (hcl.2.1 w hw).1 (hcl.2.1 w hw).2
    have hap := va_apart (own := C) hts (fun _ h9 => h9) (ax_ft ci) hcl.2.2.1 hcl.2.2.2.1 hC.2.2.1 hcl.1
    obtain ⟨hS1, hfc, kC, hkC, hkind⟩ := hC.2.2.1.1 ci _ hcl.1
    obtain ⟨cf, kf, fi, fd, hi, hsl⟩ := hS1 f hf
    have hlay := hts _ (u_in_lay hf)
    unfold u_lay at hlay
    rw [if_neg (by rw [hfin]; decide)] at hlay
    have hst := (u_facts hfc hkC (u_lays (args := args) hts (fun _ h9 => h9) hf) hi).1
    have h6 := u_store hfc hkC hkind hlay hi (hcl.2.2.1 f hf) hnf.1 hnf.2
    refine va_WputK hx hb (f := fd) hown (ax_use hC hlink rfl) hi hst (by rw [q2]; exact h6) q1 q3 (by rw [hsl]; exact k2_hasslot (q4 f hf)) rfl rfl hd fun H1 e1 e2 e3 => ?_
    rw [hsl] at e1 ⊢
    have hcell : ax_cell G (ax_pI M (q + 1) f x) q (.inr ci) H1 := by
      refine ⟨_, hcl.1, t_OB.to (V := updV (fun j => ax_val G M (q + 1) (ax_fk (ax_ft ci j)) j) f (ax_tv G (av_i x))) ⟨_, e1, q2, q3, t_set q4 hap hf (ax_tv G (av_i x))⟩ (fun j _ => ?_)⟩
      by_cases e9 : j = f
      · subst e9
        simp only [updV, if_true]
        rw [hk]
        show ax_tv G (av_i x) = ax_tv G (av_i ((ax_pI M (q + 1) j x).1 (q + 1) j))
        congr 2
        simp [ax_pI, ax_u2]
      · simp only [updV, if_neg e9]
        unfold ax_val
        split <;> first | rfl | (congr 1; simp [ax_pI, ax_u2, e9])
    exact kk p e R s m args below meth cd Z H1 _ cells slots ls ⟨hB, hF, hr, ax_S_put hS e2 e3, ax_R_put hR e2 e3 rfl (fun a9 h9 => ax_u2_ne h9) (fun _ _ => rfl) (fun _ _ => rfl) hsh hcell, hl⟩
theorem ax_putRN {ix ci f a : Nat} {x : Nat} {C : String} {T : u_T} {N : Nat} {hst9 : String} (hd : decode k.2.1 pc = .ok (.putfield ix, 3)) (hcl : ax_cls ci C T N) (hlink : Cond.fieldLinkNest k.1.cls ix (T f).1 (T f).2.1 (T f).2.2.1 hst9 ∈ lw_tbl) (hf : f < N) (hk : ax_fk (ax_ft ci f) = 2) (hfin : (T f).2.2.2 = false) (hnf : narrow (ax_ft ci f) (ax_tv G (av_r x)) = ax_tv G (av_r x) ∧ fits (ax_ft ci f) (ax_tv G (av_r x)) = true) (hsh : M.2.2.2.1 a = some (.inr ci)) (kk : ax_W l G k F d c n (ax_pR M a f x) (pc + 3) L (S)) : ax_W l G k F d c n M pc L (av_r x :: av_r a :: S) := by
  intro p e R s m args below meth cd Z H locs cells slots ls h
  obtain ⟨hB, hF, hr, hS, hR, hl⟩ := id h
  obtain ⟨hx, hb, hml, hown, hlo, hrt, hnm, hC⟩ := id hB
  cases a with
  | zero => rw [hR.2.1] at hsh; cases hsh
  | succ q =>
    obtain ⟨hlt, r, hr1, cell, q1, q2, q3, q4⟩ := hR.2.2 q _ hsh
    cases Option.some.inj (hr1.symm.trans hcl.1)
    have hts : ∀ w ∈ u_ws C T N, w.before args s = true := fun w hw => ax_use hC (hcl.2.1 w hw).1 (hcl.2.1 w hw).2
    have hap := va_apart (own := C) hts (fun _ h9 => h9) (ax_ft ci) hcl.2.2.1 hcl.2.2.2.1 hC.2.2.1 hcl.1
    obtain ⟨hS1, hfc, kC, hkC, hkind⟩ := hC.2.2.1.1 ci _ hcl.1
    obtain ⟨cf, kf, fi, fd, hi, hsl⟩ := hS1 f hf
    have hlay := hts _ (u_in_lay hf)
    unfold u_lay at hlay
    rw [if_neg (by rw [hfin]; decide)] at hlay
    have hst := (u_facts hfc hkC (u_lays (args := args) hts (fun _ h9 => h9) hf) hi).1
    have h6 := u_store hfc hkC hkind hlay hi (hcl.2.2.1 f hf) hnf.1 hnf.2
    refine va_WputK hx hb (f := fd) hown (ax_use hC hlink rfl) hi hst (by rw [q2]; exact h6) q1 q3 (by rw [hsl]; exact k2_hasslot (q4 f hf)) rfl rfl hd fun H1 e1 e2 e3 => ?_
    rw [hsl] at e1 ⊢
    have hcell : ax_cell G (ax_pR M (q + 1) f x) q (.inr ci) H1 := by
      refine ⟨_, hcl.1, t_OB.to (V := updV (fun j => ax_val G M (q + 1) (ax_fk (ax_ft ci j)) j) f (ax_tv G (av_r x))) ⟨_, e1, q2, q3, t_set q4 hap hf (ax_tv G (av_r x))⟩ (fun j _ => ?_)⟩
      by_cases e9 : j = f
      · subst e9
        simp only [updV, if_true]
        rw [hk]
        show ax_tv G (av_r x) = ax_tv G (av_r ((ax_pR M (q + 1) j x).2.1 (q + 1) j))
        congr 2
        simp [ax_pR, ax_u2]
      · simp only [updV, if_neg e9]
        unfold ax_val
        split <;> first | rfl | (congr 1; simp [ax_pR, ax_u2, e9])
    exact kk p e R s m args below meth cd Z H1 _ cells slots ls ⟨hB, hF, hr, ax_S_put hS e2 e3, ax_R_put hR e2 e3 rfl (fun _ _ => rfl) (fun a9 h9 => ax_u2_ne h9) (fun _ _ => rfl) hsh hcell, hl⟩
theorem ax_putIF {ix ci f a : Nat} {x : Int32} {C : String} {T : u_T} {N : Nat} (hd : decode k.2.1 pc = .ok (.putfield ix, 3)) (hcl : ax_cls ci C T N) (hlink : Cond.fieldLink k.1.cls ix (T f).1 (T f).2.1 (T f).2.2.1 ∈ lw_tbl) (hf : f < N) (hk : ax_fk (ax_ft ci f) = 0) (hfin : (T f).2.2.2 = true) (hini : k.1.name = "<init>") (hoc : k.1.cls = C) (hnf : narrow (ax_ft ci f) (ax_tv G (av_i x)) = ax_tv G (av_i x) ∧ fits (ax_ft ci f) (ax_tv G (av_i x)) = true) (hsh : M.2.2.2.1 a = some (.inr ci)) (kk : ax_W l G k F d c n (ax_pI M a f x) (pc + 3) L (S)) : ax_W l G k F d c n M pc L (av_i x :: av_r a :: S) := by
  intro p e R s m args below meth cd Z H locs cells slots ls h
  obtain ⟨hB, hF, hr, hS, hR, hl⟩ := id h
  obtain ⟨hx, hb, hml, hown, hlo, hrt, hnm, hC⟩ := id hB
  cases a with
  | zero => rw [hR.2.1] at hsh; cases hsh
  | succ q =>
    obtain ⟨hlt, r, hr1, cell, q1, q2, q3, q4⟩ := hR.2.2 q _ hsh
    cases Option.some.inj (hr1.symm.trans hcl.1)
    have hts : ∀ w ∈ u_ws C T N, w.before args s = true := fun w hw => ax_use hC (hcl.2.1 w hw).1 (hcl.2.1 w hw).2
    have hap := va_apart (own := C) hts (fun _ h9 => h9) (ax_ft ci) hcl.2.2.1 hcl.2.2.2.1 hC.2.2.1 hcl.1
    obtain ⟨hS1, hfc, kC, hkC, hkind⟩ := hC.2.2.1.1 ci _ hcl.1
    obtain ⟨cf, kf, fi, fd, hi, hsl⟩ := hS1 f hf
    have hlay := hts _ (u_in_lay hf)
    unfold u_lay at hlay
    rw [if_pos hfin] at hlay
    have hst := (u_facts hfc hkC (u_lays (args := args) hts (fun _ h9 => h9) hf) hi).1
    have hcf : m.cls = cf := by
      obtain ⟨_, _, c9, _, _, _, -, -, hf9, -, -, -, hown2, -⟩ := Cond.laysFinal_spec hlay
      have e1 : c9 = cf := by have := hi.symm.trans hf9; simp at this; exact this.1.symm
      rw [hcl.2.2.2.2 f hf, ← hoc] at hown2
      rw [← e1]; exact Option.some.inj (hown.symm.trans hown2)
    have h6 := u_fits hfc hkC hkind (Or.inr hlay) hi (hcl.2.2.1 f hf) hnf.1 hnf.2
    refine W.putFinK hx hb hown (ax_use hC hlink rfl) hi hst hcf (hnm.trans hini) (by rw [q2]; exact h6) q1 q3 (by rw [hsl]; exact k2_hasslot (q4 f hf)) rfl rfl hd fun H1 e1 e2 e3 => ?_
    rw [hsl] at e1 ⊢
    have hcell : ax_cell G (ax_pI M (q + 1) f x) q (.inr ci) H1 := by
      refine ⟨_, hcl.1, t_OB.to (V := updV (fun j => ax_val G M (q + 1) (ax_fk (ax_ft ci j)) j) f (ax_tv G (av_i x))) ⟨_, e1, q2, q3, t_set q4 hap hf (ax_tv G (av_i x))⟩ (fun j _ => ?_)⟩
      by_cases e9 : j = f
      · subst e9
        simp only [updV, if_true]
        rw [hk]
        show ax_tv G (av_i x) = ax_tv G (av_i ((ax_pI M (q + 1) j x).1 (q + 1) j))
        congr 2
        simp [ax_pI, ax_u2]
      · simp only [updV, if_neg e9]
        unfold ax_val
        split <;> first | rfl | (congr 1; simp [ax_pI, ax_u2, e9])
    exact kk p e R s m args below meth cd Z H1 _ cells slots ls ⟨hB, hF, hr, ax_S_put hS e2 e3, ax_R_put hR e2 e3 rfl (fun a9 h9 => ax_u2_ne h9) (fun _ _ => rfl) (fun _ _ => rfl) hsh hcell, hl⟩
theorem ax_putRF {ix ci f a : Nat} {x : Nat} {C : String} {T : u_T} {N : Nat} (hd : decode k.2.1 pc = .ok (.putfield ix, 3)) (hcl : ax_cls ci C T N) (hlink : Cond.fieldLink k.1.cls ix (T f).1 (T f).2.1 (T f).2.2.1 ∈ lw_tbl) (hf : f < N) (hk : ax_fk (ax_ft ci f) = 2) (hfin : (T f).2.2.2 = true) (hini : k.1.name = "<init>") (hoc : k.1.cls = C) (hnf : narrow (ax_ft ci f) (ax_tv G (av_r x)) = ax_tv G (av_r x) ∧ fits (ax_ft ci f) (ax_tv G (av_r x)) = true) (hsh : M.2.2.2.1 a = some (.inr ci)) (kk : ax_W l G k F d c n (ax_pR M a f x) (pc + 3) L (S)) : ax_W l G k F d c n M pc L (av_r x :: av_r a :: S) := by
  intro p e R s m args below meth cd Z H locs cells slots ls h
  obtain ⟨hB, hF, hr, hS, hR, hl⟩ := id h
  obtain ⟨hx, hb, hml, hown, hlo, hrt, hnm, hC⟩ := id hB
  cases a with
  | zero => rw [hR.2.1] at hsh; cases hsh
  | succ q =>
    obtain ⟨hlt, r, hr1, cell, q1, q2, q3, q4⟩ := hR.2.2 q _ hsh
    cases Option.some.inj (hr1.symm.trans hcl.1)
    have hts : ∀ w ∈ u_ws C T N, w.before args s = true := fun w hw => ax_use hC (hcl.2.1 w hw).1 (hcl.2.1 w hw).2
    have hap := va_apart (own := C) hts (fun _ h9 => h9) (ax_ft ci) hcl.2.2.1 hcl.2.2.2.1 hC.2.2.1 hcl.1
    obtain ⟨hS1, hfc, kC, hkC, hkind⟩ := hC.2.2.1.1 ci _ hcl.1
    obtain ⟨cf, kf, fi, fd, hi, hsl⟩ := hS1 f hf
    have hlay := hts _ (u_in_lay hf)
    unfold u_lay at hlay
    rw [if_pos hfin] at hlay
    have hst := (u_facts hfc hkC (u_lays (args := args) hts (fun _ h9 => h9) hf) hi).1
    have hcf : m.cls = cf := by
      obtain ⟨_, _, c9, _, _, _, -, -, hf9, -, -, -, hown2, -⟩ := Cond.laysFinal_spec hlay
      have e1 : c9 = cf := by have := hi.symm.trans hf9; simp at this; exact this.1.symm
      rw [hcl.2.2.2.2 f hf, ← hoc] at hown2
      rw [← e1]; exact Option.some.inj (hown.symm.trans hown2)
    have h6 := u_fits hfc hkC hkind (Or.inr hlay) hi (hcl.2.2.1 f hf) hnf.1 hnf.2
    refine W.putFinK hx hb hown (ax_use hC hlink rfl) hi hst hcf (hnm.trans hini) (by rw [q2]; exact h6) q1 q3 (by rw [hsl]; exact k2_hasslot (q4 f hf)) rfl rfl hd fun H1 e1 e2 e3 => ?_
    rw [hsl] at e1 ⊢
    have hcell : ax_cell G (ax_pR M (q + 1) f x) q (.inr ci) H1 := by
      refine ⟨_, hcl.1, t_OB.to (V := updV (fun j => ax_val G M (q + 1) (ax_fk (ax_ft ci j)) j) f (ax_tv G (av_r x))) ⟨_, e1, q2, q3, t_set q4 hap hf (ax_tv G (av_r x))⟩ (fun j _ => ?_)⟩
      by_cases e9 : j = f
      · subst e9
        simp only [updV, if_true]
        rw [hk]
        show ax_tv G (av_r x) = ax_tv G (av_r ((ax_pR M (q + 1) j x).2.1 (q + 1) j))
        congr 2
        simp [ax_pR, ax_u2]
      · simp only [updV, if_neg e9]
        unfold ax_val
        split <;> first | rfl | (congr 1; simp [ax_pR, ax_u2, e9])
    exact kk p e R s m args below meth cd Z H1 _ cells slots ls ⟨hB, hF, hr, ax_S_put hS e2 e3, ax_R_put hR e2 e3 rfl (fun _ _ => rfl) (fun a9 h9 => ax_u2_ne h9) (fun _ _ => rfl) hsh hcell, hl⟩
theorem ax_nfI {ty : FieldType} {x : Int32} (h : ty = .int) : narrow ty (ax_tv G (av_i x)) = ax_tv G (av_i x) ∧ fits ty (ax_tv G (av_i x)) = true := by
  subst h
  exact ⟨rfl, rfl⟩
theorem ax_nfZ {ty : FieldType} {x : Int32} (h : ty = .boolean) (hx : x = 0 ∨ x = 1) : narrow ty (ax_tv G (av_i x)) = ax_tv G (av_i x) ∧ fits ty (ax_tv G (av_i x)) = true := by
  subst h
  rcases hx with rfl | rfl
  · show narrow FieldType.boolean (.int 0) = .int 0 ∧ fits FieldType.boolean (.int 0) = true
    decide
  · show narrow FieldType.boolean (.int 1) = .int 1 ∧ fits FieldType.boolean (.int 1) = true
    decide
theorem ax_nfR {ty : FieldType} {x : Nat} (h : (∃ C, ty = .object C) ∨ ∃ t, ty = .array t) : narrow ty (ax_tv G (av_r x)) = ax_tv G (av_r x) ∧ fits ty (ax_tv G (av_r x)) = true := by
  rcases h with ⟨C, rfl⟩ | ⟨t, rfl⟩ <;> cases x <;> exact ⟨rfl, rfl⟩
theorem ax_iald {a len : Nat} {i : Int32} (hd : decode k.2.1 pc = .ok (.iaload, 1)) (hsh : M.2.2.2.1 a = some (.inl (0, len))) (hin : vp_in i len) (kk : ax_W l G k F d c n M (pc + 1) L (av_i (M.1 a i.toNatClampNeg) :: S)) : ax_W l G k F d c n M pc L (av_i i :: av_r a :: S) := by
  intro p e R s m args below meth cd Z H locs cells slots ls h
  obtain ⟨hB, hF, hr, hS, hR, hl⟩ := id h
  cases a with
  | zero => rw [hR.2.1] at hsh; cases hsh
  | succ q =>
    obtain ⟨hlt, hc⟩ := hR.2.2 q _ hsh
    have hlt9 : i.toNatClampNeg < len := Nat.not_le.mp fun q => hin (Or.inr q)
    refine W.iald (v := ax_val G M (q + 1) 0 i.toNatClampNeg) hB.1 hB.2.1 hc ((hB.2.2.2.2.2.2.2.2.2.1.2 0 _ rfl).1 len _) (fun q => by cases q) (by show ¬ (i < 0 ∨ (arrV _ _ _).slots.size ≤ _); rw [arrV_size]; exact hin) (by show (arrV _ _ _).slots[_]? = _; rw [arrV_read _ _ hlt9]) rfl rfl hd (kk p e R s m args below meth cd Z H locs cells slots ls h)
theorem ax_lald {a len : Nat} {i : Int32} (hd : decode k.2.1 pc = .ok (.laload, 1)) (hsh : M.2.2.2.1 a = some (.inl (1, len))) (hin : vp_in i len) (kk : ax_W l G k F d c n M (pc + 1) L (av_l (M.2.2.1 a i.toNatClampNeg) :: S)) : ax_W l G k F d c n M pc L (av_i i :: av_r a :: S) := by
  intro p e R s m args below meth cd Z H locs cells slots ls h
  obtain ⟨hB, hF, hr, hS, hR, hl⟩ := id h
  cases a with
  | zero => rw [hR.2.1] at hsh; cases hsh
  | succ q =>
    obtain ⟨hlt, hc⟩ := hR.2.2 q _ hsh
    have hlt9 : i.toNatClampNeg < len := Nat.not_le.mp fun q => hin (Or.inr q)
    refine W.lald (v := ax_val G M (q + 1) 1 i.toNatClampNeg) hB.1 hB.2.1 hc ((hB.2.2.2.2.2.2.2.2.2.1.2 1 _ rfl).1 len _) (fun q => by cases q) (by show ¬ (i < 0 ∨ (arrV _ _ _).slots.size ≤ _); rw [arrV_size]; exact hin) (by show (arrV _ _ _).slots[_]? = _; rw [arrV_read _ _ hlt9]) rfl rfl hd (kk p e R s m args below meth cd Z H locs cells slots ls h)
theorem ax_aald2 {a len : Nat} {i : Int32} (hd : decode k.2.1 pc = .ok (.aaload, 1)) (hsh : M.2.2.2.1 a = some (.inl (2, len))) (hin : vp_in i len) (kk : ax_W l G k F d c n M (pc + 1) L (av_r (M.2.1 a i.toNatClampNeg) :: S)) : ax_W l G k F d c n M pc L (av_i i :: av_r a :: S) := by
  intro p e R s m args below meth cd Z H locs cells slots ls h
  obtain ⟨hB, hF, hr, hS, hR, hl⟩ := id h
  cases a with
  | zero => rw [hR.2.1] at hsh; cases hsh
  | succ q =>
    obtain ⟨hlt, hc⟩ := hR.2.2 q _ hsh
    have hlt9 : i.toNatClampNeg < len := Nat.not_le.mp fun q => hin (Or.inr q)
    refine W.aald (v := ax_val G M (q + 1) 2 i.toNatClampNeg) (ty := ax_aty 2) hB.1 hB.2.1 hc ((hB.2.2.2.2.2.2.2.2.2.1.2 2 _ rfl).1 len _) rfl (fun q => by cases q) (by show ¬ (i < 0 ∨ (arrV _ _ _).slots.size ≤ _); rw [arrV_size]; exact hin) (by show (arrV _ _ _).slots[_]? = _; rw [arrV_read _ _ hlt9]) rfl rfl hd (kk p e R s m args below meth cd Z H locs cells slots ls h)
theorem ax_aald3 {a len : Nat} {i : Int32} (hd : decode k.2.1 pc = .ok (.aaload, 1)) (hsh : M.2.2.2.1 a = some (.inl (3, len))) (hin : vp_in i len) (kk : ax_W l G k F d c n M (pc + 1) L (av_r (M.2.1 a i.toNatClampNeg) :: S)) : ax_W l G k F d c n M pc L (av_i i :: av_r a :: S) := by
  intro p e R s m args below meth cd Z H locs cells slots ls h
  obtain ⟨hB, hF, hr, hS, hR, hl⟩ := id h
  cases a with
  | zero => rw [hR.2.1] at hsh; cases hsh
  | succ q =>
    obtain ⟨hlt, hc⟩ := hR.2.2 q _ hsh
    have hlt9 : i.toNatClampNeg < len := Nat.not_le.mp fun q => hin (Or.inr q)
    refine W.aald (v := ax_val G M (q + 1) 3 i.toNatClampNeg) (ty := ax_aty 3) hB.1 hB.2.1 hc ((hB.2.2.2.2.2.2.2.2.2.1.2 3 _ rfl).1 len _) rfl (fun q => by cases q) (by show ¬ (i < 0 ∨ (arrV _ _ _).slots.size ≤ _); rw [arrV_size]; exact hin) (by show (arrV _ _ _).slots[_]? = _; rw [arrV_read _ _ hlt9]) rfl rfl hd (kk p e R s m args below meth cd Z H locs cells slots ls h)
theorem ax_alen {a kd len : Nat} (hd : decode k.2.1 pc = .ok (.arraylength, 1)) (hsh : M.2.2.2.1 a = some (.inl (kd, len))) (hk : kd < 4) (kk : ax_W l G k F d c n M (pc + 1) L (av_i (nI len) :: S)) : ax_W l G k F d c n M pc L (av_r a :: S) := by
  intro p e R s m args below meth cd Z H locs cells slots ls h
  obtain ⟨hB, hF, hr, hS, hR, hl⟩ := id h
  cases a with
  | zero => rw [hR.2.1] at hsh; cases hsh
  | succ q =>
    obtain ⟨hlt, hc⟩ := hR.2.2 q _ hsh
    have ht : (ax_tys G)[kd]? = some (G.2.2.1 kd, ax_aty kd) := by
      rcases (show kd = 0 ∨ kd = 1 ∨ kd = 2 ∨ kd = 3 by omega) with rfl | rfl | rfl | rfl <;> rfl
    exact W.alen (n := nI len) hB.1 hB.2.1 hc ((hB.2.2.2.2.2.2.2.2.2.1.2 kd _ ht).1 len _) (by rw [arrV_size]; rfl) rfl rfl hd (kk p e R s m args below meth cd Z H locs cells slots ls h)
theorem ax_iast {a len : Nat} {i : Int32} {x : Int32} (hd : decode k.2.1 pc = .ok (.iastore, 1)) (hsh : M.2.2.2.1 a = some (.inl (0, len))) (hin : vp_in i len) (kk : ax_W l G k F d c n (ax_pI M a i.toNatClampNeg x) (pc + 1) L (S)) : ax_W l G k F d c n M pc L (av_i x :: av_i i :: av_r a :: S) := by
  intro p e R s m args below meth cd Z H locs cells slots ls h
  obtain ⟨hB, hF, hr, hS, hR, hl⟩ := id h
  cases a with
  | zero => rw [hR.2.1] at hsh; cases hsh
  | succ q =>
    obtain ⟨hlt, hc⟩ := hR.2.2 q _ hsh
    refine W.iast hB.1 hB.2.1 hc ((hB.2.2.2.2.2.2.2.2.2.1.2 0 _ rfl).1 len _) (fun q => by cases q) (by show ¬ (i < 0 ∨ (arrV _ _ _).slots.size ≤ _); rw [arrV_size]; exact hin) rfl rfl hd fun H1 e1 e2 e3 => ?_
    have hcell : ax_cell G (ax_pI M (q + 1) i.toNatClampNeg x) q (.inl (0, len)) H1 := by
      show H1[G.1 + q]? = some (arrV _ _ _)
      rw [e1, arrV_store]
      congr 2
      funext j
      by_cases e9 : j = i.toNatClampNeg
      · subst e9
        simp [updV, ax_val, ax_pI, ax_u2]
      · simp [updV, ax_val, ax_pI, ax_u2, e9]
    exact kk p e R s m args below meth cd Z H1 _ cells slots ls ⟨hB, hF, hr, ax_S_put hS e2 e3, ax_R_put hR e2 e3 rfl (fun a9 h9 => ax_u2_ne h9) (fun _ _ => rfl) (fun _ _ => rfl) hsh hcell, hl⟩
theorem ax_last {a len : Nat} {i : Int32} {x : Int64} (hd : decode k.2.1 pc = .ok (.lastore, 1)) (hsh : M.2.2.2.1 a = some (.inl (1, len))) (hin : vp_in i len) (kk : ax_W l G k F d c n (ax_pL M a i.toNatClampNeg x) (pc + 1) L (S)) : ax_W l G k F d c n M pc L (av_l x :: av_i i :: av_r a :: S) := by
  intro p e R s m args below meth cd Z H locs cells slots ls h
  obtain ⟨hB, hF, hr, hS, hR, hl⟩ := id h
  cases a with
  | zero => rw [hR.2.1] at hsh; cases hsh
  | succ q =>
    obtain ⟨hlt, hc⟩ := hR.2.2 q _ hsh
    refine W.last hB.1 hB.2.1 hc ((hB.2.2.2.2.2.2.2.2.2.1.2 1 _ rfl).1 len _) (fun q => by cases q) (by show ¬ (i < 0 ∨ (arrV _ _ _).slots.size ≤ _); rw [arrV_size]; exact hin) rfl rfl hd fun H1 e1 e2 e3 => ?_
    have hcell : ax_cell G (ax_pL M (q + 1) i.toNatClampNeg x) q (.inl (1, len)) H1 := by
      show H1[G.1 + q]? = some (arrV _ _ _)
      rw [e1, arrV_store]
      congr 2
      funext j
      by_cases e9 : j = i.toNatClampNeg
      · subst e9
        simp [updV, ax_val, ax_pL, ax_u2]
      · simp [updV, ax_val, ax_pL, ax_u2, e9]
    exact kk p e R s m args below meth cd Z H1 _ cells slots ls ⟨hB, hF, hr, ax_S_put hS e2 e3, ax_R_put hR e2 e3 rfl (fun _ _ => rfl) (fun _ _ => rfl) (fun a9 h9 => ax_u2_ne h9) hsh hcell, hl⟩
end AXM
