/-! ===== the class's throws ===== -/
section AXN
variable {l : Launch} {G : ax_G} {k : ax_K} {F : ax_F} {d c n : Nat} {M : ax_M} {pc : Nat} {L : List (Option ax_V)} {S : List ax_V} {Q : ax_O → ax_M → Prop}
theorem cz_throw {ik ist ic j ix : Nat} {bs : ByteArray} {E : String} {t : ax_T} (hl9 : l.stackTraces = false) (hcls : Bundle.fit E = true) (b0 : decode bs 0 = .ok (.aload_n 0, 1)) (b1 : decode bs 1 = .ok (.aload_n 1, 1)) (b2 : decode bs 2 = .ok (.invokespecial ix, 3)) (b5 : decode bs 5 = .ok (.return_, 1)) (hk : Cond.classLink k.1.cls ik E ∈ lw_tbl) (hini : Cond.initialized E ∈ lw_tbl) (ht : ax_txts[j]? = some t) (ht1 : t.1 = k.1.cls) (ht2 : t.2.1 = ist) (hat : ∀ w ∈ cz_ws k.1.cls ic E ix bs, w ∈ lw_tbl ∧ ax_okw w = true) (hgood : ∀ w ∈ Cond.classLink k.1.cls ik E :: Cond.initialized E :: cz_ws k.1.cls ic E ix bs, vx_ot w = true)
    (d0 : decode k.2.1 pc = .ok (.new ik, 3)) (d3 : decode k.2.1 (pc + 3) = .ok (.dup, 1)) (d4 : decode k.2.1 (pc + 4) = .ok (.ldc_w ist, 3)) (d6 : decode k.2.1 (pc + 7) = .ok (.invokespecial ic, 3)) (d9 : decode k.2.1 (pc + 10) = .ok (.athrow, 1)) (hd1 : 6 ≤ d) (hc1 : 1 ≤ c) (hn1 : 6 ≤ n) (hlow : ax_low S = true) (hq : ∀ M2 : ax_M, M2.1 = M.1 → M2.2.1 = M.2.1 → M2.2.2.1 = M.2.2.1 → M2.2.2.2.1 = M.2.2.2.1 → M.2.2.2.2 ≤ M2.2.2.2.2 → Q (.inr E) M2) : ax_W l G k (ax_FQ G Q) d c n M pc L S := by
  intro p e R s m args below meth cd Z H locs cells slots ls h
  obtain ⟨hB, ⟨rfl, hT⟩, ⟨h1, h2, h3, h4⟩, hS, hR, hl⟩ := h
  obtain ⟨hx1, hb, hml, hown, hlo, hrt, hnm, hC⟩ := id hB
  obtain ⟨hX1, hX2, -, hX4⟩ := hC.2.2.2
  have htx := (hX4 j t ht).1
  rw [ht1, ht2] at htx
  refine cz_W (cls := E) (text := t.2.2.1) (sa := G.2.2.2 (2 * j)) (A := ax_A G) hx1 hb hl9 hown hcls b0 b1 b2 b5 (ax_use hC hk rfl) (ax_use hC hini rfl) htx (fun w hw => ax_use hC (hat w hw).1 (hat w hw).2) hgood hX1 hX2 hS (by rw [hml]; exact hl.1) d0 d3 d4 d6 d9 (fun x hx9 => absurd (hT x hx9) id) (by omega) (by have := ax_low_ok (G := G) hlow; omega) (by omega) (by omega) hlo (fun t9 hal hz ho => ?_) hS.2.2 (by omega) (by omega)
  refine ⟨(M.1, M.2.1, M.2.2.1, M.2.2.2.1, t9.heap.size - G.1), hq _ rfl rfl rfl rfl (by have := hR.1; show M.2.2.2.2 ≤ t9.heap.size - G.1; omega), ⟨by have := hR.1; show t9.heap.size = G.1 + (t9.heap.size - G.1); omega, hR.2.1, fun q y hy => ?_⟩, ⟨Nat.le_trans hS.1 hz, fun q q1 q2 => (ho q (Nat.lt_of_lt_of_le q1 hS.1)).trans (hS.2.1 q q1 q2)⟩⟩
  obtain ⟨hlt, hcell⟩ := hR.2.2 q y hy
  exact ⟨by have := hR.1; show q < t9.heap.size - G.1; omega, ax_cell_cong (fun kd j => by unfold ax_val; rfl) (ho _ (by rw [hR.1]; omega)) hcell⟩
end AXN
def cz_n : Nat → String
  | 0 => "java/util/NoSuchElementException"
  | 1 => "java/lang/IllegalArgumentException"
  | _ => "java/lang/IllegalStateException"
def cz_13 : ByteArray := ⟨#[0x2a, 0x2b, 0xb7, 0x00, 0x0d, 0xb1]⟩
theorem cz_t1 : ∀ w ∈ cz_ws RX9 422 (cz_n 1) 7 Bundle.six, w ∈ tables_1 ∧ ax_okw w = true ∧ vx_ot w = true := by decide +kernel
theorem cz_t2 : ∀ w ∈ cz_ws RX9 427 (cz_n 2) 7 Bundle.six, w ∈ tables_1 ∧ ax_okw w = true ∧ vx_ot w = true := by decide +kernel
theorem cz_t0 : ∀ w ∈ cz_ws RX9 415 (cz_n 0) 13 cz_13, w ∈ tables_1 ∧ ax_okw w = true ∧ vx_ot w = true := by decide +kernel

