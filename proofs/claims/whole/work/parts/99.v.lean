/-! ===== what the law's start gives ===== -/
def txc (t : ax_T) : List Cond := [Cond.exactly (.string t.1 t.2.1) "java/lang/String", Cond.eq (.field (.string t.1 t.2.1) "java/lang/String" "coder" "B") (.int 0), Cond.arrayOf (.field (.string t.1 t.2.1) "java/lang/String" "value" "[B") .byte, Cond.eq (.length (.field (.string t.1 t.2.1) "java/lang/String" "value" "[B")) (.int (Int32.ofNat t.2.2.2.length))] ++ (List.range t.2.2.2.length).map (fun j => Cond.eq (.elem (.field (.string t.1 t.2.1) "java/lang/String" "value" "[B") (.int (Int32.ofNat j))) (.int (t.2.2.2.getD j 0)))
abbrev lw_nar : List Cond := flatC (Jvm.Cond.and given_1 narrow_1)
def tx_of : List Nat := [50, 80, 91, 101, 111, 123, 135, 150, 166, 181, 199, 216, 236, 255, 275, 297, 320, 345, 369, 394, 422, 450, 480, 510, 556]
theorem tx_all : (ax_txts.zip tx_of).all (fun q => decide ((lw_nar.drop q.2).take (txc q.1).length = txc q.1)) = true := by decide +kernel
theorem tx_zip : ax_txts = (ax_txts.zip tx_of).map Prod.fst := by decide +kernel
theorem tx_sr : ax_txts.all (fun t => decide (Cond.stringRef t.1 t.2.1 t.2.2.1 ∈ lw_tbl)) = true := by decide +kernel
theorem tx_len : ax_txts.all (fun t => decide (t.2.2.2.length < 100)) = true := by decide +kernel
theorem tx_mem {t : ax_T} (h : t ∈ ax_txts) : ∀ c ∈ txc t, c ∈ lw_nar := by
  rw [tx_zip] at h
  obtain ⟨q, hq, rfl⟩ := List.mem_map.mp h
  have := of_decide_eq_true (List.all_eq_true.mp tx_all q hq)
  intro c hc
  rw [← this] at hc
  exact List.mem_of_mem_drop (List.mem_of_mem_take hc)
theorem tx_one {args : Array Value} {s : State} {A : Nat → Prop} {t : ax_T} (hl : t.2.2.2.length < 100) (hcs : ∀ c ∈ txc t, c.before args s = true) (hsr : (Cond.stringRef t.1 t.2.1 t.2.2.1).before args s = true) (hA : ∀ a : Nat, a < s.heap.size → ¬ A a) : ∃ q : Nat × Nat, vk_R t.1 t.2.1 t.2.2.1 q.1 s ∧ va_O "java/lang/String" q.1 A s s.heap ∧ va_OF "java/lang/String" "coder" "B" (.int 0) q.1 A s s.heap ∧ va_OF "java/lang/String" "value" "[B" (.ref q.2) q.1 A s s.heap ∧ va_T .byte q.2 t.2.2.2.length (fun i => .int (t.2.2.2.getD i 0)) A s s.heap := by
  have m : ∀ i, i < 4 → ∀ c, (txc t)[i]? = some c → c.before args s = true := fun i _ c hc => hcs c (List.mem_of_getElem? hc)
  obtain ⟨a, c, cA, kA, q1, q2, q3, q4, q5, q6, -⟩ := Cond.exactly_spec (args := args) (first := s) (o := none) (s := s) (idx := []) (t := .string t.1 t.2.1) (cls := "java/lang/String") (m 0 (by omega) _ rfl)
  obtain ⟨u, hu, hT⟩ := va_Tof (f := fun j => .int (t.2.2.2.getD j 0)) (A := A) (N := t.2.2.2.length) (by omega) (m 2 (by omega) _ rfl) (va_eqt (m 3 (by omega) _ rfl)) (fun j hj => va_eqt (hcs _ (List.mem_append_right _ (List.mem_map.mpr ⟨j, List.mem_range.mpr hj, rfl⟩)))) hA
  exact ⟨(a, u), vk_R.of hsr q1, ⟨cA, q3, q5, by rw [q6]; exact q2, hA a (Array.getElem?_eq_some_iff.mp q3).1⟩, vk_OFof q1 (va_eqt (m 1 (by omega) _ rfl)) hA, vk_OFof q1 hu hA, hT⟩
theorem ax_begin {s : State} {b : Nat} (hts : ∀ w ∈ lw_tbl, w.before #[Value.ref b] s = true) (hgv : (Jvm.Cond.and given_1 narrow_1).before #[Value.ref b] s = true) : ∃ G : ax_G, G.1 = s.heap.size ∧ G.2.2.2 998 = b ∧ ax_C G s ∧ ax_E G s := by
  have hs := flat_of_before _ hgv
  have hA : ∀ a : Nat, a < s.heap.size → ¬ (fun q : Nat => s.heap.size ≤ q) a := fun a h => Nat.not_le.mpr h
  obtain ⟨c0, i0, hK0⟩ := u_known (C := RX0) (T := TX0) (N := 3) (n := 3) hts (fun w hw => (acl_0.2.1 w hw).1) (hts _ (ax_in1 (List.mem_of_getElem? (i := 224) rfl)))
  obtain ⟨c1, i1, hK1⟩ := u_known (C := RX1) (T := TX1) (N := 8) (n := 8) hts (fun w hw => (acl_1.2.1 w hw).1) (hts _ (ax_in2 (List.mem_of_getElem? (i := 107) rfl)))
  obtain ⟨c2, i2, hK2⟩ := u_known (C := RX2) (T := TX2) (N := 3) (n := 3) hts (fun w hw => (acl_2.2.1 w hw).1) (hts _ (ax_in1 (List.mem_of_getElem? (i := 168) rfl)))
  obtain ⟨c3, i3, hK3⟩ := u_known (C := RX3) (T := TX3) (N := 2) (n := 2) hts (fun w hw => (acl_3.2.1 w hw).1) (hts _ (ax_in2 (List.mem_of_getElem? (i := 94) rfl)))
  obtain ⟨c4, i4, hK4⟩ := u_known (C := RX4) (T := TX4) (N := 5) (n := 5) hts (fun w hw => (acl_4.2.1 w hw).1) (hts _ (ax_in2 (List.mem_of_getElem? (i := 3) rfl)))
  obtain ⟨c5, i5, hK5⟩ := u_known (C := RX5) (T := TX5) (N := 17) (n := 17) hts (fun w hw => (acl_5.2.1 w hw).1) (hts _ (ax_in1 (List.mem_of_getElem? (i := 81) rfl)))
  obtain ⟨c6, i6, hK6⟩ := u_known (C := RX6) (T := TX6) (N := 9) (n := 9) hts (fun w hw => (acl_6.2.1 w hw).1) (hts _ (ax_in1 (List.mem_of_getElem? (i := 34) rfl)))
  obtain ⟨c7, i7, hK7⟩ := u_known (C := RX7) (T := TX7) (N := 5) (n := 5) hts (fun w hw => (acl_7.2.1 w hw).1) (hts _ (ax_in1 (List.mem_of_getElem? (i := 75) rfl)))
  obtain ⟨c8, i8, hK8⟩ := u_known (C := RX8) (T := TX8) (N := 16) (n := 16) hts (fun w hw => (acl_8.2.1 w hw).1) (hts _ (ax_in2 (List.mem_of_getElem? (i := 9) rfl)))
  obtain ⟨c9, i9, hK9⟩ := u_known (C := RX9) (T := TX9) (N := 15) (n := 15) hts (fun w hw => (acl_9.2.1 w hw).1) (hts _ (ax_in1 (List.mem_of_getElem? (i := 26) rfl)))
  obtain ⟨c10, i10, hK10⟩ := u_known (C := RX10) (T := TX10) (N := 53) (n := 53) hts (fun w hw => (acl_10.2.1 w hw).1) (hts _ (ax_in6 (List.mem_of_getElem? (i := 215) rfl)))
  obtain ⟨cI, kI, pI, a1, a2, a3⟩ := Cond.arrayClass_spec (type := .int) (hts (.arrayClass .int) (ax_in1 (List.mem_of_getElem? (i := 73) rfl)))
  obtain ⟨cL, kL, pL, l1, l2, l3⟩ := Cond.arrayClass_spec (type := .long) (hts (.arrayClass .long) (ax_in9 (List.mem_of_getElem? (i := 140) rfl)))
  obtain ⟨p2, d2, k2, b1, b2, b3, b4⟩ := Cond.arrayOver_specA (t := .int) (hts (.arrayOver (.array .int)) (ax_in2 (List.mem_of_getElem? (i := 113) rfl)))
  obtain ⟨p3, d3, k3, e1, e2, e3, e4⟩ := Cond.arrayOver_specA (t := .array .int) (hts (.arrayOver (.array (.array .int))) (ax_in6 (List.mem_of_getElem? (i := 222) rfl)))
  have z2 : p2 = cI := Option.some.inj (b1.symm.trans a1)
  have z3 : p3 = d2 := Option.some.inj (e1.symm.trans b4)
  subst z2 z3
  have hU := vx_Zqof (A := (fun q : Nat => s.heap.size ≤ q)) (C := Bundle.tN) (n := "UNASSIGNED_STACK") (d := Bundle.steD) (hts _ (by decide +kernel)) (hts _ (by decide +kernel)) (hs _ (by decide +kernel)) hA
  have hV := vx_Zqof (A := (fun q : Nat => s.heap.size ≤ q)) (C := Bundle.tN) (n := "SUPPRESSED_SENTINEL") (d := Bundle.listD) (hts _ (by decide +kernel)) (hts _ (by decide +kernel)) (hs _ (by decide +kernel)) hA
  have hCS := va_Zof (A := (fun q : Nat => s.heap.size ≤ q)) (C := "java/lang/String") (n := "COMPACT_STRINGS") (d := "Z") (v := .int 1) (hts _ (by decide +kernel)) (hts _ (by decide +kernel)) (va_eqt (hs _ (by decide +kernel))) hA
  obtain ⟨fm, hFM⟩ : ∃ fm : Nat, va_Z "jdk/internal/util/Preconditions" "SIOOBE_FORMATTER" "Ljava/util/function/BiFunction;" .null (fun q : Nat => s.heap.size ≤ q) s s.heap ∨ va_Z "jdk/internal/util/Preconditions" "SIOOBE_FORMATTER" "Ljava/util/function/BiFunction;" (.ref fm) (fun q : Nat => s.heap.size ≤ q) s s.heap := by
    rcases va_Zqof (A := (fun q : Nat => s.heap.size ≤ q)) (C := "jdk/internal/util/Preconditions") (n := "SIOOBE_FORMATTER") (d := "Ljava/util/function/BiFunction;") (hts _ (by decide +kernel)) (hts _ (by decide +kernel)) (hs _ (by decide +kernel)) hA with h | ⟨t, h⟩
    · exact ⟨0, Or.inl h⟩
    · exact ⟨t, Or.inr h⟩
  have hT : ∀ j : Nat, ∃ q : Nat × Nat, ∀ t, ax_txts[j]? = some t → vk_R t.1 t.2.1 t.2.2.1 q.1 s ∧ va_O "java/lang/String" q.1 (fun q : Nat => s.heap.size ≤ q) s s.heap ∧ va_OF "java/lang/String" "coder" "B" (.int 0) q.1 (fun q : Nat => s.heap.size ≤ q) s s.heap ∧ va_OF "java/lang/String" "value" "[B" (.ref q.2) q.1 (fun q : Nat => s.heap.size ≤ q) s s.heap ∧ va_T .byte q.2 t.2.2.2.length (fun i => .int (t.2.2.2.getD i 0)) (fun q : Nat => s.heap.size ≤ q) s s.heap := by
    intro j
    cases hj : ax_txts[j]? with
    | none => exact ⟨(0, 0), fun t h => by cases h⟩
    | some t =>
      have hm := List.mem_of_getElem? hj
      obtain ⟨q, hq⟩ := tx_one (A := (fun q : Nat => s.heap.size ≤ q)) (of_decide_eq_true (List.all_eq_true.mp tx_len t hm)) (fun c hc => hs c (tx_mem hm c hc)) (hts _ (of_decide_eq_true (List.all_eq_true.mp tx_sr t hm))) hA
      exact ⟨q, fun t2 h => by cases h; exact hq⟩
  obtain ⟨ad, had⟩ := Classical.axiomOfChoice hT
  have jb : ∀ (j : Nat) (t : ax_T), ax_txts[j]? = some t → j < 25 := fun j t h => (List.getElem?_eq_some_iff.mp h).1
  refine ⟨(s.heap.size, (fun k => match k with | 0 => c0 | 1 => c1 | 2 => c2 | 3 => c3 | 4 => c4 | 5 => c5 | 6 => c6 | 7 => c7 | 8 => c8 | 9 => c9 | _ => c10, fun k => match k with | 0 => i0 | 1 => i1 | 2 => i2 | 3 => i3 | 4 => i4 | 5 => i5 | 6 => i6 | 7 => i7 | 8 => i8 | 9 => i9 | _ => i10), fun k => match k with | 0 => p2 | 1 => cL | 2 => p3 | _ => d3, fun i => if i = 998 then b else if i = 999 then fm else if i % 2 = 0 then (ad (i / 2)).1 else (ad (i / 2)).2), rfl, rfl, ⟨Nat.le_refl _, fun w hw hok => ax_word hok (State.WarmedH.refl s) (hts w hw), ⟨?_, ?_⟩, hU, hV, ⟨hCS, hFM⟩, ?_⟩, ?_⟩
  · intro k q hq
    match k, hq with
    | 0, hq => cases hq; exact hK0
    | 1, hq => cases hq; exact hK1
    | 2, hq => cases hq; exact hK2
    | 3, hq => cases hq; exact hK3
    | 4, hq => cases hq; exact hK4
    | 5, hq => cases hq; exact hK5
    | 6, hq => cases hq; exact hK6
    | 7, hq => cases hq; exact hK7
    | 8, hq => cases hq; exact hK8
    | 9, hq => cases hq; exact hK9
    | 10, hq => cases hq; exact hK10
    | k + 11, hq => cases hq
  · intro k q hq
    match k, hq with
    | 0, hq => cases hq; exact ⟨fun n z => ⟨fun x => by simp [arrV], kI, a2, pI, a3⟩, a1⟩
    | 1, hq => cases hq; exact ⟨fun n z => ⟨fun x => by simp [arrV], kL, l2, pL, l3⟩, l1⟩
    | 2, hq => cases hq; exact ⟨fun n z => ⟨fun x => by simp [arrV], k2, b2, p2, b3⟩, b4⟩
    | 3, hq => cases hq; exact ⟨fun n z => ⟨fun x => by simp [arrV], k3, e2, p3, e3⟩, e4⟩
    | k + 4, hq => cases hq
  · intro j t h
    have hj := jb j t h
    have g := had j t h
    have x1 : (if 2 * j = 998 then b else if 2 * j = 999 then fm else if 2 * j % 2 = 0 then (ad (2 * j / 2)).1 else (ad (2 * j / 2)).2) = (ad j).1 := by
      rw [if_neg (by omega), if_neg (by omega), if_pos (by omega), show 2 * j / 2 = j by omega]
    have x2 : (if 2 * j + 1 = 998 then b else if 2 * j + 1 = 999 then fm else if (2 * j + 1) % 2 = 0 then (ad ((2 * j + 1) / 2)).1 else (ad ((2 * j + 1) / 2)).2) = (ad j).2 := by
      rw [if_neg (by omega), if_neg (by omega), if_neg (by omega), show (2 * j + 1) / 2 = j by omega]
    unfold ax_txt
    show vk_R t.1 t.2.1 t.2.2.1 (if 2 * j = 998 then b else if 2 * j = 999 then fm else if 2 * j % 2 = 0 then (ad (2 * j / 2)).1 else (ad (2 * j / 2)).2) s ∧ va_O "java/lang/String" (if 2 * j = 998 then b else if 2 * j = 999 then fm else if 2 * j % 2 = 0 then (ad (2 * j / 2)).1 else (ad (2 * j / 2)).2) _ s s.heap ∧ va_OF "java/lang/String" "coder" "B" (.int 0) (if 2 * j = 998 then b else if 2 * j = 999 then fm else if 2 * j % 2 = 0 then (ad (2 * j / 2)).1 else (ad (2 * j / 2)).2) _ s s.heap ∧ va_OF "java/lang/String" "value" "[B" (.ref (if 2 * j + 1 = 998 then b else if 2 * j + 1 = 999 then fm else if (2 * j + 1) % 2 = 0 then (ad ((2 * j + 1) / 2)).1 else (ad ((2 * j + 1) / 2)).2)) (if 2 * j = 998 then b else if 2 * j = 999 then fm else if 2 * j % 2 = 0 then (ad (2 * j / 2)).1 else (ad (2 * j / 2)).2) _ s s.heap ∧ va_T .byte (if 2 * j + 1 = 998 then b else if 2 * j + 1 = 999 then fm else if (2 * j + 1) % 2 = 0 then (ad ((2 * j + 1) / 2)).1 else (ad ((2 * j + 1) / 2)).2) t.2.2.2.length _ _ s s.heap
    rw [x1, x2]
    exact g
  · have yes : ∀ i, i < 3 → Cond.castable (cz_n i) (cz_n i) ∈ lw_tbl := fun i hi => by
      rcases (show i = 0 ∨ i = 1 ∨ i = 2 by omega) with rfl | rfl | rfl <;> decide +kernel
    have noo : ∀ i j, i < 3 → j < 3 → i ≠ j → Cond.not (Cond.castable (cz_n i) (cz_n j)) ∈ lw_nar := fun i j hi hj hne => by
      rcases (show i = 0 ∨ i = 1 ∨ i = 2 by omega) with rfl | rfl | rfl <;> rcases (show j = 0 ∨ j = 1 ∨ j = 2 by omega) with rfl | rfl | rfl <;> first | (exact absurd rfl hne) | decide +kernel
    refine ⟨⟨k2, b2, b3⟩, ⟨k3, e2, e3⟩, ⟨kI, pI, a2, a3⟩, fun i j hi hj => ?_⟩
    by_cases hij : i = j
    · subst hij
      obtain ⟨c, t, g1, g2, g3⟩ := Cond.castable_spec (hts _ (yes i hi))
      exact ⟨c, t, g1, g2, by rw [g3, decide_eq_true rfl]⟩
    · obtain ⟨c, t, g1, g2, g3⟩ := va_Nc.of (hs _ (noo i j hi hj hij))
      exact ⟨c, t, g1, g2, by rw [g3, decide_eq_false hij]⟩

