/-! ===== a formula worked out ===== -/
def ev_op (h u v : Int32) : Int32 := if h = 2 then u + v else if h = 3 then u - v else if h = 4 then u * v else if h = 5 then (if v = 0 then 0 else if v = -1 then -u else u / v) else if h = 6 then (if u < v then u else v) else (if v < u then u else v)
/-- a step; the stack's top first -/
def ev_st (kn : Nat → Int32) (st : List Int32) (q : Int32 × Int32) : List Int32 := if q.1 = 0 then q.2 :: st else if q.1 = 1 then kn q.2.toNatClampNeg :: st else match st with
  | v :: u :: r => ev_op q.1 u v :: r
  | r => r
def ev (kn : Nat → Int32) (cs : List (Int32 × Int32)) : Int32 := (cs.foldl (ev_st kn) []).headD 0
/-- how deep the stack is behind the steps, cap its room -/
def ev_d (cap : Nat) : Nat → List (Int32 × Int32) → Option Nat
  | n, [] => some n
  | n, q :: r => if q.1 = 0 ∨ q.1 = 1 then (if n < cap then ev_d cap (n + 1) r else none) else (if 2 ≤ n then ev_d cap (n - 1) r else none)
def ev_v (q : Int32 × Int32) : Prop := q.1 = 0 ∨ (q.1 = 1 ∧ ∃ j, j < 12 ∧ q.2 = nI j) ∨ ∃ h, 2 ≤ h ∧ h ≤ 7 ∧ q.1 = nI h
theorem ev_d_app (cap : Nat) : ∀ (n : Nat) (a b : List (Int32 × Int32)), ev_d cap n (a ++ b) = (ev_d cap n a).bind (fun m => ev_d cap m b)
  | n, [], b => rfl
  | n, q :: r, b => by
    show (if q.1 = 0 ∨ q.1 = 1 then (if n < cap then ev_d cap (n + 1) (r ++ b) else none) else (if 2 ≤ n then ev_d cap (n - 1) (r ++ b) else none)) = (if q.1 = 0 ∨ q.1 = 1 then (if n < cap then ev_d cap (n + 1) r else none) else (if 2 ≤ n then ev_d cap (n - 1) r else none)).bind _
    split
    · split
      · exact ev_d_app cap (n + 1) r b
      · rfl
    · split
      · exact ev_d_app cap (n - 1) r b
      · rfl
/-- reading gives steps that put one number on the stack, m deep at the most -/
def ev_ok1 (m : Nat) (x : ps_R) : Prop := match x with
  | .inl _ => True
  | .inr q => (∀ w ∈ q.2, ev_v w) ∧ ∀ cap n, n + m ≤ cap → ev_d cap n q.2 = some (n + 1)
theorem ev_op2 {h : Nat} (h2 : 2 ≤ h) (h7 : h ≤ 7) {cap n : Nat} (hn : 2 ≤ n) : ev_d cap n [(nI h, 0)] = some (n - 1) := by
  have e0 : ¬ (nI h = 0 ∨ nI h = 1) := by
    rintro (q | q)
    · exact nI_ne0 (by omega) (by omega) q
    · have := (nI_eq (b := 1) (by omega) (by omega)).mp q
      omega
  show (if nI h = 0 ∨ nI h = 1 then _ else _) = _
  rw [if_neg e0, if_pos hn]
  rfl
theorem ev_vop {h : Nat} (h2 : 2 ≤ h) (h7 : h ≤ 7) : ev_v (nI h, 0) := Or.inr (Or.inr ⟨h, h2, h7, rfl⟩)
theorem ev_ok_many {B : Nat → Int32} {z m h1 h2 : Nat} {u : Nat → ps_R} {s1 s2 : Int32} (hm : 1 ≤ m) (hu : ∀ a, ev_ok1 m (u a)) (b1 : 2 ≤ h1 ∧ h1 ≤ 7) (b2 : 2 ≤ h2 ∧ h2 ≤ 7) : ∀ (n a : Nat) (cs : List (Int32 × Int32)), (∀ w ∈ cs, ev_v w) → (∀ cap n, n + (m + 1) ≤ cap → ev_d cap n cs = some (n + 1)) → ev_ok1 (m + 1) (ps_many B z u s1 s2 (nI h1) (nI h2) n a cs)
  | 0, a, cs, q1, q2 => ⟨q1, q2⟩
  | n + 1, a, cs, q1, q2 => by
    have step : ∀ h : Nat, 2 ≤ h ∧ h ≤ 7 → ev_ok1 (m + 1) (ps_th (u (tx_sk B z a + 1)) (fun b2 ds => ps_many B z u s1 s2 (nI h1) (nI h2) n b2 (cs ++ ds ++ [(nI h, 0)]))) := by
      intro h hh
      have hg := hu (tx_sk B z a + 1)
      cases hx : u (tx_sk B z a + 1) with
      | inl e => trivial
      | inr q =>
        obtain ⟨b2', ds⟩ := q
        rw [hx] at hg
        obtain ⟨g1, g2⟩ := hg
        rw [ps_th_r]
        refine ev_ok_many hm hu b1 b2 n b2' _ (fun w hw => ?_) (fun cap n' hn => ?_)
        · rcases List.mem_append.mp hw with hw | hw
          · rcases List.mem_append.mp hw with hw | hw
            · exact q1 w hw
            · exact g1 w hw
          · rw [List.mem_singleton.mp hw]; exact ev_vop hh.1 hh.2
        · rw [ev_d_app, ev_d_app, q2 cap n' hn, Option.bind_some, g2 cap (n' + 1) (by omega), Option.bind_some, ev_op2 hh.1 hh.2 (by omega)]
          rfl
    show ev_ok1 (m + 1) (if _ then _ else if _ then _ else _)
    split
    · exact step h1 b1
    · split
      · exact step h2 b2
      · exact ⟨q1, q2⟩
theorem ev_ok_rep {B : Nat → Int32} {z m h1 h2 : Nat} {u : Nat → ps_R} {s1 s2 : Int32} (hm : 1 ≤ m) (hu : ∀ a, ev_ok1 m (u a)) (b1 : 2 ≤ h1 ∧ h1 ≤ 7) (b2 : 2 ≤ h2 ∧ h2 ≤ 7) (a : Nat) : ev_ok1 (m + 1) (ps_th (u a) (fun b cs => ps_many B z u s1 s2 (nI h1) (nI h2) ps_fu b cs)) := by
  have hg := hu a
  cases hx : u a with
  | inl e => trivial
  | inr q =>
    obtain ⟨b, cs⟩ := q
    rw [hx] at hg
    rw [ps_th_r]
    exact ev_ok_many hm hu b1 b2 _ b cs hg.1 (fun cap n hn => hg.2 cap n (by omega))
theorem ev_ok_prod {B : Nat → Int32} {z m : Nat} {u : Nat → ps_R} (hm : 1 ≤ m) (hu : ∀ a, ev_ok1 m (u a)) (a : Nat) : ev_ok1 (m + 1) (ps_prod B z u a) := ev_ok_rep (h1 := 4) (h2 := 5) hm hu (by decide) (by decide) a
theorem ev_ok_sum {B : Nat → Int32} {z m : Nat} {u : Nat → ps_R} (hm : 1 ≤ m) (hu : ∀ a, ev_ok1 m (u a)) (a : Nat) : ev_ok1 (m + 2) (ps_sum B z u a) := ev_ok_rep (h1 := 2) (h2 := 3) (by omega) (ev_ok_prod (B := B) (z := z) hm hu) (by decide) (by decide) a
theorem ev_ok_atom {B : Nat → Int32} {z a : Nat} : ev_ok1 1 (ps_atom B z a) := by
  unfold ps_atom
  split
  · rename_i h
    obtain ⟨j, h1, h2⟩ := tx_ix_yes tx_knowns 0 h
    have h12 : tx_knowns.length = 12 := rfl
    refine ⟨fun w hw => ?_, fun cap n hn => ?_⟩
    · rw [List.mem_singleton.mp hw]; exact Or.inr (Or.inl ⟨rfl, 0 + j, by omega, h2⟩)
    · show (if (1 : Int32) = 0 ∨ (1 : Int32) = 1 then _ else _) = _
      rw [if_pos (Or.inr rfl), if_pos (by omega)]; rfl
  · split
    · refine ⟨fun w hw => ?_, fun cap n hn => ?_⟩
      · rw [List.mem_singleton.mp hw]; exact Or.inl rfl
      · show (if (0 : Int32) = 0 ∨ (0 : Int32) = 1 then _ else _) = _
        rw [if_pos (Or.inl rfl), if_pos (by omega)]; rfl
    · trivial
theorem ev_ok_mono {m m2 : Nat} {x : ps_R} (h : ev_ok1 m x) (hm : m ≤ m2) : ev_ok1 m2 x := by
  cases x with
  | inl e => trivial
  | inr q => exact ⟨h.1, fun cap n hn => h.2 cap n (by omega)⟩
theorem ev_ok_one {B : Nat → Int32} {z : Nat} : ∀ (r a : Nat), ev_ok1 (3 * r + 1) (ps_one B z r a)
  | 0, a => by
    show ev_ok1 _ (if _ then _ else _)
    split
    · trivial
    · exact ev_ok_atom
  | r + 1, a => by
    have ih := ev_ok_sum (B := B) (z := z) (m := 3 * r + 1) (by omega) (ev_ok_one (B := B) (z := z) r)
    have pair : ∀ (h b : Nat), 2 ≤ h ∧ h ≤ 7 → ev_ok1 (3 * (r + 1) + 1) (ps_pair B z (ps_sum B z (ps_one B z r)) (nI h) b) := by
      intro h b hh
      unfold ps_pair ps_sign
      split
      · rw [ps_th_r]
        have h1 := ih (tx_sk B z b + 1)
        cases hx : ps_sum B z (ps_one B z r) (tx_sk B z b + 1) with
        | inl e => trivial
        | inr q =>
          obtain ⟨c, cs⟩ := q
          rw [hx] at h1
          rw [ps_th_r]
          split
          · rw [ps_th_r]
            have h2 := ih (tx_sk B z c + 1)
            cases hy : ps_sum B z (ps_one B z r) (tx_sk B z c + 1) with
            | inl e => trivial
            | inr q =>
              obtain ⟨f, ds⟩ := q
              rw [hy] at h2
              rw [ps_th_r]
              split
              · refine ⟨fun w hw => ?_, fun cap n hn => ?_⟩
                · rcases List.mem_append.mp hw with hw | hw
                  · rcases List.mem_append.mp hw with hw | hw
                    · exact h1.1 w hw
                    · exact h2.1 w hw
                  · rw [List.mem_singleton.mp hw]; exact ev_vop hh.1 hh.2
                · show ev_d cap n (cs ++ ds ++ [(nI h, 0)]) = _
                  rw [ev_d_app, ev_d_app, h1.2 cap n (by omega), Option.bind_some, h2.2 cap (n + 1) (by omega), Option.bind_some, ev_op2 hh.1 hh.2 (by omega)]
                  rfl
              · trivial
          · trivial
      · trivial
    show ev_ok1 _ (if _ then _ else if _ then _ else if _ then _ else _)
    split
    · exact pair 6 _ (by decide)
    · split
      · exact pair 7 _ (by decide)
      · split
        · unfold ps_par ps_sign
          have h1 := ih (tx_sk B z a + 1)
          cases hx : ps_sum B z (ps_one B z r) (tx_sk B z a + 1) with
          | inl e => trivial
          | inr q =>
            obtain ⟨c, cs⟩ := q
            rw [hx] at h1
            rw [ps_th_r]
            split
            · exact ⟨h1.1, fun cap n hn => h1.2 cap n (by omega)⟩
            · trivial
        · exact ev_ok_mono ev_ok_atom (by omega)
/-- steps that can be worked out -/
def ev_good (cs : List (Int32 × Int32)) : Prop := (∀ w ∈ cs, ev_v w) ∧ (∀ cap n, n + 21 ≤ cap → ev_d cap n cs = some (n + 1)) ∧ cs.length ≤ 150 ∧ 1 ≤ cs.length
theorem ev_text {B : Nat → Int32} {z : Nat} (hB : ps_B B z) (hz : z ≤ 150) {cs : List (Int32 × Int32)} (h : ps_text B z = .inr cs) : ev_good cs := by
  have h1 := ev_ok_sum (B := B) (z := z) (m := 19) (by omega) (ev_ok_one (B := B) (z := z) 6) (tx_sk B z 0)
  have h2 := ps_text_ok hB (by omega)
  rw [h] at h2
  unfold ps_text at h
  cases hx : ps_sum B z (ps_one B z 6) (tx_sk B z 0) with
  | inl e => rw [hx] at h; cases h
  | inr q =>
    rw [hx] at h h1
    simp only [] at h
    split at h
    · cases h
    · cases h
      refine ⟨h1.1, h1.2, by have : q.2.length ≤ z := h2; omega, ?_⟩
      cases hq : q.2 with
      | nil =>
        have := h1.2 21 0 (by omega)
        rw [hq] at this
        cases this
      | cons w r => simp
section EV
variable {l : Launch} {G : ax_G} {M : ax_M}
theorem c_X10_by {h : Nat} (h2 : 2 ≤ h) (h7 : h ≤ 7) (u v : Int32) {x : Int32} (hx : x = nI h) : ax_Met l G kX10_by 1 0 0 M [av_i x, av_i u, av_i v] (ax_p (av_i (ev_op x u v)) M) := by
  rcases (show h = 2 ∨ h = 3 ∨ h = 4 ∨ h = 5 ∨ h = 6 ∨ h = 7 by omega) with rfl | rfl | rfl | rfl | rfl | rfl <;> subst hx
  · refine ax_body (by decide) (Nat.le_of_ble_eq_true rfl) ?_
    refine ax_iload_n dX10_by_0 rfl ?_
    refine ax_tableIn (off := 35) (tgt := 36) dX10_by_1 (by decide) (by decide) rfl (by decide) ?_
    refine ax_iload_n dX10_by_36 rfl ?_
    refine ax_iload_n dX10_by_37 rfl ?_
    refine ax_iadd dX10_by_38 ?_
    refine ax_iret dX10_by_39 rfl ?_
    exact ⟨rfl, rfl⟩
  · refine ax_body (by decide) (Nat.le_of_ble_eq_true rfl) ?_
    refine ax_iload_n dX10_by_0 rfl ?_
    refine ax_tableIn (off := 39) (tgt := 40) dX10_by_1 (by decide) (by decide) rfl (by decide) ?_
    refine ax_iload_n dX10_by_40 rfl ?_
    refine ax_iload_n dX10_by_41 rfl ?_
    refine ax_isub dX10_by_42 ?_
    refine ax_iret dX10_by_43 rfl ?_
    exact ⟨rfl, rfl⟩
  · refine ax_body (by decide) (Nat.le_of_ble_eq_true rfl) ?_
    refine ax_iload_n dX10_by_0 rfl ?_
    refine ax_tableIn (off := 43) (tgt := 44) dX10_by_1 (by decide) (by decide) rfl (by decide) ?_
    refine ax_iload_n dX10_by_44 rfl ?_
    refine ax_iload_n dX10_by_45 rfl ?_
    refine ax_imul dX10_by_46 ?_
    refine ax_iret dX10_by_47 rfl ?_
    exact ⟨rfl, rfl⟩
  · have e : ev_op (nI 5) u v = if v = 0 then 0 else if v = -1 then -u else u / v := rfl
    refine ax_body (by decide) (Nat.le_of_ble_eq_true rfl) ?_
    refine ax_iload_n dX10_by_0 rfl ?_
    refine ax_tableIn (off := 47) (tgt := 48) dX10_by_1 (by decide) (by decide) rfl (by decide) ?_
    refine ax_iload_n dX10_by_48 rfl ?_
    refine ax_if_ne (tgt := 56) dX10_by_49 (by decide) (fun hc => ?_) (fun hc => ?_)
    · have hv := hc
      refine ax_iload_n dX10_by_56 rfl ?_
      refine ax_iconst (v := (-1)) dX10_by_57 (by decide) ?_
      refine ax_icmp_ne (tgt := 66) dX10_by_58 (by decide) (fun hc => ?_) (fun hc => ?_)
      · refine ax_iload_n dX10_by_66 rfl ?_
        refine ax_iload_n dX10_by_67 rfl ?_
        refine ax_idiv dX10_by_68 hv ?_
        refine ax_iret dX10_by_69 rfl ?_
        rw [e, if_neg hv, if_neg hc]; exact ⟨rfl, rfl⟩
      · refine ax_iload_n dX10_by_61 rfl ?_
        refine ax_ineg dX10_by_62 ?_
        refine ax_goto (tgt := 69) dX10_by_63 (by decide) ?_
        refine ax_iret dX10_by_69 rfl ?_
        rw [e, if_neg hv, if_pos hc]; exact ⟨rfl, rfl⟩
    · refine ax_iconst (v := 0) dX10_by_52 (by decide) ?_
      refine ax_goto (tgt := 69) dX10_by_53 (by decide) ?_
      refine ax_iret dX10_by_69 rfl ?_
      rw [e, if_pos hc]; exact ⟨rfl, rfl⟩
  · refine ax_body (by decide) (Nat.le_of_ble_eq_true rfl) ?_
    refine ax_iload_n dX10_by_0 rfl ?_
    refine ax_tableIn (off := 69) (tgt := 70) dX10_by_1 (by decide) (by decide) rfl (by decide) ?_
    refine ax_iload_n dX10_by_70 rfl ?_
    refine ax_iload_n dX10_by_71 rfl ?_
    refine ax_callS (As := _) (c1 := 0) (n1 := 0) (c_X10_less (d := 0) (M := M) _ _) dX10_by_72 mX10_less wd_1905 rfl (by omega) (by omega) (by omega) rfl rfl (fun _ _ h => by cases h.1) ?_
    rintro r M9 ⟨h1, h9⟩; cases h1; rw [h9]; clear h9 M9
    refine ax_iret dX10_by_75 rfl ?_
    exact ⟨rfl, rfl⟩
  · refine ax_body (by decide) (Nat.le_of_ble_eq_true rfl) ?_
    refine ax_iload_n dX10_by_0 rfl ?_
    refine ax_tableOut (tgt := 76) dX10_by_1 (by decide) (by decide) ?_
    refine ax_iload_n dX10_by_76 rfl ?_
    refine ax_iload_n dX10_by_77 rfl ?_
    refine ax_callS (As := _) (c1 := 0) (n1 := 0) (c_X10_more (d := 0) (M := M) _ _) dX10_by_78 mX10_more wd_1908 rfl (by omega) (by omega) (by omega) rfl rfl (fun _ _ h => by cases h.1) ?_
    rintro r M9 ⟨h1, h9⟩; cases h1; rw [h9]; clear h9 M9
    refine ax_iret dX10_by_81 rfl ?_
    exact ⟨rfl, rfl⟩
end EV

