/-! ===== the reference's small functions ===== -/
section MS
variable {l : Launch} {G : ax_G} {d : Nat} {M : ax_M}
theorem c_X10_in (a b e : Int32) : ax_Met l G kX10_in d 0 0 M [av_i a, av_i b, av_i e] (ax_p (av_i (if b ≤ a ∧ a ≤ e then 1 else 0)) M) := by
  refine ax_body (by decide) (Nat.le_of_ble_eq_true rfl) ?_
  refine ax_iload_n dX10_in_0 rfl ?_
  refine ax_iload_n dX10_in_1 rfl ?_
  refine ax_icmp_lt (tgt := 14) dX10_in_2 (by decide) (fun hc => ?_) (fun hc => ?_)
  · refine ax_iconst (v := 0) dX10_in_14 (by decide) ?_
    refine ax_zret dX10_in_15 rfl ?_ ?_
    · exact Or.inl rfl
    · have h : ¬ (b ≤ a ∧ a ≤ e) := fun q => by have := Int32.not_lt.mpr q.1; exact this hc
      rw [if_neg h]; exact ⟨rfl, rfl⟩
  · refine ax_iload_n dX10_in_5 rfl ?_
    refine ax_iload_n dX10_in_6 rfl ?_
    refine ax_icmp_gt (tgt := 14) dX10_in_7 (by decide) (fun hc => ?_) (fun hc => ?_)
    · rename_i h1
      refine ax_iconst (v := 0) dX10_in_14 (by decide) ?_
      refine ax_zret dX10_in_15 rfl ?_ ?_
      · exact Or.inl rfl
      · have h : ¬ (b ≤ a ∧ a ≤ e) := fun q => by have := Int32.not_lt.mpr q.2; exact this hc
        rw [if_neg h]; exact ⟨rfl, rfl⟩
    · rename_i h1
      refine ax_iconst (v := 1) dX10_in_10 (by decide) ?_
      refine ax_goto (tgt := 15) dX10_in_11 (by decide) ?_
      refine ax_zret dX10_in_15 rfl ?_ ?_
      · exact Or.inr rfl
      · rw [if_pos ⟨Int32.not_lt.mp h1, Int32.not_lt.mp hc⟩]; exact ⟨rfl, rfl⟩
theorem c_X10_less (a b : Int32) : ax_Met l G kX10_less d 0 0 M [av_i a, av_i b] (ax_p (av_i (if a < b then a else b)) M) := by
  refine ax_body (by decide) (Nat.le_of_ble_eq_true rfl) ?_
  refine ax_iload_n dX10_less_0 rfl ?_
  refine ax_iload_n dX10_less_1 rfl ?_
  refine ax_icmp_ge (tgt := 9) dX10_less_2 (by decide) (fun hc => ?_) (fun hc => ?_)
  · refine ax_iload_n dX10_less_9 rfl ?_
    refine ax_iret dX10_less_10 rfl ?_
    rw [if_neg (Int32.not_lt.mpr hc)]; exact ⟨rfl, rfl⟩
  · refine ax_iload_n dX10_less_5 rfl ?_
    refine ax_goto (tgt := 10) dX10_less_6 (by decide) ?_
    refine ax_iret dX10_less_10 rfl ?_
    rw [if_pos (Int32.not_le.mp hc)]; exact ⟨rfl, rfl⟩
theorem c_X10_more (a b : Int32) : ax_Met l G kX10_more d 0 0 M [av_i a, av_i b] (ax_p (av_i (if b < a then a else b)) M) := by
  refine ax_body (by decide) (Nat.le_of_ble_eq_true rfl) ?_
  refine ax_iload_n dX10_more_0 rfl ?_
  refine ax_iload_n dX10_more_1 rfl ?_
  refine ax_icmp_le (tgt := 9) dX10_more_2 (by decide) (fun hc => ?_) (fun hc => ?_)
  · refine ax_iload_n dX10_more_9 rfl ?_
    refine ax_iret dX10_more_10 rfl ?_
    rw [if_neg (Int32.not_lt.mpr hc)]; exact ⟨rfl, rfl⟩
  · refine ax_iload_n dX10_more_5 rfl ?_
    refine ax_goto (tgt := 10) dX10_more_6 (by decide) ?_
    refine ax_iret dX10_more_10 rfl ?_
    rw [if_pos (Int32.not_le.mp hc)]; exact ⟨rfl, rfl⟩
theorem c_X10_far (a b : Int32) : ax_Met l G kX10_far d 0 0 M [av_i a, av_i b] (ax_p (av_i (if b < a then a - b else b - a)) M) := by
  refine ax_body (by decide) (Nat.le_of_ble_eq_true rfl) ?_
  refine ax_iload_n dX10_far_0 rfl ?_
  refine ax_iload_n dX10_far_1 rfl ?_
  refine ax_icmp_le (tgt := 11) dX10_far_2 (by decide) (fun hc => ?_) (fun hc => ?_)
  · refine ax_iload_n dX10_far_11 rfl ?_
    refine ax_iload_n dX10_far_12 rfl ?_
    refine ax_isub dX10_far_13 ?_
    refine ax_iret dX10_far_14 rfl ?_
    rw [if_neg (Int32.not_lt.mpr hc)]; exact ⟨rfl, rfl⟩
  · refine ax_iload_n dX10_far_5 rfl ?_
    refine ax_iload_n dX10_far_6 rfl ?_
    refine ax_isub dX10_far_7 ?_
    refine ax_goto (tgt := 14) dX10_far_8 (by decide) ?_
    refine ax_iret dX10_far_14 rfl ?_
    rw [if_pos (Int32.not_le.mp hc)]; exact ⟨rfl, rfl⟩
theorem c_X10_getsBy (a b : Int32) : ax_Met l G kX10_getsBy 1 0 0 M [av_i a, av_i b] (ax_p (av_i (3 * a - (if b - a < 0 then 0 else b - a) * (if b - a < 0 then 0 else b - a) - (a + b) / 2)) M) := by
  refine ax_body (by decide) (Nat.le_of_ble_eq_true rfl) ?_
  refine ax_iconst (v := 0) dX10_getsBy_0 (by decide) ?_
  refine ax_iload_n dX10_getsBy_1 rfl ?_
  refine ax_iload_n dX10_getsBy_2 rfl ?_
  refine ax_isub dX10_getsBy_3 ?_
  refine ax_callS (As := _) (c1 := 0) (n1 := 0) (c_X10_more (d := 0) _ _) dX10_getsBy_4 mX10_more wd_1908 rfl (by omega) (by omega) (by omega) rfl rfl (fun _ _ h => by cases h.1) ?_
  rintro r M2 ⟨h1, rfl⟩; cases h1
  refine ax_istore_n dX10_getsBy_7 (by decide) rfl ?_
  refine ax_iconst (v := 3) dX10_getsBy_8 (by decide) ?_
  refine ax_iload_n dX10_getsBy_9 rfl ?_
  refine ax_imul dX10_getsBy_10 ?_
  refine ax_iload_n dX10_getsBy_11 rfl ?_
  refine ax_iload_n dX10_getsBy_12 rfl ?_
  refine ax_imul dX10_getsBy_13 ?_
  refine ax_isub dX10_getsBy_14 ?_
  refine ax_iload_n dX10_getsBy_15 rfl ?_
  refine ax_iload_n dX10_getsBy_16 rfl ?_
  refine ax_iadd dX10_getsBy_17 ?_
  refine ax_iconst (v := 2) dX10_getsBy_18 (by decide) ?_
  refine ax_idiv dX10_getsBy_19 (by decide) ?_
  refine ax_isub dX10_getsBy_20 ?_
  refine ax_iret dX10_getsBy_21 rfl ?_
  exact ⟨rfl, rfl⟩
end MS

