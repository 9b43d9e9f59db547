/-! ===== what the law calls: each takes its throws ===== -/
def lv64 (v : ax_V) : Int64 := match v with
  | .inl x => x.toInt64
  | .inr (.inl y) => y
  | _ => 0
def qw (tb : List (Nat × Nat)) (Q2 : ax_O → ax_M → Prop) : ax_O → ax_M → Prop := fun o M2 => (∃ v M1, Q2 (.inl (some v)) M1 ∧ M2 = ax_pL M1 432 0 (lv64 v) ∧ o = .inl (some (av_i 0))) ∨ (∃ k w, (k, w) ∈ tb ∧ Q2 (.inr (cz_n k)) M2 ∧ o = .inl (some (av_i (nI w))))
theorem qw_nx {tb : List (Nat × Nat)} {Q2 : ax_O → ax_M → Prop} {E : String} {M2 : ax_M} : ¬ qw tb Q2 (.inr E) M2 := by
  rintro (⟨v, M1, -, -, h⟩ | ⟨k, w, -, -, h⟩) <;> cases h
theorem dL_road_0 : decode cL_road 0 = .ok (.aload_n 2, 1) := by decide +kernel
theorem dL_road_1 : decode cL_road 1 = .ok (.iconst 0, 1) := by decide +kernel
theorem dL_road_2 : decode cL_road 2 = .ok (.aload_n 0, 1) := by decide +kernel
theorem dL_road_3 : decode cL_road 3 = .ok (.iload_n 1, 1) := by decide +kernel
theorem dL_road_4 : decode cL_road 4 = .ok (.invokevirtual 7, 3) := by decide +kernel
theorem dL_road_7 : decode cL_road 7 = .ok (.i2l, 1) := by decide +kernel
theorem dL_road_8 : decode cL_road 8 = .ok (.lastore, 1) := by decide +kernel
theorem dL_road_9 : decode cL_road 9 = .ok (.goto 6, 3) := by decide +kernel
theorem dL_road_12 : decode cL_road 12 = .ok (.astore_n 3, 1) := by decide +kernel
theorem dL_road_13 : decode cL_road 13 = .ok (.iconst 1, 1) := by decide +kernel
theorem dL_road_14 : decode cL_road 14 = .ok (.ireturn, 1) := by decide +kernel
theorem dL_road_15 : decode cL_road 15 = .ok (.iconst 0, 1) := by decide +kernel
theorem dL_road_16 : decode cL_road 16 = .ok (.ireturn, 1) := by decide +kernel
theorem dL_law_0 : decode cL_law 0 = .ok (.aload_n 2, 1) := by decide +kernel
theorem dL_law_1 : decode cL_law 1 = .ok (.iconst 0, 1) := by decide +kernel
theorem dL_law_2 : decode cL_law 2 = .ok (.aload_n 0, 1) := by decide +kernel
theorem dL_law_3 : decode cL_law 3 = .ok (.iload_n 1, 1) := by decide +kernel
theorem dL_law_4 : decode cL_law 4 = .ok (.invokevirtual 15, 3) := by decide +kernel
theorem dL_law_7 : decode cL_law 7 = .ok (.i2l, 1) := by decide +kernel
theorem dL_law_8 : decode cL_law 8 = .ok (.lastore, 1) := by decide +kernel
theorem dL_law_9 : decode cL_law 9 = .ok (.goto 6, 3) := by decide +kernel
theorem dL_law_12 : decode cL_law 12 = .ok (.astore_n 3, 1) := by decide +kernel
theorem dL_law_13 : decode cL_law 13 = .ok (.iconst 1, 1) := by decide +kernel
theorem dL_law_14 : decode cL_law 14 = .ok (.ireturn, 1) := by decide +kernel
theorem dL_law_15 : decode cL_law 15 = .ok (.iconst 0, 1) := by decide +kernel
theorem dL_law_16 : decode cL_law 16 = .ok (.ireturn, 1) := by decide +kernel
theorem dL_rule_0 : decode cL_rule 0 = .ok (.aload_n 3, 1) := by decide +kernel
theorem dL_rule_1 : decode cL_rule 1 = .ok (.iconst 0, 1) := by decide +kernel
theorem dL_rule_2 : decode cL_rule 2 = .ok (.aload_n 0, 1) := by decide +kernel
theorem dL_rule_3 : decode cL_rule 3 = .ok (.iload_n 1, 1) := by decide +kernel
theorem dL_rule_4 : decode cL_rule 4 = .ok (.iload_n 2, 1) := by decide +kernel
theorem dL_rule_5 : decode cL_rule 5 = .ok (.invokevirtual 18, 3) := by decide +kernel
theorem dL_rule_8 : decode cL_rule 8 = .ok (.i2l, 1) := by decide +kernel
theorem dL_rule_9 : decode cL_rule 9 = .ok (.lastore, 1) := by decide +kernel
theorem dL_rule_10 : decode cL_rule 10 = .ok (.goto 11, 3) := by decide +kernel
theorem dL_rule_13 : decode cL_rule 13 = .ok (.astore 4, 2) := by decide +kernel
theorem dL_rule_15 : decode cL_rule 15 = .ok (.iconst 1, 1) := by decide +kernel
theorem dL_rule_16 : decode cL_rule 16 = .ok (.ireturn, 1) := by decide +kernel
theorem dL_rule_17 : decode cL_rule 17 = .ok (.astore 4, 2) := by decide +kernel
theorem dL_rule_19 : decode cL_rule 19 = .ok (.iconst 2, 1) := by decide +kernel
theorem dL_rule_20 : decode cL_rule 20 = .ok (.ireturn, 1) := by decide +kernel
theorem dL_rule_21 : decode cL_rule 21 = .ok (.iconst 0, 1) := by decide +kernel
theorem dL_rule_22 : decode cL_rule 22 = .ok (.ireturn, 1) := by decide +kernel
theorem dL_book_0 : decode cL_book 0 = .ok (.aload_n 2, 1) := by decide +kernel
theorem dL_book_1 : decode cL_book 1 = .ok (.iconst 0, 1) := by decide +kernel
theorem dL_book_2 : decode cL_book 2 = .ok (.aload_n 0, 1) := by decide +kernel
theorem dL_book_3 : decode cL_book 3 = .ok (.iload_n 1, 1) := by decide +kernel
theorem dL_book_4 : decode cL_book 4 = .ok (.invokevirtual 24, 3) := by decide +kernel
theorem dL_book_7 : decode cL_book 7 = .ok (.i2l, 1) := by decide +kernel
theorem dL_book_8 : decode cL_book 8 = .ok (.lastore, 1) := by decide +kernel
theorem dL_book_9 : decode cL_book 9 = .ok (.goto 6, 3) := by decide +kernel
theorem dL_book_12 : decode cL_book 12 = .ok (.astore_n 3, 1) := by decide +kernel
theorem dL_book_13 : decode cL_book 13 = .ok (.iconst 1, 1) := by decide +kernel
theorem dL_book_14 : decode cL_book 14 = .ok (.ireturn, 1) := by decide +kernel
theorem dL_book_15 : decode cL_book 15 = .ok (.iconst 0, 1) := by decide +kernel
theorem dL_book_16 : decode cL_book 16 = .ok (.ireturn, 1) := by decide +kernel
theorem dL_told_0 : decode cL_told 0 = .ok (.aload_n 2, 1) := by decide +kernel
theorem dL_told_1 : decode cL_told 1 = .ok (.iconst 0, 1) := by decide +kernel
theorem dL_told_2 : decode cL_told 2 = .ok (.aload_n 0, 1) := by decide +kernel
theorem dL_told_3 : decode cL_told 3 = .ok (.iload_n 1, 1) := by decide +kernel
theorem dL_told_4 : decode cL_told 4 = .ok (.invokevirtual 27, 3) := by decide +kernel
theorem dL_told_7 : decode cL_told 7 = .ok (.i2l, 1) := by decide +kernel
theorem dL_told_8 : decode cL_told 8 = .ok (.lastore, 1) := by decide +kernel
theorem dL_told_9 : decode cL_told 9 = .ok (.goto 6, 3) := by decide +kernel
theorem dL_told_12 : decode cL_told 12 = .ok (.astore_n 3, 1) := by decide +kernel
theorem dL_told_13 : decode cL_told 13 = .ok (.iconst 1, 1) := by decide +kernel
theorem dL_told_14 : decode cL_told 14 = .ok (.ireturn, 1) := by decide +kernel
theorem dL_told_15 : decode cL_told 15 = .ok (.iconst 0, 1) := by decide +kernel
theorem dL_told_16 : decode cL_told 16 = .ok (.ireturn, 1) := by decide +kernel
theorem dL_car_0 : decode cL_car 0 = .ok (.aload_n 3, 1) := by decide +kernel
theorem dL_car_1 : decode cL_car 1 = .ok (.iconst 0, 1) := by decide +kernel
theorem dL_car_2 : decode cL_car 2 = .ok (.aload_n 0, 1) := by decide +kernel
theorem dL_car_3 : decode cL_car 3 = .ok (.iload_n 1, 1) := by decide +kernel
theorem dL_car_4 : decode cL_car 4 = .ok (.iload_n 2, 1) := by decide +kernel
theorem dL_car_5 : decode cL_car 5 = .ok (.invokevirtual 30, 3) := by decide +kernel
theorem dL_car_8 : decode cL_car 8 = .ok (.i2l, 1) := by decide +kernel
theorem dL_car_9 : decode cL_car 9 = .ok (.lastore, 1) := by decide +kernel
theorem dL_car_10 : decode cL_car 10 = .ok (.goto 11, 3) := by decide +kernel
theorem dL_car_13 : decode cL_car 13 = .ok (.astore 4, 2) := by decide +kernel
theorem dL_car_15 : decode cL_car 15 = .ok (.iconst 1, 1) := by decide +kernel
theorem dL_car_16 : decode cL_car 16 = .ok (.ireturn, 1) := by decide +kernel
theorem dL_car_17 : decode cL_car 17 = .ok (.astore 4, 2) := by decide +kernel
theorem dL_car_19 : decode cL_car 19 = .ok (.iconst 2, 1) := by decide +kernel
theorem dL_car_20 : decode cL_car 20 = .ok (.ireturn, 1) := by decide +kernel
theorem dL_car_21 : decode cL_car 21 = .ok (.iconst 0, 1) := by decide +kernel
theorem dL_car_22 : decode cL_car 22 = .ok (.ireturn, 1) := by decide +kernel
theorem dL_coat_0 : decode cL_coat 0 = .ok (.aload_n 3, 1) := by decide +kernel
theorem dL_coat_1 : decode cL_coat 1 = .ok (.iconst 0, 1) := by decide +kernel
theorem dL_coat_2 : decode cL_coat 2 = .ok (.aload_n 0, 1) := by decide +kernel
theorem dL_coat_3 : decode cL_coat 3 = .ok (.iload_n 1, 1) := by decide +kernel
theorem dL_coat_4 : decode cL_coat 4 = .ok (.iload_n 2, 1) := by decide +kernel
theorem dL_coat_5 : decode cL_coat 5 = .ok (.invokevirtual 33, 3) := by decide +kernel
theorem dL_coat_8 : decode cL_coat 8 = .ok (.i2l, 1) := by decide +kernel
theorem dL_coat_9 : decode cL_coat 9 = .ok (.lastore, 1) := by decide +kernel
theorem dL_coat_10 : decode cL_coat 10 = .ok (.goto 11, 3) := by decide +kernel
theorem dL_coat_13 : decode cL_coat 13 = .ok (.astore 4, 2) := by decide +kernel
theorem dL_coat_15 : decode cL_coat 15 = .ok (.iconst 1, 1) := by decide +kernel
theorem dL_coat_16 : decode cL_coat 16 = .ok (.ireturn, 1) := by decide +kernel
theorem dL_coat_17 : decode cL_coat 17 = .ok (.astore 4, 2) := by decide +kernel
theorem dL_coat_19 : decode cL_coat 19 = .ok (.iconst 2, 1) := by decide +kernel
theorem dL_coat_20 : decode cL_coat 20 = .ok (.ireturn, 1) := by decide +kernel
theorem dL_coat_21 : decode cL_coat 21 = .ok (.iconst 0, 1) := by decide +kernel
theorem dL_coat_22 : decode cL_coat 22 = .ok (.ireturn, 1) := by decide +kernel
theorem dL_at_0 : decode cL_at 0 = .ok (.aload 4, 2) := by decide +kernel
theorem dL_at_2 : decode cL_at 2 = .ok (.iconst 0, 1) := by decide +kernel
theorem dL_at_3 : decode cL_at 3 = .ok (.aload_n 0, 1) := by decide +kernel
theorem dL_at_4 : decode cL_at 4 = .ok (.iload_n 1, 1) := by decide +kernel
theorem dL_at_5 : decode cL_at 5 = .ok (.iload_n 2, 1) := by decide +kernel
theorem dL_at_6 : decode cL_at 6 = .ok (.iload_n 3, 1) := by decide +kernel
theorem dL_at_7 : decode cL_at 7 = .ok (.invokevirtual 36, 3) := by decide +kernel
theorem dL_at_10 : decode cL_at 10 = .ok (.i2l, 1) := by decide +kernel
theorem dL_at_11 : decode cL_at 11 = .ok (.lastore, 1) := by decide +kernel
theorem dL_at_12 : decode cL_at 12 = .ok (.goto 11, 3) := by decide +kernel
theorem dL_at_15 : decode cL_at 15 = .ok (.astore 5, 2) := by decide +kernel
theorem dL_at_17 : decode cL_at 17 = .ok (.iconst 1, 1) := by decide +kernel
theorem dL_at_18 : decode cL_at 18 = .ok (.ireturn, 1) := by decide +kernel
theorem dL_at_19 : decode cL_at 19 = .ok (.astore 5, 2) := by decide +kernel
theorem dL_at_21 : decode cL_at 21 = .ok (.iconst 2, 1) := by decide +kernel
theorem dL_at_22 : decode cL_at 22 = .ok (.ireturn, 1) := by decide +kernel
theorem dL_at_23 : decode cL_at 23 = .ok (.iconst 0, 1) := by decide +kernel
theorem dL_at_24 : decode cL_at 24 = .ok (.ireturn, 1) := by decide +kernel
theorem dL_hits_0 : decode cL_hits 0 = .ok (.aload_n 2, 1) := by decide +kernel
theorem dL_hits_1 : decode cL_hits 1 = .ok (.iconst 0, 1) := by decide +kernel
theorem dL_hits_2 : decode cL_hits 2 = .ok (.aload_n 0, 1) := by decide +kernel
theorem dL_hits_3 : decode cL_hits 3 = .ok (.iload_n 1, 1) := by decide +kernel
theorem dL_hits_4 : decode cL_hits 4 = .ok (.invokevirtual 40, 3) := by decide +kernel
theorem dL_hits_7 : decode cL_hits 7 = .ok (.i2l, 1) := by decide +kernel
theorem dL_hits_8 : decode cL_hits 8 = .ok (.lastore, 1) := by decide +kernel
theorem dL_hits_9 : decode cL_hits 9 = .ok (.goto 6, 3) := by decide +kernel
theorem dL_hits_12 : decode cL_hits 12 = .ok (.astore_n 3, 1) := by decide +kernel
theorem dL_hits_13 : decode cL_hits 13 = .ok (.iconst 1, 1) := by decide +kernel
theorem dL_hits_14 : decode cL_hits 14 = .ok (.ireturn, 1) := by decide +kernel
theorem dL_hits_15 : decode cL_hits 15 = .ok (.iconst 0, 1) := by decide +kernel
theorem dL_hits_16 : decode cL_hits 16 = .ok (.ireturn, 1) := by decide +kernel
theorem dL_sees_0 : decode cL_sees 0 = .ok (.aload_n 3, 1) := by decide +kernel
theorem dL_sees_1 : decode cL_sees 1 = .ok (.iconst 0, 1) := by decide +kernel
theorem dL_sees_2 : decode cL_sees 2 = .ok (.aload_n 0, 1) := by decide +kernel
theorem dL_sees_3 : decode cL_sees 3 = .ok (.iload_n 1, 1) := by decide +kernel
theorem dL_sees_4 : decode cL_sees 4 = .ok (.iload_n 2, 1) := by decide +kernel
theorem dL_sees_5 : decode cL_sees 5 = .ok (.invokevirtual 43, 3) := by decide +kernel
theorem dL_sees_8 : decode cL_sees 8 = .ok (.i2l, 1) := by decide +kernel
theorem dL_sees_9 : decode cL_sees 9 = .ok (.lastore, 1) := by decide +kernel
theorem dL_sees_10 : decode cL_sees 10 = .ok (.goto 7, 3) := by decide +kernel
theorem dL_sees_13 : decode cL_sees 13 = .ok (.astore 4, 2) := by decide +kernel
theorem dL_sees_15 : decode cL_sees 15 = .ok (.iconst 1, 1) := by decide +kernel
theorem dL_sees_16 : decode cL_sees 16 = .ok (.ireturn, 1) := by decide +kernel
theorem dL_sees_17 : decode cL_sees 17 = .ok (.iconst 0, 1) := by decide +kernel
theorem dL_sees_18 : decode cL_sees 18 = .ok (.ireturn, 1) := by decide +kernel
theorem dL_sums_0 : decode cL_sums 0 = .ok (.aload_n 3, 1) := by decide +kernel
theorem dL_sums_1 : decode cL_sums 1 = .ok (.iconst 0, 1) := by decide +kernel
theorem dL_sums_2 : decode cL_sums 2 = .ok (.aload_n 0, 1) := by decide +kernel
theorem dL_sums_3 : decode cL_sums 3 = .ok (.iload_n 1, 1) := by decide +kernel
theorem dL_sums_4 : decode cL_sums 4 = .ok (.iload_n 2, 1) := by decide +kernel
theorem dL_sums_5 : decode cL_sums 5 = .ok (.invokevirtual 46, 3) := by decide +kernel
theorem dL_sums_8 : decode cL_sums 8 = .ok (.i2l, 1) := by decide +kernel
theorem dL_sums_9 : decode cL_sums 9 = .ok (.lastore, 1) := by decide +kernel
theorem dL_sums_10 : decode cL_sums 10 = .ok (.goto 11, 3) := by decide +kernel
theorem dL_sums_13 : decode cL_sums 13 = .ok (.astore 4, 2) := by decide +kernel
theorem dL_sums_15 : decode cL_sums 15 = .ok (.iconst 1, 1) := by decide +kernel
theorem dL_sums_16 : decode cL_sums 16 = .ok (.ireturn, 1) := by decide +kernel
theorem dL_sums_17 : decode cL_sums 17 = .ok (.astore 4, 2) := by decide +kernel
theorem dL_sums_19 : decode cL_sums 19 = .ok (.iconst 2, 1) := by decide +kernel
theorem dL_sums_20 : decode cL_sums 20 = .ok (.ireturn, 1) := by decide +kernel
theorem dL_sums_21 : decode cL_sums 21 = .ok (.iconst 0, 1) := by decide +kernel
theorem dL_sums_22 : decode cL_sums 22 = .ok (.ireturn, 1) := by decide +kernel
theorem dL_would_0 : decode cL_would 0 = .ok (.aload 5, 2) := by decide +kernel
theorem dL_would_2 : decode cL_would 2 = .ok (.iconst 0, 1) := by decide +kernel
theorem dL_would_3 : decode cL_would 3 = .ok (.aload_n 0, 1) := by decide +kernel
theorem dL_would_4 : decode cL_would 4 = .ok (.iload_n 1, 1) := by decide +kernel
theorem dL_would_5 : decode cL_would 5 = .ok (.iload_n 2, 1) := by decide +kernel
theorem dL_would_6 : decode cL_would 6 = .ok (.iload_n 3, 1) := by decide +kernel
theorem dL_would_7 : decode cL_would 7 = .ok (.iload 4, 2) := by decide +kernel
theorem dL_would_9 : decode cL_would 9 = .ok (.invokevirtual 49, 3) := by decide +kernel
theorem dL_would_12 : decode cL_would 12 = .ok (.i2l, 1) := by decide +kernel
theorem dL_would_13 : decode cL_would 13 = .ok (.lastore, 1) := by decide +kernel
theorem dL_would_14 : decode cL_would 14 = .ok (.goto 7, 3) := by decide +kernel
theorem dL_would_17 : decode cL_would 17 = .ok (.astore 6, 2) := by decide +kernel
theorem dL_would_19 : decode cL_would 19 = .ok (.iconst 1, 1) := by decide +kernel
theorem dL_would_20 : decode cL_would 20 = .ok (.ireturn, 1) := by decide +kernel
theorem dL_would_21 : decode cL_would 21 = .ok (.iconst 0, 1) := by decide +kernel
theorem dL_would_22 : decode cL_would 22 = .ok (.ireturn, 1) := by decide +kernel
theorem dL_cost_0 : decode cL_cost 0 = .ok (.aload 4, 2) := by decide +kernel
theorem dL_cost_2 : decode cL_cost 2 = .ok (.iconst 0, 1) := by decide +kernel
theorem dL_cost_3 : decode cL_cost 3 = .ok (.aload_n 0, 1) := by decide +kernel
theorem dL_cost_4 : decode cL_cost 4 = .ok (.iload_n 1, 1) := by decide +kernel
theorem dL_cost_5 : decode cL_cost 5 = .ok (.iload_n 2, 1) := by decide +kernel
theorem dL_cost_6 : decode cL_cost 6 = .ok (.iload_n 3, 1) := by decide +kernel
theorem dL_cost_7 : decode cL_cost 7 = .ok (.invokevirtual 53, 3) := by decide +kernel
theorem dL_cost_10 : decode cL_cost 10 = .ok (.i2l, 1) := by decide +kernel
theorem dL_cost_11 : decode cL_cost 11 = .ok (.lastore, 1) := by decide +kernel
theorem dL_cost_12 : decode cL_cost 12 = .ok (.goto 15, 3) := by decide +kernel
theorem dL_cost_15 : decode cL_cost 15 = .ok (.astore 5, 2) := by decide +kernel
theorem dL_cost_17 : decode cL_cost 17 = .ok (.iconst 1, 1) := by decide +kernel
theorem dL_cost_18 : decode cL_cost 18 = .ok (.ireturn, 1) := by decide +kernel
theorem dL_cost_19 : decode cL_cost 19 = .ok (.astore 5, 2) := by decide +kernel
theorem dL_cost_21 : decode cL_cost 21 = .ok (.iconst 2, 1) := by decide +kernel
theorem dL_cost_22 : decode cL_cost 22 = .ok (.ireturn, 1) := by decide +kernel
theorem dL_cost_23 : decode cL_cost 23 = .ok (.astore 5, 2) := by decide +kernel
theorem dL_cost_25 : decode cL_cost 25 = .ok (.iconst 3, 1) := by decide +kernel
theorem dL_cost_26 : decode cL_cost 26 = .ok (.ireturn, 1) := by decide +kernel
theorem dL_cost_27 : decode cL_cost 27 = .ok (.iconst 0, 1) := by decide +kernel
theorem dL_cost_28 : decode cL_cost 28 = .ok (.ireturn, 1) := by decide +kernel
theorem dL_duel_0 : decode cL_duel 0 = .ok (.aload_n 3, 1) := by decide +kernel
theorem dL_duel_1 : decode cL_duel 1 = .ok (.iconst 0, 1) := by decide +kernel
theorem dL_duel_2 : decode cL_duel 2 = .ok (.aload_n 0, 1) := by decide +kernel
theorem dL_duel_3 : decode cL_duel 3 = .ok (.iload_n 1, 1) := by decide +kernel
theorem dL_duel_4 : decode cL_duel 4 = .ok (.iload_n 2, 1) := by decide +kernel
theorem dL_duel_5 : decode cL_duel 5 = .ok (.invokevirtual 58, 3) := by decide +kernel
theorem dL_duel_8 : decode cL_duel 8 = .ok (.i2l, 1) := by decide +kernel
theorem dL_duel_9 : decode cL_duel 9 = .ok (.lastore, 1) := by decide +kernel
theorem dL_duel_10 : decode cL_duel 10 = .ok (.goto 11, 3) := by decide +kernel
theorem dL_duel_13 : decode cL_duel 13 = .ok (.astore 4, 2) := by decide +kernel
theorem dL_duel_15 : decode cL_duel 15 = .ok (.iconst 1, 1) := by decide +kernel
theorem dL_duel_16 : decode cL_duel 16 = .ok (.ireturn, 1) := by decide +kernel
theorem dL_duel_17 : decode cL_duel 17 = .ok (.astore 4, 2) := by decide +kernel
theorem dL_duel_19 : decode cL_duel 19 = .ok (.iconst 2, 1) := by decide +kernel
theorem dL_duel_20 : decode cL_duel 20 = .ok (.ireturn, 1) := by decide +kernel
theorem dL_duel_21 : decode cL_duel 21 = .ok (.iconst 0, 1) := by decide +kernel
theorem dL_duel_22 : decode cL_duel 22 = .ok (.ireturn, 1) := by decide +kernel
theorem dL_answer_0 : decode cL_answer 0 = .ok (.aload_n 3, 1) := by decide +kernel
theorem dL_answer_1 : decode cL_answer 1 = .ok (.iconst 0, 1) := by decide +kernel
theorem dL_answer_2 : decode cL_answer 2 = .ok (.aload_n 0, 1) := by decide +kernel
theorem dL_answer_3 : decode cL_answer 3 = .ok (.iload_n 1, 1) := by decide +kernel
theorem dL_answer_4 : decode cL_answer 4 = .ok (.iload_n 2, 1) := by decide +kernel
theorem dL_answer_5 : decode cL_answer 5 = .ok (.invokevirtual 61, 3) := by decide +kernel
theorem dL_answer_8 : decode cL_answer 8 = .ok (.i2l, 1) := by decide +kernel
theorem dL_answer_9 : decode cL_answer 9 = .ok (.lastore, 1) := by decide +kernel
theorem dL_answer_10 : decode cL_answer 10 = .ok (.goto 15, 3) := by decide +kernel
theorem dL_answer_13 : decode cL_answer 13 = .ok (.astore 4, 2) := by decide +kernel
theorem dL_answer_15 : decode cL_answer 15 = .ok (.iconst 1, 1) := by decide +kernel
theorem dL_answer_16 : decode cL_answer 16 = .ok (.ireturn, 1) := by decide +kernel
theorem dL_answer_17 : decode cL_answer 17 = .ok (.astore 4, 2) := by decide +kernel
theorem dL_answer_19 : decode cL_answer 19 = .ok (.iconst 2, 1) := by decide +kernel
theorem dL_answer_20 : decode cL_answer 20 = .ok (.ireturn, 1) := by decide +kernel
theorem dL_answer_21 : decode cL_answer 21 = .ok (.astore 4, 2) := by decide +kernel
theorem dL_answer_23 : decode cL_answer 23 = .ok (.iconst 3, 1) := by decide +kernel
theorem dL_answer_24 : decode cL_answer 24 = .ok (.ireturn, 1) := by decide +kernel
theorem dL_answer_25 : decode cL_answer 25 = .ok (.iconst 0, 1) := by decide +kernel
theorem dL_answer_26 : decode cL_answer 26 = .ok (.ireturn, 1) := by decide +kernel
theorem dL_habit_0 : decode cL_habit 0 = .ok (.aload_n 3, 1) := by decide +kernel
theorem dL_habit_1 : decode cL_habit 1 = .ok (.iconst 0, 1) := by decide +kernel
theorem dL_habit_2 : decode cL_habit 2 = .ok (.aload_n 0, 1) := by decide +kernel
theorem dL_habit_3 : decode cL_habit 3 = .ok (.iload_n 1, 1) := by decide +kernel
theorem dL_habit_4 : decode cL_habit 4 = .ok (.iload_n 2, 1) := by decide +kernel
theorem dL_habit_5 : decode cL_habit 5 = .ok (.invokevirtual 64, 3) := by decide +kernel
theorem dL_habit_8 : decode cL_habit 8 = .ok (.i2l, 1) := by decide +kernel
theorem dL_habit_9 : decode cL_habit 9 = .ok (.lastore, 1) := by decide +kernel
theorem dL_habit_10 : decode cL_habit 10 = .ok (.goto 11, 3) := by decide +kernel
theorem dL_habit_13 : decode cL_habit 13 = .ok (.astore 4, 2) := by decide +kernel
theorem dL_habit_15 : decode cL_habit 15 = .ok (.iconst 1, 1) := by decide +kernel
theorem dL_habit_16 : decode cL_habit 16 = .ok (.ireturn, 1) := by decide +kernel
theorem dL_habit_17 : decode cL_habit 17 = .ok (.astore 4, 2) := by decide +kernel
theorem dL_habit_19 : decode cL_habit 19 = .ok (.iconst 2, 1) := by decide +kernel
theorem dL_habit_20 : decode cL_habit 20 = .ok (.ireturn, 1) := by decide +kernel
theorem dL_habit_21 : decode cL_habit 21 = .ok (.iconst 0, 1) := by decide +kernel
theorem dL_habit_22 : decode cL_habit 22 = .ok (.ireturn, 1) := by decide +kernel
theorem dL_safe_0 : decode cL_safe 0 = .ok (.aload_n 3, 1) := by decide +kernel
theorem dL_safe_1 : decode cL_safe 1 = .ok (.iconst 0, 1) := by decide +kernel
theorem dL_safe_2 : decode cL_safe 2 = .ok (.aload_n 0, 1) := by decide +kernel
theorem dL_safe_3 : decode cL_safe 3 = .ok (.iload_n 1, 1) := by decide +kernel
theorem dL_safe_4 : decode cL_safe 4 = .ok (.iload_n 2, 1) := by decide +kernel
theorem dL_safe_5 : decode cL_safe 5 = .ok (.invokevirtual 67, 3) := by decide +kernel
theorem dL_safe_8 : decode cL_safe 8 = .ok (.i2l, 1) := by decide +kernel
theorem dL_safe_9 : decode cL_safe 9 = .ok (.lastore, 1) := by decide +kernel
theorem dL_safe_10 : decode cL_safe 10 = .ok (.goto 11, 3) := by decide +kernel
theorem dL_safe_13 : decode cL_safe 13 = .ok (.astore 4, 2) := by decide +kernel
theorem dL_safe_15 : decode cL_safe 15 = .ok (.iconst 1, 1) := by decide +kernel
theorem dL_safe_16 : decode cL_safe 16 = .ok (.ireturn, 1) := by decide +kernel
theorem dL_safe_17 : decode cL_safe 17 = .ok (.astore 4, 2) := by decide +kernel
theorem dL_safe_19 : decode cL_safe 19 = .ok (.iconst 2, 1) := by decide +kernel
theorem dL_safe_20 : decode cL_safe 20 = .ok (.ireturn, 1) := by decide +kernel
theorem dL_safe_21 : decode cL_safe 21 = .ok (.iconst 0, 1) := by decide +kernel
theorem dL_safe_22 : decode cL_safe 22 = .ok (.ireturn, 1) := by decide +kernel
theorem dL_loaded_0 : decode cL_loaded 0 = .ok (.aload 5, 2) := by decide +kernel
theorem dL_loaded_2 : decode cL_loaded 2 = .ok (.iconst 0, 1) := by decide +kernel
theorem dL_loaded_3 : decode cL_loaded 3 = .ok (.aload_n 0, 1) := by decide +kernel
theorem dL_loaded_4 : decode cL_loaded 4 = .ok (.iload_n 1, 1) := by decide +kernel
theorem dL_loaded_5 : decode cL_loaded 5 = .ok (.iload_n 2, 1) := by decide +kernel
theorem dL_loaded_6 : decode cL_loaded 6 = .ok (.iload_n 3, 1) := by decide +kernel
theorem dL_loaded_7 : decode cL_loaded 7 = .ok (.iload 4, 2) := by decide +kernel
theorem dL_loaded_9 : decode cL_loaded 9 = .ok (.invokevirtual 70, 3) := by decide +kernel
theorem dL_loaded_12 : decode cL_loaded 12 = .ok (.lastore, 1) := by decide +kernel
theorem dL_loaded_13 : decode cL_loaded 13 = .ok (.goto 7, 3) := by decide +kernel
theorem dL_loaded_16 : decode cL_loaded 16 = .ok (.astore 6, 2) := by decide +kernel
theorem dL_loaded_18 : decode cL_loaded 18 = .ok (.iconst 1, 1) := by decide +kernel
theorem dL_loaded_19 : decode cL_loaded 19 = .ok (.ireturn, 1) := by decide +kernel
theorem dL_loaded_20 : decode cL_loaded 20 = .ok (.iconst 0, 1) := by decide +kernel
theorem dL_loaded_21 : decode cL_loaded 21 = .ok (.ireturn, 1) := by decide +kernel
theorem dL_blinds_0 : decode cL_blinds 0 = .ok (.aload_n 2, 1) := by decide +kernel
theorem dL_blinds_1 : decode cL_blinds 1 = .ok (.iconst 0, 1) := by decide +kernel
theorem dL_blinds_2 : decode cL_blinds 2 = .ok (.aload_n 0, 1) := by decide +kernel
theorem dL_blinds_3 : decode cL_blinds 3 = .ok (.iload_n 1, 1) := by decide +kernel
theorem dL_blinds_4 : decode cL_blinds 4 = .ok (.invokevirtual 74, 3) := by decide +kernel
theorem dL_blinds_7 : decode cL_blinds 7 = .ok (.i2l, 1) := by decide +kernel
theorem dL_blinds_8 : decode cL_blinds 8 = .ok (.lastore, 1) := by decide +kernel
theorem dL_blinds_9 : decode cL_blinds 9 = .ok (.goto 6, 3) := by decide +kernel
theorem dL_blinds_12 : decode cL_blinds 12 = .ok (.astore_n 3, 1) := by decide +kernel
theorem dL_blinds_13 : decode cL_blinds 13 = .ok (.iconst 1, 1) := by decide +kernel
theorem dL_blinds_14 : decode cL_blinds 14 = .ok (.ireturn, 1) := by decide +kernel
theorem dL_blinds_15 : decode cL_blinds 15 = .ok (.iconst 0, 1) := by decide +kernel
theorem dL_blinds_16 : decode cL_blinds 16 = .ok (.ireturn, 1) := by decide +kernel
theorem dL_old_0 : decode cL_old 0 = .ok (.aload_n 2, 1) := by decide +kernel
theorem dL_old_1 : decode cL_old 1 = .ok (.iconst 0, 1) := by decide +kernel
theorem dL_old_2 : decode cL_old 2 = .ok (.aload_n 0, 1) := by decide +kernel
theorem dL_old_3 : decode cL_old 3 = .ok (.iload_n 1, 1) := by decide +kernel
theorem dL_old_4 : decode cL_old 4 = .ok (.invokevirtual 77, 3) := by decide +kernel
theorem dL_old_7 : decode cL_old 7 = .ok (.i2l, 1) := by decide +kernel
theorem dL_old_8 : decode cL_old 8 = .ok (.lastore, 1) := by decide +kernel
theorem dL_old_9 : decode cL_old 9 = .ok (.goto 6, 3) := by decide +kernel
theorem dL_old_12 : decode cL_old 12 = .ok (.astore_n 3, 1) := by decide +kernel
theorem dL_old_13 : decode cL_old 13 = .ok (.iconst 1, 1) := by decide +kernel
theorem dL_old_14 : decode cL_old 14 = .ok (.ireturn, 1) := by decide +kernel
theorem dL_old_15 : decode cL_old 15 = .ok (.iconst 0, 1) := by decide +kernel
theorem dL_old_16 : decode cL_old 16 = .ok (.ireturn, 1) := by decide +kernel
theorem dL_between_0 : decode cL_between 0 = .ok (.aload_n 3, 1) := by decide +kernel
theorem dL_between_1 : decode cL_between 1 = .ok (.iconst 0, 1) := by decide +kernel
theorem dL_between_2 : decode cL_between 2 = .ok (.aload_n 0, 1) := by decide +kernel
theorem dL_between_3 : decode cL_between 3 = .ok (.iload_n 1, 1) := by decide +kernel
theorem dL_between_4 : decode cL_between 4 = .ok (.iload_n 2, 1) := by decide +kernel
theorem dL_between_5 : decode cL_between 5 = .ok (.invokevirtual 80, 3) := by decide +kernel
theorem dL_between_8 : decode cL_between 8 = .ok (.ifCond .eq 7, 3) := by decide +kernel
theorem dL_between_11 : decode cL_between 11 = .ok (.lconst 1, 1) := by decide +kernel
theorem dL_between_12 : decode cL_between 12 = .ok (.goto 4, 3) := by decide +kernel
theorem dL_between_15 : decode cL_between 15 = .ok (.lconst 0, 1) := by decide +kernel
theorem dL_between_16 : decode cL_between 16 = .ok (.lastore, 1) := by decide +kernel
theorem dL_between_17 : decode cL_between 17 = .ok (.goto 7, 3) := by decide +kernel
theorem dL_between_20 : decode cL_between 20 = .ok (.astore 4, 2) := by decide +kernel
theorem dL_between_22 : decode cL_between 22 = .ok (.iconst 1, 1) := by decide +kernel
theorem dL_between_23 : decode cL_between 23 = .ok (.ireturn, 1) := by decide +kernel
theorem dL_between_24 : decode cL_between 24 = .ok (.iconst 0, 1) := by decide +kernel
theorem dL_between_25 : decode cL_between 25 = .ok (.ireturn, 1) := by decide +kernel
theorem dL_gets_0 : decode cL_gets 0 = .ok (.aload_n 3, 1) := by decide +kernel
theorem dL_gets_1 : decode cL_gets 1 = .ok (.iconst 0, 1) := by decide +kernel
theorem dL_gets_2 : decode cL_gets 2 = .ok (.aload_n 0, 1) := by decide +kernel
theorem dL_gets_3 : decode cL_gets 3 = .ok (.iload_n 1, 1) := by decide +kernel
theorem dL_gets_4 : decode cL_gets 4 = .ok (.iload_n 2, 1) := by decide +kernel
theorem dL_gets_5 : decode cL_gets 5 = .ok (.invokevirtual 84, 3) := by decide +kernel
theorem dL_gets_8 : decode cL_gets 8 = .ok (.i2l, 1) := by decide +kernel
theorem dL_gets_9 : decode cL_gets 9 = .ok (.lastore, 1) := by decide +kernel
theorem dL_gets_10 : decode cL_gets 10 = .ok (.goto 7, 3) := by decide +kernel
theorem dL_gets_13 : decode cL_gets 13 = .ok (.astore 4, 2) := by decide +kernel
theorem dL_gets_15 : decode cL_gets 15 = .ok (.iconst 1, 1) := by decide +kernel
theorem dL_gets_16 : decode cL_gets 16 = .ok (.ireturn, 1) := by decide +kernel
theorem dL_gets_17 : decode cL_gets 17 = .ok (.iconst 0, 1) := by decide +kernel
theorem dL_gets_18 : decode cL_gets 18 = .ok (.ireturn, 1) := by decide +kernel
theorem dL_bulbs_0 : decode cL_bulbs 0 = .ok (.aload_n 3, 1) := by decide +kernel
theorem dL_bulbs_1 : decode cL_bulbs 1 = .ok (.iconst 0, 1) := by decide +kernel
theorem dL_bulbs_2 : decode cL_bulbs 2 = .ok (.aload_n 0, 1) := by decide +kernel
theorem dL_bulbs_3 : decode cL_bulbs 3 = .ok (.iload_n 1, 1) := by decide +kernel
theorem dL_bulbs_4 : decode cL_bulbs 4 = .ok (.iload_n 2, 1) := by decide +kernel
theorem dL_bulbs_5 : decode cL_bulbs 5 = .ok (.invokevirtual 87, 3) := by decide +kernel
theorem dL_bulbs_8 : decode cL_bulbs 8 = .ok (.i2l, 1) := by decide +kernel
theorem dL_bulbs_9 : decode cL_bulbs 9 = .ok (.lastore, 1) := by decide +kernel
theorem dL_bulbs_10 : decode cL_bulbs 10 = .ok (.goto 7, 3) := by decide +kernel
theorem dL_bulbs_13 : decode cL_bulbs 13 = .ok (.astore 4, 2) := by decide +kernel
theorem dL_bulbs_15 : decode cL_bulbs 15 = .ok (.iconst 1, 1) := by decide +kernel
theorem dL_bulbs_16 : decode cL_bulbs 16 = .ok (.ireturn, 1) := by decide +kernel
theorem dL_bulbs_17 : decode cL_bulbs 17 = .ok (.iconst 0, 1) := by decide +kernel
theorem dL_bulbs_18 : decode cL_bulbs 18 = .ok (.ireturn, 1) := by decide +kernel
theorem dL_distances_0 : decode cL_distances 0 = .ok (.aload_n 1, 1) := by decide +kernel
theorem dL_distances_1 : decode cL_distances 1 = .ok (.iconst 0, 1) := by decide +kernel
theorem dL_distances_2 : decode cL_distances 2 = .ok (.aload_n 0, 1) := by decide +kernel
theorem dL_distances_3 : decode cL_distances 3 = .ok (.invokevirtual 90, 3) := by decide +kernel
theorem dL_distances_6 : decode cL_distances 6 = .ok (.lastore, 1) := by decide +kernel
theorem dL_distances_7 : decode cL_distances 7 = .ok (.goto 6, 3) := by decide +kernel
theorem dL_distances_10 : decode cL_distances 10 = .ok (.astore_n 2, 1) := by decide +kernel
theorem dL_distances_11 : decode cL_distances 11 = .ok (.iconst 1, 1) := by decide +kernel
theorem dL_distances_12 : decode cL_distances 12 = .ok (.ireturn, 1) := by decide +kernel
theorem dL_distances_13 : decode cL_distances 13 = .ok (.iconst 0, 1) := by decide +kernel
theorem dL_distances_14 : decode cL_distances 14 = .ok (.ireturn, 1) := by decide +kernel
theorem dL_look_0 : decode cL_look 0 = .ok (.aload_n 2, 1) := by decide +kernel
theorem dL_look_1 : decode cL_look 1 = .ok (.iconst 0, 1) := by decide +kernel
theorem dL_look_2 : decode cL_look 2 = .ok (.aload_n 0, 1) := by decide +kernel
theorem dL_look_3 : decode cL_look 3 = .ok (.iload_n 1, 1) := by decide +kernel
theorem dL_look_4 : decode cL_look 4 = .ok (.invokevirtual 94, 3) := by decide +kernel
theorem dL_look_7 : decode cL_look 7 = .ok (.i2l, 1) := by decide +kernel
theorem dL_look_8 : decode cL_look 8 = .ok (.lastore, 1) := by decide +kernel
theorem dL_look_9 : decode cL_look 9 = .ok (.goto 9, 3) := by decide +kernel
theorem dL_look_12 : decode cL_look 12 = .ok (.astore_n 3, 1) := by decide +kernel
theorem dL_look_13 : decode cL_look 13 = .ok (.iconst 1, 1) := by decide +kernel
theorem dL_look_14 : decode cL_look 14 = .ok (.ireturn, 1) := by decide +kernel
theorem dL_look_15 : decode cL_look 15 = .ok (.astore_n 3, 1) := by decide +kernel
theorem dL_look_16 : decode cL_look 16 = .ok (.iconst 2, 1) := by decide +kernel
theorem dL_look_17 : decode cL_look 17 = .ok (.ireturn, 1) := by decide +kernel
theorem dL_look_18 : decode cL_look 18 = .ok (.iconst 0, 1) := by decide +kernel
theorem dL_look_19 : decode cL_look 19 = .ok (.ireturn, 1) := by decide +kernel
theorem dL_right_0 : decode cL_right 0 = .ok (.aload_n 1, 1) := by decide +kernel
theorem dL_right_1 : decode cL_right 1 = .ok (.iconst 0, 1) := by decide +kernel
theorem dL_right_2 : decode cL_right 2 = .ok (.aload_n 0, 1) := by decide +kernel
theorem dL_right_3 : decode cL_right 3 = .ok (.invokevirtual 97, 3) := by decide +kernel
theorem dL_right_6 : decode cL_right 6 = .ok (.i2l, 1) := by decide +kernel
theorem dL_right_7 : decode cL_right 7 = .ok (.lastore, 1) := by decide +kernel
theorem dL_right_8 : decode cL_right 8 = .ok (.goto 6, 3) := by decide +kernel
theorem dL_right_11 : decode cL_right 11 = .ok (.astore_n 2, 1) := by decide +kernel
theorem dL_right_12 : decode cL_right 12 = .ok (.iconst 1, 1) := by decide +kernel
theorem dL_right_13 : decode cL_right 13 = .ok (.ireturn, 1) := by decide +kernel
theorem dL_right_14 : decode cL_right 14 = .ok (.iconst 0, 1) := by decide +kernel
theorem dL_right_15 : decode cL_right 15 = .ok (.ireturn, 1) := by decide +kernel
theorem dL_nights_0 : decode cL_nights 0 = .ok (.aload 4, 2) := by decide +kernel
theorem dL_nights_2 : decode cL_nights 2 = .ok (.iconst 0, 1) := by decide +kernel
theorem dL_nights_3 : decode cL_nights 3 = .ok (.aload_n 0, 1) := by decide +kernel
theorem dL_nights_4 : decode cL_nights 4 = .ok (.iload_n 1, 1) := by decide +kernel
theorem dL_nights_5 : decode cL_nights 5 = .ok (.iload_n 2, 1) := by decide +kernel
theorem dL_nights_6 : decode cL_nights 6 = .ok (.iload_n 3, 1) := by decide +kernel
theorem dL_nights_7 : decode cL_nights 7 = .ok (.invokevirtual 101, 3) := by decide +kernel
theorem dL_nights_10 : decode cL_nights 10 = .ok (.i2l, 1) := by decide +kernel
theorem dL_nights_11 : decode cL_nights 11 = .ok (.lastore, 1) := by decide +kernel
theorem dL_nights_12 : decode cL_nights 12 = .ok (.goto 7, 3) := by decide +kernel
theorem dL_nights_15 : decode cL_nights 15 = .ok (.astore 5, 2) := by decide +kernel
theorem dL_nights_17 : decode cL_nights 17 = .ok (.iconst 1, 1) := by decide +kernel
theorem dL_nights_18 : decode cL_nights 18 = .ok (.ireturn, 1) := by decide +kernel
theorem dL_nights_19 : decode cL_nights 19 = .ok (.iconst 0, 1) := by decide +kernel
theorem dL_nights_20 : decode cL_nights 20 = .ok (.ireturn, 1) := by decide +kernel
theorem dL_darkest_0 : decode cL_darkest 0 = .ok (.aload_n 2, 1) := by decide +kernel
theorem dL_darkest_1 : decode cL_darkest 1 = .ok (.iconst 0, 1) := by decide +kernel
theorem dL_darkest_2 : decode cL_darkest 2 = .ok (.aload_n 0, 1) := by decide +kernel
theorem dL_darkest_3 : decode cL_darkest 3 = .ok (.iload_n 1, 1) := by decide +kernel
theorem dL_darkest_4 : decode cL_darkest 4 = .ok (.invokevirtual 104, 3) := by decide +kernel
theorem dL_darkest_7 : decode cL_darkest 7 = .ok (.i2l, 1) := by decide +kernel
theorem dL_darkest_8 : decode cL_darkest 8 = .ok (.lastore, 1) := by decide +kernel
theorem dL_darkest_9 : decode cL_darkest 9 = .ok (.goto 6, 3) := by decide +kernel
theorem dL_darkest_12 : decode cL_darkest 12 = .ok (.astore_n 3, 1) := by decide +kernel
theorem dL_darkest_13 : decode cL_darkest 13 = .ok (.iconst 1, 1) := by decide +kernel
theorem dL_darkest_14 : decode cL_darkest 14 = .ok (.ireturn, 1) := by decide +kernel
theorem dL_darkest_15 : decode cL_darkest 15 = .ok (.iconst 0, 1) := by decide +kernel
theorem dL_darkest_16 : decode cL_darkest 16 = .ok (.ireturn, 1) := by decide +kernel
theorem dL_dark_0 : decode cL_dark 0 = .ok (.aload_n 3, 1) := by decide +kernel
theorem dL_dark_1 : decode cL_dark 1 = .ok (.iconst 0, 1) := by decide +kernel
theorem dL_dark_2 : decode cL_dark 2 = .ok (.aload_n 0, 1) := by decide +kernel
theorem dL_dark_3 : decode cL_dark 3 = .ok (.iload_n 1, 1) := by decide +kernel
theorem dL_dark_4 : decode cL_dark 4 = .ok (.iload_n 2, 1) := by decide +kernel
theorem dL_dark_5 : decode cL_dark 5 = .ok (.invokevirtual 107, 3) := by decide +kernel
theorem dL_dark_8 : decode cL_dark 8 = .ok (.i2l, 1) := by decide +kernel
theorem dL_dark_9 : decode cL_dark 9 = .ok (.lastore, 1) := by decide +kernel
theorem dL_dark_10 : decode cL_dark 10 = .ok (.goto 11, 3) := by decide +kernel
theorem dL_dark_13 : decode cL_dark 13 = .ok (.astore 4, 2) := by decide +kernel
theorem dL_dark_15 : decode cL_dark 15 = .ok (.iconst 1, 1) := by decide +kernel
theorem dL_dark_16 : decode cL_dark 16 = .ok (.ireturn, 1) := by decide +kernel
theorem dL_dark_17 : decode cL_dark 17 = .ok (.astore 4, 2) := by decide +kernel
theorem dL_dark_19 : decode cL_dark 19 = .ok (.iconst 2, 1) := by decide +kernel
theorem dL_dark_20 : decode cL_dark 20 = .ok (.ireturn, 1) := by decide +kernel
theorem dL_dark_21 : decode cL_dark 21 = .ok (.iconst 0, 1) := by decide +kernel
theorem dL_dark_22 : decode cL_dark 22 = .ok (.ireturn, 1) := by decide +kernel
theorem dL_dips_0 : decode cL_dips 0 = .ok (.aload_n 3, 1) := by decide +kernel
theorem dL_dips_1 : decode cL_dips 1 = .ok (.iconst 0, 1) := by decide +kernel
theorem dL_dips_2 : decode cL_dips 2 = .ok (.aload_n 0, 1) := by decide +kernel
theorem dL_dips_3 : decode cL_dips 3 = .ok (.iload_n 1, 1) := by decide +kernel
theorem dL_dips_4 : decode cL_dips 4 = .ok (.iload_n 2, 1) := by decide +kernel
theorem dL_dips_5 : decode cL_dips 5 = .ok (.invokevirtual 110, 3) := by decide +kernel
theorem dL_dips_8 : decode cL_dips 8 = .ok (.i2l, 1) := by decide +kernel
theorem dL_dips_9 : decode cL_dips 9 = .ok (.lastore, 1) := by decide +kernel
theorem dL_dips_10 : decode cL_dips 10 = .ok (.goto 11, 3) := by decide +kernel
theorem dL_dips_13 : decode cL_dips 13 = .ok (.astore 4, 2) := by decide +kernel
theorem dL_dips_15 : decode cL_dips 15 = .ok (.iconst 1, 1) := by decide +kernel
theorem dL_dips_16 : decode cL_dips 16 = .ok (.ireturn, 1) := by decide +kernel
theorem dL_dips_17 : decode cL_dips 17 = .ok (.astore 4, 2) := by decide +kernel
theorem dL_dips_19 : decode cL_dips 19 = .ok (.iconst 2, 1) := by decide +kernel
theorem dL_dips_20 : decode cL_dips 20 = .ok (.ireturn, 1) := by decide +kernel
theorem dL_dips_21 : decode cL_dips 21 = .ok (.iconst 0, 1) := by decide +kernel
theorem dL_dips_22 : decode cL_dips 22 = .ok (.ireturn, 1) := by decide +kernel
theorem dL_gap_0 : decode cL_gap 0 = .ok (.aload_n 3, 1) := by decide +kernel
theorem dL_gap_1 : decode cL_gap 1 = .ok (.iconst 0, 1) := by decide +kernel
theorem dL_gap_2 : decode cL_gap 2 = .ok (.aload_n 0, 1) := by decide +kernel
theorem dL_gap_3 : decode cL_gap 3 = .ok (.iload_n 1, 1) := by decide +kernel
theorem dL_gap_4 : decode cL_gap 4 = .ok (.iload_n 2, 1) := by decide +kernel
theorem dL_gap_5 : decode cL_gap 5 = .ok (.invokevirtual 113, 3) := by decide +kernel
theorem dL_gap_8 : decode cL_gap 8 = .ok (.i2l, 1) := by decide +kernel
theorem dL_gap_9 : decode cL_gap 9 = .ok (.lastore, 1) := by decide +kernel
theorem dL_gap_10 : decode cL_gap 10 = .ok (.goto 11, 3) := by decide +kernel
theorem dL_gap_13 : decode cL_gap 13 = .ok (.astore 4, 2) := by decide +kernel
theorem dL_gap_15 : decode cL_gap 15 = .ok (.iconst 1, 1) := by decide +kernel
theorem dL_gap_16 : decode cL_gap 16 = .ok (.ireturn, 1) := by decide +kernel
theorem dL_gap_17 : decode cL_gap 17 = .ok (.astore 4, 2) := by decide +kernel
theorem dL_gap_19 : decode cL_gap 19 = .ok (.iconst 2, 1) := by decide +kernel
theorem dL_gap_20 : decode cL_gap 20 = .ok (.ireturn, 1) := by decide +kernel
theorem dL_gap_21 : decode cL_gap 21 = .ok (.iconst 0, 1) := by decide +kernel
theorem dL_gap_22 : decode cL_gap 22 = .ok (.ireturn, 1) := by decide +kernel
theorem dL_needs_0 : decode cL_needs 0 = .ok (.aload_n 2, 1) := by decide +kernel
theorem dL_needs_1 : decode cL_needs 1 = .ok (.iconst 0, 1) := by decide +kernel
theorem dL_needs_2 : decode cL_needs 2 = .ok (.aload_n 0, 1) := by decide +kernel
theorem dL_needs_3 : decode cL_needs 3 = .ok (.iload_n 1, 1) := by decide +kernel
theorem dL_needs_4 : decode cL_needs 4 = .ok (.invokevirtual 116, 3) := by decide +kernel
theorem dL_needs_7 : decode cL_needs 7 = .ok (.i2l, 1) := by decide +kernel
theorem dL_needs_8 : decode cL_needs 8 = .ok (.lastore, 1) := by decide +kernel
theorem dL_needs_9 : decode cL_needs 9 = .ok (.goto 6, 3) := by decide +kernel
theorem dL_needs_12 : decode cL_needs 12 = .ok (.astore_n 3, 1) := by decide +kernel
theorem dL_needs_13 : decode cL_needs 13 = .ok (.iconst 1, 1) := by decide +kernel
theorem dL_needs_14 : decode cL_needs 14 = .ok (.ireturn, 1) := by decide +kernel
theorem dL_needs_15 : decode cL_needs 15 = .ok (.iconst 0, 1) := by decide +kernel
theorem dL_needs_16 : decode cL_needs 16 = .ok (.ireturn, 1) := by decide +kernel
theorem dL_clear_0 : decode cL_clear 0 = .ok (.aload_n 2, 1) := by decide +kernel
theorem dL_clear_1 : decode cL_clear 1 = .ok (.iconst 0, 1) := by decide +kernel
theorem dL_clear_2 : decode cL_clear 2 = .ok (.aload_n 0, 1) := by decide +kernel
theorem dL_clear_3 : decode cL_clear 3 = .ok (.iload_n 1, 1) := by decide +kernel
theorem dL_clear_4 : decode cL_clear 4 = .ok (.invokevirtual 119, 3) := by decide +kernel
theorem dL_clear_7 : decode cL_clear 7 = .ok (.i2l, 1) := by decide +kernel
theorem dL_clear_8 : decode cL_clear 8 = .ok (.lastore, 1) := by decide +kernel
theorem dL_clear_9 : decode cL_clear 9 = .ok (.goto 6, 3) := by decide +kernel
theorem dL_clear_12 : decode cL_clear 12 = .ok (.astore_n 3, 1) := by decide +kernel
theorem dL_clear_13 : decode cL_clear 13 = .ok (.iconst 1, 1) := by decide +kernel
theorem dL_clear_14 : decode cL_clear 14 = .ok (.ireturn, 1) := by decide +kernel
theorem dL_clear_15 : decode cL_clear 15 = .ok (.iconst 0, 1) := by decide +kernel
theorem dL_clear_16 : decode cL_clear 16 = .ok (.ireturn, 1) := by decide +kernel
theorem dL_paces_0 : decode cL_paces 0 = .ok (.aload_n 2, 1) := by decide +kernel
theorem dL_paces_1 : decode cL_paces 1 = .ok (.iconst 0, 1) := by decide +kernel
theorem dL_paces_2 : decode cL_paces 2 = .ok (.aload_n 0, 1) := by decide +kernel
theorem dL_paces_3 : decode cL_paces 3 = .ok (.iload_n 1, 1) := by decide +kernel
theorem dL_paces_4 : decode cL_paces 4 = .ok (.invokevirtual 122, 3) := by decide +kernel
theorem dL_paces_7 : decode cL_paces 7 = .ok (.i2l, 1) := by decide +kernel
theorem dL_paces_8 : decode cL_paces 8 = .ok (.lastore, 1) := by decide +kernel
theorem dL_paces_9 : decode cL_paces 9 = .ok (.goto 9, 3) := by decide +kernel
theorem dL_paces_12 : decode cL_paces 12 = .ok (.astore_n 3, 1) := by decide +kernel
theorem dL_paces_13 : decode cL_paces 13 = .ok (.iconst 1, 1) := by decide +kernel
theorem dL_paces_14 : decode cL_paces 14 = .ok (.ireturn, 1) := by decide +kernel
theorem dL_paces_15 : decode cL_paces 15 = .ok (.astore_n 3, 1) := by decide +kernel
theorem dL_paces_16 : decode cL_paces 16 = .ok (.iconst 2, 1) := by decide +kernel
theorem dL_paces_17 : decode cL_paces 17 = .ok (.ireturn, 1) := by decide +kernel
theorem dL_paces_18 : decode cL_paces 18 = .ok (.iconst 0, 1) := by decide +kernel
theorem dL_paces_19 : decode cL_paces 19 = .ok (.ireturn, 1) := by decide +kernel
theorem dL_finds_0 : decode cL_finds 0 = .ok (.aload_n 3, 1) := by decide +kernel
theorem dL_finds_1 : decode cL_finds 1 = .ok (.iconst 0, 1) := by decide +kernel
theorem dL_finds_2 : decode cL_finds 2 = .ok (.aload_n 0, 1) := by decide +kernel
theorem dL_finds_3 : decode cL_finds 3 = .ok (.iload_n 1, 1) := by decide +kernel
theorem dL_finds_4 : decode cL_finds 4 = .ok (.iload_n 2, 1) := by decide +kernel
theorem dL_finds_5 : decode cL_finds 5 = .ok (.invokevirtual 125, 3) := by decide +kernel
theorem dL_finds_8 : decode cL_finds 8 = .ok (.i2l, 1) := by decide +kernel
theorem dL_finds_9 : decode cL_finds 9 = .ok (.lastore, 1) := by decide +kernel
theorem dL_finds_10 : decode cL_finds 10 = .ok (.goto 11, 3) := by decide +kernel
theorem dL_finds_13 : decode cL_finds 13 = .ok (.astore 4, 2) := by decide +kernel
theorem dL_finds_15 : decode cL_finds 15 = .ok (.iconst 1, 1) := by decide +kernel
theorem dL_finds_16 : decode cL_finds 16 = .ok (.ireturn, 1) := by decide +kernel
theorem dL_finds_17 : decode cL_finds 17 = .ok (.astore 4, 2) := by decide +kernel
theorem dL_finds_19 : decode cL_finds 19 = .ok (.iconst 2, 1) := by decide +kernel
theorem dL_finds_20 : decode cL_finds 20 = .ok (.ireturn, 1) := by decide +kernel
theorem dL_finds_21 : decode cL_finds 21 = .ok (.iconst 0, 1) := by decide +kernel
theorem dL_finds_22 : decode cL_finds 22 = .ok (.ireturn, 1) := by decide +kernel
theorem dL_drives_0 : decode cL_drives 0 = .ok (.aload 4, 2) := by decide +kernel
theorem dL_drives_2 : decode cL_drives 2 = .ok (.iconst 0, 1) := by decide +kernel
theorem dL_drives_3 : decode cL_drives 3 = .ok (.aload_n 0, 1) := by decide +kernel
theorem dL_drives_4 : decode cL_drives 4 = .ok (.iload_n 1, 1) := by decide +kernel
theorem dL_drives_5 : decode cL_drives 5 = .ok (.iload_n 2, 1) := by decide +kernel
theorem dL_drives_6 : decode cL_drives 6 = .ok (.iload_n 3, 1) := by decide +kernel
theorem dL_drives_7 : decode cL_drives 7 = .ok (.invokevirtual 128, 3) := by decide +kernel
theorem dL_drives_10 : decode cL_drives 10 = .ok (.i2l, 1) := by decide +kernel
theorem dL_drives_11 : decode cL_drives 11 = .ok (.lastore, 1) := by decide +kernel
theorem dL_drives_12 : decode cL_drives 12 = .ok (.goto 11, 3) := by decide +kernel
theorem dL_drives_15 : decode cL_drives 15 = .ok (.astore 5, 2) := by decide +kernel
theorem dL_drives_17 : decode cL_drives 17 = .ok (.iconst 1, 1) := by decide +kernel
theorem dL_drives_18 : decode cL_drives 18 = .ok (.ireturn, 1) := by decide +kernel
theorem dL_drives_19 : decode cL_drives 19 = .ok (.astore 5, 2) := by decide +kernel
theorem dL_drives_21 : decode cL_drives 21 = .ok (.iconst 2, 1) := by decide +kernel
theorem dL_drives_22 : decode cL_drives 22 = .ok (.ireturn, 1) := by decide +kernel
theorem dL_drives_23 : decode cL_drives 23 = .ok (.iconst 0, 1) := by decide +kernel
theorem dL_drives_24 : decode cL_drives 24 = .ok (.ireturn, 1) := by decide +kernel
theorem dL_stands_0 : decode cL_stands 0 = .ok (.aload 4, 2) := by decide +kernel
theorem dL_stands_2 : decode cL_stands 2 = .ok (.iconst 0, 1) := by decide +kernel
theorem dL_stands_3 : decode cL_stands 3 = .ok (.aload_n 0, 1) := by decide +kernel
theorem dL_stands_4 : decode cL_stands 4 = .ok (.iload_n 1, 1) := by decide +kernel
theorem dL_stands_5 : decode cL_stands 5 = .ok (.iload_n 2, 1) := by decide +kernel
theorem dL_stands_6 : decode cL_stands 6 = .ok (.iload_n 3, 1) := by decide +kernel
theorem dL_stands_7 : decode cL_stands 7 = .ok (.invokevirtual 131, 3) := by decide +kernel
theorem dL_stands_10 : decode cL_stands 10 = .ok (.i2l, 1) := by decide +kernel
theorem dL_stands_11 : decode cL_stands 11 = .ok (.lastore, 1) := by decide +kernel
theorem dL_stands_12 : decode cL_stands 12 = .ok (.goto 11, 3) := by decide +kernel
theorem dL_stands_15 : decode cL_stands 15 = .ok (.astore 5, 2) := by decide +kernel
theorem dL_stands_17 : decode cL_stands 17 = .ok (.iconst 1, 1) := by decide +kernel
theorem dL_stands_18 : decode cL_stands 18 = .ok (.ireturn, 1) := by decide +kernel
theorem dL_stands_19 : decode cL_stands 19 = .ok (.astore 5, 2) := by decide +kernel
theorem dL_stands_21 : decode cL_stands 21 = .ok (.iconst 2, 1) := by decide +kernel
theorem dL_stands_22 : decode cL_stands 22 = .ok (.ireturn, 1) := by decide +kernel
theorem dL_stands_23 : decode cL_stands 23 = .ok (.iconst 0, 1) := by decide +kernel
theorem dL_stands_24 : decode cL_stands 24 = .ok (.ireturn, 1) := by decide +kernel
theorem dL_weather_0 : decode cL_weather 0 = .ok (.aload_n 3, 1) := by decide +kernel
theorem dL_weather_1 : decode cL_weather 1 = .ok (.iconst 0, 1) := by decide +kernel
theorem dL_weather_2 : decode cL_weather 2 = .ok (.aload_n 0, 1) := by decide +kernel
theorem dL_weather_3 : decode cL_weather 3 = .ok (.iload_n 1, 1) := by decide +kernel
theorem dL_weather_4 : decode cL_weather 4 = .ok (.iload_n 2, 1) := by decide +kernel
theorem dL_weather_5 : decode cL_weather 5 = .ok (.invokevirtual 134, 3) := by decide +kernel
theorem dL_weather_8 : decode cL_weather 8 = .ok (.i2l, 1) := by decide +kernel
theorem dL_weather_9 : decode cL_weather 9 = .ok (.lastore, 1) := by decide +kernel
theorem dL_weather_10 : decode cL_weather 10 = .ok (.goto 7, 3) := by decide +kernel
theorem dL_weather_13 : decode cL_weather 13 = .ok (.astore 4, 2) := by decide +kernel
theorem dL_weather_15 : decode cL_weather 15 = .ok (.iconst 1, 1) := by decide +kernel
theorem dL_weather_16 : decode cL_weather 16 = .ok (.ireturn, 1) := by decide +kernel
theorem dL_weather_17 : decode cL_weather 17 = .ok (.iconst 0, 1) := by decide +kernel
theorem dL_weather_18 : decode cL_weather 18 = .ok (.ireturn, 1) := by decide +kernel
section X99l
variable {l : Launch} {G : ax_G} {M : ax_M}
theorem mwL_road : ax_mw kL_road [(0, 9, 12, 13)] 3 := ⟨wd_166, ax_in3 (List.mem_of_getElem? (i := 134) rfl), by decide +kernel, by decide +kernel, by decide, ax_in3 (List.mem_of_getElem? (i := 133) rfl)⟩
theorem tcL_road : ∀ k9 v, (k9, v) ∈ ([(1, 1)] : List (Nat × Nat)) → hco kL_road [(0, 9, 12, 13)] 4 k9 v := by
  intro k9 v h
  cases List.mem_singleton.mp h; exact ⟨by decide, by decide, [], (⟨0, 9, 12, 13⟩ : ExceptionTableEntry), [], rfl, (fun z hz => absurd hz List.not_mem_nil), by decide, by decide, wd_781, Or.inl ⟨3, dL_road_12, by decide, dL_road_13, dL_road_14⟩⟩
theorem w_road {d c n : Nat} (a0 : Int32) {Q2 : ax_O → ax_M → Prop} (hM : ax_Met l G kX9_road d c n M [av_r 1, av_i a0] Q2) (hs : M.2.2.2.1 1 = some (.inr 9)) (hv : ∀ r M1, Q2 (.inl r) M1 → (∃ z, r = some (av_i z)) ∧ M1.2.2.2.1 432 = some (.inl (1, 1))) (hx : ∀ E M1, Q2 (.inr E) M1 → ∃ k w, (k, w) ∈ ([(1, 1)] : List (Nat × Nat)) ∧ E = cz_n k) : ax_MetW l G kL_road [(0, 9, 12, 13)] (d + 1) c n M [av_r 1, av_i a0, av_r 432] (qw [(1, 1)] Q2) := by
  refine ax_bodyW (by decide) (Nat.le_of_ble_eq_true rfl) ?_
  refine ax_aload_n dL_road_0 rfl ?_
  refine ax_iconst (v := 0) dL_road_1 (by decide) ?_
  refine ax_aload_n dL_road_2 rfl ?_
  refine ax_iload_n dL_road_3 rfl ?_
  refine ax_callVH (As := [av_i a0]) (c1 := 0) (n1 := 0) rfl hM dL_road_4 mX9_road wd_782 acl_9 hs rfl (by omega) (by omega) (by omega) rfl rfl (fun E M2 h => ?_) ?_
  · obtain ⟨k9, w9, hm, rfl⟩ := hx E M2 h
    exact ⟨k9, w9, rfl, tcL_road k9 w9 hm, Or.inr ⟨k9, w9, hm, h, rfl⟩⟩
  intro r M2 hq
  obtain ⟨⟨z, rfl⟩, hs2⟩ := hv r M2 hq
  refine ax_i2l dL_road_7 ?_
  refine ax_last dL_road_8 hs2 (by unfold vp_in; decide) ?_
  refine ax_goto (tgt := 15) dL_road_9 (by decide) ?_
  refine ax_iconst (v := 0) dL_road_15 (by decide) ?_
  refine ax_iretW dL_road_16 rfl ?_
  exact Or.inl ⟨_, _, hq, rfl, rfl⟩
theorem mwL_law : ax_mw kL_law [(0, 9, 12, 13)] 3 := ⟨wd_166, ax_in4 (List.mem_of_getElem? (i := 121) rfl), by decide +kernel, by decide +kernel, by decide, ax_in4 (List.mem_of_getElem? (i := 120) rfl)⟩
theorem tcL_law : ∀ k9 v, (k9, v) ∈ ([(1, 1)] : List (Nat × Nat)) → hco kL_law [(0, 9, 12, 13)] 4 k9 v := by
  intro k9 v h
  cases List.mem_singleton.mp h; exact ⟨by decide, by decide, [], (⟨0, 9, 12, 13⟩ : ExceptionTableEntry), [], rfl, (fun z hz => absurd hz List.not_mem_nil), by decide, by decide, wd_781, Or.inl ⟨3, dL_law_12, by decide, dL_law_13, dL_law_14⟩⟩
theorem w_law {d c n : Nat} (a0 : Int32) {Q2 : ax_O → ax_M → Prop} (hM : ax_Met l G kX9_law d c n M [av_r 1, av_i a0] Q2) (hs : M.2.2.2.1 1 = some (.inr 9)) (hv : ∀ r M1, Q2 (.inl r) M1 → (∃ z, r = some (av_i z)) ∧ M1.2.2.2.1 432 = some (.inl (1, 1))) (hx : ∀ E M1, Q2 (.inr E) M1 → ∃ k w, (k, w) ∈ ([(1, 1)] : List (Nat × Nat)) ∧ E = cz_n k) : ax_MetW l G kL_law [(0, 9, 12, 13)] (d + 1) c n M [av_r 1, av_i a0, av_r 432] (qw [(1, 1)] Q2) := by
  refine ax_bodyW (by decide) (Nat.le_of_ble_eq_true rfl) ?_
  refine ax_aload_n dL_law_0 rfl ?_
  refine ax_iconst (v := 0) dL_law_1 (by decide) ?_
  refine ax_aload_n dL_law_2 rfl ?_
  refine ax_iload_n dL_law_3 rfl ?_
  refine ax_callVH (As := [av_i a0]) (c1 := 0) (n1 := 0) rfl hM dL_law_4 mX9_law wd_1008 acl_9 hs rfl (by omega) (by omega) (by omega) rfl rfl (fun E M2 h => ?_) ?_
  · obtain ⟨k9, w9, hm, rfl⟩ := hx E M2 h
    exact ⟨k9, w9, rfl, tcL_law k9 w9 hm, Or.inr ⟨k9, w9, hm, h, rfl⟩⟩
  intro r M2 hq
  obtain ⟨⟨z, rfl⟩, hs2⟩ := hv r M2 hq
  refine ax_i2l dL_law_7 ?_
  refine ax_last dL_law_8 hs2 (by unfold vp_in; decide) ?_
  refine ax_goto (tgt := 15) dL_law_9 (by decide) ?_
  refine ax_iconst (v := 0) dL_law_15 (by decide) ?_
  refine ax_iretW dL_law_16 rfl ?_
  exact Or.inl ⟨_, _, hq, rfl, rfl⟩
theorem mwL_rule : ax_mw kL_rule [(0, 10, 13, 22), (0, 10, 17, 13)] 4 := ⟨wd_166, ax_in4 (List.mem_of_getElem? (i := 174) rfl), by decide +kernel, by decide +kernel, by decide, ax_in4 (List.mem_of_getElem? (i := 173) rfl)⟩
theorem tcL_rule : ∀ k9 v, (k9, v) ∈ ([(0, 1), (1, 2)] : List (Nat × Nat)) → hco kL_rule [(0, 10, 13, 22), (0, 10, 17, 13)] 5 k9 v := by
  intro k9 v h
  rcases List.mem_cons.mp h with h | h
  · cases h; exact ⟨by decide, by decide, [], (⟨0, 10, 13, 22⟩ : ExceptionTableEntry), [(⟨0, 10, 17, 13⟩ : ExceptionTableEntry)], rfl, (fun z hz => absurd hz List.not_mem_nil), by decide, by decide, wd_1061, Or.inr ⟨4, dL_rule_13, by decide, dL_rule_15, dL_rule_16⟩⟩
  cases List.mem_singleton.mp h; exact ⟨by decide, by decide, [(⟨0, 10, 13, 22⟩ : ExceptionTableEntry)], (⟨0, 10, 17, 13⟩ : ExceptionTableEntry), [], rfl, (fun z hz => by cases List.mem_singleton.mp hz; exact ⟨by decide, 0, by decide, by decide, wd_1061⟩), by decide, by decide, wd_781, Or.inr ⟨4, dL_rule_17, by decide, dL_rule_19, dL_rule_20⟩⟩
theorem w_rule {d c n : Nat} (a0 a1 : Int32) {Q2 : ax_O → ax_M → Prop} (hM : ax_Met l G kX9_rule d c n M [av_r 1, av_i a0, av_i a1] Q2) (hs : M.2.2.2.1 1 = some (.inr 9)) (hv : ∀ r M1, Q2 (.inl r) M1 → (∃ z, r = some (av_i z)) ∧ M1.2.2.2.1 432 = some (.inl (1, 1))) (hx : ∀ E M1, Q2 (.inr E) M1 → ∃ k w, (k, w) ∈ ([(0, 1), (1, 2)] : List (Nat × Nat)) ∧ E = cz_n k) : ax_MetW l G kL_rule [(0, 10, 13, 22), (0, 10, 17, 13)] (d + 1) c n M [av_r 1, av_i a0, av_i a1, av_r 432] (qw [(0, 1), (1, 2)] Q2) := by
  refine ax_bodyW (by decide) (Nat.le_of_ble_eq_true rfl) ?_
  refine ax_aload_n dL_rule_0 rfl ?_
  refine ax_iconst (v := 0) dL_rule_1 (by decide) ?_
  refine ax_aload_n dL_rule_2 rfl ?_
  refine ax_iload_n dL_rule_3 rfl ?_
  refine ax_iload_n dL_rule_4 rfl ?_
  refine ax_callVH (As := [av_i a0, av_i a1]) (c1 := 0) (n1 := 0) rfl hM dL_rule_5 mX9_rule wd_1062 acl_9 hs rfl (by omega) (by omega) (by omega) rfl rfl (fun E M2 h => ?_) ?_
  · obtain ⟨k9, w9, hm, rfl⟩ := hx E M2 h
    exact ⟨k9, w9, rfl, tcL_rule k9 w9 hm, Or.inr ⟨k9, w9, hm, h, rfl⟩⟩
  intro r M2 hq
  obtain ⟨⟨z, rfl⟩, hs2⟩ := hv r M2 hq
  refine ax_i2l dL_rule_8 ?_
  refine ax_last dL_rule_9 hs2 (by unfold vp_in; decide) ?_
  refine ax_goto (tgt := 21) dL_rule_10 (by decide) ?_
  refine ax_iconst (v := 0) dL_rule_21 (by decide) ?_
  refine ax_iretW dL_rule_22 rfl ?_
  exact Or.inl ⟨_, _, hq, rfl, rfl⟩
theorem mwL_book : ax_mw kL_book [(0, 9, 12, 13)] 3 := ⟨wd_166, ax_in4 (List.mem_of_getElem? (i := 206) rfl), by decide +kernel, by decide +kernel, by decide, ax_in4 (List.mem_of_getElem? (i := 205) rfl)⟩
theorem tcL_book : ∀ k9 v, (k9, v) ∈ ([(1, 1)] : List (Nat × Nat)) → hco kL_book [(0, 9, 12, 13)] 4 k9 v := by
  intro k9 v h
  cases List.mem_singleton.mp h; exact ⟨by decide, by decide, [], (⟨0, 9, 12, 13⟩ : ExceptionTableEntry), [], rfl, (fun z hz => absurd hz List.not_mem_nil), by decide, by decide, wd_781, Or.inl ⟨3, dL_book_12, by decide, dL_book_13, dL_book_14⟩⟩
theorem w_book {d c n : Nat} (a0 : Int32) {Q2 : ax_O → ax_M → Prop} (hM : ax_Met l G kX9_book d c n M [av_r 1, av_i a0] Q2) (hs : M.2.2.2.1 1 = some (.inr 9)) (hv : ∀ r M1, Q2 (.inl r) M1 → (∃ z, r = some (av_i z)) ∧ M1.2.2.2.1 432 = some (.inl (1, 1))) (hx : ∀ E M1, Q2 (.inr E) M1 → ∃ k w, (k, w) ∈ ([(1, 1)] : List (Nat × Nat)) ∧ E = cz_n k) : ax_MetW l G kL_book [(0, 9, 12, 13)] (d + 1) c n M [av_r 1, av_i a0, av_r 432] (qw [(1, 1)] Q2) := by
  refine ax_bodyW (by decide) (Nat.le_of_ble_eq_true rfl) ?_
  refine ax_aload_n dL_book_0 rfl ?_
  refine ax_iconst (v := 0) dL_book_1 (by decide) ?_
  refine ax_aload_n dL_book_2 rfl ?_
  refine ax_iload_n dL_book_3 rfl ?_
  refine ax_callVH (As := [av_i a0]) (c1 := 0) (n1 := 0) rfl hM dL_book_4 mX9_book wd_1093 acl_9 hs rfl (by omega) (by omega) (by omega) rfl rfl (fun E M2 h => ?_) ?_
  · obtain ⟨k9, w9, hm, rfl⟩ := hx E M2 h
    exact ⟨k9, w9, rfl, tcL_book k9 w9 hm, Or.inr ⟨k9, w9, hm, h, rfl⟩⟩
  intro r M2 hq
  obtain ⟨⟨z, rfl⟩, hs2⟩ := hv r M2 hq
  refine ax_i2l dL_book_7 ?_
  refine ax_last dL_book_8 hs2 (by unfold vp_in; decide) ?_
  refine ax_goto (tgt := 15) dL_book_9 (by decide) ?_
  refine ax_iconst (v := 0) dL_book_15 (by decide) ?_
  refine ax_iretW dL_book_16 rfl ?_
  exact Or.inl ⟨_, _, hq, rfl, rfl⟩
theorem mwL_told : ax_mw kL_told [(0, 9, 12, 13)] 3 := ⟨wd_166, ax_in4 (List.mem_of_getElem? (i := 230) rfl), by decide +kernel, by decide +kernel, by decide, ax_in4 (List.mem_of_getElem? (i := 229) rfl)⟩
theorem tcL_told : ∀ k9 v, (k9, v) ∈ ([(1, 1)] : List (Nat × Nat)) → hco kL_told [(0, 9, 12, 13)] 4 k9 v := by
  intro k9 v h
  cases List.mem_singleton.mp h; exact ⟨by decide, by decide, [], (⟨0, 9, 12, 13⟩ : ExceptionTableEntry), [], rfl, (fun z hz => absurd hz List.not_mem_nil), by decide, by decide, wd_781, Or.inl ⟨3, dL_told_12, by decide, dL_told_13, dL_told_14⟩⟩
theorem w_told {d c n : Nat} (a0 : Int32) {Q2 : ax_O → ax_M → Prop} (hM : ax_Met l G kX9_told d c n M [av_r 1, av_i a0] Q2) (hs : M.2.2.2.1 1 = some (.inr 9)) (hv : ∀ r M1, Q2 (.inl r) M1 → (∃ z, r = some (av_i z)) ∧ M1.2.2.2.1 432 = some (.inl (1, 1))) (hx : ∀ E M1, Q2 (.inr E) M1 → ∃ k w, (k, w) ∈ ([(1, 1)] : List (Nat × Nat)) ∧ E = cz_n k) : ax_MetW l G kL_told [(0, 9, 12, 13)] (d + 1) c n M [av_r 1, av_i a0, av_r 432] (qw [(1, 1)] Q2) := by
  refine ax_bodyW (by decide) (Nat.le_of_ble_eq_true rfl) ?_
  refine ax_aload_n dL_told_0 rfl ?_
  refine ax_iconst (v := 0) dL_told_1 (by decide) ?_
  refine ax_aload_n dL_told_2 rfl ?_
  refine ax_iload_n dL_told_3 rfl ?_
  refine ax_callVH (As := [av_i a0]) (c1 := 0) (n1 := 0) rfl hM dL_told_4 mX9_told wd_1117 acl_9 hs rfl (by omega) (by omega) (by omega) rfl rfl (fun E M2 h => ?_) ?_
  · obtain ⟨k9, w9, hm, rfl⟩ := hx E M2 h
    exact ⟨k9, w9, rfl, tcL_told k9 w9 hm, Or.inr ⟨k9, w9, hm, h, rfl⟩⟩
  intro r M2 hq
  obtain ⟨⟨z, rfl⟩, hs2⟩ := hv r M2 hq
  refine ax_i2l dL_told_7 ?_
  refine ax_last dL_told_8 hs2 (by unfold vp_in; decide) ?_
  refine ax_goto (tgt := 15) dL_told_9 (by decide) ?_
  refine ax_iconst (v := 0) dL_told_15 (by decide) ?_
  refine ax_iretW dL_told_16 rfl ?_
  exact Or.inl ⟨_, _, hq, rfl, rfl⟩
theorem mwL_car : ax_mw kL_car [(0, 10, 13, 22), (0, 10, 17, 13)] 4 := ⟨wd_166, ax_in5 (List.mem_of_getElem? (i := 5) rfl), by decide +kernel, by decide +kernel, by decide, ax_in5 (List.mem_of_getElem? (i := 4) rfl)⟩
theorem tcL_car : ∀ k9 v, (k9, v) ∈ ([(0, 1), (1, 2)] : List (Nat × Nat)) → hco kL_car [(0, 10, 13, 22), (0, 10, 17, 13)] 5 k9 v := by
  intro k9 v h
  rcases List.mem_cons.mp h with h | h
  · cases h; exact ⟨by decide, by decide, [], (⟨0, 10, 13, 22⟩ : ExceptionTableEntry), [(⟨0, 10, 17, 13⟩ : ExceptionTableEntry)], rfl, (fun z hz => absurd hz List.not_mem_nil), by decide, by decide, wd_1061, Or.inr ⟨4, dL_car_13, by decide, dL_car_15, dL_car_16⟩⟩
  cases List.mem_singleton.mp h; exact ⟨by decide, by decide, [(⟨0, 10, 13, 22⟩ : ExceptionTableEntry)], (⟨0, 10, 17, 13⟩ : ExceptionTableEntry), [], rfl, (fun z hz => by cases List.mem_singleton.mp hz; exact ⟨by decide, 0, by decide, by decide, wd_1061⟩), by decide, by decide, wd_781, Or.inr ⟨4, dL_car_17, by decide, dL_car_19, dL_car_20⟩⟩
theorem w_car {d c n : Nat} (a0 a1 : Int32) {Q2 : ax_O → ax_M → Prop} (hM : ax_Met l G kX9_car d c n M [av_r 1, av_i a0, av_i a1] Q2) (hs : M.2.2.2.1 1 = some (.inr 9)) (hv : ∀ r M1, Q2 (.inl r) M1 → (∃ z, r = some (av_i z)) ∧ M1.2.2.2.1 432 = some (.inl (1, 1))) (hx : ∀ E M1, Q2 (.inr E) M1 → ∃ k w, (k, w) ∈ ([(0, 1), (1, 2)] : List (Nat × Nat)) ∧ E = cz_n k) : ax_MetW l G kL_car [(0, 10, 13, 22), (0, 10, 17, 13)] (d + 1) c n M [av_r 1, av_i a0, av_i a1, av_r 432] (qw [(0, 1), (1, 2)] Q2) := by
  refine ax_bodyW (by decide) (Nat.le_of_ble_eq_true rfl) ?_
  refine ax_aload_n dL_car_0 rfl ?_
  refine ax_iconst (v := 0) dL_car_1 (by decide) ?_
  refine ax_aload_n dL_car_2 rfl ?_
  refine ax_iload_n dL_car_3 rfl ?_
  refine ax_iload_n dL_car_4 rfl ?_
  refine ax_callVH (As := [av_i a0, av_i a1]) (c1 := 0) (n1 := 0) rfl hM dL_car_5 mX9_car wd_1132 acl_9 hs rfl (by omega) (by omega) (by omega) rfl rfl (fun E M2 h => ?_) ?_
  · obtain ⟨k9, w9, hm, rfl⟩ := hx E M2 h
    exact ⟨k9, w9, rfl, tcL_car k9 w9 hm, Or.inr ⟨k9, w9, hm, h, rfl⟩⟩
  intro r M2 hq
  obtain ⟨⟨z, rfl⟩, hs2⟩ := hv r M2 hq
  refine ax_i2l dL_car_8 ?_
  refine ax_last dL_car_9 hs2 (by unfold vp_in; decide) ?_
  refine ax_goto (tgt := 21) dL_car_10 (by decide) ?_
  refine ax_iconst (v := 0) dL_car_21 (by decide) ?_
  refine ax_iretW dL_car_22 rfl ?_
  exact Or.inl ⟨_, _, hq, rfl, rfl⟩
theorem mwL_coat : ax_mw kL_coat [(0, 10, 13, 22), (0, 10, 17, 13)] 4 := ⟨wd_166, ax_in5 (List.mem_of_getElem? (i := 17) rfl), by decide +kernel, by decide +kernel, by decide, ax_in5 (List.mem_of_getElem? (i := 16) rfl)⟩
theorem tcL_coat : ∀ k9 v, (k9, v) ∈ ([(0, 1), (1, 2)] : List (Nat × Nat)) → hco kL_coat [(0, 10, 13, 22), (0, 10, 17, 13)] 5 k9 v := by
  intro k9 v h
  rcases List.mem_cons.mp h with h | h
  · cases h; exact ⟨by decide, by decide, [], (⟨0, 10, 13, 22⟩ : ExceptionTableEntry), [(⟨0, 10, 17, 13⟩ : ExceptionTableEntry)], rfl, (fun z hz => absurd hz List.not_mem_nil), by decide, by decide, wd_1061, Or.inr ⟨4, dL_coat_13, by decide, dL_coat_15, dL_coat_16⟩⟩
  cases List.mem_singleton.mp h; exact ⟨by decide, by decide, [(⟨0, 10, 13, 22⟩ : ExceptionTableEntry)], (⟨0, 10, 17, 13⟩ : ExceptionTableEntry), [], rfl, (fun z hz => by cases List.mem_singleton.mp hz; exact ⟨by decide, 0, by decide, by decide, wd_1061⟩), by decide, by decide, wd_781, Or.inr ⟨4, dL_coat_17, by decide, dL_coat_19, dL_coat_20⟩⟩
theorem w_coat {d c n : Nat} (a0 a1 : Int32) {Q2 : ax_O → ax_M → Prop} (hM : ax_Met l G kX9_coat d c n M [av_r 1, av_i a0, av_i a1] Q2) (hs : M.2.2.2.1 1 = some (.inr 9)) (hv : ∀ r M1, Q2 (.inl r) M1 → (∃ z, r = some (av_i z)) ∧ M1.2.2.2.1 432 = some (.inl (1, 1))) (hx : ∀ E M1, Q2 (.inr E) M1 → ∃ k w, (k, w) ∈ ([(0, 1), (1, 2)] : List (Nat × Nat)) ∧ E = cz_n k) : ax_MetW l G kL_coat [(0, 10, 13, 22), (0, 10, 17, 13)] (d + 1) c n M [av_r 1, av_i a0, av_i a1, av_r 432] (qw [(0, 1), (1, 2)] Q2) := by
  refine ax_bodyW (by decide) (Nat.le_of_ble_eq_true rfl) ?_
  refine ax_aload_n dL_coat_0 rfl ?_
  refine ax_iconst (v := 0) dL_coat_1 (by decide) ?_
  refine ax_aload_n dL_coat_2 rfl ?_
  refine ax_iload_n dL_coat_3 rfl ?_
  refine ax_iload_n dL_coat_4 rfl ?_
  refine ax_callVH (As := [av_i a0, av_i a1]) (c1 := 0) (n1 := 0) rfl hM dL_coat_5 mX9_coat wd_1144 acl_9 hs rfl (by omega) (by omega) (by omega) rfl rfl (fun E M2 h => ?_) ?_
  · obtain ⟨k9, w9, hm, rfl⟩ := hx E M2 h
    exact ⟨k9, w9, rfl, tcL_coat k9 w9 hm, Or.inr ⟨k9, w9, hm, h, rfl⟩⟩
  intro r M2 hq
  obtain ⟨⟨z, rfl⟩, hs2⟩ := hv r M2 hq
  refine ax_i2l dL_coat_8 ?_
  refine ax_last dL_coat_9 hs2 (by unfold vp_in; decide) ?_
  refine ax_goto (tgt := 21) dL_coat_10 (by decide) ?_
  refine ax_iconst (v := 0) dL_coat_21 (by decide) ?_
  refine ax_iretW dL_coat_22 rfl ?_
  exact Or.inl ⟨_, _, hq, rfl, rfl⟩
theorem mwL_at : ax_mw kL_at [(0, 12, 15, 22), (0, 12, 19, 13)] 5 := ⟨wd_166, ax_in5 (List.mem_of_getElem? (i := 28) rfl), by decide +kernel, by decide +kernel, by decide, ax_in5 (List.mem_of_getElem? (i := 27) rfl)⟩
theorem tcL_at : ∀ k9 v, (k9, v) ∈ ([(0, 1), (1, 2)] : List (Nat × Nat)) → hco kL_at [(0, 12, 15, 22), (0, 12, 19, 13)] 7 k9 v := by
  intro k9 v h
  rcases List.mem_cons.mp h with h | h
  · cases h; exact ⟨by decide, by decide, [], (⟨0, 12, 15, 22⟩ : ExceptionTableEntry), [(⟨0, 12, 19, 13⟩ : ExceptionTableEntry)], rfl, (fun z hz => absurd hz List.not_mem_nil), by decide, by decide, wd_1061, Or.inr ⟨5, dL_at_15, by decide, dL_at_17, dL_at_18⟩⟩
  cases List.mem_singleton.mp h; exact ⟨by decide, by decide, [(⟨0, 12, 15, 22⟩ : ExceptionTableEntry)], (⟨0, 12, 19, 13⟩ : ExceptionTableEntry), [], rfl, (fun z hz => by cases List.mem_singleton.mp hz; exact ⟨by decide, 0, by decide, by decide, wd_1061⟩), by decide, by decide, wd_781, Or.inr ⟨5, dL_at_19, by decide, dL_at_21, dL_at_22⟩⟩
theorem w_at {d c n : Nat} (a0 a1 a2 : Int32) {Q2 : ax_O → ax_M → Prop} (hM : ax_Met l G kX9_at d c n M [av_r 1, av_i a0, av_i a1, av_i a2] Q2) (hs : M.2.2.2.1 1 = some (.inr 9)) (hv : ∀ r M1, Q2 (.inl r) M1 → (∃ z, r = some (av_i z)) ∧ M1.2.2.2.1 432 = some (.inl (1, 1))) (hx : ∀ E M1, Q2 (.inr E) M1 → ∃ k w, (k, w) ∈ ([(0, 1), (1, 2)] : List (Nat × Nat)) ∧ E = cz_n k) : ax_MetW l G kL_at [(0, 12, 15, 22), (0, 12, 19, 13)] (d + 1) c n M [av_r 1, av_i a0, av_i a1, av_i a2, av_r 432] (qw [(0, 1), (1, 2)] Q2) := by
  refine ax_bodyW (by decide) (Nat.le_of_ble_eq_true rfl) ?_
  refine ax_aload dL_at_0 rfl ?_
  refine ax_iconst (v := 0) dL_at_2 (by decide) ?_
  refine ax_aload_n dL_at_3 rfl ?_
  refine ax_iload_n dL_at_4 rfl ?_
  refine ax_iload_n dL_at_5 rfl ?_
  refine ax_iload_n dL_at_6 rfl ?_
  refine ax_callVH (As := [av_i a0, av_i a1, av_i a2]) (c1 := 0) (n1 := 0) rfl hM dL_at_7 mX9_at wd_1155 acl_9 hs rfl (by omega) (by omega) (by omega) rfl rfl (fun E M2 h => ?_) ?_
  · obtain ⟨k9, w9, hm, rfl⟩ := hx E M2 h
    exact ⟨k9, w9, rfl, tcL_at k9 w9 hm, Or.inr ⟨k9, w9, hm, h, rfl⟩⟩
  intro r M2 hq
  obtain ⟨⟨z, rfl⟩, hs2⟩ := hv r M2 hq
  refine ax_i2l dL_at_10 ?_
  refine ax_last dL_at_11 hs2 (by unfold vp_in; decide) ?_
  refine ax_goto (tgt := 23) dL_at_12 (by decide) ?_
  refine ax_iconst (v := 0) dL_at_23 (by decide) ?_
  refine ax_iretW dL_at_24 rfl ?_
  exact Or.inl ⟨_, _, hq, rfl, rfl⟩
theorem mwL_hits : ax_mw kL_hits [(0, 9, 12, 22)] 3 := ⟨wd_166, ax_in5 (List.mem_of_getElem? (i := 41) rfl), by decide +kernel, by decide +kernel, by decide, ax_in5 (List.mem_of_getElem? (i := 40) rfl)⟩
theorem tcL_hits : ∀ k9 v, (k9, v) ∈ ([(0, 1)] : List (Nat × Nat)) → hco kL_hits [(0, 9, 12, 22)] 4 k9 v := by
  intro k9 v h
  cases List.mem_singleton.mp h; exact ⟨by decide, by decide, [], (⟨0, 9, 12, 22⟩ : ExceptionTableEntry), [], rfl, (fun z hz => absurd hz List.not_mem_nil), by decide, by decide, wd_1061, Or.inl ⟨3, dL_hits_12, by decide, dL_hits_13, dL_hits_14⟩⟩
theorem w_hits {d c n : Nat} (a0 : Int32) {Q2 : ax_O → ax_M → Prop} (hM : ax_Met l G kX9_hits d c n M [av_r 1, av_i a0] Q2) (hs : M.2.2.2.1 1 = some (.inr 9)) (hv : ∀ r M1, Q2 (.inl r) M1 → (∃ z, r = some (av_i z)) ∧ M1.2.2.2.1 432 = some (.inl (1, 1))) (hx : ∀ E M1, Q2 (.inr E) M1 → ∃ k w, (k, w) ∈ ([(0, 1)] : List (Nat × Nat)) ∧ E = cz_n k) : ax_MetW l G kL_hits [(0, 9, 12, 22)] (d + 1) c n M [av_r 1, av_i a0, av_r 432] (qw [(0, 1)] Q2) := by
  refine ax_bodyW (by decide) (Nat.le_of_ble_eq_true rfl) ?_
  refine ax_aload_n dL_hits_0 rfl ?_
  refine ax_iconst (v := 0) dL_hits_1 (by decide) ?_
  refine ax_aload_n dL_hits_2 rfl ?_
  refine ax_iload_n dL_hits_3 rfl ?_
  refine ax_callVH (As := [av_i a0]) (c1 := 0) (n1 := 0) rfl hM dL_hits_4 mX9_hits wd_1168 acl_9 hs rfl (by omega) (by omega) (by omega) rfl rfl (fun E M2 h => ?_) ?_
  · obtain ⟨k9, w9, hm, rfl⟩ := hx E M2 h
    exact ⟨k9, w9, rfl, tcL_hits k9 w9 hm, Or.inr ⟨k9, w9, hm, h, rfl⟩⟩
  intro r M2 hq
  obtain ⟨⟨z, rfl⟩, hs2⟩ := hv r M2 hq
  refine ax_i2l dL_hits_7 ?_
  refine ax_last dL_hits_8 hs2 (by unfold vp_in; decide) ?_
  refine ax_goto (tgt := 15) dL_hits_9 (by decide) ?_
  refine ax_iconst (v := 0) dL_hits_15 (by decide) ?_
  refine ax_iretW dL_hits_16 rfl ?_
  exact Or.inl ⟨_, _, hq, rfl, rfl⟩
theorem mwL_sees : ax_mw kL_sees [(0, 10, 13, 22)] 4 := ⟨wd_166, ax_in5 (List.mem_of_getElem? (i := 69) rfl), by decide +kernel, by decide +kernel, by decide, ax_in5 (List.mem_of_getElem? (i := 68) rfl)⟩
theorem tcL_sees : ∀ k9 v, (k9, v) ∈ ([(0, 1)] : List (Nat × Nat)) → hco kL_sees [(0, 10, 13, 22)] 5 k9 v := by
  intro k9 v h
  cases List.mem_singleton.mp h; exact ⟨by decide, by decide, [], (⟨0, 10, 13, 22⟩ : ExceptionTableEntry), [], rfl, (fun z hz => absurd hz List.not_mem_nil), by decide, by decide, wd_1061, Or.inr ⟨4, dL_sees_13, by decide, dL_sees_15, dL_sees_16⟩⟩
theorem w_sees {d c n : Nat} (a0 a1 : Int32) {Q2 : ax_O → ax_M → Prop} (hM : ax_Met l G kX9_sees d c n M [av_r 1, av_i a0, av_i a1] Q2) (hs : M.2.2.2.1 1 = some (.inr 9)) (hv : ∀ r M1, Q2 (.inl r) M1 → (∃ z, r = some (av_i z)) ∧ M1.2.2.2.1 432 = some (.inl (1, 1))) (hx : ∀ E M1, Q2 (.inr E) M1 → ∃ k w, (k, w) ∈ ([(0, 1)] : List (Nat × Nat)) ∧ E = cz_n k) : ax_MetW l G kL_sees [(0, 10, 13, 22)] (d + 1) c n M [av_r 1, av_i a0, av_i a1, av_r 432] (qw [(0, 1)] Q2) := by
  refine ax_bodyW (by decide) (Nat.le_of_ble_eq_true rfl) ?_
  refine ax_aload_n dL_sees_0 rfl ?_
  refine ax_iconst (v := 0) dL_sees_1 (by decide) ?_
  refine ax_aload_n dL_sees_2 rfl ?_
  refine ax_iload_n dL_sees_3 rfl ?_
  refine ax_iload_n dL_sees_4 rfl ?_
  refine ax_callVH (As := [av_i a0, av_i a1]) (c1 := 0) (n1 := 0) rfl hM dL_sees_5 mX9_sees wd_1196 acl_9 hs rfl (by omega) (by omega) (by omega) rfl rfl (fun E M2 h => ?_) ?_
  · obtain ⟨k9, w9, hm, rfl⟩ := hx E M2 h
    exact ⟨k9, w9, rfl, tcL_sees k9 w9 hm, Or.inr ⟨k9, w9, hm, h, rfl⟩⟩
  intro r M2 hq
  obtain ⟨⟨z, rfl⟩, hs2⟩ := hv r M2 hq
  refine ax_i2l dL_sees_8 ?_
  refine ax_last dL_sees_9 hs2 (by unfold vp_in; decide) ?_
  refine ax_goto (tgt := 17) dL_sees_10 (by decide) ?_
  refine ax_iconst (v := 0) dL_sees_17 (by decide) ?_
  refine ax_iretW dL_sees_18 rfl ?_
  exact Or.inl ⟨_, _, hq, rfl, rfl⟩
theorem mwL_sums : ax_mw kL_sums [(0, 10, 13, 22), (0, 10, 17, 13)] 4 := ⟨wd_166, ax_in5 (List.mem_of_getElem? (i := 78) rfl), by decide +kernel, by decide +kernel, by decide, ax_in5 (List.mem_of_getElem? (i := 77) rfl)⟩
theorem tcL_sums : ∀ k9 v, (k9, v) ∈ ([(0, 1), (1, 2)] : List (Nat × Nat)) → hco kL_sums [(0, 10, 13, 22), (0, 10, 17, 13)] 5 k9 v := by
  intro k9 v h
  rcases List.mem_cons.mp h with h | h
  · cases h; exact ⟨by decide, by decide, [], (⟨0, 10, 13, 22⟩ : ExceptionTableEntry), [(⟨0, 10, 17, 13⟩ : ExceptionTableEntry)], rfl, (fun z hz => absurd hz List.not_mem_nil), by decide, by decide, wd_1061, Or.inr ⟨4, dL_sums_13, by decide, dL_sums_15, dL_sums_16⟩⟩
  cases List.mem_singleton.mp h; exact ⟨by decide, by decide, [(⟨0, 10, 13, 22⟩ : ExceptionTableEntry)], (⟨0, 10, 17, 13⟩ : ExceptionTableEntry), [], rfl, (fun z hz => by cases List.mem_singleton.mp hz; exact ⟨by decide, 0, by decide, by decide, wd_1061⟩), by decide, by decide, wd_781, Or.inr ⟨4, dL_sums_17, by decide, dL_sums_19, dL_sums_20⟩⟩
theorem w_sums {d c n : Nat} (a0 a1 : Int32) {Q2 : ax_O → ax_M → Prop} (hM : ax_Met l G kX9_sums d c n M [av_r 1, av_i a0, av_i a1] Q2) (hs : M.2.2.2.1 1 = some (.inr 9)) (hv : ∀ r M1, Q2 (.inl r) M1 → (∃ z, r = some (av_i z)) ∧ M1.2.2.2.1 432 = some (.inl (1, 1))) (hx : ∀ E M1, Q2 (.inr E) M1 → ∃ k w, (k, w) ∈ ([(0, 1), (1, 2)] : List (Nat × Nat)) ∧ E = cz_n k) : ax_MetW l G kL_sums [(0, 10, 13, 22), (0, 10, 17, 13)] (d + 1) c n M [av_r 1, av_i a0, av_i a1, av_r 432] (qw [(0, 1), (1, 2)] Q2) := by
  refine ax_bodyW (by decide) (Nat.le_of_ble_eq_true rfl) ?_
  refine ax_aload_n dL_sums_0 rfl ?_
  refine ax_iconst (v := 0) dL_sums_1 (by decide) ?_
  refine ax_aload_n dL_sums_2 rfl ?_
  refine ax_iload_n dL_sums_3 rfl ?_
  refine ax_iload_n dL_sums_4 rfl ?_
  refine ax_callVH (As := [av_i a0, av_i a1]) (c1 := 0) (n1 := 0) rfl hM dL_sums_5 mX9_sums wd_1205 acl_9 hs rfl (by omega) (by omega) (by omega) rfl rfl (fun E M2 h => ?_) ?_
  · obtain ⟨k9, w9, hm, rfl⟩ := hx E M2 h
    exact ⟨k9, w9, rfl, tcL_sums k9 w9 hm, Or.inr ⟨k9, w9, hm, h, rfl⟩⟩
  intro r M2 hq
  obtain ⟨⟨z, rfl⟩, hs2⟩ := hv r M2 hq
  refine ax_i2l dL_sums_8 ?_
  refine ax_last dL_sums_9 hs2 (by unfold vp_in; decide) ?_
  refine ax_goto (tgt := 21) dL_sums_10 (by decide) ?_
  refine ax_iconst (v := 0) dL_sums_21 (by decide) ?_
  refine ax_iretW dL_sums_22 rfl ?_
  exact Or.inl ⟨_, _, hq, rfl, rfl⟩
theorem mwL_would : ax_mw kL_would [(0, 14, 17, 13)] 6 := ⟨wd_166, ax_in5 (List.mem_of_getElem? (i := 110) rfl), by decide +kernel, by decide +kernel, by decide, ax_in5 (List.mem_of_getElem? (i := 109) rfl)⟩
theorem tcL_would : ∀ k9 v, (k9, v) ∈ ([(1, 1)] : List (Nat × Nat)) → hco kL_would [(0, 14, 17, 13)] 9 k9 v := by
  intro k9 v h
  cases List.mem_singleton.mp h; exact ⟨by decide, by decide, [], (⟨0, 14, 17, 13⟩ : ExceptionTableEntry), [], rfl, (fun z hz => absurd hz List.not_mem_nil), by decide, by decide, wd_781, Or.inr ⟨6, dL_would_17, by decide, dL_would_19, dL_would_20⟩⟩
theorem w_would {d c n : Nat} (a0 a1 a2 a3 : Int32) {Q2 : ax_O → ax_M → Prop} (hM : ax_Met l G kX9_would d c n M [av_r 1, av_i a0, av_i a1, av_i a2, av_i a3] Q2) (hs : M.2.2.2.1 1 = some (.inr 9)) (hv : ∀ r M1, Q2 (.inl r) M1 → (∃ z, r = some (av_i z)) ∧ M1.2.2.2.1 432 = some (.inl (1, 1))) (hx : ∀ E M1, Q2 (.inr E) M1 → ∃ k w, (k, w) ∈ ([(1, 1)] : List (Nat × Nat)) ∧ E = cz_n k) : ax_MetW l G kL_would [(0, 14, 17, 13)] (d + 1) c n M [av_r 1, av_i a0, av_i a1, av_i a2, av_i a3, av_r 432] (qw [(1, 1)] Q2) := by
  refine ax_bodyW (by decide) (Nat.le_of_ble_eq_true rfl) ?_
  refine ax_aload dL_would_0 rfl ?_
  refine ax_iconst (v := 0) dL_would_2 (by decide) ?_
  refine ax_aload_n dL_would_3 rfl ?_
  refine ax_iload_n dL_would_4 rfl ?_
  refine ax_iload_n dL_would_5 rfl ?_
  refine ax_iload_n dL_would_6 rfl ?_
  refine ax_iload dL_would_7 rfl ?_
  refine ax_callVH (As := [av_i a0, av_i a1, av_i a2, av_i a3]) (c1 := 0) (n1 := 0) rfl hM dL_would_9 mX9_would wd_1237 acl_9 hs rfl (by omega) (by omega) (by omega) rfl rfl (fun E M2 h => ?_) ?_
  · obtain ⟨k9, w9, hm, rfl⟩ := hx E M2 h
    exact ⟨k9, w9, rfl, tcL_would k9 w9 hm, Or.inr ⟨k9, w9, hm, h, rfl⟩⟩
  intro r M2 hq
  obtain ⟨⟨z, rfl⟩, hs2⟩ := hv r M2 hq
  refine ax_i2l dL_would_12 ?_
  refine ax_last dL_would_13 hs2 (by unfold vp_in; decide) ?_
  refine ax_goto (tgt := 21) dL_would_14 (by decide) ?_
  refine ax_iconst (v := 0) dL_would_21 (by decide) ?_
  refine ax_iretW dL_would_22 rfl ?_
  exact Or.inl ⟨_, _, hq, rfl, rfl⟩
theorem mwL_cost : ax_mw kL_cost [(0, 12, 15, 22), (0, 12, 19, 13), (0, 12, 23, 56)] 5 := ⟨wd_166, ax_in5 (List.mem_of_getElem? (i := 122) rfl), by decide +kernel, by decide +kernel, by decide, ax_in5 (List.mem_of_getElem? (i := 121) rfl)⟩
theorem tcL_cost : ∀ k9 v, (k9, v) ∈ ([(0, 1), (1, 2), (2, 3)] : List (Nat × Nat)) → hco kL_cost [(0, 12, 15, 22), (0, 12, 19, 13), (0, 12, 23, 56)] 7 k9 v := by
  intro k9 v h
  rcases List.mem_cons.mp h with h | h
  · cases h; exact ⟨by decide, by decide, [], (⟨0, 12, 15, 22⟩ : ExceptionTableEntry), [(⟨0, 12, 19, 13⟩ : ExceptionTableEntry), (⟨0, 12, 23, 56⟩ : ExceptionTableEntry)], rfl, (fun z hz => absurd hz List.not_mem_nil), by decide, by decide, wd_1061, Or.inr ⟨5, dL_cost_15, by decide, dL_cost_17, dL_cost_18⟩⟩
  rcases List.mem_cons.mp h with h | h
  · cases h; exact ⟨by decide, by decide, [(⟨0, 12, 15, 22⟩ : ExceptionTableEntry)], (⟨0, 12, 19, 13⟩ : ExceptionTableEntry), [(⟨0, 12, 23, 56⟩ : ExceptionTableEntry)], rfl, (fun z hz => by cases List.mem_singleton.mp hz; exact ⟨by decide, 0, by decide, by decide, wd_1061⟩), by decide, by decide, wd_781, Or.inr ⟨5, dL_cost_19, by decide, dL_cost_21, dL_cost_22⟩⟩
  cases List.mem_singleton.mp h; exact ⟨by decide, by decide, [(⟨0, 12, 15, 22⟩ : ExceptionTableEntry), (⟨0, 12, 19, 13⟩ : ExceptionTableEntry)], (⟨0, 12, 23, 56⟩ : ExceptionTableEntry), [], rfl, (fun z hz => by rcases List.mem_cons.mp hz with rfl | hz; exact ⟨by decide, 0, by decide, by decide, wd_1061⟩; cases List.mem_singleton.mp hz; exact ⟨by decide, 1, by decide, by decide, wd_781⟩), by decide, by decide, wd_1249, Or.inr ⟨5, dL_cost_23, by decide, dL_cost_25, dL_cost_26⟩⟩
theorem w_cost {d c n : Nat} (a0 a1 a2 : Int32) {Q2 : ax_O → ax_M → Prop} (hM : ax_Met l G kX9_cost d c n M [av_r 1, av_i a0, av_i a1, av_i a2] Q2) (hs : M.2.2.2.1 1 = some (.inr 9)) (hv : ∀ r M1, Q2 (.inl r) M1 → (∃ z, r = some (av_i z)) ∧ M1.2.2.2.1 432 = some (.inl (1, 1))) (hx : ∀ E M1, Q2 (.inr E) M1 → ∃ k w, (k, w) ∈ ([(0, 1), (1, 2), (2, 3)] : List (Nat × Nat)) ∧ E = cz_n k) : ax_MetW l G kL_cost [(0, 12, 15, 22), (0, 12, 19, 13), (0, 12, 23, 56)] (d + 1) c n M [av_r 1, av_i a0, av_i a1, av_i a2, av_r 432] (qw [(0, 1), (1, 2), (2, 3)] Q2) := by
  refine ax_bodyW (by decide) (Nat.le_of_ble_eq_true rfl) ?_
  refine ax_aload dL_cost_0 rfl ?_
  refine ax_iconst (v := 0) dL_cost_2 (by decide) ?_
  refine ax_aload_n dL_cost_3 rfl ?_
  refine ax_iload_n dL_cost_4 rfl ?_
  refine ax_iload_n dL_cost_5 rfl ?_
  refine ax_iload_n dL_cost_6 rfl ?_
  refine ax_callVH (As := [av_i a0, av_i a1, av_i a2]) (c1 := 0) (n1 := 0) rfl hM dL_cost_7 mX9_cost wd_1250 acl_9 hs rfl (by omega) (by omega) (by omega) rfl rfl (fun E M2 h => ?_) ?_
  · obtain ⟨k9, w9, hm, rfl⟩ := hx E M2 h
    exact ⟨k9, w9, rfl, tcL_cost k9 w9 hm, Or.inr ⟨k9, w9, hm, h, rfl⟩⟩
  intro r M2 hq
  obtain ⟨⟨z, rfl⟩, hs2⟩ := hv r M2 hq
  refine ax_i2l dL_cost_10 ?_
  refine ax_last dL_cost_11 hs2 (by unfold vp_in; decide) ?_
  refine ax_goto (tgt := 27) dL_cost_12 (by decide) ?_
  refine ax_iconst (v := 0) dL_cost_27 (by decide) ?_
  refine ax_iretW dL_cost_28 rfl ?_
  exact Or.inl ⟨_, _, hq, rfl, rfl⟩
theorem mwL_duel : ax_mw kL_duel [(0, 10, 13, 13), (0, 10, 17, 56)] 4 := ⟨wd_166, ax_in5 (List.mem_of_getElem? (i := 162) rfl), by decide +kernel, by decide +kernel, by decide, ax_in5 (List.mem_of_getElem? (i := 161) rfl)⟩
theorem tcL_duel : ∀ k9 v, (k9, v) ∈ ([(1, 1), (2, 2)] : List (Nat × Nat)) → hco kL_duel [(0, 10, 13, 13), (0, 10, 17, 56)] 5 k9 v := by
  intro k9 v h
  rcases List.mem_cons.mp h with h | h
  · cases h; exact ⟨by decide, by decide, [], (⟨0, 10, 13, 13⟩ : ExceptionTableEntry), [(⟨0, 10, 17, 56⟩ : ExceptionTableEntry)], rfl, (fun z hz => absurd hz List.not_mem_nil), by decide, by decide, wd_781, Or.inr ⟨4, dL_duel_13, by decide, dL_duel_15, dL_duel_16⟩⟩
  cases List.mem_singleton.mp h; exact ⟨by decide, by decide, [(⟨0, 10, 13, 13⟩ : ExceptionTableEntry)], (⟨0, 10, 17, 56⟩ : ExceptionTableEntry), [], rfl, (fun z hz => by cases List.mem_singleton.mp hz; exact ⟨by decide, 1, by decide, by decide, wd_781⟩), by decide, by decide, wd_1249, Or.inr ⟨4, dL_duel_17, by decide, dL_duel_19, dL_duel_20⟩⟩
theorem w_duel {d c n : Nat} (a0 a1 : Int32) {Q2 : ax_O → ax_M → Prop} (hM : ax_Met l G kX9_duel d c n M [av_r 1, av_i a0, av_i a1] Q2) (hs : M.2.2.2.1 1 = some (.inr 9)) (hv : ∀ r M1, Q2 (.inl r) M1 → (∃ z, r = some (av_i z)) ∧ M1.2.2.2.1 432 = some (.inl (1, 1))) (hx : ∀ E M1, Q2 (.inr E) M1 → ∃ k w, (k, w) ∈ ([(1, 1), (2, 2)] : List (Nat × Nat)) ∧ E = cz_n k) : ax_MetW l G kL_duel [(0, 10, 13, 13), (0, 10, 17, 56)] (d + 1) c n M [av_r 1, av_i a0, av_i a1, av_r 432] (qw [(1, 1), (2, 2)] Q2) := by
  refine ax_bodyW (by decide) (Nat.le_of_ble_eq_true rfl) ?_
  refine ax_aload_n dL_duel_0 rfl ?_
  refine ax_iconst (v := 0) dL_duel_1 (by decide) ?_
  refine ax_aload_n dL_duel_2 rfl ?_
  refine ax_iload_n dL_duel_3 rfl ?_
  refine ax_iload_n dL_duel_4 rfl ?_
  refine ax_callVH (As := [av_i a0, av_i a1]) (c1 := 0) (n1 := 0) rfl hM dL_duel_5 mX9_duel wd_1289 acl_9 hs rfl (by omega) (by omega) (by omega) rfl rfl (fun E M2 h => ?_) ?_
  · obtain ⟨k9, w9, hm, rfl⟩ := hx E M2 h
    exact ⟨k9, w9, rfl, tcL_duel k9 w9 hm, Or.inr ⟨k9, w9, hm, h, rfl⟩⟩
  intro r M2 hq
  obtain ⟨⟨z, rfl⟩, hs2⟩ := hv r M2 hq
  refine ax_i2l dL_duel_8 ?_
  refine ax_last dL_duel_9 hs2 (by unfold vp_in; decide) ?_
  refine ax_goto (tgt := 21) dL_duel_10 (by decide) ?_
  refine ax_iconst (v := 0) dL_duel_21 (by decide) ?_
  refine ax_iretW dL_duel_22 rfl ?_
  exact Or.inl ⟨_, _, hq, rfl, rfl⟩
theorem mwL_answer : ax_mw kL_answer [(0, 10, 13, 22), (0, 10, 17, 13), (0, 10, 21, 56)] 4 := ⟨wd_166, ax_in5 (List.mem_of_getElem? (i := 213) rfl), by decide +kernel, by decide +kernel, by decide, ax_in5 (List.mem_of_getElem? (i := 212) rfl)⟩
theorem tcL_answer : ∀ k9 v, (k9, v) ∈ ([(0, 1), (1, 2), (2, 3)] : List (Nat × Nat)) → hco kL_answer [(0, 10, 13, 22), (0, 10, 17, 13), (0, 10, 21, 56)] 5 k9 v := by
  intro k9 v h
  rcases List.mem_cons.mp h with h | h
  · cases h; exact ⟨by decide, by decide, [], (⟨0, 10, 13, 22⟩ : ExceptionTableEntry), [(⟨0, 10, 17, 13⟩ : ExceptionTableEntry), (⟨0, 10, 21, 56⟩ : ExceptionTableEntry)], rfl, (fun z hz => absurd hz List.not_mem_nil), by decide, by decide, wd_1061, Or.inr ⟨4, dL_answer_13, by decide, dL_answer_15, dL_answer_16⟩⟩
  rcases List.mem_cons.mp h with h | h
  · cases h; exact ⟨by decide, by decide, [(⟨0, 10, 13, 22⟩ : ExceptionTableEntry)], (⟨0, 10, 17, 13⟩ : ExceptionTableEntry), [(⟨0, 10, 21, 56⟩ : ExceptionTableEntry)], rfl, (fun z hz => by cases List.mem_singleton.mp hz; exact ⟨by decide, 0, by decide, by decide, wd_1061⟩), by decide, by decide, wd_781, Or.inr ⟨4, dL_answer_17, by decide, dL_answer_19, dL_answer_20⟩⟩
  cases List.mem_singleton.mp h; exact ⟨by decide, by decide, [(⟨0, 10, 13, 22⟩ : ExceptionTableEntry), (⟨0, 10, 17, 13⟩ : ExceptionTableEntry)], (⟨0, 10, 21, 56⟩ : ExceptionTableEntry), [], rfl, (fun z hz => by rcases List.mem_cons.mp hz with rfl | hz; exact ⟨by decide, 0, by decide, by decide, wd_1061⟩; cases List.mem_singleton.mp hz; exact ⟨by decide, 1, by decide, by decide, wd_781⟩), by decide, by decide, wd_1249, Or.inr ⟨4, dL_answer_21, by decide, dL_answer_23, dL_answer_24⟩⟩
theorem w_answer {d c n : Nat} (a0 a1 : Int32) {Q2 : ax_O → ax_M → Prop} (hM : ax_Met l G kX9_answer d c n M [av_r 1, av_i a0, av_i a1] Q2) (hs : M.2.2.2.1 1 = some (.inr 9)) (hv : ∀ r M1, Q2 (.inl r) M1 → (∃ z, r = some (av_i z)) ∧ M1.2.2.2.1 432 = some (.inl (1, 1))) (hx : ∀ E M1, Q2 (.inr E) M1 → ∃ k w, (k, w) ∈ ([(0, 1), (1, 2), (2, 3)] : List (Nat × Nat)) ∧ E = cz_n k) : ax_MetW l G kL_answer [(0, 10, 13, 22), (0, 10, 17, 13), (0, 10, 21, 56)] (d + 1) c n M [av_r 1, av_i a0, av_i a1, av_r 432] (qw [(0, 1), (1, 2), (2, 3)] Q2) := by
  refine ax_bodyW (by decide) (Nat.le_of_ble_eq_true rfl) ?_
  refine ax_aload_n dL_answer_0 rfl ?_
  refine ax_iconst (v := 0) dL_answer_1 (by decide) ?_
  refine ax_aload_n dL_answer_2 rfl ?_
  refine ax_iload_n dL_answer_3 rfl ?_
  refine ax_iload_n dL_answer_4 rfl ?_
  refine ax_callVH (As := [av_i a0, av_i a1]) (c1 := 0) (n1 := 0) rfl hM dL_answer_5 mX9_answer wd_1340 acl_9 hs rfl (by omega) (by omega) (by omega) rfl rfl (fun E M2 h => ?_) ?_
  · obtain ⟨k9, w9, hm, rfl⟩ := hx E M2 h
    exact ⟨k9, w9, rfl, tcL_answer k9 w9 hm, Or.inr ⟨k9, w9, hm, h, rfl⟩⟩
  intro r M2 hq
  obtain ⟨⟨z, rfl⟩, hs2⟩ := hv r M2 hq
  refine ax_i2l dL_answer_8 ?_
  refine ax_last dL_answer_9 hs2 (by unfold vp_in; decide) ?_
  refine ax_goto (tgt := 25) dL_answer_10 (by decide) ?_
  refine ax_iconst (v := 0) dL_answer_25 (by decide) ?_
  refine ax_iretW dL_answer_26 rfl ?_
  exact Or.inl ⟨_, _, hq, rfl, rfl⟩
theorem mwL_habit : ax_mw kL_habit [(0, 10, 13, 13), (0, 10, 17, 56)] 4 := ⟨wd_166, ax_in5 (List.mem_of_getElem? (i := 221) rfl), by decide +kernel, by decide +kernel, by decide, ax_in5 (List.mem_of_getElem? (i := 220) rfl)⟩
theorem tcL_habit : ∀ k9 v, (k9, v) ∈ ([(1, 1), (2, 2)] : List (Nat × Nat)) → hco kL_habit [(0, 10, 13, 13), (0, 10, 17, 56)] 5 k9 v := by
  intro k9 v h
  rcases List.mem_cons.mp h with h | h
  · cases h; exact ⟨by decide, by decide, [], (⟨0, 10, 13, 13⟩ : ExceptionTableEntry), [(⟨0, 10, 17, 56⟩ : ExceptionTableEntry)], rfl, (fun z hz => absurd hz List.not_mem_nil), by decide, by decide, wd_781, Or.inr ⟨4, dL_habit_13, by decide, dL_habit_15, dL_habit_16⟩⟩
  cases List.mem_singleton.mp h; exact ⟨by decide, by decide, [(⟨0, 10, 13, 13⟩ : ExceptionTableEntry)], (⟨0, 10, 17, 56⟩ : ExceptionTableEntry), [], rfl, (fun z hz => by cases List.mem_singleton.mp hz; exact ⟨by decide, 1, by decide, by decide, wd_781⟩), by decide, by decide, wd_1249, Or.inr ⟨4, dL_habit_17, by decide, dL_habit_19, dL_habit_20⟩⟩
theorem w_habit {d c n : Nat} (a0 a1 : Int32) {Q2 : ax_O → ax_M → Prop} (hM : ax_Met l G kX9_habit d c n M [av_r 1, av_i a0, av_i a1] Q2) (hs : M.2.2.2.1 1 = some (.inr 9)) (hv : ∀ r M1, Q2 (.inl r) M1 → (∃ z, r = some (av_i z)) ∧ M1.2.2.2.1 432 = some (.inl (1, 1))) (hx : ∀ E M1, Q2 (.inr E) M1 → ∃ k w, (k, w) ∈ ([(1, 1), (2, 2)] : List (Nat × Nat)) ∧ E = cz_n k) : ax_MetW l G kL_habit [(0, 10, 13, 13), (0, 10, 17, 56)] (d + 1) c n M [av_r 1, av_i a0, av_i a1, av_r 432] (qw [(1, 1), (2, 2)] Q2) := by
  refine ax_bodyW (by decide) (Nat.le_of_ble_eq_true rfl) ?_
  refine ax_aload_n dL_habit_0 rfl ?_
  refine ax_iconst (v := 0) dL_habit_1 (by decide) ?_
  refine ax_aload_n dL_habit_2 rfl ?_
  refine ax_iload_n dL_habit_3 rfl ?_
  refine ax_iload_n dL_habit_4 rfl ?_
  refine ax_callVH (As := [av_i a0, av_i a1]) (c1 := 0) (n1 := 0) rfl hM dL_habit_5 mX9_habit wd_1348 acl_9 hs rfl (by omega) (by omega) (by omega) rfl rfl (fun E M2 h => ?_) ?_
  · obtain ⟨k9, w9, hm, rfl⟩ := hx E M2 h
    exact ⟨k9, w9, rfl, tcL_habit k9 w9 hm, Or.inr ⟨k9, w9, hm, h, rfl⟩⟩
  intro r M2 hq
  obtain ⟨⟨z, rfl⟩, hs2⟩ := hv r M2 hq
  refine ax_i2l dL_habit_8 ?_
  refine ax_last dL_habit_9 hs2 (by unfold vp_in; decide) ?_
  refine ax_goto (tgt := 21) dL_habit_10 (by decide) ?_
  refine ax_iconst (v := 0) dL_habit_21 (by decide) ?_
  refine ax_iretW dL_habit_22 rfl ?_
  exact Or.inl ⟨_, _, hq, rfl, rfl⟩
theorem mwL_safe : ax_mw kL_safe [(0, 10, 13, 22), (0, 10, 17, 13)] 4 := ⟨wd_166, ax_in6 (List.mem_of_getElem? (i := 2) rfl), by decide +kernel, by decide +kernel, by decide, ax_in6 (List.mem_of_getElem? (i := 1) rfl)⟩
theorem tcL_safe : ∀ k9 v, (k9, v) ∈ ([(0, 1), (1, 2)] : List (Nat × Nat)) → hco kL_safe [(0, 10, 13, 22), (0, 10, 17, 13)] 5 k9 v := by
  intro k9 v h
  rcases List.mem_cons.mp h with h | h
  · cases h; exact ⟨by decide, by decide, [], (⟨0, 10, 13, 22⟩ : ExceptionTableEntry), [(⟨0, 10, 17, 13⟩ : ExceptionTableEntry)], rfl, (fun z hz => absurd hz List.not_mem_nil), by decide, by decide, wd_1061, Or.inr ⟨4, dL_safe_13, by decide, dL_safe_15, dL_safe_16⟩⟩
  cases List.mem_singleton.mp h; exact ⟨by decide, by decide, [(⟨0, 10, 13, 22⟩ : ExceptionTableEntry)], (⟨0, 10, 17, 13⟩ : ExceptionTableEntry), [], rfl, (fun z hz => by cases List.mem_singleton.mp hz; exact ⟨by decide, 0, by decide, by decide, wd_1061⟩), by decide, by decide, wd_781, Or.inr ⟨4, dL_safe_17, by decide, dL_safe_19, dL_safe_20⟩⟩
theorem w_safe {d c n : Nat} (a0 a1 : Int32) {Q2 : ax_O → ax_M → Prop} (hM : ax_Met l G kX9_safe d c n M [av_r 1, av_i a0, av_i a1] Q2) (hs : M.2.2.2.1 1 = some (.inr 9)) (hv : ∀ r M1, Q2 (.inl r) M1 → (∃ z, r = some (av_i z)) ∧ M1.2.2.2.1 432 = some (.inl (1, 1))) (hx : ∀ E M1, Q2 (.inr E) M1 → ∃ k w, (k, w) ∈ ([(0, 1), (1, 2)] : List (Nat × Nat)) ∧ E = cz_n k) : ax_MetW l G kL_safe [(0, 10, 13, 22), (0, 10, 17, 13)] (d + 1) c n M [av_r 1, av_i a0, av_i a1, av_r 432] (qw [(0, 1), (1, 2)] Q2) := by
  refine ax_bodyW (by decide) (Nat.le_of_ble_eq_true rfl) ?_
  refine ax_aload_n dL_safe_0 rfl ?_
  refine ax_iconst (v := 0) dL_safe_1 (by decide) ?_
  refine ax_aload_n dL_safe_2 rfl ?_
  refine ax_iload_n dL_safe_3 rfl ?_
  refine ax_iload_n dL_safe_4 rfl ?_
  refine ax_callVH (As := [av_i a0, av_i a1]) (c1 := 0) (n1 := 0) rfl hM dL_safe_5 mX9_safe wd_1369 acl_9 hs rfl (by omega) (by omega) (by omega) rfl rfl (fun E M2 h => ?_) ?_
  · obtain ⟨k9, w9, hm, rfl⟩ := hx E M2 h
    exact ⟨k9, w9, rfl, tcL_safe k9 w9 hm, Or.inr ⟨k9, w9, hm, h, rfl⟩⟩
  intro r M2 hq
  obtain ⟨⟨z, rfl⟩, hs2⟩ := hv r M2 hq
  refine ax_i2l dL_safe_8 ?_
  refine ax_last dL_safe_9 hs2 (by unfold vp_in; decide) ?_
  refine ax_goto (tgt := 21) dL_safe_10 (by decide) ?_
  refine ax_iconst (v := 0) dL_safe_21 (by decide) ?_
  refine ax_iretW dL_safe_22 rfl ?_
  exact Or.inl ⟨_, _, hq, rfl, rfl⟩
theorem mwL_loaded : ax_mw kL_loaded [(0, 13, 16, 13)] 6 := ⟨wd_166, ax_in6 (List.mem_of_getElem? (i := 10) rfl), by decide +kernel, by decide +kernel, by decide, ax_in6 (List.mem_of_getElem? (i := 9) rfl)⟩
theorem tcL_loaded : ∀ k9 v, (k9, v) ∈ ([(1, 1)] : List (Nat × Nat)) → hco kL_loaded [(0, 13, 16, 13)] 9 k9 v := by
  intro k9 v h
  cases List.mem_singleton.mp h; exact ⟨by decide, by decide, [], (⟨0, 13, 16, 13⟩ : ExceptionTableEntry), [], rfl, (fun z hz => absurd hz List.not_mem_nil), by decide, by decide, wd_781, Or.inr ⟨6, dL_loaded_16, by decide, dL_loaded_18, dL_loaded_19⟩⟩
theorem w_loaded {d c n : Nat} (a0 a1 a2 a3 : Int32) {Q2 : ax_O → ax_M → Prop} (hM : ax_Met l G kX9_loaded d c n M [av_r 1, av_i a0, av_i a1, av_i a2, av_i a3] Q2) (hs : M.2.2.2.1 1 = some (.inr 9)) (hv : ∀ r M1, Q2 (.inl r) M1 → (∃ z, r = some (av_l z)) ∧ M1.2.2.2.1 432 = some (.inl (1, 1))) (hx : ∀ E M1, Q2 (.inr E) M1 → ∃ k w, (k, w) ∈ ([(1, 1)] : List (Nat × Nat)) ∧ E = cz_n k) : ax_MetW l G kL_loaded [(0, 13, 16, 13)] (d + 1) c n M [av_r 1, av_i a0, av_i a1, av_i a2, av_i a3, av_r 432] (qw [(1, 1)] Q2) := by
  refine ax_bodyW (by decide) (Nat.le_of_ble_eq_true rfl) ?_
  refine ax_aload dL_loaded_0 rfl ?_
  refine ax_iconst (v := 0) dL_loaded_2 (by decide) ?_
  refine ax_aload_n dL_loaded_3 rfl ?_
  refine ax_iload_n dL_loaded_4 rfl ?_
  refine ax_iload_n dL_loaded_5 rfl ?_
  refine ax_iload_n dL_loaded_6 rfl ?_
  refine ax_iload dL_loaded_7 rfl ?_
  refine ax_callVH (As := [av_i a0, av_i a1, av_i a2, av_i a3]) (c1 := 0) (n1 := 0) rfl hM dL_loaded_9 mX9_loaded wd_1377 acl_9 hs rfl (by omega) (by omega) (by omega) rfl rfl (fun E M2 h => ?_) ?_
  · obtain ⟨k9, w9, hm, rfl⟩ := hx E M2 h
    exact ⟨k9, w9, rfl, tcL_loaded k9 w9 hm, Or.inr ⟨k9, w9, hm, h, rfl⟩⟩
  intro r M2 hq
  obtain ⟨⟨z, rfl⟩, hs2⟩ := hv r M2 hq
  refine ax_last dL_loaded_12 hs2 (by unfold vp_in; decide) ?_
  refine ax_goto (tgt := 20) dL_loaded_13 (by decide) ?_
  refine ax_iconst (v := 0) dL_loaded_20 (by decide) ?_
  refine ax_iretW dL_loaded_21 rfl ?_
  exact Or.inl ⟨_, _, hq, rfl, rfl⟩
theorem mwL_blinds : ax_mw kL_blinds [(0, 9, 12, 13)] 3 := ⟨wd_166, ax_in6 (List.mem_of_getElem? (i := 23) rfl), by decide +kernel, by decide +kernel, by decide, ax_in6 (List.mem_of_getElem? (i := 22) rfl)⟩
theorem tcL_blinds : ∀ k9 v, (k9, v) ∈ ([(1, 1)] : List (Nat × Nat)) → hco kL_blinds [(0, 9, 12, 13)] 4 k9 v := by
  intro k9 v h
  cases List.mem_singleton.mp h; exact ⟨by decide, by decide, [], (⟨0, 9, 12, 13⟩ : ExceptionTableEntry), [], rfl, (fun z hz => absurd hz List.not_mem_nil), by decide, by decide, wd_781, Or.inl ⟨3, dL_blinds_12, by decide, dL_blinds_13, dL_blinds_14⟩⟩
theorem w_blinds {d c n : Nat} (a0 : Int32) {Q2 : ax_O → ax_M → Prop} (hM : ax_Met l G kX9_blinds d c n M [av_r 1, av_i a0] Q2) (hs : M.2.2.2.1 1 = some (.inr 9)) (hv : ∀ r M1, Q2 (.inl r) M1 → (∃ z, r = some (av_i z)) ∧ M1.2.2.2.1 432 = some (.inl (1, 1))) (hx : ∀ E M1, Q2 (.inr E) M1 → ∃ k w, (k, w) ∈ ([(1, 1)] : List (Nat × Nat)) ∧ E = cz_n k) : ax_MetW l G kL_blinds [(0, 9, 12, 13)] (d + 1) c n M [av_r 1, av_i a0, av_r 432] (qw [(1, 1)] Q2) := by
  refine ax_bodyW (by decide) (Nat.le_of_ble_eq_true rfl) ?_
  refine ax_aload_n dL_blinds_0 rfl ?_
  refine ax_iconst (v := 0) dL_blinds_1 (by decide) ?_
  refine ax_aload_n dL_blinds_2 rfl ?_
  refine ax_iload_n dL_blinds_3 rfl ?_
  refine ax_callVH (As := [av_i a0]) (c1 := 0) (n1 := 0) rfl hM dL_blinds_4 mX9_blinds wd_1390 acl_9 hs rfl (by omega) (by omega) (by omega) rfl rfl (fun E M2 h => ?_) ?_
  · obtain ⟨k9, w9, hm, rfl⟩ := hx E M2 h
    exact ⟨k9, w9, rfl, tcL_blinds k9 w9 hm, Or.inr ⟨k9, w9, hm, h, rfl⟩⟩
  intro r M2 hq
  obtain ⟨⟨z, rfl⟩, hs2⟩ := hv r M2 hq
  refine ax_i2l dL_blinds_7 ?_
  refine ax_last dL_blinds_8 hs2 (by unfold vp_in; decide) ?_
  refine ax_goto (tgt := 15) dL_blinds_9 (by decide) ?_
  refine ax_iconst (v := 0) dL_blinds_15 (by decide) ?_
  refine ax_iretW dL_blinds_16 rfl ?_
  exact Or.inl ⟨_, _, hq, rfl, rfl⟩
theorem mwL_old : ax_mw kL_old [(0, 9, 12, 13)] 3 := ⟨wd_166, ax_in6 (List.mem_of_getElem? (i := 31) rfl), by decide +kernel, by decide +kernel, by decide, ax_in6 (List.mem_of_getElem? (i := 30) rfl)⟩
theorem tcL_old : ∀ k9 v, (k9, v) ∈ ([(1, 1)] : List (Nat × Nat)) → hco kL_old [(0, 9, 12, 13)] 4 k9 v := by
  intro k9 v h
  cases List.mem_singleton.mp h; exact ⟨by decide, by decide, [], (⟨0, 9, 12, 13⟩ : ExceptionTableEntry), [], rfl, (fun z hz => absurd hz List.not_mem_nil), by decide, by decide, wd_781, Or.inl ⟨3, dL_old_12, by decide, dL_old_13, dL_old_14⟩⟩
theorem w_old {d c n : Nat} (a0 : Int32) {Q2 : ax_O → ax_M → Prop} (hM : ax_Met l G kX9_old d c n M [av_r 1, av_i a0] Q2) (hs : M.2.2.2.1 1 = some (.inr 9)) (hv : ∀ r M1, Q2 (.inl r) M1 → (∃ z, r = some (av_i z)) ∧ M1.2.2.2.1 432 = some (.inl (1, 1))) (hx : ∀ E M1, Q2 (.inr E) M1 → ∃ k w, (k, w) ∈ ([(1, 1)] : List (Nat × Nat)) ∧ E = cz_n k) : ax_MetW l G kL_old [(0, 9, 12, 13)] (d + 1) c n M [av_r 1, av_i a0, av_r 432] (qw [(1, 1)] Q2) := by
  refine ax_bodyW (by decide) (Nat.le_of_ble_eq_true rfl) ?_
  refine ax_aload_n dL_old_0 rfl ?_
  refine ax_iconst (v := 0) dL_old_1 (by decide) ?_
  refine ax_aload_n dL_old_2 rfl ?_
  refine ax_iload_n dL_old_3 rfl ?_
  refine ax_callVH (As := [av_i a0]) (c1 := 0) (n1 := 0) rfl hM dL_old_4 mX9_old wd_1398 acl_9 hs rfl (by omega) (by omega) (by omega) rfl rfl (fun E M2 h => ?_) ?_
  · obtain ⟨k9, w9, hm, rfl⟩ := hx E M2 h
    exact ⟨k9, w9, rfl, tcL_old k9 w9 hm, Or.inr ⟨k9, w9, hm, h, rfl⟩⟩
  intro r M2 hq
  obtain ⟨⟨z, rfl⟩, hs2⟩ := hv r M2 hq
  refine ax_i2l dL_old_7 ?_
  refine ax_last dL_old_8 hs2 (by unfold vp_in; decide) ?_
  refine ax_goto (tgt := 15) dL_old_9 (by decide) ?_
  refine ax_iconst (v := 0) dL_old_15 (by decide) ?_
  refine ax_iretW dL_old_16 rfl ?_
  exact Or.inl ⟨_, _, hq, rfl, rfl⟩
theorem mwL_between : ax_mw kL_between [(0, 17, 20, 13)] 4 := ⟨wd_166, ax_in6 (List.mem_of_getElem? (i := 38) rfl), by decide +kernel, by decide +kernel, by decide, ax_in6 (List.mem_of_getElem? (i := 37) rfl)⟩
theorem tcL_between : ∀ k9 v, (k9, v) ∈ ([(1, 1)] : List (Nat × Nat)) → hco kL_between [(0, 17, 20, 13)] 5 k9 v := by
  intro k9 v h
  cases List.mem_singleton.mp h; exact ⟨by decide, by decide, [], (⟨0, 17, 20, 13⟩ : ExceptionTableEntry), [], rfl, (fun z hz => absurd hz List.not_mem_nil), by decide, by decide, wd_781, Or.inr ⟨4, dL_between_20, by decide, dL_between_22, dL_between_23⟩⟩
theorem w_between {d c n : Nat} (a0 a1 : Int32) {Q2 : ax_O → ax_M → Prop} (hM : ax_Met l G kX9_between d c n M [av_r 1, av_i a0, av_i a1] Q2) (hs : M.2.2.2.1 1 = some (.inr 9)) (hv : ∀ r M1, Q2 (.inl r) M1 → (r = some (av_i 0) ∨ r = some (av_i 1)) ∧ M1.2.2.2.1 432 = some (.inl (1, 1))) (hx : ∀ E M1, Q2 (.inr E) M1 → ∃ k w, (k, w) ∈ ([(1, 1)] : List (Nat × Nat)) ∧ E = cz_n k) : ax_MetW l G kL_between [(0, 17, 20, 13)] (d + 1) c n M [av_r 1, av_i a0, av_i a1, av_r 432] (qw [(1, 1)] Q2) := by
  refine ax_bodyW (by decide) (Nat.le_of_ble_eq_true rfl) ?_
  refine ax_aload_n dL_between_0 rfl ?_
  refine ax_iconst (v := 0) dL_between_1 (by decide) ?_
  refine ax_aload_n dL_between_2 rfl ?_
  refine ax_iload_n dL_between_3 rfl ?_
  refine ax_iload_n dL_between_4 rfl ?_
  refine ax_callVH (As := [av_i a0, av_i a1]) (c1 := 0) (n1 := 0) rfl hM dL_between_5 mX9_between wd_1405 acl_9 hs rfl (by omega) (by omega) (by omega) rfl rfl (fun E M2 h => ?_) ?_
  · obtain ⟨k9, w9, hm, rfl⟩ := hx E M2 h
    exact ⟨k9, w9, rfl, tcL_between k9 w9 hm, Or.inr ⟨k9, w9, hm, h, rfl⟩⟩
  intro r M2 hq
  obtain ⟨hr, hs2⟩ := hv r M2 hq
  rcases hr with rfl | rfl
  · refine ax_if_eq (tgt := 15) dL_between_8 (by decide) (fun hc => ?_) (fun hc => ?_)
    · refine ax_lconst (v := 0) dL_between_15 (by decide) ?_
      refine ax_last dL_between_16 hs2 (by unfold vp_in; decide) ?_
      refine ax_goto (tgt := 24) dL_between_17 (by decide) ?_
      refine ax_iconst (v := 0) dL_between_24 (by decide) ?_
      refine ax_iretW dL_between_25 rfl ?_
      exact Or.inl ⟨_, _, hq, rfl, rfl⟩
    · exact absurd rfl hc
  · refine ax_if_eq (tgt := 15) dL_between_8 (by decide) (fun hc => ?_) (fun hc => ?_)
    · exact absurd hc (by decide)
    · refine ax_lconst (v := 1) dL_between_11 (by decide) ?_
      refine ax_goto (tgt := 16) dL_between_12 (by decide) ?_
      refine ax_last dL_between_16 hs2 (by unfold vp_in; decide) ?_
      refine ax_goto (tgt := 24) dL_between_17 (by decide) ?_
      refine ax_iconst (v := 0) dL_between_24 (by decide) ?_
      refine ax_iretW dL_between_25 rfl ?_
      exact Or.inl ⟨_, _, hq, rfl, rfl⟩
theorem mwL_gets : ax_mw kL_gets [(0, 10, 13, 13)] 4 := ⟨wd_166, ax_in6 (List.mem_of_getElem? (i := 45) rfl), by decide +kernel, by decide +kernel, by decide, ax_in6 (List.mem_of_getElem? (i := 44) rfl)⟩
theorem tcL_gets : ∀ k9 v, (k9, v) ∈ ([(1, 1)] : List (Nat × Nat)) → hco kL_gets [(0, 10, 13, 13)] 5 k9 v := by
  intro k9 v h
  cases List.mem_singleton.mp h; exact ⟨by decide, by decide, [], (⟨0, 10, 13, 13⟩ : ExceptionTableEntry), [], rfl, (fun z hz => absurd hz List.not_mem_nil), by decide, by decide, wd_781, Or.inr ⟨4, dL_gets_13, by decide, dL_gets_15, dL_gets_16⟩⟩
theorem w_gets {d c n : Nat} (a0 a1 : Int32) {Q2 : ax_O → ax_M → Prop} (hM : ax_Met l G kX9_gets d c n M [av_r 1, av_i a0, av_i a1] Q2) (hs : M.2.2.2.1 1 = some (.inr 9)) (hv : ∀ r M1, Q2 (.inl r) M1 → (∃ z, r = some (av_i z)) ∧ M1.2.2.2.1 432 = some (.inl (1, 1))) (hx : ∀ E M1, Q2 (.inr E) M1 → ∃ k w, (k, w) ∈ ([(1, 1)] : List (Nat × Nat)) ∧ E = cz_n k) : ax_MetW l G kL_gets [(0, 10, 13, 13)] (d + 1) c n M [av_r 1, av_i a0, av_i a1, av_r 432] (qw [(1, 1)] Q2) := by
  refine ax_bodyW (by decide) (Nat.le_of_ble_eq_true rfl) ?_
  refine ax_aload_n dL_gets_0 rfl ?_
  refine ax_iconst (v := 0) dL_gets_1 (by decide) ?_
  refine ax_aload_n dL_gets_2 rfl ?_
  refine ax_iload_n dL_gets_3 rfl ?_
  refine ax_iload_n dL_gets_4 rfl ?_
  refine ax_callVH (As := [av_i a0, av_i a1]) (c1 := 0) (n1 := 0) rfl hM dL_gets_5 mX9_gets wd_1412 acl_9 hs rfl (by omega) (by omega) (by omega) rfl rfl (fun E M2 h => ?_) ?_
  · obtain ⟨k9, w9, hm, rfl⟩ := hx E M2 h
    exact ⟨k9, w9, rfl, tcL_gets k9 w9 hm, Or.inr ⟨k9, w9, hm, h, rfl⟩⟩
  intro r M2 hq
  obtain ⟨⟨z, rfl⟩, hs2⟩ := hv r M2 hq
  refine ax_i2l dL_gets_8 ?_
  refine ax_last dL_gets_9 hs2 (by unfold vp_in; decide) ?_
  refine ax_goto (tgt := 17) dL_gets_10 (by decide) ?_
  refine ax_iconst (v := 0) dL_gets_17 (by decide) ?_
  refine ax_iretW dL_gets_18 rfl ?_
  exact Or.inl ⟨_, _, hq, rfl, rfl⟩
theorem mwL_bulbs : ax_mw kL_bulbs [(0, 10, 13, 13)] 4 := ⟨wd_166, ax_in6 (List.mem_of_getElem? (i := 55) rfl), by decide +kernel, by decide +kernel, by decide, ax_in6 (List.mem_of_getElem? (i := 54) rfl)⟩
theorem tcL_bulbs : ∀ k9 v, (k9, v) ∈ ([(1, 1)] : List (Nat × Nat)) → hco kL_bulbs [(0, 10, 13, 13)] 5 k9 v := by
  intro k9 v h
  cases List.mem_singleton.mp h; exact ⟨by decide, by decide, [], (⟨0, 10, 13, 13⟩ : ExceptionTableEntry), [], rfl, (fun z hz => absurd hz List.not_mem_nil), by decide, by decide, wd_781, Or.inr ⟨4, dL_bulbs_13, by decide, dL_bulbs_15, dL_bulbs_16⟩⟩
theorem w_bulbs {d c n : Nat} (a0 a1 : Int32) {Q2 : ax_O → ax_M → Prop} (hM : ax_Met l G kX9_bulbs d c n M [av_r 1, av_i a0, av_i a1] Q2) (hs : M.2.2.2.1 1 = some (.inr 9)) (hv : ∀ r M1, Q2 (.inl r) M1 → (∃ z, r = some (av_i z)) ∧ M1.2.2.2.1 432 = some (.inl (1, 1))) (hx : ∀ E M1, Q2 (.inr E) M1 → ∃ k w, (k, w) ∈ ([(1, 1)] : List (Nat × Nat)) ∧ E = cz_n k) : ax_MetW l G kL_bulbs [(0, 10, 13, 13)] (d + 1) c n M [av_r 1, av_i a0, av_i a1, av_r 432] (qw [(1, 1)] Q2) := by
  refine ax_bodyW (by decide) (Nat.le_of_ble_eq_true rfl) ?_
  refine ax_aload_n dL_bulbs_0 rfl ?_
  refine ax_iconst (v := 0) dL_bulbs_1 (by decide) ?_
  refine ax_aload_n dL_bulbs_2 rfl ?_
  refine ax_iload_n dL_bulbs_3 rfl ?_
  refine ax_iload_n dL_bulbs_4 rfl ?_
  refine ax_callVH (As := [av_i a0, av_i a1]) (c1 := 0) (n1 := 0) rfl hM dL_bulbs_5 mX9_bulbs wd_1422 acl_9 hs rfl (by omega) (by omega) (by omega) rfl rfl (fun E M2 h => ?_) ?_
  · obtain ⟨k9, w9, hm, rfl⟩ := hx E M2 h
    exact ⟨k9, w9, rfl, tcL_bulbs k9 w9 hm, Or.inr ⟨k9, w9, hm, h, rfl⟩⟩
  intro r M2 hq
  obtain ⟨⟨z, rfl⟩, hs2⟩ := hv r M2 hq
  refine ax_i2l dL_bulbs_8 ?_
  refine ax_last dL_bulbs_9 hs2 (by unfold vp_in; decide) ?_
  refine ax_goto (tgt := 17) dL_bulbs_10 (by decide) ?_
  refine ax_iconst (v := 0) dL_bulbs_17 (by decide) ?_
  refine ax_iretW dL_bulbs_18 rfl ?_
  exact Or.inl ⟨_, _, hq, rfl, rfl⟩
theorem mwL_distances : ax_mw kL_distances [(0, 7, 10, 56)] 2 := ⟨wd_166, ax_in6 (List.mem_of_getElem? (i := 62) rfl), by decide +kernel, by decide +kernel, by decide, ax_in6 (List.mem_of_getElem? (i := 61) rfl)⟩
theorem tcL_distances : ∀ k9 v, (k9, v) ∈ ([(2, 1)] : List (Nat × Nat)) → hco kL_distances [(0, 7, 10, 56)] 3 k9 v := by
  intro k9 v h
  cases List.mem_singleton.mp h; exact ⟨by decide, by decide, [], (⟨0, 7, 10, 56⟩ : ExceptionTableEntry), [], rfl, (fun z hz => absurd hz List.not_mem_nil), by decide, by decide, wd_1249, Or.inl ⟨2, dL_distances_10, by decide, dL_distances_11, dL_distances_12⟩⟩
theorem w_distances {d c n : Nat} {Q2 : ax_O → ax_M → Prop} (hM : ax_Met l G kX9_distances d c n M [av_r 1] Q2) (hs : M.2.2.2.1 1 = some (.inr 9)) (hv : ∀ r M1, Q2 (.inl r) M1 → (∃ z, r = some (av_l z)) ∧ M1.2.2.2.1 432 = some (.inl (1, 1))) (hx : ∀ E M1, Q2 (.inr E) M1 → ∃ k w, (k, w) ∈ ([(2, 1)] : List (Nat × Nat)) ∧ E = cz_n k) : ax_MetW l G kL_distances [(0, 7, 10, 56)] (d + 1) c n M [av_r 1, av_r 432] (qw [(2, 1)] Q2) := by
  refine ax_bodyW (by decide) (Nat.le_of_ble_eq_true rfl) ?_
  refine ax_aload_n dL_distances_0 rfl ?_
  refine ax_iconst (v := 0) dL_distances_1 (by decide) ?_
  refine ax_aload_n dL_distances_2 rfl ?_
  refine ax_callVH (As := []) (c1 := 0) (n1 := 0) rfl hM dL_distances_3 mX9_distances wd_1429 acl_9 hs rfl (by omega) (by omega) (by omega) rfl rfl (fun E M2 h => ?_) ?_
  · obtain ⟨k9, w9, hm, rfl⟩ := hx E M2 h
    exact ⟨k9, w9, rfl, tcL_distances k9 w9 hm, Or.inr ⟨k9, w9, hm, h, rfl⟩⟩
  intro r M2 hq
  obtain ⟨⟨z, rfl⟩, hs2⟩ := hv r M2 hq
  refine ax_last dL_distances_6 hs2 (by unfold vp_in; decide) ?_
  refine ax_goto (tgt := 13) dL_distances_7 (by decide) ?_
  refine ax_iconst (v := 0) dL_distances_13 (by decide) ?_
  refine ax_iretW dL_distances_14 rfl ?_
  exact Or.inl ⟨_, _, hq, rfl, rfl⟩
theorem mwL_look : ax_mw kL_look [(0, 9, 12, 13), (0, 9, 15, 56)] 3 := ⟨wd_166, ax_in6 (List.mem_of_getElem? (i := 78) rfl), by decide +kernel, by decide +kernel, by decide, ax_in6 (List.mem_of_getElem? (i := 77) rfl)⟩
theorem tcL_look : ∀ k9 v, (k9, v) ∈ ([(1, 1), (2, 2)] : List (Nat × Nat)) → hco kL_look [(0, 9, 12, 13), (0, 9, 15, 56)] 4 k9 v := by
  intro k9 v h
  rcases List.mem_cons.mp h with h | h
  · cases h; exact ⟨by decide, by decide, [], (⟨0, 9, 12, 13⟩ : ExceptionTableEntry), [(⟨0, 9, 15, 56⟩ : ExceptionTableEntry)], rfl, (fun z hz => absurd hz List.not_mem_nil), by decide, by decide, wd_781, Or.inl ⟨3, dL_look_12, by decide, dL_look_13, dL_look_14⟩⟩
  cases List.mem_singleton.mp h; exact ⟨by decide, by decide, [(⟨0, 9, 12, 13⟩ : ExceptionTableEntry)], (⟨0, 9, 15, 56⟩ : ExceptionTableEntry), [], rfl, (fun z hz => by cases List.mem_singleton.mp hz; exact ⟨by decide, 1, by decide, by decide, wd_781⟩), by decide, by decide, wd_1249, Or.inl ⟨3, dL_look_15, by decide, dL_look_16, dL_look_17⟩⟩
theorem w_look {d c n : Nat} (a0 : Int32) {Q2 : ax_O → ax_M → Prop} (hM : ax_Met l G kX9_look d c n M [av_r 1, av_i a0] Q2) (hs : M.2.2.2.1 1 = some (.inr 9)) (hv : ∀ r M1, Q2 (.inl r) M1 → (∃ z, r = some (av_i z)) ∧ M1.2.2.2.1 432 = some (.inl (1, 1))) (hx : ∀ E M1, Q2 (.inr E) M1 → ∃ k w, (k, w) ∈ ([(1, 1), (2, 2)] : List (Nat × Nat)) ∧ E = cz_n k) : ax_MetW l G kL_look [(0, 9, 12, 13), (0, 9, 15, 56)] (d + 1) c n M [av_r 1, av_i a0, av_r 432] (qw [(1, 1), (2, 2)] Q2) := by
  refine ax_bodyW (by decide) (Nat.le_of_ble_eq_true rfl) ?_
  refine ax_aload_n dL_look_0 rfl ?_
  refine ax_iconst (v := 0) dL_look_1 (by decide) ?_
  refine ax_aload_n dL_look_2 rfl ?_
  refine ax_iload_n dL_look_3 rfl ?_
  refine ax_callVH (As := [av_i a0]) (c1 := 0) (n1 := 0) rfl hM dL_look_4 mX9_look wd_1445 acl_9 hs rfl (by omega) (by omega) (by omega) rfl rfl (fun E M2 h => ?_) ?_
  · obtain ⟨k9, w9, hm, rfl⟩ := hx E M2 h
    exact ⟨k9, w9, rfl, tcL_look k9 w9 hm, Or.inr ⟨k9, w9, hm, h, rfl⟩⟩
  intro r M2 hq
  obtain ⟨⟨z, rfl⟩, hs2⟩ := hv r M2 hq
  refine ax_i2l dL_look_7 ?_
  refine ax_last dL_look_8 hs2 (by unfold vp_in; decide) ?_
  refine ax_goto (tgt := 18) dL_look_9 (by decide) ?_
  refine ax_iconst (v := 0) dL_look_18 (by decide) ?_
  refine ax_iretW dL_look_19 rfl ?_
  exact Or.inl ⟨_, _, hq, rfl, rfl⟩
theorem mwL_right : ax_mw kL_right [(0, 8, 11, 56)] 2 := ⟨wd_166, ax_in6 (List.mem_of_getElem? (i := 89) rfl), by decide +kernel, by decide +kernel, by decide, ax_in6 (List.mem_of_getElem? (i := 88) rfl)⟩
theorem tcL_right : ∀ k9 v, (k9, v) ∈ ([(2, 1)] : List (Nat × Nat)) → hco kL_right [(0, 8, 11, 56)] 3 k9 v := by
  intro k9 v h
  cases List.mem_singleton.mp h; exact ⟨by decide, by decide, [], (⟨0, 8, 11, 56⟩ : ExceptionTableEntry), [], rfl, (fun z hz => absurd hz List.not_mem_nil), by decide, by decide, wd_1249, Or.inl ⟨2, dL_right_11, by decide, dL_right_12, dL_right_13⟩⟩
theorem w_right {d c n : Nat} {Q2 : ax_O → ax_M → Prop} (hM : ax_Met l G kX9_right d c n M [av_r 1] Q2) (hs : M.2.2.2.1 1 = some (.inr 9)) (hv : ∀ r M1, Q2 (.inl r) M1 → (∃ z, r = some (av_i z)) ∧ M1.2.2.2.1 432 = some (.inl (1, 1))) (hx : ∀ E M1, Q2 (.inr E) M1 → ∃ k w, (k, w) ∈ ([(2, 1)] : List (Nat × Nat)) ∧ E = cz_n k) : ax_MetW l G kL_right [(0, 8, 11, 56)] (d + 1) c n M [av_r 1, av_r 432] (qw [(2, 1)] Q2) := by
  refine ax_bodyW (by decide) (Nat.le_of_ble_eq_true rfl) ?_
  refine ax_aload_n dL_right_0 rfl ?_
  refine ax_iconst (v := 0) dL_right_1 (by decide) ?_
  refine ax_aload_n dL_right_2 rfl ?_
  refine ax_callVH (As := []) (c1 := 0) (n1 := 0) rfl hM dL_right_3 mX9_right wd_1456 acl_9 hs rfl (by omega) (by omega) (by omega) rfl rfl (fun E M2 h => ?_) ?_
  · obtain ⟨k9, w9, hm, rfl⟩ := hx E M2 h
    exact ⟨k9, w9, rfl, tcL_right k9 w9 hm, Or.inr ⟨k9, w9, hm, h, rfl⟩⟩
  intro r M2 hq
  obtain ⟨⟨z, rfl⟩, hs2⟩ := hv r M2 hq
  refine ax_i2l dL_right_6 ?_
  refine ax_last dL_right_7 hs2 (by unfold vp_in; decide) ?_
  refine ax_goto (tgt := 14) dL_right_8 (by decide) ?_
  refine ax_iconst (v := 0) dL_right_14 (by decide) ?_
  refine ax_iretW dL_right_15 rfl ?_
  exact Or.inl ⟨_, _, hq, rfl, rfl⟩
theorem mwL_nights : ax_mw kL_nights [(0, 12, 15, 13)] 5 := ⟨wd_166, ax_in6 (List.mem_of_getElem? (i := 96) rfl), by decide +kernel, by decide +kernel, by decide, ax_in6 (List.mem_of_getElem? (i := 95) rfl)⟩
theorem tcL_nights : ∀ k9 v, (k9, v) ∈ ([(1, 1)] : List (Nat × Nat)) → hco kL_nights [(0, 12, 15, 13)] 7 k9 v := by
  intro k9 v h
  cases List.mem_singleton.mp h; exact ⟨by decide, by decide, [], (⟨0, 12, 15, 13⟩ : ExceptionTableEntry), [], rfl, (fun z hz => absurd hz List.not_mem_nil), by decide, by decide, wd_781, Or.inr ⟨5, dL_nights_15, by decide, dL_nights_17, dL_nights_18⟩⟩
theorem w_nights {d c n : Nat} (a0 a1 a2 : Int32) {Q2 : ax_O → ax_M → Prop} (hM : ax_Met l G kX9_nights d c n M [av_r 1, av_i a0, av_i a1, av_i a2] Q2) (hs : M.2.2.2.1 1 = some (.inr 9)) (hv : ∀ r M1, Q2 (.inl r) M1 → (∃ z, r = some (av_i z)) ∧ M1.2.2.2.1 432 = some (.inl (1, 1))) (hx : ∀ E M1, Q2 (.inr E) M1 → ∃ k w, (k, w) ∈ ([(1, 1)] : List (Nat × Nat)) ∧ E = cz_n k) : ax_MetW l G kL_nights [(0, 12, 15, 13)] (d + 1) c n M [av_r 1, av_i a0, av_i a1, av_i a2, av_r 432] (qw [(1, 1)] Q2) := by
  refine ax_bodyW (by decide) (Nat.le_of_ble_eq_true rfl) ?_
  refine ax_aload dL_nights_0 rfl ?_
  refine ax_iconst (v := 0) dL_nights_2 (by decide) ?_
  refine ax_aload_n dL_nights_3 rfl ?_
  refine ax_iload_n dL_nights_4 rfl ?_
  refine ax_iload_n dL_nights_5 rfl ?_
  refine ax_iload_n dL_nights_6 rfl ?_
  refine ax_callVH (As := [av_i a0, av_i a1, av_i a2]) (c1 := 0) (n1 := 0) rfl hM dL_nights_7 mX9_nights wd_1463 acl_9 hs rfl (by omega) (by omega) (by omega) rfl rfl (fun E M2 h => ?_) ?_
  · obtain ⟨k9, w9, hm, rfl⟩ := hx E M2 h
    exact ⟨k9, w9, rfl, tcL_nights k9 w9 hm, Or.inr ⟨k9, w9, hm, h, rfl⟩⟩
  intro r M2 hq
  obtain ⟨⟨z, rfl⟩, hs2⟩ := hv r M2 hq
  refine ax_i2l dL_nights_10 ?_
  refine ax_last dL_nights_11 hs2 (by unfold vp_in; decide) ?_
  refine ax_goto (tgt := 19) dL_nights_12 (by decide) ?_
  refine ax_iconst (v := 0) dL_nights_19 (by decide) ?_
  refine ax_iretW dL_nights_20 rfl ?_
  exact Or.inl ⟨_, _, hq, rfl, rfl⟩
theorem mwL_darkest : ax_mw kL_darkest [(0, 9, 12, 13)] 3 := ⟨wd_166, ax_in6 (List.mem_of_getElem? (i := 112) rfl), by decide +kernel, by decide +kernel, by decide, ax_in6 (List.mem_of_getElem? (i := 111) rfl)⟩
theorem tcL_darkest : ∀ k9 v, (k9, v) ∈ ([(1, 1)] : List (Nat × Nat)) → hco kL_darkest [(0, 9, 12, 13)] 4 k9 v := by
  intro k9 v h
  cases List.mem_singleton.mp h; exact ⟨by decide, by decide, [], (⟨0, 9, 12, 13⟩ : ExceptionTableEntry), [], rfl, (fun z hz => absurd hz List.not_mem_nil), by decide, by decide, wd_781, Or.inl ⟨3, dL_darkest_12, by decide, dL_darkest_13, dL_darkest_14⟩⟩
theorem w_darkest {d c n : Nat} (a0 : Int32) {Q2 : ax_O → ax_M → Prop} (hM : ax_Met l G kX9_darkest d c n M [av_r 1, av_i a0] Q2) (hs : M.2.2.2.1 1 = some (.inr 9)) (hv : ∀ r M1, Q2 (.inl r) M1 → (∃ z, r = some (av_i z)) ∧ M1.2.2.2.1 432 = some (.inl (1, 1))) (hx : ∀ E M1, Q2 (.inr E) M1 → ∃ k w, (k, w) ∈ ([(1, 1)] : List (Nat × Nat)) ∧ E = cz_n k) : ax_MetW l G kL_darkest [(0, 9, 12, 13)] (d + 1) c n M [av_r 1, av_i a0, av_r 432] (qw [(1, 1)] Q2) := by
  refine ax_bodyW (by decide) (Nat.le_of_ble_eq_true rfl) ?_
  refine ax_aload_n dL_darkest_0 rfl ?_
  refine ax_iconst (v := 0) dL_darkest_1 (by decide) ?_
  refine ax_aload_n dL_darkest_2 rfl ?_
  refine ax_iload_n dL_darkest_3 rfl ?_
  refine ax_callVH (As := [av_i a0]) (c1 := 0) (n1 := 0) rfl hM dL_darkest_4 mX9_darkest wd_1479 acl_9 hs rfl (by omega) (by omega) (by omega) rfl rfl (fun E M2 h => ?_) ?_
  · obtain ⟨k9, w9, hm, rfl⟩ := hx E M2 h
    exact ⟨k9, w9, rfl, tcL_darkest k9 w9 hm, Or.inr ⟨k9, w9, hm, h, rfl⟩⟩
  intro r M2 hq
  obtain ⟨⟨z, rfl⟩, hs2⟩ := hv r M2 hq
  refine ax_i2l dL_darkest_7 ?_
  refine ax_last dL_darkest_8 hs2 (by unfold vp_in; decide) ?_
  refine ax_goto (tgt := 15) dL_darkest_9 (by decide) ?_
  refine ax_iconst (v := 0) dL_darkest_15 (by decide) ?_
  refine ax_iretW dL_darkest_16 rfl ?_
  exact Or.inl ⟨_, _, hq, rfl, rfl⟩
theorem mwL_dark : ax_mw kL_dark [(0, 10, 13, 22), (0, 10, 17, 13)] 4 := ⟨wd_166, ax_in6 (List.mem_of_getElem? (i := 124) rfl), by decide +kernel, by decide +kernel, by decide, ax_in6 (List.mem_of_getElem? (i := 123) rfl)⟩
theorem tcL_dark : ∀ k9 v, (k9, v) ∈ ([(0, 1), (1, 2)] : List (Nat × Nat)) → hco kL_dark [(0, 10, 13, 22), (0, 10, 17, 13)] 5 k9 v := by
  intro k9 v h
  rcases List.mem_cons.mp h with h | h
  · cases h; exact ⟨by decide, by decide, [], (⟨0, 10, 13, 22⟩ : ExceptionTableEntry), [(⟨0, 10, 17, 13⟩ : ExceptionTableEntry)], rfl, (fun z hz => absurd hz List.not_mem_nil), by decide, by decide, wd_1061, Or.inr ⟨4, dL_dark_13, by decide, dL_dark_15, dL_dark_16⟩⟩
  cases List.mem_singleton.mp h; exact ⟨by decide, by decide, [(⟨0, 10, 13, 22⟩ : ExceptionTableEntry)], (⟨0, 10, 17, 13⟩ : ExceptionTableEntry), [], rfl, (fun z hz => by cases List.mem_singleton.mp hz; exact ⟨by decide, 0, by decide, by decide, wd_1061⟩), by decide, by decide, wd_781, Or.inr ⟨4, dL_dark_17, by decide, dL_dark_19, dL_dark_20⟩⟩
theorem w_dark {d c n : Nat} (a0 a1 : Int32) {Q2 : ax_O → ax_M → Prop} (hM : ax_Met l G kX9_dark d c n M [av_r 1, av_i a0, av_i a1] Q2) (hs : M.2.2.2.1 1 = some (.inr 9)) (hv : ∀ r M1, Q2 (.inl r) M1 → (∃ z, r = some (av_i z)) ∧ M1.2.2.2.1 432 = some (.inl (1, 1))) (hx : ∀ E M1, Q2 (.inr E) M1 → ∃ k w, (k, w) ∈ ([(0, 1), (1, 2)] : List (Nat × Nat)) ∧ E = cz_n k) : ax_MetW l G kL_dark [(0, 10, 13, 22), (0, 10, 17, 13)] (d + 1) c n M [av_r 1, av_i a0, av_i a1, av_r 432] (qw [(0, 1), (1, 2)] Q2) := by
  refine ax_bodyW (by decide) (Nat.le_of_ble_eq_true rfl) ?_
  refine ax_aload_n dL_dark_0 rfl ?_
  refine ax_iconst (v := 0) dL_dark_1 (by decide) ?_
  refine ax_aload_n dL_dark_2 rfl ?_
  refine ax_iload_n dL_dark_3 rfl ?_
  refine ax_iload_n dL_dark_4 rfl ?_
  refine ax_callVH (As := [av_i a0, av_i a1]) (c1 := 0) (n1 := 0) rfl hM dL_dark_5 mX9_dark wd_1491 acl_9 hs rfl (by omega) (by omega) (by omega) rfl rfl (fun E M2 h => ?_) ?_
  · obtain ⟨k9, w9, hm, rfl⟩ := hx E M2 h
    exact ⟨k9, w9, rfl, tcL_dark k9 w9 hm, Or.inr ⟨k9, w9, hm, h, rfl⟩⟩
  intro r M2 hq
  obtain ⟨⟨z, rfl⟩, hs2⟩ := hv r M2 hq
  refine ax_i2l dL_dark_8 ?_
  refine ax_last dL_dark_9 hs2 (by unfold vp_in; decide) ?_
  refine ax_goto (tgt := 21) dL_dark_10 (by decide) ?_
  refine ax_iconst (v := 0) dL_dark_21 (by decide) ?_
  refine ax_iretW dL_dark_22 rfl ?_
  exact Or.inl ⟨_, _, hq, rfl, rfl⟩
theorem mwL_dips : ax_mw kL_dips [(0, 10, 13, 22), (0, 10, 17, 13)] 4 := ⟨wd_166, ax_in6 (List.mem_of_getElem? (i := 131) rfl), by decide +kernel, by decide +kernel, by decide, ax_in6 (List.mem_of_getElem? (i := 130) rfl)⟩
theorem tcL_dips : ∀ k9 v, (k9, v) ∈ ([(0, 1), (1, 2)] : List (Nat × Nat)) → hco kL_dips [(0, 10, 13, 22), (0, 10, 17, 13)] 5 k9 v := by
  intro k9 v h
  rcases List.mem_cons.mp h with h | h
  · cases h; exact ⟨by decide, by decide, [], (⟨0, 10, 13, 22⟩ : ExceptionTableEntry), [(⟨0, 10, 17, 13⟩ : ExceptionTableEntry)], rfl, (fun z hz => absurd hz List.not_mem_nil), by decide, by decide, wd_1061, Or.inr ⟨4, dL_dips_13, by decide, dL_dips_15, dL_dips_16⟩⟩
  cases List.mem_singleton.mp h; exact ⟨by decide, by decide, [(⟨0, 10, 13, 22⟩ : ExceptionTableEntry)], (⟨0, 10, 17, 13⟩ : ExceptionTableEntry), [], rfl, (fun z hz => by cases List.mem_singleton.mp hz; exact ⟨by decide, 0, by decide, by decide, wd_1061⟩), by decide, by decide, wd_781, Or.inr ⟨4, dL_dips_17, by decide, dL_dips_19, dL_dips_20⟩⟩
theorem w_dips {d c n : Nat} (a0 a1 : Int32) {Q2 : ax_O → ax_M → Prop} (hM : ax_Met l G kX9_dips d c n M [av_r 1, av_i a0, av_i a1] Q2) (hs : M.2.2.2.1 1 = some (.inr 9)) (hv : ∀ r M1, Q2 (.inl r) M1 → (∃ z, r = some (av_i z)) ∧ M1.2.2.2.1 432 = some (.inl (1, 1))) (hx : ∀ E M1, Q2 (.inr E) M1 → ∃ k w, (k, w) ∈ ([(0, 1), (1, 2)] : List (Nat × Nat)) ∧ E = cz_n k) : ax_MetW l G kL_dips [(0, 10, 13, 22), (0, 10, 17, 13)] (d + 1) c n M [av_r 1, av_i a0, av_i a1, av_r 432] (qw [(0, 1), (1, 2)] Q2) := by
  refine ax_bodyW (by decide) (Nat.le_of_ble_eq_true rfl) ?_
  refine ax_aload_n dL_dips_0 rfl ?_
  refine ax_iconst (v := 0) dL_dips_1 (by decide) ?_
  refine ax_aload_n dL_dips_2 rfl ?_
  refine ax_iload_n dL_dips_3 rfl ?_
  refine ax_iload_n dL_dips_4 rfl ?_
  refine ax_callVH (As := [av_i a0, av_i a1]) (c1 := 0) (n1 := 0) rfl hM dL_dips_5 mX9_dips wd_1498 acl_9 hs rfl (by omega) (by omega) (by omega) rfl rfl (fun E M2 h => ?_) ?_
  · obtain ⟨k9, w9, hm, rfl⟩ := hx E M2 h
    exact ⟨k9, w9, rfl, tcL_dips k9 w9 hm, Or.inr ⟨k9, w9, hm, h, rfl⟩⟩
  intro r M2 hq
  obtain ⟨⟨z, rfl⟩, hs2⟩ := hv r M2 hq
  refine ax_i2l dL_dips_8 ?_
  refine ax_last dL_dips_9 hs2 (by unfold vp_in; decide) ?_
  refine ax_goto (tgt := 21) dL_dips_10 (by decide) ?_
  refine ax_iconst (v := 0) dL_dips_21 (by decide) ?_
  refine ax_iretW dL_dips_22 rfl ?_
  exact Or.inl ⟨_, _, hq, rfl, rfl⟩
theorem mwL_gap : ax_mw kL_gap [(0, 10, 13, 22), (0, 10, 17, 13)] 4 := ⟨wd_166, ax_in6 (List.mem_of_getElem? (i := 142) rfl), by decide +kernel, by decide +kernel, by decide, ax_in6 (List.mem_of_getElem? (i := 141) rfl)⟩
theorem tcL_gap : ∀ k9 v, (k9, v) ∈ ([(0, 1), (1, 2)] : List (Nat × Nat)) → hco kL_gap [(0, 10, 13, 22), (0, 10, 17, 13)] 5 k9 v := by
  intro k9 v h
  rcases List.mem_cons.mp h with h | h
  · cases h; exact ⟨by decide, by decide, [], (⟨0, 10, 13, 22⟩ : ExceptionTableEntry), [(⟨0, 10, 17, 13⟩ : ExceptionTableEntry)], rfl, (fun z hz => absurd hz List.not_mem_nil), by decide, by decide, wd_1061, Or.inr ⟨4, dL_gap_13, by decide, dL_gap_15, dL_gap_16⟩⟩
  cases List.mem_singleton.mp h; exact ⟨by decide, by decide, [(⟨0, 10, 13, 22⟩ : ExceptionTableEntry)], (⟨0, 10, 17, 13⟩ : ExceptionTableEntry), [], rfl, (fun z hz => by cases List.mem_singleton.mp hz; exact ⟨by decide, 0, by decide, by decide, wd_1061⟩), by decide, by decide, wd_781, Or.inr ⟨4, dL_gap_17, by decide, dL_gap_19, dL_gap_20⟩⟩
theorem w_gap {d c n : Nat} (a0 a1 : Int32) {Q2 : ax_O → ax_M → Prop} (hM : ax_Met l G kX9_gap d c n M [av_r 1, av_i a0, av_i a1] Q2) (hs : M.2.2.2.1 1 = some (.inr 9)) (hv : ∀ r M1, Q2 (.inl r) M1 → (∃ z, r = some (av_i z)) ∧ M1.2.2.2.1 432 = some (.inl (1, 1))) (hx : ∀ E M1, Q2 (.inr E) M1 → ∃ k w, (k, w) ∈ ([(0, 1), (1, 2)] : List (Nat × Nat)) ∧ E = cz_n k) : ax_MetW l G kL_gap [(0, 10, 13, 22), (0, 10, 17, 13)] (d + 1) c n M [av_r 1, av_i a0, av_i a1, av_r 432] (qw [(0, 1), (1, 2)] Q2) := by
  refine ax_bodyW (by decide) (Nat.le_of_ble_eq_true rfl) ?_
  refine ax_aload_n dL_gap_0 rfl ?_
  refine ax_iconst (v := 0) dL_gap_1 (by decide) ?_
  refine ax_aload_n dL_gap_2 rfl ?_
  refine ax_iload_n dL_gap_3 rfl ?_
  refine ax_iload_n dL_gap_4 rfl ?_
  refine ax_callVH (As := [av_i a0, av_i a1]) (c1 := 0) (n1 := 0) rfl hM dL_gap_5 mX9_gap wd_1509 acl_9 hs rfl (by omega) (by omega) (by omega) rfl rfl (fun E M2 h => ?_) ?_
  · obtain ⟨k9, w9, hm, rfl⟩ := hx E M2 h
    exact ⟨k9, w9, rfl, tcL_gap k9 w9 hm, Or.inr ⟨k9, w9, hm, h, rfl⟩⟩
  intro r M2 hq
  obtain ⟨⟨z, rfl⟩, hs2⟩ := hv r M2 hq
  refine ax_i2l dL_gap_8 ?_
  refine ax_last dL_gap_9 hs2 (by unfold vp_in; decide) ?_
  refine ax_goto (tgt := 21) dL_gap_10 (by decide) ?_
  refine ax_iconst (v := 0) dL_gap_21 (by decide) ?_
  refine ax_iretW dL_gap_22 rfl ?_
  exact Or.inl ⟨_, _, hq, rfl, rfl⟩
theorem mwL_needs : ax_mw kL_needs [(0, 9, 12, 13)] 3 := ⟨wd_166, ax_in6 (List.mem_of_getElem? (i := 149) rfl), by decide +kernel, by decide +kernel, by decide, ax_in6 (List.mem_of_getElem? (i := 148) rfl)⟩
theorem tcL_needs : ∀ k9 v, (k9, v) ∈ ([(1, 1)] : List (Nat × Nat)) → hco kL_needs [(0, 9, 12, 13)] 4 k9 v := by
  intro k9 v h
  cases List.mem_singleton.mp h; exact ⟨by decide, by decide, [], (⟨0, 9, 12, 13⟩ : ExceptionTableEntry), [], rfl, (fun z hz => absurd hz List.not_mem_nil), by decide, by decide, wd_781, Or.inl ⟨3, dL_needs_12, by decide, dL_needs_13, dL_needs_14⟩⟩
theorem w_needs {d c n : Nat} (a0 : Int32) {Q2 : ax_O → ax_M → Prop} (hM : ax_Met l G kX9_needs d c n M [av_r 1, av_i a0] Q2) (hs : M.2.2.2.1 1 = some (.inr 9)) (hv : ∀ r M1, Q2 (.inl r) M1 → (∃ z, r = some (av_i z)) ∧ M1.2.2.2.1 432 = some (.inl (1, 1))) (hx : ∀ E M1, Q2 (.inr E) M1 → ∃ k w, (k, w) ∈ ([(1, 1)] : List (Nat × Nat)) ∧ E = cz_n k) : ax_MetW l G kL_needs [(0, 9, 12, 13)] (d + 1) c n M [av_r 1, av_i a0, av_r 432] (qw [(1, 1)] Q2) := by
  refine ax_bodyW (by decide) (Nat.le_of_ble_eq_true rfl) ?_
  refine ax_aload_n dL_needs_0 rfl ?_
  refine ax_iconst (v := 0) dL_needs_1 (by decide) ?_
  refine ax_aload_n dL_needs_2 rfl ?_
  refine ax_iload_n dL_needs_3 rfl ?_
  refine ax_callVH (As := [av_i a0]) (c1 := 0) (n1 := 0) rfl hM dL_needs_4 mX9_needs wd_1516 acl_9 hs rfl (by omega) (by omega) (by omega) rfl rfl (fun E M2 h => ?_) ?_
  · obtain ⟨k9, w9, hm, rfl⟩ := hx E M2 h
    exact ⟨k9, w9, rfl, tcL_needs k9 w9 hm, Or.inr ⟨k9, w9, hm, h, rfl⟩⟩
  intro r M2 hq
  obtain ⟨⟨z, rfl⟩, hs2⟩ := hv r M2 hq
  refine ax_i2l dL_needs_7 ?_
  refine ax_last dL_needs_8 hs2 (by unfold vp_in; decide) ?_
  refine ax_goto (tgt := 15) dL_needs_9 (by decide) ?_
  refine ax_iconst (v := 0) dL_needs_15 (by decide) ?_
  refine ax_iretW dL_needs_16 rfl ?_
  exact Or.inl ⟨_, _, hq, rfl, rfl⟩
theorem mwL_clear : ax_mw kL_clear [(0, 9, 12, 22)] 3 := ⟨wd_166, ax_in6 (List.mem_of_getElem? (i := 156) rfl), by decide +kernel, by decide +kernel, by decide, ax_in6 (List.mem_of_getElem? (i := 155) rfl)⟩
theorem tcL_clear : ∀ k9 v, (k9, v) ∈ ([(0, 1)] : List (Nat × Nat)) → hco kL_clear [(0, 9, 12, 22)] 4 k9 v := by
  intro k9 v h
  cases List.mem_singleton.mp h; exact ⟨by decide, by decide, [], (⟨0, 9, 12, 22⟩ : ExceptionTableEntry), [], rfl, (fun z hz => absurd hz List.not_mem_nil), by decide, by decide, wd_1061, Or.inl ⟨3, dL_clear_12, by decide, dL_clear_13, dL_clear_14⟩⟩
theorem w_clear {d c n : Nat} (a0 : Int32) {Q2 : ax_O → ax_M → Prop} (hM : ax_Met l G kX9_clear d c n M [av_r 1, av_i a0] Q2) (hs : M.2.2.2.1 1 = some (.inr 9)) (hv : ∀ r M1, Q2 (.inl r) M1 → (∃ z, r = some (av_i z)) ∧ M1.2.2.2.1 432 = some (.inl (1, 1))) (hx : ∀ E M1, Q2 (.inr E) M1 → ∃ k w, (k, w) ∈ ([(0, 1)] : List (Nat × Nat)) ∧ E = cz_n k) : ax_MetW l G kL_clear [(0, 9, 12, 22)] (d + 1) c n M [av_r 1, av_i a0, av_r 432] (qw [(0, 1)] Q2) := by
  refine ax_bodyW (by decide) (Nat.le_of_ble_eq_true rfl) ?_
  refine ax_aload_n dL_clear_0 rfl ?_
  refine ax_iconst (v := 0) dL_clear_1 (by decide) ?_
  refine ax_aload_n dL_clear_2 rfl ?_
  refine ax_iload_n dL_clear_3 rfl ?_
  refine ax_callVH (As := [av_i a0]) (c1 := 0) (n1 := 0) rfl hM dL_clear_4 mX9_clear wd_1523 acl_9 hs rfl (by omega) (by omega) (by omega) rfl rfl (fun E M2 h => ?_) ?_
  · obtain ⟨k9, w9, hm, rfl⟩ := hx E M2 h
    exact ⟨k9, w9, rfl, tcL_clear k9 w9 hm, Or.inr ⟨k9, w9, hm, h, rfl⟩⟩
  intro r M2 hq
  obtain ⟨⟨z, rfl⟩, hs2⟩ := hv r M2 hq
  refine ax_i2l dL_clear_7 ?_
  refine ax_last dL_clear_8 hs2 (by unfold vp_in; decide) ?_
  refine ax_goto (tgt := 15) dL_clear_9 (by decide) ?_
  refine ax_iconst (v := 0) dL_clear_15 (by decide) ?_
  refine ax_iretW dL_clear_16 rfl ?_
  exact Or.inl ⟨_, _, hq, rfl, rfl⟩
theorem mwL_paces : ax_mw kL_paces [(0, 9, 12, 13), (0, 9, 15, 56)] 3 := ⟨wd_166, ax_in6 (List.mem_of_getElem? (i := 163) rfl), by decide +kernel, by decide +kernel, by decide, ax_in6 (List.mem_of_getElem? (i := 162) rfl)⟩
theorem tcL_paces : ∀ k9 v, (k9, v) ∈ ([(1, 1), (2, 2)] : List (Nat × Nat)) → hco kL_paces [(0, 9, 12, 13), (0, 9, 15, 56)] 4 k9 v := by
  intro k9 v h
  rcases List.mem_cons.mp h with h | h
  · cases h; exact ⟨by decide, by decide, [], (⟨0, 9, 12, 13⟩ : ExceptionTableEntry), [(⟨0, 9, 15, 56⟩ : ExceptionTableEntry)], rfl, (fun z hz => absurd hz List.not_mem_nil), by decide, by decide, wd_781, Or.inl ⟨3, dL_paces_12, by decide, dL_paces_13, dL_paces_14⟩⟩
  cases List.mem_singleton.mp h; exact ⟨by decide, by decide, [(⟨0, 9, 12, 13⟩ : ExceptionTableEntry)], (⟨0, 9, 15, 56⟩ : ExceptionTableEntry), [], rfl, (fun z hz => by cases List.mem_singleton.mp hz; exact ⟨by decide, 1, by decide, by decide, wd_781⟩), by decide, by decide, wd_1249, Or.inl ⟨3, dL_paces_15, by decide, dL_paces_16, dL_paces_17⟩⟩
theorem w_paces {d c n : Nat} (a0 : Int32) {Q2 : ax_O → ax_M → Prop} (hM : ax_Met l G kX9_paces d c n M [av_r 1, av_i a0] Q2) (hs : M.2.2.2.1 1 = some (.inr 9)) (hv : ∀ r M1, Q2 (.inl r) M1 → (∃ z, r = some (av_i z)) ∧ M1.2.2.2.1 432 = some (.inl (1, 1))) (hx : ∀ E M1, Q2 (.inr E) M1 → ∃ k w, (k, w) ∈ ([(1, 1), (2, 2)] : List (Nat × Nat)) ∧ E = cz_n k) : ax_MetW l G kL_paces [(0, 9, 12, 13), (0, 9, 15, 56)] (d + 1) c n M [av_r 1, av_i a0, av_r 432] (qw [(1, 1), (2, 2)] Q2) := by
  refine ax_bodyW (by decide) (Nat.le_of_ble_eq_true rfl) ?_
  refine ax_aload_n dL_paces_0 rfl ?_
  refine ax_iconst (v := 0) dL_paces_1 (by decide) ?_
  refine ax_aload_n dL_paces_2 rfl ?_
  refine ax_iload_n dL_paces_3 rfl ?_
  refine ax_callVH (As := [av_i a0]) (c1 := 0) (n1 := 0) rfl hM dL_paces_4 mX9_paces wd_1530 acl_9 hs rfl (by omega) (by omega) (by omega) rfl rfl (fun E M2 h => ?_) ?_
  · obtain ⟨k9, w9, hm, rfl⟩ := hx E M2 h
    exact ⟨k9, w9, rfl, tcL_paces k9 w9 hm, Or.inr ⟨k9, w9, hm, h, rfl⟩⟩
  intro r M2 hq
  obtain ⟨⟨z, rfl⟩, hs2⟩ := hv r M2 hq
  refine ax_i2l dL_paces_7 ?_
  refine ax_last dL_paces_8 hs2 (by unfold vp_in; decide) ?_
  refine ax_goto (tgt := 18) dL_paces_9 (by decide) ?_
  refine ax_iconst (v := 0) dL_paces_18 (by decide) ?_
  refine ax_iretW dL_paces_19 rfl ?_
  exact Or.inl ⟨_, _, hq, rfl, rfl⟩
theorem mwL_finds : ax_mw kL_finds [(0, 10, 13, 22), (0, 10, 17, 13)] 4 := ⟨wd_166, ax_in6 (List.mem_of_getElem? (i := 174) rfl), by decide +kernel, by decide +kernel, by decide, ax_in6 (List.mem_of_getElem? (i := 173) rfl)⟩
theorem tcL_finds : ∀ k9 v, (k9, v) ∈ ([(0, 1), (1, 2)] : List (Nat × Nat)) → hco kL_finds [(0, 10, 13, 22), (0, 10, 17, 13)] 5 k9 v := by
  intro k9 v h
  rcases List.mem_cons.mp h with h | h
  · cases h; exact ⟨by decide, by decide, [], (⟨0, 10, 13, 22⟩ : ExceptionTableEntry), [(⟨0, 10, 17, 13⟩ : ExceptionTableEntry)], rfl, (fun z hz => absurd hz List.not_mem_nil), by decide, by decide, wd_1061, Or.inr ⟨4, dL_finds_13, by decide, dL_finds_15, dL_finds_16⟩⟩
  cases List.mem_singleton.mp h; exact ⟨by decide, by decide, [(⟨0, 10, 13, 22⟩ : ExceptionTableEntry)], (⟨0, 10, 17, 13⟩ : ExceptionTableEntry), [], rfl, (fun z hz => by cases List.mem_singleton.mp hz; exact ⟨by decide, 0, by decide, by decide, wd_1061⟩), by decide, by decide, wd_781, Or.inr ⟨4, dL_finds_17, by decide, dL_finds_19, dL_finds_20⟩⟩
theorem w_finds {d c n : Nat} (a0 a1 : Int32) {Q2 : ax_O → ax_M → Prop} (hM : ax_Met l G kX9_finds d c n M [av_r 1, av_i a0, av_i a1] Q2) (hs : M.2.2.2.1 1 = some (.inr 9)) (hv : ∀ r M1, Q2 (.inl r) M1 → (∃ z, r = some (av_i z)) ∧ M1.2.2.2.1 432 = some (.inl (1, 1))) (hx : ∀ E M1, Q2 (.inr E) M1 → ∃ k w, (k, w) ∈ ([(0, 1), (1, 2)] : List (Nat × Nat)) ∧ E = cz_n k) : ax_MetW l G kL_finds [(0, 10, 13, 22), (0, 10, 17, 13)] (d + 1) c n M [av_r 1, av_i a0, av_i a1, av_r 432] (qw [(0, 1), (1, 2)] Q2) := by
  refine ax_bodyW (by decide) (Nat.le_of_ble_eq_true rfl) ?_
  refine ax_aload_n dL_finds_0 rfl ?_
  refine ax_iconst (v := 0) dL_finds_1 (by decide) ?_
  refine ax_aload_n dL_finds_2 rfl ?_
  refine ax_iload_n dL_finds_3 rfl ?_
  refine ax_iload_n dL_finds_4 rfl ?_
  refine ax_callVH (As := [av_i a0, av_i a1]) (c1 := 0) (n1 := 0) rfl hM dL_finds_5 mX9_finds wd_1541 acl_9 hs rfl (by omega) (by omega) (by omega) rfl rfl (fun E M2 h => ?_) ?_
  · obtain ⟨k9, w9, hm, rfl⟩ := hx E M2 h
    exact ⟨k9, w9, rfl, tcL_finds k9 w9 hm, Or.inr ⟨k9, w9, hm, h, rfl⟩⟩
  intro r M2 hq
  obtain ⟨⟨z, rfl⟩, hs2⟩ := hv r M2 hq
  refine ax_i2l dL_finds_8 ?_
  refine ax_last dL_finds_9 hs2 (by unfold vp_in; decide) ?_
  refine ax_goto (tgt := 21) dL_finds_10 (by decide) ?_
  refine ax_iconst (v := 0) dL_finds_21 (by decide) ?_
  refine ax_iretW dL_finds_22 rfl ?_
  exact Or.inl ⟨_, _, hq, rfl, rfl⟩
theorem mwL_drives : ax_mw kL_drives [(0, 12, 15, 22), (0, 12, 19, 13)] 5 := ⟨wd_166, ax_in6 (List.mem_of_getElem? (i := 181) rfl), by decide +kernel, by decide +kernel, by decide, ax_in6 (List.mem_of_getElem? (i := 180) rfl)⟩
theorem tcL_drives : ∀ k9 v, (k9, v) ∈ ([(0, 1), (1, 2)] : List (Nat × Nat)) → hco kL_drives [(0, 12, 15, 22), (0, 12, 19, 13)] 7 k9 v := by
  intro k9 v h
  rcases List.mem_cons.mp h with h | h
  · cases h; exact ⟨by decide, by decide, [], (⟨0, 12, 15, 22⟩ : ExceptionTableEntry), [(⟨0, 12, 19, 13⟩ : ExceptionTableEntry)], rfl, (fun z hz => absurd hz List.not_mem_nil), by decide, by decide, wd_1061, Or.inr ⟨5, dL_drives_15, by decide, dL_drives_17, dL_drives_18⟩⟩
  cases List.mem_singleton.mp h; exact ⟨by decide, by decide, [(⟨0, 12, 15, 22⟩ : ExceptionTableEntry)], (⟨0, 12, 19, 13⟩ : ExceptionTableEntry), [], rfl, (fun z hz => by cases List.mem_singleton.mp hz; exact ⟨by decide, 0, by decide, by decide, wd_1061⟩), by decide, by decide, wd_781, Or.inr ⟨5, dL_drives_19, by decide, dL_drives_21, dL_drives_22⟩⟩
theorem w_drives {d c n : Nat} (a0 a1 a2 : Int32) {Q2 : ax_O → ax_M → Prop} (hM : ax_Met l G kX9_drives d c n M [av_r 1, av_i a0, av_i a1, av_i a2] Q2) (hs : M.2.2.2.1 1 = some (.inr 9)) (hv : ∀ r M1, Q2 (.inl r) M1 → (∃ z, r = some (av_i z)) ∧ M1.2.2.2.1 432 = some (.inl (1, 1))) (hx : ∀ E M1, Q2 (.inr E) M1 → ∃ k w, (k, w) ∈ ([(0, 1), (1, 2)] : List (Nat × Nat)) ∧ E = cz_n k) : ax_MetW l G kL_drives [(0, 12, 15, 22), (0, 12, 19, 13)] (d + 1) c n M [av_r 1, av_i a0, av_i a1, av_i a2, av_r 432] (qw [(0, 1), (1, 2)] Q2) := by
  refine ax_bodyW (by decide) (Nat.le_of_ble_eq_true rfl) ?_
  refine ax_aload dL_drives_0 rfl ?_
  refine ax_iconst (v := 0) dL_drives_2 (by decide) ?_
  refine ax_aload_n dL_drives_3 rfl ?_
  refine ax_iload_n dL_drives_4 rfl ?_
  refine ax_iload_n dL_drives_5 rfl ?_
  refine ax_iload_n dL_drives_6 rfl ?_
  refine ax_callVH (As := [av_i a0, av_i a1, av_i a2]) (c1 := 0) (n1 := 0) rfl hM dL_drives_7 mX9_drives wd_1548 acl_9 hs rfl (by omega) (by omega) (by omega) rfl rfl (fun E M2 h => ?_) ?_
  · obtain ⟨k9, w9, hm, rfl⟩ := hx E M2 h
    exact ⟨k9, w9, rfl, tcL_drives k9 w9 hm, Or.inr ⟨k9, w9, hm, h, rfl⟩⟩
  intro r M2 hq
  obtain ⟨⟨z, rfl⟩, hs2⟩ := hv r M2 hq
  refine ax_i2l dL_drives_10 ?_
  refine ax_last dL_drives_11 hs2 (by unfold vp_in; decide) ?_
  refine ax_goto (tgt := 23) dL_drives_12 (by decide) ?_
  refine ax_iconst (v := 0) dL_drives_23 (by decide) ?_
  refine ax_iretW dL_drives_24 rfl ?_
  exact Or.inl ⟨_, _, hq, rfl, rfl⟩
theorem mwL_stands : ax_mw kL_stands [(0, 12, 15, 22), (0, 12, 19, 13)] 5 := ⟨wd_166, ax_in6 (List.mem_of_getElem? (i := 202) rfl), by decide +kernel, by decide +kernel, by decide, ax_in6 (List.mem_of_getElem? (i := 201) rfl)⟩
theorem tcL_stands : ∀ k9 v, (k9, v) ∈ ([(0, 1), (1, 2)] : List (Nat × Nat)) → hco kL_stands [(0, 12, 15, 22), (0, 12, 19, 13)] 7 k9 v := by
  intro k9 v h
  rcases List.mem_cons.mp h with h | h
  · cases h; exact ⟨by decide, by decide, [], (⟨0, 12, 15, 22⟩ : ExceptionTableEntry), [(⟨0, 12, 19, 13⟩ : ExceptionTableEntry)], rfl, (fun z hz => absurd hz List.not_mem_nil), by decide, by decide, wd_1061, Or.inr ⟨5, dL_stands_15, by decide, dL_stands_17, dL_stands_18⟩⟩
  cases List.mem_singleton.mp h; exact ⟨by decide, by decide, [(⟨0, 12, 15, 22⟩ : ExceptionTableEntry)], (⟨0, 12, 19, 13⟩ : ExceptionTableEntry), [], rfl, (fun z hz => by cases List.mem_singleton.mp hz; exact ⟨by decide, 0, by decide, by decide, wd_1061⟩), by decide, by decide, wd_781, Or.inr ⟨5, dL_stands_19, by decide, dL_stands_21, dL_stands_22⟩⟩
theorem w_stands {d c n : Nat} (a0 a1 a2 : Int32) {Q2 : ax_O → ax_M → Prop} (hM : ax_Met l G kX9_stands d c n M [av_r 1, av_i a0, av_i a1, av_i a2] Q2) (hs : M.2.2.2.1 1 = some (.inr 9)) (hv : ∀ r M1, Q2 (.inl r) M1 → (∃ z, r = some (av_i z)) ∧ M1.2.2.2.1 432 = some (.inl (1, 1))) (hx : ∀ E M1, Q2 (.inr E) M1 → ∃ k w, (k, w) ∈ ([(0, 1), (1, 2)] : List (Nat × Nat)) ∧ E = cz_n k) : ax_MetW l G kL_stands [(0, 12, 15, 22), (0, 12, 19, 13)] (d + 1) c n M [av_r 1, av_i a0, av_i a1, av_i a2, av_r 432] (qw [(0, 1), (1, 2)] Q2) := by
  refine ax_bodyW (by decide) (Nat.le_of_ble_eq_true rfl) ?_
  refine ax_aload dL_stands_0 rfl ?_
  refine ax_iconst (v := 0) dL_stands_2 (by decide) ?_
  refine ax_aload_n dL_stands_3 rfl ?_
  refine ax_iload_n dL_stands_4 rfl ?_
  refine ax_iload_n dL_stands_5 rfl ?_
  refine ax_iload_n dL_stands_6 rfl ?_
  refine ax_callVH (As := [av_i a0, av_i a1, av_i a2]) (c1 := 0) (n1 := 0) rfl hM dL_stands_7 mX9_stands wd_1569 acl_9 hs rfl (by omega) (by omega) (by omega) rfl rfl (fun E M2 h => ?_) ?_
  · obtain ⟨k9, w9, hm, rfl⟩ := hx E M2 h
    exact ⟨k9, w9, rfl, tcL_stands k9 w9 hm, Or.inr ⟨k9, w9, hm, h, rfl⟩⟩
  intro r M2 hq
  obtain ⟨⟨z, rfl⟩, hs2⟩ := hv r M2 hq
  refine ax_i2l dL_stands_10 ?_
  refine ax_last dL_stands_11 hs2 (by unfold vp_in; decide) ?_
  refine ax_goto (tgt := 23) dL_stands_12 (by decide) ?_
  refine ax_iconst (v := 0) dL_stands_23 (by decide) ?_
  refine ax_iretW dL_stands_24 rfl ?_
  exact Or.inl ⟨_, _, hq, rfl, rfl⟩
theorem mwL_weather : ax_mw kL_weather [(0, 10, 13, 13)] 4 := ⟨wd_166, ax_in6 (List.mem_of_getElem? (i := 209) rfl), by decide +kernel, by decide +kernel, by decide, ax_in6 (List.mem_of_getElem? (i := 208) rfl)⟩
theorem tcL_weather : ∀ k9 v, (k9, v) ∈ ([(1, 1)] : List (Nat × Nat)) → hco kL_weather [(0, 10, 13, 13)] 5 k9 v := by
  intro k9 v h
  cases List.mem_singleton.mp h; exact ⟨by decide, by decide, [], (⟨0, 10, 13, 13⟩ : ExceptionTableEntry), [], rfl, (fun z hz => absurd hz List.not_mem_nil), by decide, by decide, wd_781, Or.inr ⟨4, dL_weather_13, by decide, dL_weather_15, dL_weather_16⟩⟩
theorem w_weather {d c n : Nat} (a0 a1 : Int32) {Q2 : ax_O → ax_M → Prop} (hM : ax_Met l G kX9_weather d c n M [av_r 1, av_i a0, av_i a1] Q2) (hs : M.2.2.2.1 1 = some (.inr 9)) (hv : ∀ r M1, Q2 (.inl r) M1 → (∃ z, r = some (av_i z)) ∧ M1.2.2.2.1 432 = some (.inl (1, 1))) (hx : ∀ E M1, Q2 (.inr E) M1 → ∃ k w, (k, w) ∈ ([(1, 1)] : List (Nat × Nat)) ∧ E = cz_n k) : ax_MetW l G kL_weather [(0, 10, 13, 13)] (d + 1) c n M [av_r 1, av_i a0, av_i a1, av_r 432] (qw [(1, 1)] Q2) := by
  refine ax_bodyW (by decide) (Nat.le_of_ble_eq_true rfl) ?_
  refine ax_aload_n dL_weather_0 rfl ?_
  refine ax_iconst (v := 0) dL_weather_1 (by decide) ?_
  refine ax_aload_n dL_weather_2 rfl ?_
  refine ax_iload_n dL_weather_3 rfl ?_
  refine ax_iload_n dL_weather_4 rfl ?_
  refine ax_callVH (As := [av_i a0, av_i a1]) (c1 := 0) (n1 := 0) rfl hM dL_weather_5 mX9_weather wd_1576 acl_9 hs rfl (by omega) (by omega) (by omega) rfl rfl (fun E M2 h => ?_) ?_
  · obtain ⟨k9, w9, hm, rfl⟩ := hx E M2 h
    exact ⟨k9, w9, rfl, tcL_weather k9 w9 hm, Or.inr ⟨k9, w9, hm, h, rfl⟩⟩
  intro r M2 hq
  obtain ⟨⟨z, rfl⟩, hs2⟩ := hv r M2 hq
  refine ax_i2l dL_weather_8 ?_
  refine ax_last dL_weather_9 hs2 (by unfold vp_in; decide) ?_
  refine ax_goto (tgt := 17) dL_weather_10 (by decide) ?_
  refine ax_iconst (v := 0) dL_weather_17 (by decide) ?_
  refine ax_iretW dL_weather_18 rfl ?_
  exact Or.inl ⟨_, _, hq, rfl, rfl⟩
end X99l

