/-! TABLES made of others: there -/
section MD
variable {sc : RE} {S S1 S2 S3 : SS} {μ : MM} {w n m s : Nat} {lk : Int32} {lf : Nat → Int32} {V : Nat → Nat × Nat → Int64} {G : Nat → Nat × Nat → Int32} {R : List (Nat × Nat)}
theorem bval : ∀ s, s < 256 → ∀ c, c < 8 → (nI s >>> (nI c &&& 31)) &&& 1 = bI (s.testBit c = true) := by decide +kernel
theorem mval : ∀ c, c < 8 → ((1 : Int32) <<< (nI c &&& 31)) - 1 = nI (2 ^ c - 1) := by decide +kernel
theorem count_s (hs : s < 256) : Rc 242 [.int (nI s)] μ = some (some (.int (nI (pcn s))), μ) := by
  have key := loop_st (F := 8) (G := fun k v => Rs 242 4 [.int (nI s), .int (nI v), .int (nI k)] [] μ) (fin := (some (.int (nI (pcn s))), μ)) (st := fun k => fa_cnt (fun i => s.testBit i) k) ?_ ?_
  · exact Rc_of rfl rfl (B_X8_count_0 _ _ key)
  · intro k hk r hr
    refine B_X8_count_4 _ _ _ _ ?_
    rw [bval s hs k hk]
    by_cases q : s.testBit k = true
    · rw [fa_cnt_yes q] at hr
      rw [bI_t q]
      simp (disch := first | omega | assumption | exact bI_01 | exact Or.inl rfl | exact Or.inr rfl) only [↓reduceIte, ↓if_bI, ↓if10, ↓if00, bI_eq0, not_false_eq_true, not_true_eq_false, and_true, true_and, and_false, false_and, or_true, true_or, or_false, false_or, ↓c_Is, ↓c_Js, ↓c_Vs, ↓c_An, ↓c_Ar, ↓o_0, ↓q_0_0, ↓q_0_1, ↓q_0_2, ↓q_0_3, ↓q_0_4, ↓q_0_5, ↓q_0_6, ↓q_0_7, ↓w_0_7, ↓o_18, ↓q_18_0, ↓w_18_0, ↓q_18_1, ↓q_18_2, ↓q_18_3, ↓q_18_4, ↓a_19, ↓s_19, ↓a_20, ↓s_20, ↓a_21, ↓s_21, ↓a_22, ↓s_22, ↓o_23, ↓q_23_0, ↓w_23_0, ↓q_23_1, ↓w_23_1, ↓o_24, ↓q_24_0, ↓w_24_0, ↓q_24_1, ↓q_24_2, ↓q_24_3, ↓w_24_3, ↓q_24_4, ↓q_24_5, ↓a_25, ↓s_25, ↓a_26, ↓s_26, ↓a_27, ↓s_27, ↓a_28, ↓s_28, ↓o_29, ↓q_29_0, ↓w_29_0, ↓q_29_1, ↓w_29_1, ↓q_29_2, ↓w_29_2, ↓q_29_3, ↓q_29_4, ↓q_29_5, ↓q_29_6, ↓q_29_7, ↓w_29_7, ↓q_29_8, ↓q_29_9, ↓w_29_9, ↓q_29_10, ↓w_29_10, ↓q_29_11, ↓a_30, ↓s_30, ↓a_31, ↓s_31, ↓a_32, ↓s_32, ↓a_33, ↓s_33, ↓a_34, ↓s_34, ↓a_35, ↓s_35, ↓o_36, ↓q_36_0, ↓q_36_1, ↓w_36_1, ↓q_36_2, ↓w_36_2, ↓q_36_3, ↓q_36_4, ↓a_37, ↓s_37, ↓a_38, ↓s_38, ↓o_39, ↓q_39_0, ↓q_39_1, ↓w_39_1, ↓q_39_2, ↓q_39_3, ↓w_39_3, ↓q_39_4, ↓q_39_5, ↓a_40, ↓s_40, ↓a_41, ↓s_41, ↓a_42, ↓s_42, ↓o_43, ↓q_43_0, ↓w_43_0, ↓q_43_1, ↓q_43_2, ↓q_43_3, ↓q_43_4, ↓q_43_5, ↓q_43_6, ↓q_43_7, ↓q_43_8, ↓q_43_9, ↓w_43_9, ↓q_43_10, ↓q_43_11, ↓q_43_12, ↓q_43_13, ↓q_43_14, ↓w_43_14, ↓q_43_15, ↓w_43_15, ↓q_43_16, ↓q_43_17, ↓w_43_17, ↓q_43_18, ↓w_43_18, ↓q_43_19, ↓q_43_20, ↓q_43_21, ↓q_43_22, ↓w_43_22, ↓q_43_23, ↓w_43_23, ↓q_43_24, ↓q_43_25, ↓q_43_26, ↓w_43_26, ↓q_43_27, ↓q_43_28, ↓q_43_29, ↓w_43_29, ↓q_43_30, ↓q_43_31, ↓q_43_32, ↓q_43_33, ↓w_43_33, ↓q_43_34, ↓q_43_35, ↓q_43_36, ↓a_44, ↓s_44, ↓a_45, ↓s_45, ↓a_46, ↓s_46, ↓a_47, ↓s_47, ↓a_48, ↓s_48, ↓a_49, ↓s_49, ↓a_50, ↓s_50, ↓a_51, ↓s_51, ↓a_52, ↓s_52, ↓a_53, ↓s_53, ↓a_54, ↓s_54, ↓a_55, ↓s_55, ↓a_56, ↓s_56, ↓a_57, ↓s_57, ↓a_58, ↓s_58, ↓a_59, ↓s_59, ↓a_60, ↓s_60, ↓a_61, ↓s_61, ↓a_62, ↓s_62, ↓a_63, ↓s_63, ↓a_64, ↓s_64, ↓a_65, ↓s_65, ↓a_66, ↓s_66, ↓a_67, ↓s_67, ↓a_68, ↓s_68, ↓a_69, ↓s_69, ↓a_1, le0_T, le0_F, addm1, sA_1, sA_22, sL_1, sL_21, sF_2, sA_eq, sA_ne, sA_nj, sL_eq, sL_ne, sL_nj, sF_eq, sF_ne, sF_nj, le_T, le_F, lt_T, lt_F, lt0_F, eq_T, eq_F, eq_N, m9_F, m1_F, z_F, z_N, l2, l3, l4, l5, l6, l8, l12, l24, l40, l70, l96, l255, l256, l280, l320, c_Is, c_Js, c_Vs, c_An, c_Ar, if_bI, rI0, rI1, rIb, if00, if10, lg0, nI_1, nI_add, sub_1, sub_N, if_true, if_false, ite_true, ite_false, ge0_T, ge0_F, in_d, in_e, bitz, bito, mul_n, a_47, s_47, a_48, s_48, a_49, s_49, a_42, s_42, a_69, s_69, a_59, a_63, a_28, a_50, s_50, a_51, s_51]
      exact hr
    · rw [fa_cnt_no (by cases h : s.testBit k <;> simp_all)] at hr
      rw [bI_f q]
      simp (disch := first | omega | assumption | exact bI_01 | exact Or.inl rfl | exact Or.inr rfl) only [↓reduceIte, ↓if_bI, ↓if10, ↓if00, bI_eq0, not_false_eq_true, not_true_eq_false, and_true, true_and, and_false, false_and, or_true, true_or, or_false, false_or, ↓c_Is, ↓c_Js, ↓c_Vs, ↓c_An, ↓c_Ar, ↓o_0, ↓q_0_0, ↓q_0_1, ↓q_0_2, ↓q_0_3, ↓q_0_4, ↓q_0_5, ↓q_0_6, ↓q_0_7, ↓w_0_7, ↓o_18, ↓q_18_0, ↓w_18_0, ↓q_18_1, ↓q_18_2, ↓q_18_3, ↓q_18_4, ↓a_19, ↓s_19, ↓a_20, ↓s_20, ↓a_21, ↓s_21, ↓a_22, ↓s_22, ↓o_23, ↓q_23_0, ↓w_23_0, ↓q_23_1, ↓w_23_1, ↓o_24, ↓q_24_0, ↓w_24_0, ↓q_24_1, ↓q_24_2, ↓q_24_3, ↓w_24_3, ↓q_24_4, ↓q_24_5, ↓a_25, ↓s_25, ↓a_26, ↓s_26, ↓a_27, ↓s_27, ↓a_28, ↓s_28, ↓o_29, ↓q_29_0, ↓w_29_0, ↓q_29_1, ↓w_29_1, ↓q_29_2, ↓w_29_2, ↓q_29_3, ↓q_29_4, ↓q_29_5, ↓q_29_6, ↓q_29_7, ↓w_29_7, ↓q_29_8, ↓q_29_9, ↓w_29_9, ↓q_29_10, ↓w_29_10, ↓q_29_11, ↓a_30, ↓s_30, ↓a_31, ↓s_31, ↓a_32, ↓s_32, ↓a_33, ↓s_33, ↓a_34, ↓s_34, ↓a_35, ↓s_35, ↓o_36, ↓q_36_0, ↓q_36_1, ↓w_36_1, ↓q_36_2, ↓w_36_2, ↓q_36_3, ↓q_36_4, ↓a_37, ↓s_37, ↓a_38, ↓s_38, ↓o_39, ↓q_39_0, ↓q_39_1, ↓w_39_1, ↓q_39_2, ↓q_39_3, ↓w_39_3, ↓q_39_4, ↓q_39_5, ↓a_40, ↓s_40, ↓a_41, ↓s_41, ↓a_42, ↓s_42, ↓o_43, ↓q_43_0, ↓w_43_0, ↓q_43_1, ↓q_43_2, ↓q_43_3, ↓q_43_4, ↓q_43_5, ↓q_43_6, ↓q_43_7, ↓q_43_8, ↓q_43_9, ↓w_43_9, ↓q_43_10, ↓q_43_11, ↓q_43_12, ↓q_43_13, ↓q_43_14, ↓w_43_14, ↓q_43_15, ↓w_43_15, ↓q_43_16, ↓q_43_17, ↓w_43_17, ↓q_43_18, ↓w_43_18, ↓q_43_19, ↓q_43_20, ↓q_43_21, ↓q_43_22, ↓w_43_22, ↓q_43_23, ↓w_43_23, ↓q_43_24, ↓q_43_25, ↓q_43_26, ↓w_43_26, ↓q_43_27, ↓q_43_28, ↓q_43_29, ↓w_43_29, ↓q_43_30, ↓q_43_31, ↓q_43_32, ↓q_43_33, ↓w_43_33, ↓q_43_34, ↓q_43_35, ↓q_43_36, ↓a_44, ↓s_44, ↓a_45, ↓s_45, ↓a_46, ↓s_46, ↓a_47, ↓s_47, ↓a_48, ↓s_48, ↓a_49, ↓s_49, ↓a_50, ↓s_50, ↓a_51, ↓s_51, ↓a_52, ↓s_52, ↓a_53, ↓s_53, ↓a_54, ↓s_54, ↓a_55, ↓s_55, ↓a_56, ↓s_56, ↓a_57, ↓s_57, ↓a_58, ↓s_58, ↓a_59, ↓s_59, ↓a_60, ↓s_60, ↓a_61, ↓s_61, ↓a_62, ↓s_62, ↓a_63, ↓s_63, ↓a_64, ↓s_64, ↓a_65, ↓s_65, ↓a_66, ↓s_66, ↓a_67, ↓s_67, ↓a_68, ↓s_68, ↓a_69, ↓s_69, ↓a_1, le0_T, le0_F, addm1, sA_1, sA_22, sL_1, sL_21, sF_2, sA_eq, sA_ne, sA_nj, sL_eq, sL_ne, sL_nj, sF_eq, sF_ne, sF_nj, le_T, le_F, lt_T, lt_F, lt0_F, eq_T, eq_F, eq_N, m9_F, m1_F, z_F, z_N, l2, l3, l4, l5, l6, l8, l12, l24, l40, l70, l96, l255, l256, l280, l320, c_Is, c_Js, c_Vs, c_An, c_Ar, if_bI, rI0, rI1, rIb, if00, if10, lg0, nI_1, nI_add, sub_1, sub_N, if_true, if_false, ite_true, ite_false, ge0_T, ge0_F, in_d, in_e, bitz, bito, mul_n, a_47, s_47, a_48, s_48, a_49, s_49, a_42, s_42, a_69, s_69, a_59, a_63, a_28, a_50, s_50, a_51, s_51, Int32.add_zero]
      exact hr
  · refine B_X8_count_4 _ _ _ _ ?_
    simp (disch := first | omega | assumption | exact bI_01 | exact Or.inl rfl | exact Or.inr rfl) only [↓reduceIte, ↓if_bI, ↓if10, ↓if00, bI_eq0, not_false_eq_true, not_true_eq_false, and_true, true_and, and_false, false_and, or_true, true_or, or_false, false_or, ↓c_Is, ↓c_Js, ↓c_Vs, ↓c_An, ↓c_Ar, ↓o_0, ↓q_0_0, ↓q_0_1, ↓q_0_2, ↓q_0_3, ↓q_0_4, ↓q_0_5, ↓q_0_6, ↓q_0_7, ↓w_0_7, ↓o_18, ↓q_18_0, ↓w_18_0, ↓q_18_1, ↓q_18_2, ↓q_18_3, ↓q_18_4, ↓a_19, ↓s_19, ↓a_20, ↓s_20, ↓a_21, ↓s_21, ↓a_22, ↓s_22, ↓o_23, ↓q_23_0, ↓w_23_0, ↓q_23_1, ↓w_23_1, ↓o_24, ↓q_24_0, ↓w_24_0, ↓q_24_1, ↓q_24_2, ↓q_24_3, ↓w_24_3, ↓q_24_4, ↓q_24_5, ↓a_25, ↓s_25, ↓a_26, ↓s_26, ↓a_27, ↓s_27, ↓a_28, ↓s_28, ↓o_29, ↓q_29_0, ↓w_29_0, ↓q_29_1, ↓w_29_1, ↓q_29_2, ↓w_29_2, ↓q_29_3, ↓q_29_4, ↓q_29_5, ↓q_29_6, ↓q_29_7, ↓w_29_7, ↓q_29_8, ↓q_29_9, ↓w_29_9, ↓q_29_10, ↓w_29_10, ↓q_29_11, ↓a_30, ↓s_30, ↓a_31, ↓s_31, ↓a_32, ↓s_32, ↓a_33, ↓s_33, ↓a_34, ↓s_34, ↓a_35, ↓s_35, ↓o_36, ↓q_36_0, ↓q_36_1, ↓w_36_1, ↓q_36_2, ↓w_36_2, ↓q_36_3, ↓q_36_4, ↓a_37, ↓s_37, ↓a_38, ↓s_38, ↓o_39, ↓q_39_0, ↓q_39_1, ↓w_39_1, ↓q_39_2, ↓q_39_3, ↓w_39_3, ↓q_39_4, ↓q_39_5, ↓a_40, ↓s_40, ↓a_41, ↓s_41, ↓a_42, ↓s_42, ↓o_43, ↓q_43_0, ↓w_43_0, ↓q_43_1, ↓q_43_2, ↓q_43_3, ↓q_43_4, ↓q_43_5, ↓q_43_6, ↓q_43_7, ↓q_43_8, ↓q_43_9, ↓w_43_9, ↓q_43_10, ↓q_43_11, ↓q_43_12, ↓q_43_13, ↓q_43_14, ↓w_43_14, ↓q_43_15, ↓w_43_15, ↓q_43_16, ↓q_43_17, ↓w_43_17, ↓q_43_18, ↓w_43_18, ↓q_43_19, ↓q_43_20, ↓q_43_21, ↓q_43_22, ↓w_43_22, ↓q_43_23, ↓w_43_23, ↓q_43_24, ↓q_43_25, ↓q_43_26, ↓w_43_26, ↓q_43_27, ↓q_43_28, ↓q_43_29, ↓w_43_29, ↓q_43_30, ↓q_43_31, ↓q_43_32, ↓q_43_33, ↓w_43_33, ↓q_43_34, ↓q_43_35, ↓q_43_36, ↓a_44, ↓s_44, ↓a_45, ↓s_45, ↓a_46, ↓s_46, ↓a_47, ↓s_47, ↓a_48, ↓s_48, ↓a_49, ↓s_49, ↓a_50, ↓s_50, ↓a_51, ↓s_51, ↓a_52, ↓s_52, ↓a_53, ↓s_53, ↓a_54, ↓s_54, ↓a_55, ↓s_55, ↓a_56, ↓s_56, ↓a_57, ↓s_57, ↓a_58, ↓s_58, ↓a_59, ↓s_59, ↓a_60, ↓s_60, ↓a_61, ↓s_61, ↓a_62, ↓s_62, ↓a_63, ↓s_63, ↓a_64, ↓s_64, ↓a_65, ↓s_65, ↓a_66, ↓s_66, ↓a_67, ↓s_67, ↓a_68, ↓s_68, ↓a_69, ↓s_69, ↓a_1, le0_T, le0_F, addm1, sA_1, sA_22, sL_1, sL_21, sF_2, sA_eq, sA_ne, sA_nj, sL_eq, sL_ne, sL_nj, sF_eq, sF_ne, sF_nj, le_T, le_F, lt_T, lt_F, lt0_F, eq_T, eq_F, eq_N, m9_F, m1_F, z_F, z_N, l2, l3, l4, l5, l6, l8, l12, l24, l40, l70, l96, l255, l256, l280, l320, c_Is, c_Js, c_Vs, c_An, c_Ar, if_bI, rI0, rI1, rIb, if00, if10, lg0, nI_1, nI_add, sub_1, sub_N, if_true, if_false, ite_true, ite_false, ge0_T, ge0_F, in_d, in_e, bitz, bito, mul_n, a_47, s_47, a_48, s_48, a_49, s_49, a_42, s_42, a_69, s_69, a_59, a_63, a_28, a_50, s_50, a_51, s_51]
    rw [pcn_cnt s hs]
theorem rank_s {c : Nat} (hs : s < 256) (hc : c < 8) : Rc 243 [.int (nI s), .int (nI c)] μ = some (some (.int (nI (pl s c))), μ) := by
  refine Rc_of rfl rfl (B_X8_rank_0 _ _ _ ?_)
  have e := count_s (μ := μ) (s := s &&& (2 ^ c - 1)) (Nat.lt_of_le_of_lt Nat.and_le_left hs)
  rw [mval c hc, fa_and]
  simp (disch := first | omega | assumption | exact bI_01 | exact Or.inl rfl | exact Or.inr rfl) only [↓reduceIte, ↓if_bI, ↓if10, ↓if00, bI_eq0, not_false_eq_true, not_true_eq_false, and_true, true_and, and_false, false_and, or_true, true_or, or_false, false_or, ↓c_Is, ↓c_Js, ↓c_Vs, ↓c_An, ↓c_Ar, ↓o_0, ↓q_0_0, ↓q_0_1, ↓q_0_2, ↓q_0_3, ↓q_0_4, ↓q_0_5, ↓q_0_6, ↓q_0_7, ↓w_0_7, ↓o_18, ↓q_18_0, ↓w_18_0, ↓q_18_1, ↓q_18_2, ↓q_18_3, ↓q_18_4, ↓a_19, ↓s_19, ↓a_20, ↓s_20, ↓a_21, ↓s_21, ↓a_22, ↓s_22, ↓o_23, ↓q_23_0, ↓w_23_0, ↓q_23_1, ↓w_23_1, ↓o_24, ↓q_24_0, ↓w_24_0, ↓q_24_1, ↓q_24_2, ↓q_24_3, ↓w_24_3, ↓q_24_4, ↓q_24_5, ↓a_25, ↓s_25, ↓a_26, ↓s_26, ↓a_27, ↓s_27, ↓a_28, ↓s_28, ↓o_29, ↓q_29_0, ↓w_29_0, ↓q_29_1, ↓w_29_1, ↓q_29_2, ↓w_29_2, ↓q_29_3, ↓q_29_4, ↓q_29_5, ↓q_29_6, ↓q_29_7, ↓w_29_7, ↓q_29_8, ↓q_29_9, ↓w_29_9, ↓q_29_10, ↓w_29_10, ↓q_29_11, ↓a_30, ↓s_30, ↓a_31, ↓s_31, ↓a_32, ↓s_32, ↓a_33, ↓s_33, ↓a_34, ↓s_34, ↓a_35, ↓s_35, ↓o_36, ↓q_36_0, ↓q_36_1, ↓w_36_1, ↓q_36_2, ↓w_36_2, ↓q_36_3, ↓q_36_4, ↓a_37, ↓s_37, ↓a_38, ↓s_38, ↓o_39, ↓q_39_0, ↓q_39_1, ↓w_39_1, ↓q_39_2, ↓q_39_3, ↓w_39_3, ↓q_39_4, ↓q_39_5, ↓a_40, ↓s_40, ↓a_41, ↓s_41, ↓a_42, ↓s_42, ↓o_43, ↓q_43_0, ↓w_43_0, ↓q_43_1, ↓q_43_2, ↓q_43_3, ↓q_43_4, ↓q_43_5, ↓q_43_6, ↓q_43_7, ↓q_43_8, ↓q_43_9, ↓w_43_9, ↓q_43_10, ↓q_43_11, ↓q_43_12, ↓q_43_13, ↓q_43_14, ↓w_43_14, ↓q_43_15, ↓w_43_15, ↓q_43_16, ↓q_43_17, ↓w_43_17, ↓q_43_18, ↓w_43_18, ↓q_43_19, ↓q_43_20, ↓q_43_21, ↓q_43_22, ↓w_43_22, ↓q_43_23, ↓w_43_23, ↓q_43_24, ↓q_43_25, ↓q_43_26, ↓w_43_26, ↓q_43_27, ↓q_43_28, ↓q_43_29, ↓w_43_29, ↓q_43_30, ↓q_43_31, ↓q_43_32, ↓q_43_33, ↓w_43_33, ↓q_43_34, ↓q_43_35, ↓q_43_36, ↓a_44, ↓s_44, ↓a_45, ↓s_45, ↓a_46, ↓s_46, ↓a_47, ↓s_47, ↓a_48, ↓s_48, ↓a_49, ↓s_49, ↓a_50, ↓s_50, ↓a_51, ↓s_51, ↓a_52, ↓s_52, ↓a_53, ↓s_53, ↓a_54, ↓s_54, ↓a_55, ↓s_55, ↓a_56, ↓s_56, ↓a_57, ↓s_57, ↓a_58, ↓s_58, ↓a_59, ↓s_59, ↓a_60, ↓s_60, ↓a_61, ↓s_61, ↓a_62, ↓s_62, ↓a_63, ↓s_63, ↓a_64, ↓s_64, ↓a_65, ↓s_65, ↓a_66, ↓s_66, ↓a_67, ↓s_67, ↓a_68, ↓s_68, ↓a_69, ↓s_69, ↓a_1, le0_T, le0_F, addm1, sA_1, sA_22, sL_1, sL_21, sF_2, sA_eq, sA_ne, sA_nj, sL_eq, sL_ne, sL_nj, sF_eq, sF_ne, sF_nj, le_T, le_F, lt_T, lt_F, lt0_F, eq_T, eq_F, eq_N, m9_F, m1_F, z_F, z_N, l2, l3, l4, l5, l6, l8, l12, l24, l40, l70, l96, l255, l256, l280, l320, c_Is, c_Js, c_Vs, c_An, c_Ar, if_bI, rI0, rI1, rIb, if00, if10, lg0, nI_1, nI_add, sub_1, sub_N, if_true, if_false, ite_true, ite_false, ge0_T, ge0_F, in_d, in_e, bitz, bito, mul_n, a_47, s_47, a_48, s_48, a_49, s_49, a_42, s_42, a_69, s_69, a_59, a_63, a_28, a_50, s_50, a_51, s_51, ↓cI (e)]
  rfl
def gvS (S : SS) (p q : Nat) : SS := sA (sL S 48 q (S.2.2 48 p)) 49 q (S.2.1 49 p)
theorem give_s {t c r w d r' : Nat} (ht : t < 4) (hc : c < 8) (hr : r < 24) (hw : w < 4) (hd : d < 8) (hr' : r' < 24) (h01 : S.2.1 49 (24 * (8 * t + c) + r) = 0 ∨ S.2.1 49 (24 * (8 * t + c) + r) = 1) : Rc 244 [.ref 43, .int (nI t), .int (nI c), .int (nI r), .int (nI w), .int (nI d), .int (nI r')] (enc sc S) = some (none, enc sc (gvS S (24 * (8 * t + c) + r) (24 * (8 * w + d) + r'))) := by
  refine Rc_of rfl rfl (B_X8_give_0 _ _ _ _ _ _ _ _ ?_)
  unfold gvS
  generalize hp : 24 * (8 * t + c) + r = p at *
  generalize hq : 24 * (8 * w + d) + r' = q at *
  have hp2 : p < 768 := by omega
  have hq2 : q < 768 := by omega
  simp (disch := first | omega | assumption | exact bI_01 | exact Or.inl rfl | exact Or.inr rfl) only [↓reduceIte, ↓if_bI, ↓if10, ↓if00, bI_eq0, not_false_eq_true, not_true_eq_false, and_true, true_and, and_false, false_and, or_true, true_or, or_false, false_or, ↓c_Is, ↓c_Js, ↓c_Vs, ↓c_An, ↓c_Ar, ↓o_0, ↓q_0_0, ↓q_0_1, ↓q_0_2, ↓q_0_3, ↓q_0_4, ↓q_0_5, ↓q_0_6, ↓q_0_7, ↓w_0_7, ↓o_18, ↓q_18_0, ↓w_18_0, ↓q_18_1, ↓q_18_2, ↓q_18_3, ↓q_18_4, ↓a_19, ↓s_19, ↓a_20, ↓s_20, ↓a_21, ↓s_21, ↓a_22, ↓s_22, ↓o_23, ↓q_23_0, ↓w_23_0, ↓q_23_1, ↓w_23_1, ↓o_24, ↓q_24_0, ↓w_24_0, ↓q_24_1, ↓q_24_2, ↓q_24_3, ↓w_24_3, ↓q_24_4, ↓q_24_5, ↓a_25, ↓s_25, ↓a_26, ↓s_26, ↓a_27, ↓s_27, ↓a_28, ↓s_28, ↓o_29, ↓q_29_0, ↓w_29_0, ↓q_29_1, ↓w_29_1, ↓q_29_2, ↓w_29_2, ↓q_29_3, ↓q_29_4, ↓q_29_5, ↓q_29_6, ↓q_29_7, ↓w_29_7, ↓q_29_8, ↓q_29_9, ↓w_29_9, ↓q_29_10, ↓w_29_10, ↓q_29_11, ↓a_30, ↓s_30, ↓a_31, ↓s_31, ↓a_32, ↓s_32, ↓a_33, ↓s_33, ↓a_34, ↓s_34, ↓a_35, ↓s_35, ↓o_36, ↓q_36_0, ↓q_36_1, ↓w_36_1, ↓q_36_2, ↓w_36_2, ↓q_36_3, ↓q_36_4, ↓a_37, ↓s_37, ↓a_38, ↓s_38, ↓o_39, ↓q_39_0, ↓q_39_1, ↓w_39_1, ↓q_39_2, ↓q_39_3, ↓w_39_3, ↓q_39_4, ↓q_39_5, ↓a_40, ↓s_40, ↓a_41, ↓s_41, ↓a_42, ↓s_42, ↓o_43, ↓q_43_0, ↓w_43_0, ↓q_43_1, ↓q_43_2, ↓q_43_3, ↓q_43_4, ↓q_43_5, ↓q_43_6, ↓q_43_7, ↓q_43_8, ↓q_43_9, ↓w_43_9, ↓q_43_10, ↓q_43_11, ↓q_43_12, ↓q_43_13, ↓q_43_14, ↓w_43_14, ↓q_43_15, ↓w_43_15, ↓q_43_16, ↓q_43_17, ↓w_43_17, ↓q_43_18, ↓w_43_18, ↓q_43_19, ↓q_43_20, ↓q_43_21, ↓q_43_22, ↓w_43_22, ↓q_43_23, ↓w_43_23, ↓q_43_24, ↓q_43_25, ↓q_43_26, ↓w_43_26, ↓q_43_27, ↓q_43_28, ↓q_43_29, ↓w_43_29, ↓q_43_30, ↓q_43_31, ↓q_43_32, ↓q_43_33, ↓w_43_33, ↓q_43_34, ↓q_43_35, ↓q_43_36, ↓a_44, ↓s_44, ↓a_45, ↓s_45, ↓a_46, ↓s_46, ↓a_47, ↓s_47, ↓a_48, ↓s_48, ↓a_49, ↓s_49, ↓a_50, ↓s_50, ↓a_51, ↓s_51, ↓a_52, ↓s_52, ↓a_53, ↓s_53, ↓a_54, ↓s_54, ↓a_55, ↓s_55, ↓a_56, ↓s_56, ↓a_57, ↓s_57, ↓a_58, ↓s_58, ↓a_59, ↓s_59, ↓a_60, ↓s_60, ↓a_61, ↓s_61, ↓a_62, ↓s_62, ↓a_63, ↓s_63, ↓a_64, ↓s_64, ↓a_65, ↓s_65, ↓a_66, ↓s_66, ↓a_67, ↓s_67, ↓a_68, ↓s_68, ↓a_69, ↓s_69, ↓a_1, le0_T, le0_F, addm1, sA_1, sA_22, sL_1, sL_21, sF_2, sA_eq, sA_ne, sA_nj, sL_eq, sL_ne, sL_nj, sF_eq, sF_ne, sF_nj, le_T, le_F, lt_T, lt_F, lt0_F, eq_T, eq_F, eq_N, m9_F, m1_F, z_F, z_N, l2, l3, l4, l5, l6, l8, l12, l24, l40, l70, l96, l255, l256, l280, l320, c_Is, c_Js, c_Vs, c_An, c_Ar, if_bI, rI0, rI1, rIb, if00, if10, lg0, nI_1, nI_add, sub_1, sub_N, if_true, if_false, ite_true, ite_false, ge0_T, ge0_F, in_d, in_e, bitz, bito, mul_n, a_47, s_47, a_48, s_48, a_49, s_49, a_42, s_42, a_69, s_69, a_59, a_63, a_28, a_50, s_50, a_51, s_51, ↓cI (spot_s _ _ _), hp, hq]
theorem KT_trans {u : Nat} (h : KT S S1 u) (h' : KT S1 S2 u) : KT S S2 u := by
  obtain ⟨a1, a2, a3, a4, a5, a6, a7, a8, a9⟩ := h
  obtain ⟨b1, b2, b3, b4, b5, b6, b7, b8, b9⟩ := h'
  exact ⟨fun j => (b1 j).trans (a1 j), b2.trans a2, b3.trans a3, b4.trans a4, b5.trans a5, b6.trans a6, b7.trans a7, fun c hc => (b8 c hc).trans (a8 c hc), fun c r hc hr => ⟨(b9 c r hc hr).1.trans (a9 c r hc hr).1, (b9 c r hc hr).2.trans (a9 c r hc hr).2⟩⟩
def BM (S S' : SS) (w : Nat) (lk : Int32) (n m : Nat) : Prop := Fr [] [44, 45, 46, 47, 48, 49] S S' ∧ (∀ u, u < 4 → u ≠ w → KT S S' u) ∧ S'.2.1 44 w = nI n ∧ S'.2.1 45 w = nI m ∧ S'.2.1 46 w = lk ∧ ∀ q, q < 768 → S'.2.1 49 q = 0 ∨ S'.2.1 49 q = 1
def BN (S' : SS) (w s k : Nat) (lf : Nat → Int32) : Prop := ∀ c, c < k → s.testBit c = true → S'.2.1 47 (8 * w + pl s c) = lf c
def BW (S' : SS) (w s : Nat) (V : Nat → Nat × Nat → Int64) (G : Nat → Nat × Nat → Int32) (R : List (Nat × Nat)) : Prop := ∀ c r, c < 8 → s.testBit c = true → r < R.length → S'.2.2 48 (24 * (8 * w + pl s c) + r) = V c (R.getD r (0, 0)) ∧ S'.2.1 49 (24 * (8 * w + pl s c) + r) = G c (R.getD r (0, 0))
theorem KT_in {u : Nat} (hu : u < 4) (hf : Fr [] [44, 45, 46, 47, 48, 49] S S1) (h1 : S1.2.1 44 u = S.2.1 44 u ∧ S1.2.1 45 u = S.2.1 45 u ∧ S1.2.1 46 u = S.2.1 46 u) (h2 : ∀ c, c < 8 → S1.2.1 47 (8 * u + c) = S.2.1 47 (8 * u + c)) (h3 : ∀ c r, c < 8 → r < 24 → S1.2.1 49 (24 * (8 * u + c) + r) = S.2.1 49 (24 * (8 * u + c) + r) ∧ S1.2.2 48 (24 * (8 * u + c) + r) = S.2.2 48 (24 * (8 * u + c) + r)) : KT S S1 u := by
  have nn : ∀ k, k < 44 → k ∉ [44, 45, 46, 47, 48, 49] := by
    intro k hk z
    simp at z
    omega
  exact ⟨fun j => hf.1 _ _ (List.not_mem_nil), (hf.2 _ (nn _ (by omega))).1, (hf.2 _ (nn _ (by omega))).1, (hf.2 _ (nn _ (by omega))).2, h1.1, h1.2.1, h1.2.2, h2, h3⟩
theorem BM_open (hw : w < 4) (h01 : ∀ q, q < 768 → S.2.1 49 q = 0 ∨ S.2.1 49 q = 1) : BM S (sA (sA (sA S 44 w (nI n)) 45 w (nI 0)) 46 w lk) w lk n 0 := by
  have hf : Fr [] [44, 45, 46, 47, 48, 49] S (sA (sA (sA S 44 w (nI n)) 45 w (nI 0)) 46 w lk) := Fr_tr (Fr_sA (by decide)) (Fr_tr (Fr_sA (by decide)) (Fr_sA (by decide)))
  refine ⟨hf, fun u hu hne => KT_in hu hf ?_ ?_ ?_, ?_, ?_, ?_, ?_⟩
  · simp [sA, hne]
  · intro c hc; simp [sA]
  · intro c r hc hr; simp [sA]
  · simp [sA]
  · simp [sA]
  · simp [sA]
  · intro q hq
    simpa [sA] using h01 q hq
theorem BM_col (hw : w < 4) (hs : s < 256) {c : Nat} (hc : c < 8) (bt : s.testBit c = true) (h : BM S S1 w lk n m) (hl : BN S1 w s c lf) : BM S (sA S1 47 (8 * w + pl s c) (lf c)) w lk n m ∧ BN (sA S1 47 (8 * w + pl s c) (lf c)) w s (c + 1) lf := by
  obtain ⟨f, h0, h1, h2, h3, h4⟩ := h
  have hp := pl_lt s hs c hc bt
  have hf : Fr [] [44, 45, 46, 47, 48, 49] S1 (sA S1 47 (8 * w + pl s c) (lf c)) := Fr_sA (by decide)
  refine ⟨⟨Fr_tr f hf, fun u hu hne => KT_trans (h0 u hu hne) (KT_in hu hf ?_ ?_ ?_), ?_, ?_, ?_, ?_⟩, fun c' hc' bt' => ?_⟩
  · simp [sA]
  · intro c' hc'
    have : ¬ 8 * u + c' = 8 * w + pl s c := by omega
    simp [sA, this]
  · intro c' r hc' hr; simp [sA]
  · simp [sA, h1]
  · simp [sA, h2]
  · simp [sA, h3]
  · intro q hq
    simpa [sA] using h4 q hq
  · by_cases e : c' = c
    · subst e
      simp [sA]
    · have np : ¬ 8 * w + pl s c' = 8 * w + pl s c := fun z => e (pl_inj hs (by omega) hc bt' bt (by omega))
      have := hl c' (by omega) bt'
      show (if 47 = 47 ∧ 8 * w + pl s c' = 8 * w + pl s c then lf c else S1.2.1 47 (8 * w + pl s c')) = lf c'
      rw [if_neg (fun z => np z.2)]
      exact this
theorem BN_no (hs : s < 256) {c : Nat} (bt : ¬ s.testBit c = true) (hl : BN S1 w s c lf) : BN S1 w s (c + 1) lf := by
  intro c' hc' bt'
  by_cases e : c' = c
  · subst e
    exact absurd bt' bt
  · exact hl c' (by omega) bt'
def TmI (S S' : SS) (w s m k : Nat) (Vs : Nat → Int64) (Gs : Nat → Int32) : Prop := Fr [] [48, 49] S S' ∧ (∀ c, c < k → s.testBit c = true → S'.2.2 48 (24 * (8 * w + pl s c) + m) = Vs c ∧ S'.2.1 49 (24 * (8 * w + pl s c) + m) = Gs c) ∧ ∀ q, (∀ c, c < k → s.testBit c = true → q ≠ 24 * (8 * w + pl s c) + m) → S'.2.2 48 q = S.2.2 48 q ∧ S'.2.1 49 q = S.2.1 49 q
theorem TmI_yes (hs : s < 256) {c : Nat} {Vs : Nat → Int64} {Gs : Nat → Int32} (hc : c < 8) (bt : s.testBit c = true) (h : TmI S S1 w s m c Vs Gs) : TmI S (sA (sL S1 48 (24 * (8 * w + pl s c) + m) (Vs c)) 49 (24 * (8 * w + pl s c) + m) (Gs c)) w s m (c + 1) Vs Gs := by
  obtain ⟨f1, f2, f3⟩ := h
  refine ⟨Fr_tr f1 (Fr_tr (Fr_sL (by decide)) (Fr_sA (by decide))), fun c' hc' bt' => ?_, fun q hq => ?_⟩
  · by_cases e : c' = c
    · subst e
      simp [sA, sL]
    · have np : ¬ pl s c' = pl s c := fun z => e (pl_inj hs (by omega) hc bt' bt z)
      have np2 : ¬ 24 * (8 * w + pl s c') + m = 24 * (8 * w + pl s c) + m := by omega
      obtain ⟨g1, g2⟩ := f2 c' (by omega) bt'
      refine ⟨?_, ?_⟩
      · rw [← g1]; simp [sA, sL]; intro z; exact absurd (by omega) np
      · rw [← g2]; simp [sA, sL]; intro z; exact absurd (by omega) np
  · have np : ¬ q = 24 * (8 * w + pl s c) + m := hq c (by omega) bt
    obtain ⟨g1, g2⟩ := f3 q fun c' hc' => hq c' (by omega)
    refine ⟨?_, ?_⟩
    · rw [← g1]; simp [sA, sL, np]
    · rw [← g2]; simp [sA, sL, np]
theorem TmI_no {c : Nat} {Vs : Nat → Int64} {Gs : Nat → Int32} (bt : ¬ s.testBit c = true) (h : TmI S S1 w s m c Vs Gs) : TmI S S1 w s m (c + 1) Vs Gs := by
  obtain ⟨f1, f2, f3⟩ := h
  refine ⟨f1, fun c' hc' bt' => ?_, fun q hq => f3 q fun c' hc' => hq c' (by omega)⟩
  by_cases e : c' = c
  · subst e
    exact absurd bt' bt
  · exact f2 c' (by omega) bt'
theorem BM_row (hw : w < 4) (hs : s < 256) (h24 : m < 24) (h : BM S S1 w lk n m) (hl : BN S1 w s 8 lf) (hv : BW S1 w s V G R) (hR : R.length = m) {ρ : Nat × Nat} (ht : TmI (sA (adS S1 w m 8) 45 w (nI (m + 1))) S3 w s m 8 (fun c => V c ρ) (fun c => G c ρ)) (g01 : ∀ c, c < 8 → s.testBit c = true → G c ρ = 0 ∨ G c ρ = 1) : BM S S3 w lk n (m + 1) ∧ BN S3 w s 8 lf ∧ BW S3 w s V G (R ++ [ρ]) := by
  obtain ⟨f, h0, h1, h2, h3, h4⟩ := h
  obtain ⟨f1, f2, f3⟩ := ht
  have ea : ∀ a q, ¬ a = 45 → (sA (adS S1 w m 8) 45 w (nI (m + 1))).2.1 a q = (adS S1 w m 8).2.1 a q := by
    intro a q ha
    simp [sA, ha]
  have e44 : ∀ a q, ¬ a = 45 → ¬ a = 49 → ¬ a = 48 → S3.2.1 a q = S1.2.1 a q := by
    intro a q h5 h9 h8
    rw [(f1.2 a (by simp; omega)).1, ea a q h5]
    simp [adS, h9]
  have e45 : ∀ q, S3.2.1 45 q = if q = w then nI (m + 1) else S1.2.1 45 q := by
    intro q
    rw [(f1.2 45 (by decide)).1]
    simp [sA, adS]
  have o49 : ∀ q, q % 24 ≠ m ∨ ¬ (8 * w ≤ q / 24 ∧ q / 24 < 8 * w + 8) → S3.2.2 48 q = S1.2.2 48 q ∧ S3.2.1 49 q = S1.2.1 49 q := by
    intro q hq
    have hne : ∀ c, c < 8 → s.testBit c = true → q ≠ 24 * (8 * w + pl s c) + m := by
      intro c hc bt z
      have := pl_lt s hs c hc bt
      omega
    obtain ⟨g1, g2⟩ := f3 q hne
    rw [g1, g2, ea 49 q (by decide)]
    have nc : ¬ (8 * w ≤ q / 24 ∧ q / 24 < 8 * w + 8 ∧ q % 24 = m) := by omega
    refine ⟨?_, ?_⟩
    · show (adS S1 w m 8).2.2 48 q = _
      show (if 48 = 48 ∧ (8 * w ≤ q / 24 ∧ q / 24 < 8 * w + 8 ∧ q % 24 = m) then 0 else S1.2.2 48 q) = _
      rw [if_neg (fun z => nc z.2)]
    · show (if 49 = 49 ∧ (8 * w ≤ q / 24 ∧ q / 24 < 8 * w + 8 ∧ q % 24 = m) then 1 else S1.2.1 49 q) = _
      rw [if_neg (fun z => nc z.2)]
  have hf : Fr [] [44, 45, 46, 47, 48, 49] S1 S3 := by
    refine ⟨fun b j _ => (f1.1 b j (List.not_mem_nil)), fun b hb => ?_⟩
    simp at hb
    refine ⟨funext fun q => e44 b q (by omega) (by omega) (by omega), ?_⟩
    rw [(f1.2 b (by simp; omega)).2]
    funext q
    have : ¬ b = 48 := by omega
    show (adS S1 w m 8).2.2 b q = _
    simp [adS, this]
  refine ⟨⟨Fr_tr f hf, fun u hu hne => KT_trans (h0 u hu hne) (KT_in hu hf ?_ ?_ ?_), ?_, ?_, ?_, ?_⟩, fun c hc bt => ?_, fun c r hc bt hr => ?_⟩
  · exact ⟨e44 44 u (by decide) (by decide) (by decide), by rw [e45, if_neg hne], e44 46 u (by decide) (by decide) (by decide)⟩
  · intro c hc; exact e44 47 _ (by decide) (by decide) (by decide)
  · intro c r hc hr
    obtain ⟨g1, g2⟩ := o49 (24 * (8 * u + c) + r) (by omega)
    exact ⟨g2, g1⟩
  · rw [e44 44 w (by decide) (by decide) (by decide)]; exact h1
  · rw [e45, if_pos rfl]
  · rw [e44 46 w (by decide) (by decide) (by decide)]; exact h3
  · intro q hq
    by_cases e : ∃ c, c < 8 ∧ s.testBit c = true ∧ q = 24 * (8 * w + pl s c) + m
    · obtain ⟨c, hc, bt, rfl⟩ := e
      rw [(f2 c hc bt).2]
      exact g01 c hc bt
    · rw [(f3 q fun c hc bt z => e ⟨c, hc, bt, z⟩).2, ea 49 q (by decide)]
      show (if 49 = 49 ∧ (8 * w ≤ q / 24 ∧ q / 24 < 8 * w + 8 ∧ q % 24 = m) then 1 else S1.2.1 49 q) = 0 ∨ (if 49 = 49 ∧ (8 * w ≤ q / 24 ∧ q / 24 < 8 * w + 8 ∧ q % 24 = m) then 1 else S1.2.1 49 q) = 1
      split
      · exact Or.inr rfl
      · exact h4 q hq
  · rw [e44 47 _ (by decide) (by decide) (by decide)]
    exact hl c hc bt
  · rw [List.length_append, List.length_singleton] at hr
    by_cases e : r = m
    · subst e
      rw [show (R ++ [ρ]).getD r (0, 0) = ρ by rw [List.getD_eq_getElem?_getD, ← hR, List.getElem?_concat_length]; rfl]
      exact f2 c hc bt
    · obtain ⟨g1, g2⟩ := o49 (24 * (8 * w + pl s c) + r) (by omega)
      rw [show (R ++ [ρ]).getD r (0, 0) = R.getD r (0, 0) by rw [List.getD_eq_getElem?_getD, List.getD_eq_getElem?_getD, List.getElem?_append_left (by omega)]]
      obtain ⟨k1, k2⟩ := hv c r hc bt (by omega)
      exact ⟨g1.trans k1, g2.trans k2⟩
end MD
