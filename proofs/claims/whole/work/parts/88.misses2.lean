/-! THE CALL misses, whole -/
section MIS2
variable {sc : RE} {S : SS}
theorem i_acc (A B a b : Nat) : (nI A - nI B) + (nI a - nI b) = nI (A + a) - nI (B + b) := by
  rw [← nI_add, ← nI_add, Int32.sub_eq_add_neg, Int32.sub_eq_add_neg, Int32.sub_eq_add_neg, Int32.neg_add, Int32.add_assoc, Int32.add_assoc]
  congr 1
  rw [Int32.sub_eq_add_neg (-nI B) (nI b), ← Int32.add_assoc, ← Int32.add_assoc, Int32.add_comm (-nI B) (nI a)]
theorem rlo_sm {a n m : Nat} {x y : Int32} (k : Nat) : it (rloG S a n m x y) k 0 = sm (fun i => if eld S a n x i then 0 else mtsC S a n m x y i) k := by
  have : it (rloG S a n m x y) k 0 = it (fun i acc => acc + (if eld S a n x i then 0 else mtsC S a n m x y i)) k 0 := it_fcong (fun i acc => by
    unfold rloG
    by_cases q : fa_first (elP S a n i x) i < i
    · rw [if_pos q, if_pos (show eld S a n x i from q)]; rfl
    · rw [if_neg q, if_neg (show ¬ eld S a n x i from q)]) k 0
  rw [this, it_sm, Nat.zero_add]
theorem misses_o (h : Rel S) (x y z : Int32) : Op sc S (Rc 110 [.ref 0, .int x, .int y, .int z]) (Rc 203 [.ref 43, .int x, .int y, .int z]) := by
  rcases sets_b (sc := sc) h x y z with ⟨v, hv, e1, e2⟩ | ⟨t, n, m, s, u, ht, rfl, zt, rfl, rfl, hs, hu, e1, e2⟩
  · obtain ⟨n1, n2⟩ := neg_v hv
    refine ⟨some (.int v), S, S, h, Rc_of rfl rfl (B_X7_misses_0 _ _ _ _ _ ?_), Rc_of rfl rfl (B_X8_misses_0 _ _ _ _ _ ?_)⟩
    · simp (disch := first | omega | assumption | exact bI_01 | exact Or.inl rfl | exact Or.inr rfl) only [↓reduceIte, ↓if_bI, ↓if10, ↓if00, bI_eq0, not_false_eq_true, not_true_eq_false, and_true, true_and, and_false, false_and, or_true, true_or, or_false, false_or, ↓c_Is, ↓c_Js, ↓c_Vs, ↓c_An, ↓c_Ar, ↓o_0, ↓q_0_0, ↓q_0_1, ↓q_0_2, ↓q_0_3, ↓q_0_4, ↓q_0_5, ↓q_0_6, ↓q_0_7, ↓w_0_7, ↓o_18, ↓q_18_0, ↓w_18_0, ↓q_18_1, ↓q_18_2, ↓q_18_3, ↓q_18_4, ↓a_19, ↓s_19, ↓a_20, ↓s_20, ↓a_21, ↓s_21, ↓a_22, ↓s_22, ↓o_23, ↓q_23_0, ↓w_23_0, ↓q_23_1, ↓w_23_1, ↓o_24, ↓q_24_0, ↓w_24_0, ↓q_24_1, ↓q_24_2, ↓q_24_3, ↓w_24_3, ↓q_24_4, ↓q_24_5, ↓a_25, ↓s_25, ↓a_26, ↓s_26, ↓a_27, ↓s_27, ↓a_28, ↓s_28, ↓o_29, ↓q_29_0, ↓w_29_0, ↓q_29_1, ↓w_29_1, ↓q_29_2, ↓w_29_2, ↓q_29_3, ↓q_29_4, ↓q_29_5, ↓q_29_6, ↓q_29_7, ↓w_29_7, ↓q_29_8, ↓q_29_9, ↓w_29_9, ↓q_29_10, ↓w_29_10, ↓q_29_11, ↓a_30, ↓s_30, ↓a_31, ↓s_31, ↓a_32, ↓s_32, ↓a_33, ↓s_33, ↓a_34, ↓s_34, ↓a_35, ↓s_35, ↓o_36, ↓q_36_0, ↓q_36_1, ↓w_36_1, ↓q_36_2, ↓w_36_2, ↓q_36_3, ↓q_36_4, ↓a_37, ↓s_37, ↓a_38, ↓s_38, ↓o_39, ↓q_39_0, ↓q_39_1, ↓w_39_1, ↓q_39_2, ↓q_39_3, ↓w_39_3, ↓q_39_4, ↓q_39_5, ↓a_40, ↓s_40, ↓a_41, ↓s_41, ↓a_42, ↓s_42, ↓o_43, ↓q_43_0, ↓w_43_0, ↓q_43_1, ↓q_43_2, ↓q_43_3, ↓q_43_4, ↓q_43_5, ↓q_43_6, ↓q_43_7, ↓q_43_8, ↓q_43_9, ↓w_43_9, ↓q_43_10, ↓q_43_11, ↓q_43_12, ↓q_43_13, ↓q_43_14, ↓w_43_14, ↓q_43_15, ↓w_43_15, ↓q_43_16, ↓q_43_17, ↓w_43_17, ↓q_43_18, ↓w_43_18, ↓q_43_19, ↓q_43_20, ↓q_43_21, ↓q_43_22, ↓w_43_22, ↓q_43_23, ↓w_43_23, ↓q_43_24, ↓q_43_25, ↓q_43_26, ↓w_43_26, ↓q_43_27, ↓q_43_28, ↓q_43_29, ↓w_43_29, ↓q_43_30, ↓q_43_31, ↓q_43_32, ↓q_43_33, ↓w_43_33, ↓q_43_34, ↓q_43_35, ↓q_43_36, ↓a_44, ↓s_44, ↓a_45, ↓s_45, ↓a_46, ↓s_46, ↓a_47, ↓s_47, ↓a_48, ↓s_48, ↓a_49, ↓s_49, ↓a_50, ↓s_50, ↓a_51, ↓s_51, ↓a_52, ↓s_52, ↓a_53, ↓s_53, ↓a_54, ↓s_54, ↓a_55, ↓s_55, ↓a_56, ↓s_56, ↓a_57, ↓s_57, ↓a_58, ↓s_58, ↓a_59, ↓s_59, ↓a_60, ↓s_60, ↓a_61, ↓s_61, ↓a_62, ↓s_62, ↓a_63, ↓s_63, ↓a_64, ↓s_64, ↓a_65, ↓s_65, ↓a_66, ↓s_66, ↓a_67, ↓s_67, ↓a_68, ↓s_68, ↓a_69, ↓s_69, ↓a_1, le0_T, le0_F, addm1, sA_1, sA_22, sL_1, sL_21, sF_2, sA_eq, sA_ne, sA_nj, sL_eq, sL_ne, sL_nj, sF_eq, sF_ne, sF_nj, le_T, le_F, lt_T, lt_F, lt0_F, eq_T, eq_F, eq_N, m9_F, m1_F, z_F, z_N, l2, l3, l4, l5, l6, l8, l12, l24, l40, l70, l96, l255, l256, l280, l320, c_Is, c_Js, c_Vs, c_An, c_Ar, if_bI, rI0, rI1, rIb, if00, if10, lg0, nI_1, nI_add, sub_1, sub_N, if_true, if_false, ite_true, ite_false, ge0_T, ge0_F, in_d, in_e, bitz, bito, mul_n, a_47, s_47, a_48, s_48, a_49, s_49, a_42, s_42, a_69, s_69, a_59, a_63, a_28, a_50, s_50, a_51, s_51, ↓cI (e1), ↓if_neg n1]
    · simp (disch := first | omega | assumption | exact bI_01 | exact Or.inl rfl | exact Or.inr rfl) only [↓reduceIte, ↓if_bI, ↓if10, ↓if00, bI_eq0, not_false_eq_true, not_true_eq_false, and_true, true_and, and_false, false_and, or_true, true_or, or_false, false_or, ↓c_Is, ↓c_Js, ↓c_Vs, ↓c_An, ↓c_Ar, ↓o_0, ↓q_0_0, ↓q_0_1, ↓q_0_2, ↓q_0_3, ↓q_0_4, ↓q_0_5, ↓q_0_6, ↓q_0_7, ↓w_0_7, ↓o_18, ↓q_18_0, ↓w_18_0, ↓q_18_1, ↓q_18_2, ↓q_18_3, ↓q_18_4, ↓a_19, ↓s_19, ↓a_20, ↓s_20, ↓a_21, ↓s_21, ↓a_22, ↓s_22, ↓o_23, ↓q_23_0, ↓w_23_0, ↓q_23_1, ↓w_23_1, ↓o_24, ↓q_24_0, ↓w_24_0, ↓q_24_1, ↓q_24_2, ↓q_24_3, ↓w_24_3, ↓q_24_4, ↓q_24_5, ↓a_25, ↓s_25, ↓a_26, ↓s_26, ↓a_27, ↓s_27, ↓a_28, ↓s_28, ↓o_29, ↓q_29_0, ↓w_29_0, ↓q_29_1, ↓w_29_1, ↓q_29_2, ↓w_29_2, ↓q_29_3, ↓q_29_4, ↓q_29_5, ↓q_29_6, ↓q_29_7, ↓w_29_7, ↓q_29_8, ↓q_29_9, ↓w_29_9, ↓q_29_10, ↓w_29_10, ↓q_29_11, ↓a_30, ↓s_30, ↓a_31, ↓s_31, ↓a_32, ↓s_32, ↓a_33, ↓s_33, ↓a_34, ↓s_34, ↓a_35, ↓s_35, ↓o_36, ↓q_36_0, ↓q_36_1, ↓w_36_1, ↓q_36_2, ↓w_36_2, ↓q_36_3, ↓q_36_4, ↓a_37, ↓s_37, ↓a_38, ↓s_38, ↓o_39, ↓q_39_0, ↓q_39_1, ↓w_39_1, ↓q_39_2, ↓q_39_3, ↓w_39_3, ↓q_39_4, ↓q_39_5, ↓a_40, ↓s_40, ↓a_41, ↓s_41, ↓a_42, ↓s_42, ↓o_43, ↓q_43_0, ↓w_43_0, ↓q_43_1, ↓q_43_2, ↓q_43_3, ↓q_43_4, ↓q_43_5, ↓q_43_6, ↓q_43_7, ↓q_43_8, ↓q_43_9, ↓w_43_9, ↓q_43_10, ↓q_43_11, ↓q_43_12, ↓q_43_13, ↓q_43_14, ↓w_43_14, ↓q_43_15, ↓w_43_15, ↓q_43_16, ↓q_43_17, ↓w_43_17, ↓q_43_18, ↓w_43_18, ↓q_43_19, ↓q_43_20, ↓q_43_21, ↓q_43_22, ↓w_43_22, ↓q_43_23, ↓w_43_23, ↓q_43_24, ↓q_43_25, ↓q_43_26, ↓w_43_26, ↓q_43_27, ↓q_43_28, ↓q_43_29, ↓w_43_29, ↓q_43_30, ↓q_43_31, ↓q_43_32, ↓q_43_33, ↓w_43_33, ↓q_43_34, ↓q_43_35, ↓q_43_36, ↓a_44, ↓s_44, ↓a_45, ↓s_45, ↓a_46, ↓s_46, ↓a_47, ↓s_47, ↓a_48, ↓s_48, ↓a_49, ↓s_49, ↓a_50, ↓s_50, ↓a_51, ↓s_51, ↓a_52, ↓s_52, ↓a_53, ↓s_53, ↓a_54, ↓s_54, ↓a_55, ↓s_55, ↓a_56, ↓s_56, ↓a_57, ↓s_57, ↓a_58, ↓s_58, ↓a_59, ↓s_59, ↓a_60, ↓s_60, ↓a_61, ↓s_61, ↓a_62, ↓s_62, ↓a_63, ↓s_63, ↓a_64, ↓s_64, ↓a_65, ↓s_65, ↓a_66, ↓s_66, ↓a_67, ↓s_67, ↓a_68, ↓s_68, ↓a_69, ↓s_69, ↓a_1, le0_T, le0_F, addm1, sA_1, sA_22, sL_1, sL_21, sF_2, sA_eq, sA_ne, sA_nj, sL_eq, sL_ne, sL_nj, sF_eq, sF_ne, sF_nj, le_T, le_F, lt_T, lt_F, lt0_F, eq_T, eq_F, eq_N, m9_F, m1_F, z_F, z_N, l2, l3, l4, l5, l6, l8, l12, l24, l40, l70, l96, l255, l256, l280, l320, c_Is, c_Js, c_Vs, c_An, c_Ar, if_bI, rI0, rI1, rIb, if00, if10, lg0, nI_1, nI_add, sub_1, sub_N, if_true, if_false, ite_true, ite_false, ge0_T, ge0_F, in_d, in_e, bitz, bito, mul_n, a_47, s_47, a_48, s_48, a_49, s_49, a_42, s_42, a_69, s_69, a_59, a_63, a_28, a_50, s_50, a_51, s_51, ↓cI (e2), ↓if_neg n2]
  · have zz := zt
    obtain ⟨w1, w2, w3, w4, w5, w6, w7, w8, w9, w10, w11⟩ := zt
    have hT := T_is ht
    have hsu : s ||| u < 2 ^ n := or_lt hs hu
    have p0 : (0 : Int32) ≤ 0 := by decide
    have hall := all_sum (S := S) (a := 2 + 4 * t) (m := m) w3 hs
    refine ⟨some (.int (nI m - nI (it (rloG S (2 + 4 * t) n m (nI s) (nI u)) m 0))), S, S, h, Rc_of rfl rfl (B_X7_misses_0 _ _ _ _ _ ?_), Rc_of rfl rfl (B_X8_misses_0 _ _ _ _ _ ?_)⟩
    · have er := rowsToLeaveOut_s (sc := sc) hT w2 w3 w4 w5 (nI s) (nI u)
      rw [o_0, cI e1, if_pos rfl, q_0_0, a_1 ht, o_T hT, cI er]
    · rw [o_43, cI e2, if_pos p0]
      have key := loop_st (F := m) (G := fun i (_ : Unit) => Rs 203 24 [.ref 43, .int (nI t), .int (nI s), .int (nI u), .int (nI (sm (fun i => if eld S (2 + 4 * t) n (nI s) i then 0 else 1 + latC S (2 + 4 * t) n m (nI s) i) i) - nI (sm (fun i => if eld S (2 + 4 * t) n (nI s) i then 0 else mtsC S (2 + 4 * t) n m (nI s) (nI u) i) i)), .int (nI i), UU, UU, UU, UU, UU, UU, UU] [] (enc sc S)) (fin := (some (.int (nI m - nI (it (rloG S (2 + 4 * t) n m (nI s) (nI u)) m 0))), enc sc S)) (st := fun _ => ()) ?_ ?_
      · have z0 : nI 0 - nI 0 = 0 := by decide
        simp only [sm] at key
        rw [z0] at key
        exact key
      · intro i hi r hr
        -- the first of its rows?
        have flag : Rs 203 41 [.ref 43, .int (nI t), .int (nI s), .int (nI u), .int (nI (sm (fun i => if eld S (2 + 4 * t) n (nI s) i then 0 else 1 + latC S (2 + 4 * t) n m (nI s) i) i) - nI (sm (fun i => if eld S (2 + 4 * t) n (nI s) i then 0 else mtsC S (2 + 4 * t) n m (nI s) (nI u) i) i)), .int (nI i), .int (bI (¬ eld S (2 + 4 * t) n (nI s) i)), .int (nI i), UU, UU, UU, UU, UU] [] (enc sc S) = some r → Rs 203 24 [.ref 43, .int (nI t), .int (nI s), .int (nI u), .int (nI (sm (fun i => if eld S (2 + 4 * t) n (nI s) i then 0 else 1 + latC S (2 + 4 * t) n m (nI s) i) i) - nI (sm (fun i => if eld S (2 + 4 * t) n (nI s) i then 0 else mtsC S (2 + 4 * t) n m (nI s) (nI u) i) i)), .int (nI i), UU, UU, UU, UU, UU, UU, UU] [] (enc sc S) = some r := by
          intro hr1
          have k2 := loop_st (F := i) (G := fun j (_ : Unit) => Rs 203 41 [.ref 43, .int (nI t), .int (nI s), .int (nI u), .int (nI (sm (fun i => if eld S (2 + 4 * t) n (nI s) i then 0 else 1 + latC S (2 + 4 * t) n m (nI s) i) i) - nI (sm (fun i => if eld S (2 + 4 * t) n (nI s) i then 0 else mtsC S (2 + 4 * t) n m (nI s) (nI u) i) i)), .int (nI i), .int (bI (¬ fa_first (elP S (2 + 4 * t) n i (nI s)) j < j)), .int (nI j), UU, UU, UU, UU, UU] [] (enc sc S)) (fin := r) (st := fun _ => ()) ?_ hr1
          · refine B_X8_misses_24 _ _ _ _ _ _ _ ?_
            rw [q_43_2, a_45 ht, w8, if_neg (nI_ge hi (by omega))]
            exact k2
          · intro j hj r' hr'
            refine B_X8_misses_41 _ _ _ _ _ _ _ _ _ ?_
            rw [if_neg (nI_ge hj (by omega))]
            by_cases q0 : fa_first (elP S (2 + 4 * t) n i (nI s)) j < j
            · rw [bI_f (not_not_intro (ff_succ.mpr (Or.inl q0)))] at hr'
              rw [bI_f (not_not_intro q0), if_pos rfl, nI_1]
              exact hr'
            · rw [bI_t q0, if_neg (show ¬ (1 : Int32) = 0 by decide), o_43, cI (isLike_w ht zz (i := j) (j := i) (s := s) (by omega) hi hs), if_bI, nI_1]
              by_cases q1 : wi (nI s) (nI (lkS S (2 + 4 * t) n j i))
              · rw [bI_f (not_not_intro (ff_succ.mpr (Or.inr (decide_eq_true q1))))] at hr'
                rw [if_pos q1]
                exact hr'
              · rw [bI_t (show ¬ fa_first (elP S (2 + 4 * t) n i (nI s)) (j + 1) < j + 1 from fun z => (ff_succ.mp z).elim q0 (fun z2 => q1 (of_decide_eq_true z2)))] at hr'
                rw [if_neg q1]
                exact hr'
        refine flag (B_X8_misses_41 _ _ _ _ _ _ _ _ _ ?_)
        rw [if_pos (nI_le (Nat.le_refl i) (by omega))]
        have sA : sm (fun i => if eld S (2 + 4 * t) n (nI s) i then 0 else 1 + latC S (2 + 4 * t) n m (nI s) i) (i + 1) = sm (fun i => if eld S (2 + 4 * t) n (nI s) i then 0 else 1 + latC S (2 + 4 * t) n m (nI s) i) i + (if eld S (2 + 4 * t) n (nI s) i then 0 else 1 + latC S (2 + 4 * t) n m (nI s) i) := rfl
        have sB : sm (fun i => if eld S (2 + 4 * t) n (nI s) i then 0 else mtsC S (2 + 4 * t) n m (nI s) (nI u) i) (i + 1) = sm (fun i => if eld S (2 + 4 * t) n (nI s) i then 0 else mtsC S (2 + 4 * t) n m (nI s) (nI u) i) i + (if eld S (2 + 4 * t) n (nI s) i then 0 else mtsC S (2 + 4 * t) n m (nI s) (nI u) i) := rfl
        by_cases qe : eld S (2 + 4 * t) n (nI s) i
        · rw [sA, sB, if_pos qe, if_pos qe, Nat.add_zero, Nat.add_zero] at hr
          rw [bI_f (not_not_intro qe), if_pos rfl, nI_1]
          exact hr
        · rw [sA, sB, if_neg qe, if_neg qe, ← i_acc] at hr
          rw [bI_t qe, if_neg (show ¬ (1 : Int32) = 0 by decide)]
          generalize hac : nI (sm (fun i => if eld S (2 + 4 * t) n (nI s) i then 0 else 1 + latC S (2 + 4 * t) n m (nI s) i) i) - nI (sm (fun i => if eld S (2 + 4 * t) n (nI s) i then 0 else mtsC S (2 + 4 * t) n m (nI s) (nI u) i) i) = acc at hr ⊢
          -- its rows, one by one
          have k3 := loop_st (F := m - i) (G := fun d (_ : Unit) => Rs 203 97 [.ref 43, .int (nI t), .int (nI s), .int (nI u), .int acc, .int (nI i), UU, .int (nI (1 + fa_cnt (fun k => decide (wi (nI s) (nI (lkS S (2 + 4 * t) n i (i + 1 + k))))) (d - 1))), .int (nI (max 1 (it (mtsG S (2 + 4 * t) n m (nI s) (nI u) i) d 0))), .int (nI (i + d)), UU, UU, UU] [] (enc sc S)) (fin := r) (st := fun _ => ()) ?_ ?_
          · exact k3
          · intro d hd r' hr'
            have hm25 : it (mtsG S (2 + 4 * t) n m (nI s) (nI u) i) d 0 ≤ 25 := it_inv (I := fun _ a => a ≤ 25) (Nat.zero_le _) (fun k a _ ha => by
              unfold mtsG
              have := latC_le (S := S) (a := 2 + 4 * t) (n := n) (m := m) (x := nI s ||| nI u) (r := i + k)
              split <;> omega)
            have hlat := latC_le (S := S) (a := 2 + 4 * t) (n := n) (m := m) (x := nI s ||| nI u) (r := i + d)
            refine B_X8_misses_97 _ _ _ _ _ _ _ _ _ _ ?_
            rw [q_43_2, a_45 ht, w8, if_neg (nI_ge (by omega) (by omega))]
            -- like ones behind it
            have inner : ∀ (al : Int32), (d = 0 ∨ Lk S (2 + 4 * t) n s i (i + d)) → Rs 203 97 [.ref 43, .int (nI t), .int (nI s), .int (nI u), .int acc, .int (nI i), UU, .int al, .int (nI (max (max 1 (it (mtsG S (2 + 4 * t) n m (nI s) (nI u) i) d 0)) (1 + latC S (2 + 4 * t) n m (nI s ||| nI u) (i + d)))), .int (nI (i + d + 1)), UU, UU, UU] [] (enc sc S) = some r' → Rs 203 166 [.ref 43, .int (nI t), .int (nI s), .int (nI u), .int acc, .int (nI i), UU, .int al, .int (nI (max 1 (it (mtsG S (2 + 4 * t) n m (nI s) (nI u) i) d 0))), .int (nI (i + d)), .int 1, .int 1, .int (nI (i + d + 1))] [] (enc sc S) = some r' := by
              intro al hsame hr2
              have k4 := loop_st (F := m - (i + d + 1)) (G := fun q (_ : Unit) => Rs 203 166 [.ref 43, .int (nI t), .int (nI s), .int (nI u), .int acc, .int (nI i), UU, .int al, .int (nI (max 1 (it (mtsG S (2 + 4 * t) n m (nI s) (nI u) i) d 0))), .int (nI (i + d)), .int 1, .int (nI (1 + fa_cnt (fun k => decide (wi (nI s ||| nI u) (nI (lkS S (2 + 4 * t) n (i + d) (i + d + 1 + k))))) q)), .int (nI (i + d + 1 + q))] [] (enc sc S)) (fin := r') (st := fun _ => ()) ?_ ?_
              · exact k4
              · intro q hq r2 hr3
                refine B_X8_misses_166 _ _ _ _ _ _ _ _ _ _ _ _ _ ?_
                rw [q_43_2, a_45 ht, w8, if_neg (nI_ge (by omega) (by omega)), if_neg (show ¬ (1 : Int32) = 0 by decide), o_43, cI (isLike_w ht zz (i := i) (j := i + d + 1 + q) (s := s) hi (by omega) hs), if_bI, nI_1]
                have hiff : wi (nI s ||| nI u) (nI (lkS S (2 + 4 * t) n (i + d) (i + d + 1 + q))) ↔ (wi (nI s) (nI (lkS S (2 + 4 * t) n i (i + d + 1 + q))) ∧ wi (nI u) (nI (lkS S (2 + 4 * t) n (i + d) (i + d + 1 + q)))) := by
                  rw [fa_or, Lk_wi w3 hsu, Lk_wi w3 hs, Lk_wi w3 hu, Lk_or]
                  refine and_congr_left fun _ => ?_
                  rcases hsame with z | z
                  · rw [z]; exact Iff.rfl
                  · exact ⟨fun z2 => Lk_tr z z2, fun z2 => Lk_tr (Lk_sym z) z2⟩
                by_cases q1 : wi (nI s) (nI (lkS S (2 + 4 * t) n i (i + d + 1 + q)))
                · rw [if_pos q1, o_43, cI (isLike_w ht zz (i := i + d) (j := i + d + 1 + q) (s := u) (by omega) (by omega) hu), if_bI]
                  by_cases q2 : wi (nI u) (nI (lkS S (2 + 4 * t) n (i + d) (i + d + 1 + q)))
                  · rw [if_pos q2, nI_1]
                    rw [fa_cnt_yes (decide_eq_true (hiff.mpr ⟨q1, q2⟩))] at hr3
                    exact hr3
                  · rw [if_neg q2, Int32.add_zero]
                    rw [fa_cnt_no (decide_eq_false (fun z => q2 (hiff.mp z).2))] at hr3
                    exact hr3
                · rw [if_neg q1, Int32.add_zero]
                  rw [fa_cnt_no (decide_eq_false (fun z => q1 (hiff.mp z).1))] at hr3
                  exact hr3
              · refine B_X8_misses_166 _ _ _ _ _ _ _ _ _ _ _ _ _ ?_
                have elat : fa_cnt (fun k => decide (wi (nI s ||| nI u) (nI (lkS S (2 + 4 * t) n (i + d) (i + d + 1 + k))))) (m - (i + d + 1)) = latC S (2 + 4 * t) n m (nI s ||| nI u) (i + d) := rfl
                rw [q_43_2, a_45 ht, w8, if_pos (nI_le (by omega) (by omega)), if_neg (show ¬ (1 : Int32) = 0 by decide), elat, nI_1]
                by_cases q2 : 1 + latC S (2 + 4 * t) n m (nI s ||| nI u) (i + d) ≤ max 1 (it (mtsG S (2 + 4 * t) n m (nI s) (nI u) i) d 0)
                · rw [if_pos (nI_le q2 (by omega))]
                  rw [Nat.max_eq_left q2] at hr2
                  exact hr2
                · rw [if_neg (nI_ge (by omega) (by omega))]
                  rw [Nat.max_eq_right (by omega)] at hr2
                  exact hr2
            by_cases d0 : d = 0
            · subst d0
              rw [if_pos (show nI (i + 0) = nI i from rfl), if_neg (show ¬ (1 : Int32) = 0 by decide), if_pos (show nI (i + 0) ≤ nI i from nI_le (Nat.le_refl _) (by omega)), Int32.add_zero, nI_1]
              refine inner _ (Or.inl rfl) ?_
              have em : max 1 (it (mtsG S (2 + 4 * t) n m (nI s) (nI u) i) (0 + 1) 0) = max (max 1 (it (mtsG S (2 + 4 * t) n m (nI s) (nI u) i) 0 0)) (1 + latC S (2 + 4 * t) n m (nI s ||| nI u) (i + 0)) := by
                rw [it_succ]
                unfold mtsG
                rw [if_pos (Or.inl rfl), Nat.max_assoc]
              rw [em] at hr'
              exact hr'
            · have ne : ¬ nI (i + d) = nI i := fun z => by have := nI_inj (by omega) (by omega) z; omega
              rw [if_neg ne, o_43, cI (isLike_w ht zz (i := i) (j := i + d) (s := s) hi (by omega) hs), if_bI]
              have ecnt : d + 1 - 1 = (d - 1) + 1 := by omega
              have eidx : i + 1 + (d - 1) = i + d := by omega
              by_cases q1 : wi (nI s) (nI (lkS S (2 + 4 * t) n i (i + d)))
              · rw [if_pos q1, if_neg (show ¬ (1 : Int32) = 0 by decide), if_neg (nI_ge (by omega) (by omega)), nI_1, nI_1]
                refine inner _ (Or.inr ((Lk_wi w3 hs).mp q1)) ?_
                have em : max 1 (it (mtsG S (2 + 4 * t) n m (nI s) (nI u) i) (d + 1) 0) = max (max 1 (it (mtsG S (2 + 4 * t) n m (nI s) (nI u) i) d 0)) (1 + latC S (2 + 4 * t) n m (nI s ||| nI u) (i + d)) := by
                  rw [it_succ]
                  conv => lhs; unfold mtsG
                  rw [if_pos (Or.inr q1), Nat.max_assoc]
                  rfl
                rw [em, ecnt, fa_cnt_yes (by rw [eidx]; exact decide_eq_true q1)] at hr'
                exact hr'
              · rw [if_neg q1, if_pos rfl, Int32.add_zero, nI_1]
                refine B_X8_misses_166 _ _ _ _ _ _ _ _ _ _ _ _ _ ?_
                have em : it (mtsG S (2 + 4 * t) n m (nI s) (nI u) i) (d + 1) 0 = it (mtsG S (2 + 4 * t) n m (nI s) (nI u) i) d 0 := by
                  rw [it_succ]
                  conv => lhs; unfold mtsG
                  rw [if_neg (fun z => z.elim d0 q1)]
                  rfl
                rw [em, ecnt, fa_cnt_no (by rw [eidx]; exact decide_eq_false q1)] at hr'
                rw [q_43_2, a_45 ht, w8, nI_1]
                split
                · rw [if_pos rfl]; exact hr'
                · rw [if_pos rfl, if_pos rfl]; exact hr'
          · refine B_X8_misses_97 _ _ _ _ _ _ _ _ _ _ ?_
            rw [q_43_2, a_45 ht, w8, show i + (m - i) = m by omega, if_pos (nI_le (Nat.le_refl m) (by omega)), nI_1]
            have e1' : max 1 (it (mtsG S (2 + 4 * t) n m (nI s) (nI u) i) (m - i) 0) = mtsC S (2 + 4 * t) n m (nI s) (nI u) i := by
              have hge : 1 ≤ mtsC S (2 + 4 * t) n m (nI s) (nI u) i := by
                unfold mtsC
                rw [show m - i = (m - i - 1) + 1 by omega]
                have key1 : ∀ k, 1 ≤ it (mtsG S (2 + 4 * t) n m (nI s) (nI u) i) (k + 1) 0 := by
                  intro k
                  induction k with
                  | zero =>
                    rw [it_succ]
                    unfold mtsG
                    rw [if_pos (Or.inl rfl)]
                    omega
                  | succ k ih =>
                    rw [it_succ]
                    generalize it (mtsG S (2 + 4 * t) n m (nI s) (nI u) i) (k + 1) 0 = g at ih ⊢
                    unfold mtsG
                    split <;> omega
                exact key1 _
              unfold mtsC at hge ⊢
              exact Nat.max_eq_right hge
            have e2' : fa_cnt (fun k => decide (wi (nI s) (nI (lkS S (2 + 4 * t) n i (i + 1 + k))))) (m - i - 1) = latC S (2 + 4 * t) n m (nI s) i := by
              unfold latC
              rw [show m - i - 1 = m - (i + 1) by omega]
            rw [e1', e2']
            exact hr
      · refine B_X8_misses_24 _ _ _ _ _ _ _ ?_
        rw [q_43_2, a_45 ht, w8, if_pos (nI_le (Nat.le_refl m) (by omega)), hall, rlo_sm]
end MIS2
