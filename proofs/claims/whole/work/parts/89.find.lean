/-! THE CALL find: pairs, what tells -/
section FIND
variable {sc : RE} {S : SS} {PL : List Nat}
/-- what is like in pairs of rows -/
def prs (f : Nat → Nat → Nat) (m : Nat) : Nat → List Nat
  | 0 => []
  | i + 1 => prs f m i ++ (List.range (m - (i + 1))).map (fun k => f i (i + 1 + k))
def tri (k : Nat) : Nat := sm (fun i => i) k
theorem prs_len (f : Nat → Nat → Nat) (m : Nat) : ∀ i, i ≤ m → (prs f m i).length + tri (m - i) = tri m
  | 0, _ => by simp [prs]
  | i + 1, h => by
    have ih := prs_len f m i (by omega)
    have e : tri (m - i) = tri (m - (i + 1)) + (m - (i + 1)) := by
      rw [show m - i = (m - (i + 1)) + 1 by omega]
      rfl
    show (prs f m i ++ _).length + _ = _
    rw [List.length_append, List.length_map, List.length_range]
    omega
theorem tri_24 : ∀ m, m ≤ 24 → tri m ≤ 276 := by decide
theorem prs_lt {f : Nat → Nat → Nat} {m : Nat} (hf : ∀ i j, f i j < 256) : ∀ i p, p ∈ prs f m i → p < 256
  | 0, p, h => by simp [prs] at h
  | i + 1, p, h => by
    rcases List.mem_append.mp (show p ∈ prs f m i ++ _ from h) with z | z
    · exact prs_lt hf i p z
    · obtain ⟨k, _, rfl⟩ := List.mem_map.mp z
      exact hf _ _
theorem map_range_suc (g : Nat → Nat) (k : Nat) : (List.range (k + 1)).map g = (List.range k).map g ++ [g k] := by
  rw [List.range_succ, List.map_append]; rfl
theorem notePairs_s {a n m : Nat} (ha : IsT a) (hn : S.1 a 2 = nI n) (h8 : n ≤ 8) (hm : S.1 a 3 = nI m) (h24 : m ≤ 24) : ∃ S', (Fr [(24, 3)] [27] S S' ∧ S'.1 24 3 = nI (prs (lkS S a n) m m).length ∧ Hl (S'.2.1 27) (prs (lkS S a n) m m)) ∧ Rc 43 [.ref 24, .ref a] (enc sc S) = some (none, enc sc S') := by
  have ht : tri m ≤ 276 := tri_24 m h24
  have hak : ∀ (fs : List (Nat × Nat)) (cs : List Nat) (S1 : SS), Fr [(24, 3)] [27] S S1 → S1.1 a 2 = nI n ∧ S1.1 a 3 = nI m ∧ ∀ i j, lkS S1 a n i j = lkS S a n i j := by
    intro _ _ S1 hf
    have e1 : ∀ j, S1.1 a j = S.1 a j := fun j => hf.1 a j (by rcases ha with rfl | rfl | rfl | rfl <;> simp)
    have e2 : S1.2.1 (a + 3) = S.2.1 (a + 3) := (hf.2 (a + 3) (by rcases ha with rfl | rfl | rfl | rfl <;> decide)).1
    have e3 : S1.2.2 (a + 2) = S.2.2 (a + 2) := (hf.2 (a + 2) (by rcases ha with rfl | rfl | rfl | rfl <;> decide)).2
    refine ⟨by rw [e1]; exact hn, by rw [e1]; exact hm, fun i j => ?_⟩
    unfold lkS lkC cvI
    rw [e1, e2, e3]
  have key := loop_to (F := m) (G := fun i S1 => Rs 43 7 [.ref 24, .ref a, .int (nI i), UU] [] (enc sc S1)) (O := fun S' => some (none, enc sc S')) (J := fun S' => Fr [(24, 3)] [27] S S' ∧ S'.1 24 3 = nI (prs (lkS S a n) m m).length ∧ Hl (S'.2.1 27) (prs (lkS S a n) m m)) (I := fun i S1 => Fr [(24, 3)] [27] S S1 ∧ S1.1 24 3 = nI (prs (lkS S a n) m i).length ∧ Hl (S1.2.1 27) (prs (lkS S a n) m i)) ?_ ?_ (sF S 24 3 0) ⟨Fr_sF (by decide), rfl, Hl_nil _⟩
  · obtain ⟨S', g1, g2⟩ := key
    refine ⟨S', g1, Rc_of rfl rfl (B_X4_notePairs_0 _ _ _ ?_)⟩
    simp (disch := first | omega | assumption | exact bI_01 | exact Or.inl rfl | exact Or.inr rfl) only [↓reduceIte, ↓if_bI, ↓if10, ↓if00, bI_eq0, not_false_eq_true, not_true_eq_false, and_true, true_and, and_false, false_and, or_true, true_or, or_false, false_or, ↓c_Is, ↓c_Js, ↓c_Vs, ↓c_An, ↓c_Ar, ↓o_0, ↓q_0_0, ↓q_0_1, ↓q_0_2, ↓q_0_3, ↓q_0_4, ↓q_0_5, ↓q_0_6, ↓q_0_7, ↓w_0_7, ↓o_18, ↓q_18_0, ↓w_18_0, ↓q_18_1, ↓q_18_2, ↓q_18_3, ↓q_18_4, ↓a_19, ↓s_19, ↓a_20, ↓s_20, ↓a_21, ↓s_21, ↓a_22, ↓s_22, ↓o_23, ↓q_23_0, ↓w_23_0, ↓q_23_1, ↓w_23_1, ↓o_24, ↓q_24_0, ↓w_24_0, ↓q_24_1, ↓q_24_2, ↓q_24_3, ↓w_24_3, ↓q_24_4, ↓q_24_5, ↓a_25, ↓s_25, ↓a_26, ↓s_26, ↓a_27, ↓s_27, ↓a_28, ↓s_28, ↓o_29, ↓q_29_0, ↓w_29_0, ↓q_29_1, ↓w_29_1, ↓q_29_2, ↓w_29_2, ↓q_29_3, ↓q_29_4, ↓q_29_5, ↓q_29_6, ↓q_29_7, ↓w_29_7, ↓q_29_8, ↓q_29_9, ↓w_29_9, ↓q_29_10, ↓w_29_10, ↓q_29_11, ↓a_30, ↓s_30, ↓a_31, ↓s_31, ↓a_32, ↓s_32, ↓a_33, ↓s_33, ↓a_34, ↓s_34, ↓a_35, ↓s_35, ↓o_36, ↓q_36_0, ↓q_36_1, ↓w_36_1, ↓q_36_2, ↓w_36_2, ↓q_36_3, ↓q_36_4, ↓a_37, ↓s_37, ↓a_38, ↓s_38, ↓o_39, ↓q_39_0, ↓q_39_1, ↓w_39_1, ↓q_39_2, ↓q_39_3, ↓w_39_3, ↓q_39_4, ↓q_39_5, ↓a_40, ↓s_40, ↓a_41, ↓s_41, ↓a_42, ↓s_42, ↓o_43, ↓q_43_0, ↓w_43_0, ↓q_43_1, ↓q_43_2, ↓q_43_3, ↓q_43_4, ↓q_43_5, ↓q_43_6, ↓q_43_7, ↓q_43_8, ↓q_43_9, ↓w_43_9, ↓q_43_10, ↓q_43_11, ↓q_43_12, ↓q_43_13, ↓q_43_14, ↓w_43_14, ↓q_43_15, ↓w_43_15, ↓q_43_16, ↓q_43_17, ↓w_43_17, ↓q_43_18, ↓w_43_18, ↓q_43_19, ↓q_43_20, ↓q_43_21, ↓q_43_22, ↓w_43_22, ↓q_43_23, ↓w_43_23, ↓q_43_24, ↓q_43_25, ↓q_43_26, ↓w_43_26, ↓q_43_27, ↓q_43_28, ↓q_43_29, ↓w_43_29, ↓q_43_30, ↓q_43_31, ↓q_43_32, ↓q_43_33, ↓w_43_33, ↓q_43_34, ↓q_43_35, ↓q_43_36, ↓a_44, ↓s_44, ↓a_45, ↓s_45, ↓a_46, ↓s_46, ↓a_47, ↓s_47, ↓a_48, ↓s_48, ↓a_49, ↓s_49, ↓a_50, ↓s_50, ↓a_51, ↓s_51, ↓a_52, ↓s_52, ↓a_53, ↓s_53, ↓a_54, ↓s_54, ↓a_55, ↓s_55, ↓a_56, ↓s_56, ↓a_57, ↓s_57, ↓a_58, ↓s_58, ↓a_59, ↓s_59, ↓a_60, ↓s_60, ↓a_61, ↓s_61, ↓a_62, ↓s_62, ↓a_63, ↓s_63, ↓a_64, ↓s_64, ↓a_65, ↓s_65, ↓a_66, ↓s_66, ↓a_67, ↓s_67, ↓a_68, ↓s_68, ↓a_69, ↓s_69, ↓a_1, le0_T, le0_F, addm1, sA_1, sA_22, sL_1, sL_21, sF_2, sA_eq, sA_ne, sA_nj, sL_eq, sL_ne, sL_nj, sF_eq, sF_ne, sF_nj, le_T, le_F, lt_T, lt_F, lt0_F, eq_T, eq_F, eq_N, m9_F, m1_F, z_F, z_N, l2, l3, l4, l5, l6, l8, l12, l24, l40, l70, l96, l255, l256, l280, l320, c_Is, c_Js, c_Vs, c_An, c_Ar, if_bI, rI0, rI1, rIb, if00, if10, lg0, nI_1, nI_add, sub_1, sub_N, if_true, if_false, ite_true, ite_false, ge0_T, ge0_F, in_d, in_e, bitz, bito, mul_n, a_47, s_47, a_48, s_48, a_49, s_49, a_42, s_42, a_69, s_69, a_59, a_63, a_28, a_50, s_50, a_51, s_51]
    exact g2 _ rfl
  · intro i S1 hi ⟨hf, h1, h2⟩
    left
    have hlen := prs_len (lkS S a n) m (i + 1) hi
    have hli := prs_len (lkS S a n) m i (by omega)
    have eadd : (prs (lkS S a n) m (i + 1)).length = (prs (lkS S a n) m i).length + (m - (i + 1)) := by
      show (prs (lkS S a n) m i ++ _).length = _
      rw [List.length_append, List.length_map, List.length_range]
    have k2 := loop_to (F := m - (i + 1)) (G := fun k S2 => Rs 43 19 [.ref 24, .ref a, .int (nI i), .int (nI (i + 1 + k))] [] (enc sc S2)) (O := fun S' => Rs 43 7 [.ref 24, .ref a, .int (nI (i + 1)), UU] [] (enc sc S')) (J := fun S' => Fr [(24, 3)] [27] S S' ∧ S'.1 24 3 = nI (prs (lkS S a n) m (i + 1)).length ∧ Hl (S'.2.1 27) (prs (lkS S a n) m (i + 1))) (I := fun k S2 => Fr [(24, 3)] [27] S S2 ∧ S2.1 24 3 = nI ((prs (lkS S a n) m i).length + k) ∧ Hl (S2.2.1 27) (prs (lkS S a n) m i ++ (List.range k).map (fun k => lkS S a n i (i + 1 + k)))) ?_ ?_ S1 ⟨hf, h1, by simpa using h2⟩
    · obtain ⟨S', g1, g2⟩ := k2
      obtain ⟨q2, q3, q4⟩ := hak [] [] S1 hf
      refine ⟨S', g1, fun r hr => B_X4_notePairs_7 _ _ _ _ ?_⟩
      simp (disch := first | omega | assumption | exact bI_01 | exact Or.inl rfl | exact Or.inr rfl) only [↓reduceIte, ↓if_bI, ↓if10, ↓if00, bI_eq0, not_false_eq_true, not_true_eq_false, and_true, true_and, and_false, false_and, or_true, true_or, or_false, false_or, ↓c_Is, ↓c_Js, ↓c_Vs, ↓c_An, ↓c_Ar, ↓o_0, ↓q_0_0, ↓q_0_1, ↓q_0_2, ↓q_0_3, ↓q_0_4, ↓q_0_5, ↓q_0_6, ↓q_0_7, ↓w_0_7, ↓o_18, ↓q_18_0, ↓w_18_0, ↓q_18_1, ↓q_18_2, ↓q_18_3, ↓q_18_4, ↓a_19, ↓s_19, ↓a_20, ↓s_20, ↓a_21, ↓s_21, ↓a_22, ↓s_22, ↓o_23, ↓q_23_0, ↓w_23_0, ↓q_23_1, ↓w_23_1, ↓o_24, ↓q_24_0, ↓w_24_0, ↓q_24_1, ↓q_24_2, ↓q_24_3, ↓w_24_3, ↓q_24_4, ↓q_24_5, ↓a_25, ↓s_25, ↓a_26, ↓s_26, ↓a_27, ↓s_27, ↓a_28, ↓s_28, ↓o_29, ↓q_29_0, ↓w_29_0, ↓q_29_1, ↓w_29_1, ↓q_29_2, ↓w_29_2, ↓q_29_3, ↓q_29_4, ↓q_29_5, ↓q_29_6, ↓q_29_7, ↓w_29_7, ↓q_29_8, ↓q_29_9, ↓w_29_9, ↓q_29_10, ↓w_29_10, ↓q_29_11, ↓a_30, ↓s_30, ↓a_31, ↓s_31, ↓a_32, ↓s_32, ↓a_33, ↓s_33, ↓a_34, ↓s_34, ↓a_35, ↓s_35, ↓o_36, ↓q_36_0, ↓q_36_1, ↓w_36_1, ↓q_36_2, ↓w_36_2, ↓q_36_3, ↓q_36_4, ↓a_37, ↓s_37, ↓a_38, ↓s_38, ↓o_39, ↓q_39_0, ↓q_39_1, ↓w_39_1, ↓q_39_2, ↓q_39_3, ↓w_39_3, ↓q_39_4, ↓q_39_5, ↓a_40, ↓s_40, ↓a_41, ↓s_41, ↓a_42, ↓s_42, ↓o_43, ↓q_43_0, ↓w_43_0, ↓q_43_1, ↓q_43_2, ↓q_43_3, ↓q_43_4, ↓q_43_5, ↓q_43_6, ↓q_43_7, ↓q_43_8, ↓q_43_9, ↓w_43_9, ↓q_43_10, ↓q_43_11, ↓q_43_12, ↓q_43_13, ↓q_43_14, ↓w_43_14, ↓q_43_15, ↓w_43_15, ↓q_43_16, ↓q_43_17, ↓w_43_17, ↓q_43_18, ↓w_43_18, ↓q_43_19, ↓q_43_20, ↓q_43_21, ↓q_43_22, ↓w_43_22, ↓q_43_23, ↓w_43_23, ↓q_43_24, ↓q_43_25, ↓q_43_26, ↓w_43_26, ↓q_43_27, ↓q_43_28, ↓q_43_29, ↓w_43_29, ↓q_43_30, ↓q_43_31, ↓q_43_32, ↓q_43_33, ↓w_43_33, ↓q_43_34, ↓q_43_35, ↓q_43_36, ↓a_44, ↓s_44, ↓a_45, ↓s_45, ↓a_46, ↓s_46, ↓a_47, ↓s_47, ↓a_48, ↓s_48, ↓a_49, ↓s_49, ↓a_50, ↓s_50, ↓a_51, ↓s_51, ↓a_52, ↓s_52, ↓a_53, ↓s_53, ↓a_54, ↓s_54, ↓a_55, ↓s_55, ↓a_56, ↓s_56, ↓a_57, ↓s_57, ↓a_58, ↓s_58, ↓a_59, ↓s_59, ↓a_60, ↓s_60, ↓a_61, ↓s_61, ↓a_62, ↓s_62, ↓a_63, ↓s_63, ↓a_64, ↓s_64, ↓a_65, ↓s_65, ↓a_66, ↓s_66, ↓a_67, ↓s_67, ↓a_68, ↓s_68, ↓a_69, ↓s_69, ↓a_1, le0_T, le0_F, addm1, sA_1, sA_22, sL_1, sL_21, sF_2, sA_eq, sA_ne, sA_nj, sL_eq, sL_ne, sL_nj, sF_eq, sF_ne, sF_nj, le_T, le_F, lt_T, lt_F, lt0_F, eq_T, eq_F, eq_N, m9_F, m1_F, z_F, z_N, l2, l3, l4, l5, l6, l8, l12, l24, l40, l70, l96, l255, l256, l280, l320, c_Is, c_Js, c_Vs, c_An, c_Ar, if_bI, rI0, rI1, rIb, if00, if10, lg0, nI_1, nI_add, sub_1, sub_N, if_true, if_false, ite_true, ite_false, ge0_T, ge0_F, in_d, in_e, bitz, bito, mul_n, a_47, s_47, a_48, s_48, a_49, s_49, a_42, s_42, a_69, s_69, a_59, a_63, a_28, a_50, s_50, a_51, s_51, ↓o_T (ha), ↓q_T_0 (ha), ↓w_T_0 (ha), ↓q_T_1 (ha), ↓w_T_1 (ha), ↓q_T_2 (ha), ↓w_T_2 (ha), ↓q_T_3 (ha), ↓w_T_3 (ha), ↓q_T_4 (ha), ↓q_T_5 (ha), ↓q_T_6 (ha), ↓a_T1 (ha), ↓s_T1 (ha), ↓a_T2 (ha), ↓s_T2 (ha), ↓a_T3 (ha), ↓s_T3 (ha), q3]
      exact g2 r hr
    · intro k S2 hk ⟨hf2, j1, j2⟩
      left
      obtain ⟨q2, q3, q4⟩ := hak [] [] S2 hf2
      have elk := likeColumns_s (sc := sc) ha q2 h8 (i := i) (j := i + 1 + k) (by omega) (by omega)
      rw [q4] at elk
      refine ⟨sF (sA S2 27 ((prs (lkS S a n) m i).length + k) (nI (lkS S a n i (i + 1 + k)))) 24 3 (nI ((prs (lkS S a n) m i).length + k + 1)), ⟨Fr_tr hf2 (Fr_tr (Fr_sA (by decide)) (Fr_sF (by decide))), ?_, ?_⟩, fun r hr => B_X4_notePairs_19 _ _ _ _ _ ?_⟩
      · simp (disch := omega) only [sA_1, sA_22, sL_1, sL_21, sF_2, sA_eq, sA_ne, sA_nj, sL_eq, sL_ne, sL_nj, sF_eq, sF_ne, sF_nj]
        rfl
      · rw [map_range_suc, ← List.append_assoc]
        refine Hl_app j2 (fun j hj => ?_) ?_
        · rw [List.length_append, List.length_map, List.length_range] at hj
          simp (disch := omega) only [sA_1, sA_22, sL_1, sL_21, sF_2, sA_eq, sA_ne, sA_nj, sL_eq, sL_ne, sL_nj, sF_eq, sF_ne, sF_nj]
        · rw [List.length_append, List.length_map, List.length_range]
          simp (disch := omega) only [sA_1, sA_22, sL_1, sL_21, sF_2, sA_eq, sA_ne, sA_nj, sL_eq, sL_ne, sL_nj, sF_eq, sF_ne, sF_nj]
      · have hb : (prs (lkS S a n) m i).length + k < 276 := by omega
        simp (disch := first | omega | assumption | exact bI_01 | exact Or.inl rfl | exact Or.inr rfl) only [↓reduceIte, ↓if_bI, ↓if10, ↓if00, bI_eq0, not_false_eq_true, not_true_eq_false, and_true, true_and, and_false, false_and, or_true, true_or, or_false, false_or, ↓c_Is, ↓c_Js, ↓c_Vs, ↓c_An, ↓c_Ar, ↓o_0, ↓q_0_0, ↓q_0_1, ↓q_0_2, ↓q_0_3, ↓q_0_4, ↓q_0_5, ↓q_0_6, ↓q_0_7, ↓w_0_7, ↓o_18, ↓q_18_0, ↓w_18_0, ↓q_18_1, ↓q_18_2, ↓q_18_3, ↓q_18_4, ↓a_19, ↓s_19, ↓a_20, ↓s_20, ↓a_21, ↓s_21, ↓a_22, ↓s_22, ↓o_23, ↓q_23_0, ↓w_23_0, ↓q_23_1, ↓w_23_1, ↓o_24, ↓q_24_0, ↓w_24_0, ↓q_24_1, ↓q_24_2, ↓q_24_3, ↓w_24_3, ↓q_24_4, ↓q_24_5, ↓a_25, ↓s_25, ↓a_26, ↓s_26, ↓a_27, ↓s_27, ↓a_28, ↓s_28, ↓o_29, ↓q_29_0, ↓w_29_0, ↓q_29_1, ↓w_29_1, ↓q_29_2, ↓w_29_2, ↓q_29_3, ↓q_29_4, ↓q_29_5, ↓q_29_6, ↓q_29_7, ↓w_29_7, ↓q_29_8, ↓q_29_9, ↓w_29_9, ↓q_29_10, ↓w_29_10, ↓q_29_11, ↓a_30, ↓s_30, ↓a_31, ↓s_31, ↓a_32, ↓s_32, ↓a_33, ↓s_33, ↓a_34, ↓s_34, ↓a_35, ↓s_35, ↓o_36, ↓q_36_0, ↓q_36_1, ↓w_36_1, ↓q_36_2, ↓w_36_2, ↓q_36_3, ↓q_36_4, ↓a_37, ↓s_37, ↓a_38, ↓s_38, ↓o_39, ↓q_39_0, ↓q_39_1, ↓w_39_1, ↓q_39_2, ↓q_39_3, ↓w_39_3, ↓q_39_4, ↓q_39_5, ↓a_40, ↓s_40, ↓a_41, ↓s_41, ↓a_42, ↓s_42, ↓o_43, ↓q_43_0, ↓w_43_0, ↓q_43_1, ↓q_43_2, ↓q_43_3, ↓q_43_4, ↓q_43_5, ↓q_43_6, ↓q_43_7, ↓q_43_8, ↓q_43_9, ↓w_43_9, ↓q_43_10, ↓q_43_11, ↓q_43_12, ↓q_43_13, ↓q_43_14, ↓w_43_14, ↓q_43_15, ↓w_43_15, ↓q_43_16, ↓q_43_17, ↓w_43_17, ↓q_43_18, ↓w_43_18, ↓q_43_19, ↓q_43_20, ↓q_43_21, ↓q_43_22, ↓w_43_22, ↓q_43_23, ↓w_43_23, ↓q_43_24, ↓q_43_25, ↓q_43_26, ↓w_43_26, ↓q_43_27, ↓q_43_28, ↓q_43_29, ↓w_43_29, ↓q_43_30, ↓q_43_31, ↓q_43_32, ↓q_43_33, ↓w_43_33, ↓q_43_34, ↓q_43_35, ↓q_43_36, ↓a_44, ↓s_44, ↓a_45, ↓s_45, ↓a_46, ↓s_46, ↓a_47, ↓s_47, ↓a_48, ↓s_48, ↓a_49, ↓s_49, ↓a_50, ↓s_50, ↓a_51, ↓s_51, ↓a_52, ↓s_52, ↓a_53, ↓s_53, ↓a_54, ↓s_54, ↓a_55, ↓s_55, ↓a_56, ↓s_56, ↓a_57, ↓s_57, ↓a_58, ↓s_58, ↓a_59, ↓s_59, ↓a_60, ↓s_60, ↓a_61, ↓s_61, ↓a_62, ↓s_62, ↓a_63, ↓s_63, ↓a_64, ↓s_64, ↓a_65, ↓s_65, ↓a_66, ↓s_66, ↓a_67, ↓s_67, ↓a_68, ↓s_68, ↓a_69, ↓s_69, ↓a_1, le0_T, le0_F, addm1, sA_1, sA_22, sL_1, sL_21, sF_2, sA_eq, sA_ne, sA_nj, sL_eq, sL_ne, sL_nj, sF_eq, sF_ne, sF_nj, le_T, le_F, lt_T, lt_F, lt0_F, eq_T, eq_F, eq_N, m9_F, m1_F, z_F, z_N, l2, l3, l4, l5, l6, l8, l12, l24, l40, l70, l96, l255, l256, l280, l320, c_Is, c_Js, c_Vs, c_An, c_Ar, if_bI, rI0, rI1, rIb, if00, if10, lg0, nI_1, nI_add, sub_1, sub_N, if_true, if_false, ite_true, ite_false, ge0_T, ge0_F, in_d, in_e, bitz, bito, mul_n, a_47, s_47, a_48, s_48, a_49, s_49, a_42, s_42, a_69, s_69, a_59, a_63, a_28, a_50, s_50, a_51, s_51, ↓o_T (ha), ↓q_T_0 (ha), ↓w_T_0 (ha), ↓q_T_1 (ha), ↓w_T_1 (ha), ↓q_T_2 (ha), ↓w_T_2 (ha), ↓q_T_3 (ha), ↓w_T_3 (ha), ↓q_T_4 (ha), ↓q_T_5 (ha), ↓q_T_6 (ha), ↓a_T1 (ha), ↓s_T1 (ha), ↓a_T2 (ha), ↓s_T2 (ha), ↓a_T3 (ha), ↓s_T3 (ha), q3, ↓cI (elk), j1]
        exact hr
    · intro S2 ⟨hf2, j1, j2⟩
      obtain ⟨q2, q3, q4⟩ := hak [] [] S2 hf2
      refine ⟨S2, ⟨hf2, by rw [eadd]; exact j1, j2⟩, fun r hr => B_X4_notePairs_19 _ _ _ _ _ ?_⟩
      rw [show i + 1 + (m - (i + 1)) = m by omega]
      simp (disch := first | omega | assumption | exact bI_01 | exact Or.inl rfl | exact Or.inr rfl) only [↓reduceIte, ↓if_bI, ↓if10, ↓if00, bI_eq0, not_false_eq_true, not_true_eq_false, and_true, true_and, and_false, false_and, or_true, true_or, or_false, false_or, ↓c_Is, ↓c_Js, ↓c_Vs, ↓c_An, ↓c_Ar, ↓o_0, ↓q_0_0, ↓q_0_1, ↓q_0_2, ↓q_0_3, ↓q_0_4, ↓q_0_5, ↓q_0_6, ↓q_0_7, ↓w_0_7, ↓o_18, ↓q_18_0, ↓w_18_0, ↓q_18_1, ↓q_18_2, ↓q_18_3, ↓q_18_4, ↓a_19, ↓s_19, ↓a_20, ↓s_20, ↓a_21, ↓s_21, ↓a_22, ↓s_22, ↓o_23, ↓q_23_0, ↓w_23_0, ↓q_23_1, ↓w_23_1, ↓o_24, ↓q_24_0, ↓w_24_0, ↓q_24_1, ↓q_24_2, ↓q_24_3, ↓w_24_3, ↓q_24_4, ↓q_24_5, ↓a_25, ↓s_25, ↓a_26, ↓s_26, ↓a_27, ↓s_27, ↓a_28, ↓s_28, ↓o_29, ↓q_29_0, ↓w_29_0, ↓q_29_1, ↓w_29_1, ↓q_29_2, ↓w_29_2, ↓q_29_3, ↓q_29_4, ↓q_29_5, ↓q_29_6, ↓q_29_7, ↓w_29_7, ↓q_29_8, ↓q_29_9, ↓w_29_9, ↓q_29_10, ↓w_29_10, ↓q_29_11, ↓a_30, ↓s_30, ↓a_31, ↓s_31, ↓a_32, ↓s_32, ↓a_33, ↓s_33, ↓a_34, ↓s_34, ↓a_35, ↓s_35, ↓o_36, ↓q_36_0, ↓q_36_1, ↓w_36_1, ↓q_36_2, ↓w_36_2, ↓q_36_3, ↓q_36_4, ↓a_37, ↓s_37, ↓a_38, ↓s_38, ↓o_39, ↓q_39_0, ↓q_39_1, ↓w_39_1, ↓q_39_2, ↓q_39_3, ↓w_39_3, ↓q_39_4, ↓q_39_5, ↓a_40, ↓s_40, ↓a_41, ↓s_41, ↓a_42, ↓s_42, ↓o_43, ↓q_43_0, ↓w_43_0, ↓q_43_1, ↓q_43_2, ↓q_43_3, ↓q_43_4, ↓q_43_5, ↓q_43_6, ↓q_43_7, ↓q_43_8, ↓q_43_9, ↓w_43_9, ↓q_43_10, ↓q_43_11, ↓q_43_12, ↓q_43_13, ↓q_43_14, ↓w_43_14, ↓q_43_15, ↓w_43_15, ↓q_43_16, ↓q_43_17, ↓w_43_17, ↓q_43_18, ↓w_43_18, ↓q_43_19, ↓q_43_20, ↓q_43_21, ↓q_43_22, ↓w_43_22, ↓q_43_23, ↓w_43_23, ↓q_43_24, ↓q_43_25, ↓q_43_26, ↓w_43_26, ↓q_43_27, ↓q_43_28, ↓q_43_29, ↓w_43_29, ↓q_43_30, ↓q_43_31, ↓q_43_32, ↓q_43_33, ↓w_43_33, ↓q_43_34, ↓q_43_35, ↓q_43_36, ↓a_44, ↓s_44, ↓a_45, ↓s_45, ↓a_46, ↓s_46, ↓a_47, ↓s_47, ↓a_48, ↓s_48, ↓a_49, ↓s_49, ↓a_50, ↓s_50, ↓a_51, ↓s_51, ↓a_52, ↓s_52, ↓a_53, ↓s_53, ↓a_54, ↓s_54, ↓a_55, ↓s_55, ↓a_56, ↓s_56, ↓a_57, ↓s_57, ↓a_58, ↓s_58, ↓a_59, ↓s_59, ↓a_60, ↓s_60, ↓a_61, ↓s_61, ↓a_62, ↓s_62, ↓a_63, ↓s_63, ↓a_64, ↓s_64, ↓a_65, ↓s_65, ↓a_66, ↓s_66, ↓a_67, ↓s_67, ↓a_68, ↓s_68, ↓a_69, ↓s_69, ↓a_1, le0_T, le0_F, addm1, sA_1, sA_22, sL_1, sL_21, sF_2, sA_eq, sA_ne, sA_nj, sL_eq, sL_ne, sL_nj, sF_eq, sF_ne, sF_nj, le_T, le_F, lt_T, lt_F, lt0_F, eq_T, eq_F, eq_N, m9_F, m1_F, z_F, z_N, l2, l3, l4, l5, l6, l8, l12, l24, l40, l70, l96, l255, l256, l280, l320, c_Is, c_Js, c_Vs, c_An, c_Ar, if_bI, rI0, rI1, rIb, if00, if10, lg0, nI_1, nI_add, sub_1, sub_N, if_true, if_false, ite_true, ite_false, ge0_T, ge0_F, in_d, in_e, bitz, bito, mul_n, a_47, s_47, a_48, s_48, a_49, s_49, a_42, s_42, a_69, s_69, a_59, a_63, a_28, a_50, s_50, a_51, s_51, ↓o_T (ha), ↓q_T_0 (ha), ↓w_T_0 (ha), ↓q_T_1 (ha), ↓w_T_1 (ha), ↓q_T_2 (ha), ↓w_T_2 (ha), ↓q_T_3 (ha), ↓w_T_3 (ha), ↓q_T_4 (ha), ↓q_T_5 (ha), ↓q_T_6 (ha), ↓a_T1 (ha), ↓s_T1 (ha), ↓a_T2 (ha), ↓s_T2 (ha), ↓a_T3 (ha), ↓s_T3 (ha), q3]
      exact hr
  · intro S1 ⟨hf, h1, h2⟩
    obtain ⟨q2, q3, q4⟩ := hak [] [] S1 hf
    refine ⟨S1, ⟨hf, h1, h2⟩, fun r hr => B_X4_notePairs_7 _ _ _ _ ?_⟩
    simp (disch := first | omega | assumption | exact bI_01 | exact Or.inl rfl | exact Or.inr rfl) only [↓reduceIte, ↓if_bI, ↓if10, ↓if00, bI_eq0, not_false_eq_true, not_true_eq_false, and_true, true_and, and_false, false_and, or_true, true_or, or_false, false_or, ↓c_Is, ↓c_Js, ↓c_Vs, ↓c_An, ↓c_Ar, ↓o_0, ↓q_0_0, ↓q_0_1, ↓q_0_2, ↓q_0_3, ↓q_0_4, ↓q_0_5, ↓q_0_6, ↓q_0_7, ↓w_0_7, ↓o_18, ↓q_18_0, ↓w_18_0, ↓q_18_1, ↓q_18_2, ↓q_18_3, ↓q_18_4, ↓a_19, ↓s_19, ↓a_20, ↓s_20, ↓a_21, ↓s_21, ↓a_22, ↓s_22, ↓o_23, ↓q_23_0, ↓w_23_0, ↓q_23_1, ↓w_23_1, ↓o_24, ↓q_24_0, ↓w_24_0, ↓q_24_1, ↓q_24_2, ↓q_24_3, ↓w_24_3, ↓q_24_4, ↓q_24_5, ↓a_25, ↓s_25, ↓a_26, ↓s_26, ↓a_27, ↓s_27, ↓a_28, ↓s_28, ↓o_29, ↓q_29_0, ↓w_29_0, ↓q_29_1, ↓w_29_1, ↓q_29_2, ↓w_29_2, ↓q_29_3, ↓q_29_4, ↓q_29_5, ↓q_29_6, ↓q_29_7, ↓w_29_7, ↓q_29_8, ↓q_29_9, ↓w_29_9, ↓q_29_10, ↓w_29_10, ↓q_29_11, ↓a_30, ↓s_30, ↓a_31, ↓s_31, ↓a_32, ↓s_32, ↓a_33, ↓s_33, ↓a_34, ↓s_34, ↓a_35, ↓s_35, ↓o_36, ↓q_36_0, ↓q_36_1, ↓w_36_1, ↓q_36_2, ↓w_36_2, ↓q_36_3, ↓q_36_4, ↓a_37, ↓s_37, ↓a_38, ↓s_38, ↓o_39, ↓q_39_0, ↓q_39_1, ↓w_39_1, ↓q_39_2, ↓q_39_3, ↓w_39_3, ↓q_39_4, ↓q_39_5, ↓a_40, ↓s_40, ↓a_41, ↓s_41, ↓a_42, ↓s_42, ↓o_43, ↓q_43_0, ↓w_43_0, ↓q_43_1, ↓q_43_2, ↓q_43_3, ↓q_43_4, ↓q_43_5, ↓q_43_6, ↓q_43_7, ↓q_43_8, ↓q_43_9, ↓w_43_9, ↓q_43_10, ↓q_43_11, ↓q_43_12, ↓q_43_13, ↓q_43_14, ↓w_43_14, ↓q_43_15, ↓w_43_15, ↓q_43_16, ↓q_43_17, ↓w_43_17, ↓q_43_18, ↓w_43_18, ↓q_43_19, ↓q_43_20, ↓q_43_21, ↓q_43_22, ↓w_43_22, ↓q_43_23, ↓w_43_23, ↓q_43_24, ↓q_43_25, ↓q_43_26, ↓w_43_26, ↓q_43_27, ↓q_43_28, ↓q_43_29, ↓w_43_29, ↓q_43_30, ↓q_43_31, ↓q_43_32, ↓q_43_33, ↓w_43_33, ↓q_43_34, ↓q_43_35, ↓q_43_36, ↓a_44, ↓s_44, ↓a_45, ↓s_45, ↓a_46, ↓s_46, ↓a_47, ↓s_47, ↓a_48, ↓s_48, ↓a_49, ↓s_49, ↓a_50, ↓s_50, ↓a_51, ↓s_51, ↓a_52, ↓s_52, ↓a_53, ↓s_53, ↓a_54, ↓s_54, ↓a_55, ↓s_55, ↓a_56, ↓s_56, ↓a_57, ↓s_57, ↓a_58, ↓s_58, ↓a_59, ↓s_59, ↓a_60, ↓s_60, ↓a_61, ↓s_61, ↓a_62, ↓s_62, ↓a_63, ↓s_63, ↓a_64, ↓s_64, ↓a_65, ↓s_65, ↓a_66, ↓s_66, ↓a_67, ↓s_67, ↓a_68, ↓s_68, ↓a_69, ↓s_69, ↓a_1, le0_T, le0_F, addm1, sA_1, sA_22, sL_1, sL_21, sF_2, sA_eq, sA_ne, sA_nj, sL_eq, sL_ne, sL_nj, sF_eq, sF_ne, sF_nj, le_T, le_F, lt_T, lt_F, lt0_F, eq_T, eq_F, eq_N, m9_F, m1_F, z_F, z_N, l2, l3, l4, l5, l6, l8, l12, l24, l40, l70, l96, l255, l256, l280, l320, c_Is, c_Js, c_Vs, c_An, c_Ar, if_bI, rI0, rI1, rIb, if00, if10, lg0, nI_1, nI_add, sub_1, sub_N, if_true, if_false, ite_true, ite_false, ge0_T, ge0_F, in_d, in_e, bitz, bito, mul_n, a_47, s_47, a_48, s_48, a_49, s_49, a_42, s_42, a_69, s_69, a_59, a_63, a_28, a_50, s_50, a_51, s_51, ↓o_T (ha), ↓q_T_0 (ha), ↓w_T_0 (ha), ↓q_T_1 (ha), ↓w_T_1 (ha), ↓q_T_2 (ha), ↓w_T_2 (ha), ↓q_T_3 (ha), ↓w_T_3 (ha), ↓q_T_4 (ha), ↓q_T_5 (ha), ↓q_T_6 (ha), ↓a_T1 (ha), ↓s_T1 (ha), ↓a_T2 (ha), ↓s_T2 (ha), ↓a_T3 (ha), ↓s_T3 (ha), q3]
    exact hr
/-- a pair that speaks against x telling c -/
def dpP (PL : List Nat) (x c k : Nat) : Bool := decide (sub x (PL.getD k 0) ∧ ¬ (PL.getD k 0).testBit c = true)
def telB (PL : List Nat) (c x : Nat) : Bool := !x.testBit c && !decide (fa_first (dpP PL x c) PL.length < PL.length)
theorem tel_iff {c x : Nat} : telB PL c x = true ↔ (x.testBit c = false ∧ ∀ p, p ∈ PL → sub x p → p.testBit c = true) := by
  unfold telB
  rw [Bool.and_eq_true, Bool.not_eq_true', Bool.not_eq_true', decide_eq_false_iff_not]
  refine and_congr_right fun _ => ?_
  rw [ff_iff]
  constructor
  · intro h p hp hs
    obtain ⟨k, hk, rfl⟩ := gD_of hp
    exact Classical.byContradiction fun z => h ⟨k, hk, decide_eq_true ⟨hs, z⟩⟩
  · rintro h ⟨k, hk, z⟩
    obtain ⟨z1, z2⟩ := of_decide_eq_true z
    exact z2 (h _ (gD_mem hk) z1)
theorem tel_mono {c x y : Nat} (h : telB PL c x = true) (hs : sub x y) (hy : y.testBit c = false) : telB PL c y = true := by
  obtain ⟨h1, h2⟩ := tel_iff.mp h
  exact tel_iff.mpr ⟨hy, fun p hp hq => h2 p hp (sub_trans hs hq)⟩
def lesB (PL : List Nat) (c x d : Nat) : Bool := x.testBit d && telB PL c (wo x d)
def fndB (PL : List Nat) (c x : Nat) : Bool := telB PL c x && !decide (fa_first (lesB PL c x) 8 < 8)
theorem fnd_iff {c x : Nat} : fndB PL c x = true ↔ (telB PL c x = true ∧ ∀ d, d < 8 → x.testBit d = true → telB PL c (wo x d) = false) := by
  unfold fndB
  rw [Bool.and_eq_true, Bool.not_eq_true', decide_eq_false_iff_not, ff_iff]
  refine and_congr_right fun _ => ?_
  constructor
  · intro h d hd hb
    cases q : telB PL c (wo x d) with
    | false => rfl
    | true => exact absurd ⟨d, hd, by unfold lesB; rw [hb, q]; rfl⟩ h
  · rintro h ⟨d, hd, z⟩
    obtain ⟨z1, z2⟩ := (Bool.and_eq_true _ _).mp z
    rw [h d hd z1] at z2
    cases z2
theorem fnd_anti {c s t : Nat} (ht : t < 256) (h1 : fndB PL c s = true) (h2 : fndB PL c t = true) (h : sub s t) : s = t := by
  refine Classical.byContradiction fun ne => ?_
  obtain ⟨k1, k2⟩ := fnd_iff.mp h1
  obtain ⟨j1, j2⟩ := fnd_iff.mp h2
  have : ¬ sub t s := fun z => ne (sub_anti h z)
  obtain ⟨d, hd, hd2⟩ := not_sub this
  have hd8 : d < 8 := bit_lt hd (n := 8) ht
  have hm := tel_mono k1 (wo_sub ht hd8 h hd2) (by
    rw [wo_bit ht hd8, (tel_iff.mp j1).1]; rfl)
  rw [j2 d hd8 hd] at hm
  cases hm
def fl (PL : List Nat) (c N : Nat) : List Nat := (List.range N).filter (fndB PL c)
theorem fl_succ (c x : Nat) : fl PL c (x + 1) = if fndB PL c x = true then fl PL c x ++ [x] else fl PL c x := by
  unfold fl
  rw [List.range_succ, List.filter_append]
  split
  · next h => simp [h]
  · next h => simp [h]
theorem fl_len {c N : Nat} (hc : c < 8) (hN : N ≤ 256) : (fl PL c N).length ≤ 35 := by
  have mem : ∀ x, x ∈ fl PL c N → x < 256 ∧ fndB PL c x = true := fun x hx => by
    obtain ⟨h1, h2⟩ := List.mem_filter.mp hx
    have := List.mem_range.mp h1
    exact ⟨by omega, h2⟩
  refine anti_len (range_nd _ _) (f := fun x => ch7 (cmp7 c x)) (fun x hx => ch7_lt (cmp7_lt hc (mem x hx).1)) (fun x y hx hy e => ?_)
  obtain ⟨x1, x2⟩ := mem x hx
  obtain ⟨y1, y2⟩ := mem y hy
  have xb := (tel_iff.mp (fnd_iff.mp x2).1).1
  have yb := (tel_iff.mp (fnd_iff.mp y2).1).1
  rcases ch7_c (cmp7_lt hc x1) (cmp7_lt hc y1) e with q | q
  · exact fnd_anti y1 x2 y2 (cmp7_sub hc x1 y1 xb q)
  · exact (fnd_anti x1 y2 x2 (cmp7_sub hc y1 x1 yb q)).symm
theorem fl_ext {c M N : Nat} (hno : ∀ x, M ≤ x → x < M + N → fndB PL c x = false) : fl PL c (M + N) = fl PL c M := by
  induction N with
  | zero => rfl
  | succ N ih =>
    rw [show M + (N + 1) = (M + N) + 1 by omega, fl_succ, if_neg (by rw [hno (M + N) (by omega) (by omega)]; decide)]
    exact ih fun x h1 h2 => hno x h1 (by omega)
/-- all that are found, up to the column c -/
def FLx (PL : List Nat) (N : Nat) : Nat → List Nat
  | 0 => []
  | c + 1 => FLx PL N c ++ fl PL c N
def FLc (PL : List Nat) (N : Nat) : Nat → List Nat
  | 0 => []
  | c + 1 => FLc PL N c ++ (fl PL c N).map (fun _ => c)
theorem FL_len (N : Nat) : ∀ c, (FLx PL N c).length = (FLc PL N c).length
  | 0 => rfl
  | c + 1 => by
    show (FLx PL N c ++ _).length = (FLc PL N c ++ _).length
    rw [List.length_append, List.length_append, List.length_map, FL_len N c]
theorem FL_le {N : Nat} (hN : N ≤ 256) : ∀ c, c ≤ 8 → (FLc PL N c).length ≤ 35 * c
  | 0, _ => Nat.zero_le _
  | c + 1, h => by
    have := FL_le hN c (by omega)
    have := fl_len (PL := PL) (c := c) (by omega) hN
    show (FLc PL N c ++ _).length ≤ _
    rw [List.length_append, List.length_map]
    omega
end FIND
