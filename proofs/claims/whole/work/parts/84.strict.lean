/-! THE CALL strict -/
section STR
variable {sc : RE} {S : SS} {w F : Nat} {fx fy : Nat → Nat} {L D : List Nat}
/-- one split -/
def spt (F : Nat) (fx fy : Nat → Nat) (D : List Nat) (i s : Nat) : List Nat := D.take i ++ (D.getD i 0 &&& clo F fx fy s) :: ((D.getD i 0 &&& (clo F fx fy s ^^^ 2147483647)) ||| s) :: D.drop (i + 1)
theorem spt_len {i s : Nat} (hi : i < D.length) : (spt F fx fy D i s).length = D.length + 1 := by
  unfold spt
  rw [List.length_append, List.length_cons, List.length_cons, List.length_take, List.length_drop]
  omega
theorem spt_at {i s j : Nat} (hi : i < D.length) : (spt F fx fy D i s).getD j 0 = if j < i then D.getD j 0 else if j = i then D.getD i 0 &&& clo F fx fy s else if j = i + 1 then (D.getD i 0 &&& (clo F fx fy s ^^^ 2147483647)) ||| s else D.getD (j - 1) 0 := by
  unfold spt
  have hl : (D.take i).length = i := by rw [List.length_take]; omega
  simp only [List.getD_eq_getElem?_getD]
  by_cases h1 : j < i
  · rw [if_pos h1, List.getElem?_append_left (by omega), List.getElem?_take_of_lt h1]
  · rw [if_neg h1, List.getElem?_append_right (by omega), hl]
    by_cases h2 : j = i
    · subst h2
      rw [if_pos rfl, Nat.sub_self]
      rfl
    · rw [if_neg h2]
      by_cases h3 : j = i + 1
      · subst h3
        rw [if_pos rfl, show i + 1 - i = 1 by omega]
        rfl
      · rw [if_neg h3, show j - i = (j - i - 2) + 1 + 1 by omega, List.getElem?_cons_succ, List.getElem?_cons_succ, List.getElem?_drop, show i + 1 + (j - i - 2) = j - 1 by omega]
theorem spt_lt (hy : ∀ k, k < F → fy k < 256) {i s : Nat} (hi : i < D.length) (hD : ∀ d, d ∈ D → d < 256) (hs : s < 256) : ∀ d, d ∈ spt F fx fy D i s → d < 256 := by
  intro d hd
  have hdi := P_lt hD hi
  unfold spt at hd
  rcases List.mem_append.mp hd with z | z
  · exact hD d (List.mem_of_mem_take z)
  · rcases List.mem_cons.mp z with z | z
    · rw [z]; exact Nat.lt_of_le_of_lt Nat.and_le_left hdi
    · rcases List.mem_cons.mp z with z | z
      · rw [z]; exact or_lt (n := 8) (Nat.lt_of_le_of_lt Nat.and_le_left hdi) hs
      · exact hD d (List.mem_of_mem_drop z)
/-- a row of ints while its end is moved up -/
def shf (A : Nat → Int32) (D : List Nat) (i d : Nat) : Prop := (∀ j, j ≤ D.length - d → j < D.length → A j = nI (D.getD j 0)) ∧ ∀ j, D.length - d < j → j ≤ D.length → A j = nI (D.getD (j - 1) 0)
theorem shf_0 {A : Nat → Int32} {i : Nat} (h : Hl A D) : shf A D i 0 := ⟨fun j _ hj => h j hj, fun j h1 h2 => by omega⟩
theorem shf_suc {A A' : Nat → Int32} {i d : Nat} (hd : d < D.length) (h : shf A D i d) (h1 : A' (D.length - d) = nI (D.getD (D.length - d - 1) 0)) (h2 : ∀ j, j ≠ D.length - d → A' j = A j) : shf A' D i (d + 1) := by
  refine ⟨fun j j1 j2 => ?_, fun j j1 j2 => ?_⟩
  · rw [h2 j (by omega)]
    exact h.1 j (by omega) j2
  · by_cases e : j = D.length - d
    · rw [e]; exact h1
    · rw [h2 j e]
      exact h.2 j (by omega) j2
theorem shf_end {A A' : Nat → Int32} {i s : Nat} (hi : i < D.length) (h : shf A D i (D.length - (i + 1))) (h1 : A' i = nI (D.getD i 0 &&& clo F fx fy s)) (h2 : A' (i + 1) = nI ((D.getD i 0 &&& (clo F fx fy s ^^^ 2147483647)) ||| s)) (h3 : ∀ j, j ≠ i → j ≠ i + 1 → A' j = A j) : Hl A' (spt F fx fy D i s) := by
  intro j hj
  rw [spt_len hi] at hj
  rw [spt_at hi]
  by_cases e1 : j < i
  · rw [if_pos e1, h3 j (by omega) (by omega)]
    exact h.1 j (by omega) (by omega)
  · rw [if_neg e1]
    by_cases e2 : j = i
    · rw [if_pos e2, e2]; exact h1
    · rw [if_neg e2]
      by_cases e3 : j = i + 1
      · rw [if_pos e3, e3]; exact h2
      · rw [if_neg e3, h3 j e2 e3]
        exact h.2 j (by omega) (by omega)
theorem split_s (h : FD S F fx fy) (hm : MO F fx fy (S.2.1 33)) (hD : DrC S D) (hl : D.length < 321) {i s : Nat} (hi : i < D.length) (hs : s < 256) : ∃ S', (Fr [(39, 3)] [33, 41] S S' ∧ MO F fx fy (S'.2.1 33) ∧ DrC S' (spt F fx fy D i s)) ∧ Rc 30 [.ref 39, .int (nI i), .int (nI s)] (enc sc S) = some (none, enc sc S') := by
  obtain ⟨d1, d2, d3, d4⟩ := hD
  have hy := FD_y h
  have hdi := P_lt d4 hi
  have key := loop_to (F := D.length - (i + 1)) (G := fun d S1 => Rs 30 5 [.ref 39, .int (nI i), .int (nI s), .int (nI (D.length - d))] [] (enc sc S1)) (O := fun S' => some (none, enc sc S')) (J := fun S' => Fr [(39, 3)] [33, 41] S S' ∧ MO F fx fy (S'.2.1 33) ∧ DrC S' (spt F fx fy D i s)) (I := fun d S1 => Fr [] [41] S S1 ∧ shf (S1.2.1 41) D i d) ?_ ?_ S ⟨Fr_refl _ _ _, shf_0 d3⟩
  · obtain ⟨S', g1, g2⟩ := key
    refine ⟨S', g1, Rc_of rfl rfl (B_X3_split_0 _ _ _ _ ?_)⟩
    simp (disch := first | omega | assumption | exact bI_01 | exact Or.inl rfl | exact Or.inr rfl) only [↓reduceIte, ↓if_bI, ↓if10, ↓if00, bI_eq0, not_false_eq_true, not_true_eq_false, and_true, true_and, and_false, false_and, or_true, true_or, or_false, false_or, ↓c_Is, ↓c_Js, ↓c_Vs, ↓c_An, ↓c_Ar, ↓o_0, ↓q_0_0, ↓q_0_1, ↓q_0_2, ↓q_0_3, ↓q_0_4, ↓q_0_5, ↓q_0_6, ↓q_0_7, ↓w_0_7, ↓o_18, ↓q_18_0, ↓w_18_0, ↓q_18_1, ↓q_18_2, ↓q_18_3, ↓q_18_4, ↓a_19, ↓s_19, ↓a_20, ↓s_20, ↓a_21, ↓s_21, ↓a_22, ↓s_22, ↓o_23, ↓q_23_0, ↓w_23_0, ↓q_23_1, ↓w_23_1, ↓o_24, ↓q_24_0, ↓w_24_0, ↓q_24_1, ↓q_24_2, ↓q_24_3, ↓w_24_3, ↓q_24_4, ↓q_24_5, ↓a_25, ↓s_25, ↓a_26, ↓s_26, ↓a_27, ↓s_27, ↓a_28, ↓s_28, ↓o_29, ↓q_29_0, ↓w_29_0, ↓q_29_1, ↓w_29_1, ↓q_29_2, ↓w_29_2, ↓q_29_3, ↓q_29_4, ↓q_29_5, ↓q_29_6, ↓q_29_7, ↓w_29_7, ↓q_29_8, ↓q_29_9, ↓w_29_9, ↓q_29_10, ↓w_29_10, ↓q_29_11, ↓a_30, ↓s_30, ↓a_31, ↓s_31, ↓a_32, ↓s_32, ↓a_33, ↓s_33, ↓a_34, ↓s_34, ↓a_35, ↓s_35, ↓o_36, ↓q_36_0, ↓q_36_1, ↓w_36_1, ↓q_36_2, ↓w_36_2, ↓q_36_3, ↓q_36_4, ↓a_37, ↓s_37, ↓a_38, ↓s_38, ↓o_39, ↓q_39_0, ↓q_39_1, ↓w_39_1, ↓q_39_2, ↓q_39_3, ↓w_39_3, ↓q_39_4, ↓q_39_5, ↓a_40, ↓s_40, ↓a_41, ↓s_41, ↓a_42, ↓s_42, ↓o_43, ↓q_43_0, ↓w_43_0, ↓q_43_1, ↓q_43_2, ↓q_43_3, ↓q_43_4, ↓q_43_5, ↓q_43_6, ↓q_43_7, ↓q_43_8, ↓q_43_9, ↓w_43_9, ↓q_43_10, ↓q_43_11, ↓q_43_12, ↓q_43_13, ↓q_43_14, ↓w_43_14, ↓q_43_15, ↓w_43_15, ↓q_43_16, ↓q_43_17, ↓w_43_17, ↓q_43_18, ↓w_43_18, ↓q_43_19, ↓q_43_20, ↓q_43_21, ↓q_43_22, ↓w_43_22, ↓q_43_23, ↓w_43_23, ↓q_43_24, ↓q_43_25, ↓q_43_26, ↓w_43_26, ↓q_43_27, ↓q_43_28, ↓q_43_29, ↓w_43_29, ↓q_43_30, ↓q_43_31, ↓q_43_32, ↓q_43_33, ↓w_43_33, ↓q_43_34, ↓q_43_35, ↓q_43_36, ↓a_44, ↓s_44, ↓a_45, ↓s_45, ↓a_46, ↓s_46, ↓a_47, ↓s_47, ↓a_48, ↓s_48, ↓a_49, ↓s_49, ↓a_50, ↓s_50, ↓a_51, ↓s_51, ↓a_52, ↓s_52, ↓a_53, ↓s_53, ↓a_54, ↓s_54, ↓a_55, ↓s_55, ↓a_56, ↓s_56, ↓a_57, ↓s_57, ↓a_58, ↓s_58, ↓a_59, ↓s_59, ↓a_60, ↓s_60, ↓a_61, ↓s_61, ↓a_62, ↓s_62, ↓a_63, ↓s_63, ↓a_64, ↓s_64, ↓a_65, ↓s_65, ↓a_66, ↓s_66, ↓a_67, ↓s_67, ↓a_68, ↓s_68, ↓a_69, ↓s_69, ↓a_1, le0_T, le0_F, addm1, sA_1, sA_22, sL_1, sL_21, sF_2, sA_eq, sA_ne, sA_nj, sL_eq, sL_ne, sL_nj, sF_eq, sF_ne, sF_nj, le_T, le_F, lt_T, lt_F, lt0_F, eq_T, eq_F, eq_N, m9_F, m1_F, z_F, z_N, l2, l3, l4, l5, l6, l8, l12, l24, l40, l70, l96, l255, l256, l280, l320, c_Is, c_Js, c_Vs, c_An, c_Ar, if_bI, rI0, rI1, rIb, if00, if10, lg0, nI_1, nI_add, sub_1, sub_N, if_true, if_false, ite_true, ite_false, ge0_T, ge0_F, in_d, in_e, bitz, bito, mul_n, a_47, s_47, a_48, s_48, a_49, s_49, a_42, s_42, a_69, s_69, a_59, a_63, a_28, a_50, s_50, a_51, s_51, d1]
    exact g2 _ rfl
  · intro d S1 hd ⟨hf, hsh⟩
    left
    have e1 : S1.2.1 41 (D.length - d - 1) = nI (D.getD (D.length - d - 1) 0) := hsh.1 _ (by omega) (by omega)
    refine ⟨sA S1 41 (D.length - d) (nI (D.getD (D.length - d - 1) 0)), ⟨Fr_tr hf (Fr_sA (by decide)), shf_suc (by omega) hsh sA_eq (fun j hj => sA_nj hj)⟩, fun r hr => B_X3_split_5 _ _ _ _ _ ?_⟩
    have e3 : D.length - d - 1 = D.length - (d + 1) := by omega
    rw [← e3] at hr
    simp (disch := first | omega | assumption | exact bI_01 | exact Or.inl rfl | exact Or.inr rfl) only [↓reduceIte, ↓if_bI, ↓if10, ↓if00, bI_eq0, not_false_eq_true, not_true_eq_false, and_true, true_and, and_false, false_and, or_true, true_or, or_false, false_or, ↓c_Is, ↓c_Js, ↓c_Vs, ↓c_An, ↓c_Ar, ↓o_0, ↓q_0_0, ↓q_0_1, ↓q_0_2, ↓q_0_3, ↓q_0_4, ↓q_0_5, ↓q_0_6, ↓q_0_7, ↓w_0_7, ↓o_18, ↓q_18_0, ↓w_18_0, ↓q_18_1, ↓q_18_2, ↓q_18_3, ↓q_18_4, ↓a_19, ↓s_19, ↓a_20, ↓s_20, ↓a_21, ↓s_21, ↓a_22, ↓s_22, ↓o_23, ↓q_23_0, ↓w_23_0, ↓q_23_1, ↓w_23_1, ↓o_24, ↓q_24_0, ↓w_24_0, ↓q_24_1, ↓q_24_2, ↓q_24_3, ↓w_24_3, ↓q_24_4, ↓q_24_5, ↓a_25, ↓s_25, ↓a_26, ↓s_26, ↓a_27, ↓s_27, ↓a_28, ↓s_28, ↓o_29, ↓q_29_0, ↓w_29_0, ↓q_29_1, ↓w_29_1, ↓q_29_2, ↓w_29_2, ↓q_29_3, ↓q_29_4, ↓q_29_5, ↓q_29_6, ↓q_29_7, ↓w_29_7, ↓q_29_8, ↓q_29_9, ↓w_29_9, ↓q_29_10, ↓w_29_10, ↓q_29_11, ↓a_30, ↓s_30, ↓a_31, ↓s_31, ↓a_32, ↓s_32, ↓a_33, ↓s_33, ↓a_34, ↓s_34, ↓a_35, ↓s_35, ↓o_36, ↓q_36_0, ↓q_36_1, ↓w_36_1, ↓q_36_2, ↓w_36_2, ↓q_36_3, ↓q_36_4, ↓a_37, ↓s_37, ↓a_38, ↓s_38, ↓o_39, ↓q_39_0, ↓q_39_1, ↓w_39_1, ↓q_39_2, ↓q_39_3, ↓w_39_3, ↓q_39_4, ↓q_39_5, ↓a_40, ↓s_40, ↓a_41, ↓s_41, ↓a_42, ↓s_42, ↓o_43, ↓q_43_0, ↓w_43_0, ↓q_43_1, ↓q_43_2, ↓q_43_3, ↓q_43_4, ↓q_43_5, ↓q_43_6, ↓q_43_7, ↓q_43_8, ↓q_43_9, ↓w_43_9, ↓q_43_10, ↓q_43_11, ↓q_43_12, ↓q_43_13, ↓q_43_14, ↓w_43_14, ↓q_43_15, ↓w_43_15, ↓q_43_16, ↓q_43_17, ↓w_43_17, ↓q_43_18, ↓w_43_18, ↓q_43_19, ↓q_43_20, ↓q_43_21, ↓q_43_22, ↓w_43_22, ↓q_43_23, ↓w_43_23, ↓q_43_24, ↓q_43_25, ↓q_43_26, ↓w_43_26, ↓q_43_27, ↓q_43_28, ↓q_43_29, ↓w_43_29, ↓q_43_30, ↓q_43_31, ↓q_43_32, ↓q_43_33, ↓w_43_33, ↓q_43_34, ↓q_43_35, ↓q_43_36, ↓a_44, ↓s_44, ↓a_45, ↓s_45, ↓a_46, ↓s_46, ↓a_47, ↓s_47, ↓a_48, ↓s_48, ↓a_49, ↓s_49, ↓a_50, ↓s_50, ↓a_51, ↓s_51, ↓a_52, ↓s_52, ↓a_53, ↓s_53, ↓a_54, ↓s_54, ↓a_55, ↓s_55, ↓a_56, ↓s_56, ↓a_57, ↓s_57, ↓a_58, ↓s_58, ↓a_59, ↓s_59, ↓a_60, ↓s_60, ↓a_61, ↓s_61, ↓a_62, ↓s_62, ↓a_63, ↓s_63, ↓a_64, ↓s_64, ↓a_65, ↓s_65, ↓a_66, ↓s_66, ↓a_67, ↓s_67, ↓a_68, ↓s_68, ↓a_69, ↓s_69, ↓a_1, le0_T, le0_F, addm1, sA_1, sA_22, sL_1, sL_21, sF_2, sA_eq, sA_ne, sA_nj, sL_eq, sL_ne, sL_nj, sF_eq, sF_ne, sF_nj, le_T, le_F, lt_T, lt_F, lt0_F, eq_T, eq_F, eq_N, m9_F, m1_F, z_F, z_N, l2, l3, l4, l5, l6, l8, l12, l24, l40, l70, l96, l255, l256, l280, l320, c_Is, c_Js, c_Vs, c_An, c_Ar, if_bI, rI0, rI1, rIb, if00, if10, lg0, nI_1, nI_add, sub_1, sub_N, if_true, if_false, ite_true, ite_false, ge0_T, ge0_F, in_d, in_e, bitz, bito, mul_n, a_47, s_47, a_48, s_48, a_49, s_49, a_42, s_42, a_69, s_69, a_59, a_63, a_28, a_50, s_50, a_51, s_51, e1]
    exact hr
  · intro S1 ⟨hf, hsh⟩
    obtain ⟨S2, hS2, e2⟩ := closureOf_f (sc := sc) (FDq_fr hf rfl rfl h) (S1 := S1) ⟨Fr_refl _ _ _, MO_fr hf rfl hm⟩ hs
    have hcl := clo_lt F fx fy hy hs
    have e41 : S2.2.1 41 = S1.2.1 41 := (hS2.1.2 41 (by decide)).1
    have ei : S2.2.1 41 i = nI (D.getD i 0) := by rw [e41]; exact hsh.1 i (by omega) hi
    have e39 : S2.1 39 3 = nI D.length := ((hS2.1.1 39 3 (by decide)).trans (hf.1 39 3 (by decide))).trans d1
    refine ⟨sF (sA (sA S2 41 (i + 1) (nI ((D.getD i 0 &&& (clo F fx fy s ^^^ 2147483647)) ||| s))) 41 i (nI (D.getD i 0 &&& clo F fx fy s))) 39 3 (nI (D.length + 1)), ⟨?_, ?_, ?_, ?_, ?_, spt_lt hy hi d4 hs⟩, fun r hr => B_X3_split_5 _ _ _ _ _ ?_⟩
    · exact Fr_tr (Fr_w hf (by decide) (by decide)) (Fr_tr (Fr_w hS2.1 (by decide) (by decide)) (Fr_tr (Fr_sA (by decide)) (Fr_tr (Fr_sA (by decide)) (Fr_sF (by decide)))))
    · simp (disch := omega) only [sA_1, sA_22, sL_1, sL_21, sF_2, sA_eq, sA_ne, sA_nj, sL_eq, sL_ne, sL_nj, sF_eq, sF_ne, sF_nj]
      exact hS2.2
    · rw [spt_len hi]
      simp (disch := omega) only [sA_1, sA_22, sL_1, sL_21, sF_2, sA_eq, sA_ne, sA_nj, sL_eq, sL_ne, sL_nj, sF_eq, sF_ne, sF_nj]
    · rw [spt_len hi]; omega
    · refine shf_end hi (A := S2.2.1 41) (by rw [e41]; exact hsh) ?_ ?_ ?_
      · simp (disch := omega) only [sA_1, sA_22, sL_1, sL_21, sF_2, sA_eq, sA_ne, sA_nj, sL_eq, sL_ne, sL_nj, sF_eq, sF_ne, sF_nj]
      · simp (disch := omega) only [sA_1, sA_22, sL_1, sL_21, sF_2, sA_eq, sA_ne, sA_nj, sL_eq, sL_ne, sL_nj, sF_eq, sF_ne, sF_nj]
      · intro j j1 j2
        simp (disch := omega) only [sA_1, sA_22, sL_1, sL_21, sF_2, sA_eq, sA_ne, sA_nj, sL_eq, sL_ne, sL_nj, sF_eq, sF_ne, sF_nj]
    · rw [show D.length - (D.length - (i + 1)) = i + 1 by omega]
      simp (disch := first | omega | assumption | exact bI_01 | exact Or.inl rfl | exact Or.inr rfl) only [↓reduceIte, ↓if_bI, ↓if10, ↓if00, bI_eq0, not_false_eq_true, not_true_eq_false, and_true, true_and, and_false, false_and, or_true, true_or, or_false, false_or, ↓c_Is, ↓c_Js, ↓c_Vs, ↓c_An, ↓c_Ar, ↓o_0, ↓q_0_0, ↓q_0_1, ↓q_0_2, ↓q_0_3, ↓q_0_4, ↓q_0_5, ↓q_0_6, ↓q_0_7, ↓w_0_7, ↓o_18, ↓q_18_0, ↓w_18_0, ↓q_18_1, ↓q_18_2, ↓q_18_3, ↓q_18_4, ↓a_19, ↓s_19, ↓a_20, ↓s_20, ↓a_21, ↓s_21, ↓a_22, ↓s_22, ↓o_23, ↓q_23_0, ↓w_23_0, ↓q_23_1, ↓w_23_1, ↓o_24, ↓q_24_0, ↓w_24_0, ↓q_24_1, ↓q_24_2, ↓q_24_3, ↓w_24_3, ↓q_24_4, ↓q_24_5, ↓a_25, ↓s_25, ↓a_26, ↓s_26, ↓a_27, ↓s_27, ↓a_28, ↓s_28, ↓o_29, ↓q_29_0, ↓w_29_0, ↓q_29_1, ↓w_29_1, ↓q_29_2, ↓w_29_2, ↓q_29_3, ↓q_29_4, ↓q_29_5, ↓q_29_6, ↓q_29_7, ↓w_29_7, ↓q_29_8, ↓q_29_9, ↓w_29_9, ↓q_29_10, ↓w_29_10, ↓q_29_11, ↓a_30, ↓s_30, ↓a_31, ↓s_31, ↓a_32, ↓s_32, ↓a_33, ↓s_33, ↓a_34, ↓s_34, ↓a_35, ↓s_35, ↓o_36, ↓q_36_0, ↓q_36_1, ↓w_36_1, ↓q_36_2, ↓w_36_2, ↓q_36_3, ↓q_36_4, ↓a_37, ↓s_37, ↓a_38, ↓s_38, ↓o_39, ↓q_39_0, ↓q_39_1, ↓w_39_1, ↓q_39_2, ↓q_39_3, ↓w_39_3, ↓q_39_4, ↓q_39_5, ↓a_40, ↓s_40, ↓a_41, ↓s_41, ↓a_42, ↓s_42, ↓o_43, ↓q_43_0, ↓w_43_0, ↓q_43_1, ↓q_43_2, ↓q_43_3, ↓q_43_4, ↓q_43_5, ↓q_43_6, ↓q_43_7, ↓q_43_8, ↓q_43_9, ↓w_43_9, ↓q_43_10, ↓q_43_11, ↓q_43_12, ↓q_43_13, ↓q_43_14, ↓w_43_14, ↓q_43_15, ↓w_43_15, ↓q_43_16, ↓q_43_17, ↓w_43_17, ↓q_43_18, ↓w_43_18, ↓q_43_19, ↓q_43_20, ↓q_43_21, ↓q_43_22, ↓w_43_22, ↓q_43_23, ↓w_43_23, ↓q_43_24, ↓q_43_25, ↓q_43_26, ↓w_43_26, ↓q_43_27, ↓q_43_28, ↓q_43_29, ↓w_43_29, ↓q_43_30, ↓q_43_31, ↓q_43_32, ↓q_43_33, ↓w_43_33, ↓q_43_34, ↓q_43_35, ↓q_43_36, ↓a_44, ↓s_44, ↓a_45, ↓s_45, ↓a_46, ↓s_46, ↓a_47, ↓s_47, ↓a_48, ↓s_48, ↓a_49, ↓s_49, ↓a_50, ↓s_50, ↓a_51, ↓s_51, ↓a_52, ↓s_52, ↓a_53, ↓s_53, ↓a_54, ↓s_54, ↓a_55, ↓s_55, ↓a_56, ↓s_56, ↓a_57, ↓s_57, ↓a_58, ↓s_58, ↓a_59, ↓s_59, ↓a_60, ↓s_60, ↓a_61, ↓s_61, ↓a_62, ↓s_62, ↓a_63, ↓s_63, ↓a_64, ↓s_64, ↓a_65, ↓s_65, ↓a_66, ↓s_66, ↓a_67, ↓s_67, ↓a_68, ↓s_68, ↓a_69, ↓s_69, ↓a_1, le0_T, le0_F, addm1, sA_1, sA_22, sL_1, sL_21, sF_2, sA_eq, sA_ne, sA_nj, sL_eq, sL_ne, sL_nj, sF_eq, sF_ne, sF_nj, le_T, le_F, lt_T, lt_F, lt0_F, eq_T, eq_F, eq_N, m9_F, m1_F, z_F, z_N, l2, l3, l4, l5, l6, l8, l12, l24, l40, l70, l96, l255, l256, l280, l320, c_Is, c_Js, c_Vs, c_An, c_Ar, if_bI, rI0, rI1, rIb, if00, if10, lg0, nI_1, nI_add, sub_1, sub_N, if_true, if_false, ite_true, ite_false, ge0_T, ge0_F, in_d, in_e, bitz, bito, mul_n, a_47, s_47, a_48, s_48, a_49, s_49, a_42, s_42, a_69, s_69, a_59, a_63, a_28, a_50, s_50, a_51, s_51, ↓cI (e2), ei, andn_n, fa_or, fa_and, e39]
      exact hr
/-- whether a set is parted -/
abbrev spl (F : Nat) (fx fy : Nat → Nat) (t : Nat) : Prop := fa_first (spP F fx fy t) (t + 1) < t + 1
def fiP (F : Nat) (fx fy : Nat → Nat) (D : List Nat) (i : Nat) : Bool := decide (spl F fx fy (D.getD i 0))
abbrev splD (F : Nat) (fx fy : Nat → Nat) (D : List Nat) : Prop := fa_first (fiP F fx fy D) D.length < D.length
def sStep (F : Nat) (fx fy : Nat → Nat) (D : List Nat) : List Nat := spt F fx fy D (fa_first (fiP F fx fy D) D.length) (fa_first (spP F fx fy (D.getD (fa_first (fiP F fx fy D) D.length) 0)) (D.getD (fa_first (fiP F fx fy D) D.length) 0 + 1))
def Dn (F : Nat) (fx fy : Nat → Nat) (a : Nat) (n : Nat) : List Nat := it (fun _ D => sStep F fx fy D) n [a]
theorem splitFirst_s (h : FD S F fx fy) (hm : MO F fx fy (S.2.1 33)) (hD : DrC S D) (hl : D.length < 321) : ∃ S', (Fr [(39, 3)] [33, 41] S S' ∧ MO F fx fy (S'.2.1 33) ∧ (splD F fx fy D → DrC S' (sStep F fx fy D)) ∧ (¬ splD F fx fy D → DrC S' D)) ∧ Rc 29 [.ref 39] (enc sc S) = some (some (.int (bI (splD F fx fy D))), enc sc S') := by
  have hD0 := hD
  obtain ⟨d1, d2, d3, d4⟩ := hD
  have key := loop_to (F := D.length) (G := fun i S1 => Rs 29 2 [.ref 39, .int (nI i), UU] [] (enc sc S1)) (O := fun S' => some (some (.int (bI (splD F fx fy D))), enc sc S')) (J := fun S' => Fr [(39, 3)] [33, 41] S S' ∧ MO F fx fy (S'.2.1 33) ∧ (splD F fx fy D → DrC S' (sStep F fx fy D)) ∧ (¬ splD F fx fy D → DrC S' D)) (I := fun i S1 => MS S F fx fy S1 ∧ ∀ j, j < i → ¬ spl F fx fy (D.getD j 0)) ?_ ?_ S ⟨⟨Fr_refl _ _ _, hm⟩, fun j hj => absurd hj (Nat.not_lt_zero j)⟩
  · obtain ⟨S', g1, g2⟩ := key
    exact ⟨S', g1, Rc_of rfl rfl (B_X3_splitFirst_0 _ _ (g2 _ rfl))⟩
  · intro i S1 hi ⟨hS, hno⟩
    have hdi := P_lt d4 hi
    obtain ⟨S2, hS2, e2⟩ := splitterOf_s (sc := sc) h hS hdi
    have e39 : S1.1 39 3 = nI D.length := (hS.1.1 39 3 (by decide)).trans d1
    have e41 : S1.2.1 41 i = nI (D.getD i 0) := by rw [(hS.1.2 41 (by decide)).1]; exact d3 i hi
    by_cases q : spl F fx fy (D.getD i 0)
    · right
      have efi : fa_first (fiP F fx fy D) D.length = i := by
        have h1 : fa_first (fiP F fx fy D) D.length < D.length := ff_iff.mpr ⟨i, hi, decide_eq_true q⟩
        rcases Nat.lt_trichotomy (fa_first (fiP F fx fy D) D.length) i with z | z | z
        · exact absurd (of_decide_eq_true (fa_first_yes _ _ h1)) (hno _ z)
        · exact z
        · exact absurd q (of_decide_eq_false (fa_first_no _ _ i z))
      have hsD : splD F fx fy D := by show fa_first _ _ < _; rw [efi]; exact hi
      have hle : fa_first (spP F fx fy (D.getD i 0)) (D.getD i 0 + 1) < 256 := by
        have : fa_first (spP F fx fy (D.getD i 0)) (D.getD i 0 + 1) < D.getD i 0 + 1 := q
        omega
      have hD2 : DrC S2 D := ⟨(hS2.1.1 39 3 (by decide)).trans d1, d2, by rw [(hS2.1.2 41 (by decide)).1]; exact d3, d4⟩
      obtain ⟨S3, ⟨k1, k2, k3⟩, e3⟩ := split_s (sc := sc) (FDq_fr hS2.1 rfl rfl h) hS2.2 hD2 hl hi hle
      rw [if_pos (show fa_first (spP F fx fy (D.getD i 0)) (D.getD i 0 + 1) < D.getD i 0 + 1 from q)] at e2
      refine ⟨S3, ⟨Fr_tr (Fr_w hS2.1 (by decide) (by decide)) k1, k2, fun _ => ?_, fun z => absurd hsD z⟩, fun r hr => B_X3_splitFirst_2 _ _ _ ?_⟩
      · unfold sStep
        rw [efi]
        exact k3
      · rw [bI_t hsD] at hr
        simp (disch := first | omega | assumption | exact bI_01 | exact Or.inl rfl | exact Or.inr rfl) only [↓reduceIte, ↓if_bI, ↓if10, ↓if00, bI_eq0, not_false_eq_true, not_true_eq_false, and_true, true_and, and_false, false_and, or_true, true_or, or_false, false_or, ↓c_Is, ↓c_Js, ↓c_Vs, ↓c_An, ↓c_Ar, ↓o_0, ↓q_0_0, ↓q_0_1, ↓q_0_2, ↓q_0_3, ↓q_0_4, ↓q_0_5, ↓q_0_6, ↓q_0_7, ↓w_0_7, ↓o_18, ↓q_18_0, ↓w_18_0, ↓q_18_1, ↓q_18_2, ↓q_18_3, ↓q_18_4, ↓a_19, ↓s_19, ↓a_20, ↓s_20, ↓a_21, ↓s_21, ↓a_22, ↓s_22, ↓o_23, ↓q_23_0, ↓w_23_0, ↓q_23_1, ↓w_23_1, ↓o_24, ↓q_24_0, ↓w_24_0, ↓q_24_1, ↓q_24_2, ↓q_24_3, ↓w_24_3, ↓q_24_4, ↓q_24_5, ↓a_25, ↓s_25, ↓a_26, ↓s_26, ↓a_27, ↓s_27, ↓a_28, ↓s_28, ↓o_29, ↓q_29_0, ↓w_29_0, ↓q_29_1, ↓w_29_1, ↓q_29_2, ↓w_29_2, ↓q_29_3, ↓q_29_4, ↓q_29_5, ↓q_29_6, ↓q_29_7, ↓w_29_7, ↓q_29_8, ↓q_29_9, ↓w_29_9, ↓q_29_10, ↓w_29_10, ↓q_29_11, ↓a_30, ↓s_30, ↓a_31, ↓s_31, ↓a_32, ↓s_32, ↓a_33, ↓s_33, ↓a_34, ↓s_34, ↓a_35, ↓s_35, ↓o_36, ↓q_36_0, ↓q_36_1, ↓w_36_1, ↓q_36_2, ↓w_36_2, ↓q_36_3, ↓q_36_4, ↓a_37, ↓s_37, ↓a_38, ↓s_38, ↓o_39, ↓q_39_0, ↓q_39_1, ↓w_39_1, ↓q_39_2, ↓q_39_3, ↓w_39_3, ↓q_39_4, ↓q_39_5, ↓a_40, ↓s_40, ↓a_41, ↓s_41, ↓a_42, ↓s_42, ↓o_43, ↓q_43_0, ↓w_43_0, ↓q_43_1, ↓q_43_2, ↓q_43_3, ↓q_43_4, ↓q_43_5, ↓q_43_6, ↓q_43_7, ↓q_43_8, ↓q_43_9, ↓w_43_9, ↓q_43_10, ↓q_43_11, ↓q_43_12, ↓q_43_13, ↓q_43_14, ↓w_43_14, ↓q_43_15, ↓w_43_15, ↓q_43_16, ↓q_43_17, ↓w_43_17, ↓q_43_18, ↓w_43_18, ↓q_43_19, ↓q_43_20, ↓q_43_21, ↓q_43_22, ↓w_43_22, ↓q_43_23, ↓w_43_23, ↓q_43_24, ↓q_43_25, ↓q_43_26, ↓w_43_26, ↓q_43_27, ↓q_43_28, ↓q_43_29, ↓w_43_29, ↓q_43_30, ↓q_43_31, ↓q_43_32, ↓q_43_33, ↓w_43_33, ↓q_43_34, ↓q_43_35, ↓q_43_36, ↓a_44, ↓s_44, ↓a_45, ↓s_45, ↓a_46, ↓s_46, ↓a_47, ↓s_47, ↓a_48, ↓s_48, ↓a_49, ↓s_49, ↓a_50, ↓s_50, ↓a_51, ↓s_51, ↓a_52, ↓s_52, ↓a_53, ↓s_53, ↓a_54, ↓s_54, ↓a_55, ↓s_55, ↓a_56, ↓s_56, ↓a_57, ↓s_57, ↓a_58, ↓s_58, ↓a_59, ↓s_59, ↓a_60, ↓s_60, ↓a_61, ↓s_61, ↓a_62, ↓s_62, ↓a_63, ↓s_63, ↓a_64, ↓s_64, ↓a_65, ↓s_65, ↓a_66, ↓s_66, ↓a_67, ↓s_67, ↓a_68, ↓s_68, ↓a_69, ↓s_69, ↓a_1, le0_T, le0_F, addm1, sA_1, sA_22, sL_1, sL_21, sF_2, sA_eq, sA_ne, sA_nj, sL_eq, sL_ne, sL_nj, sF_eq, sF_ne, sF_nj, le_T, le_F, lt_T, lt_F, lt0_F, eq_T, eq_F, eq_N, m9_F, m1_F, z_F, z_N, l2, l3, l4, l5, l6, l8, l12, l24, l40, l70, l96, l255, l256, l280, l320, c_Is, c_Js, c_Vs, c_An, c_Ar, if_bI, rI0, rI1, rIb, if00, if10, lg0, nI_1, nI_add, sub_1, sub_N, if_true, if_false, ite_true, ite_false, ge0_T, ge0_F, in_d, in_e, bitz, bito, mul_n, a_47, s_47, a_48, s_48, a_49, s_49, a_42, s_42, a_69, s_69, a_59, a_63, a_28, a_50, s_50, a_51, s_51, e39, e41, ↓cI (e2), ↓cV (e3)]
        exact hr
    · left
      rw [if_neg (show ¬ fa_first (spP F fx fy (D.getD i 0)) (D.getD i 0 + 1) < D.getD i 0 + 1 from q)] at e2
      refine ⟨S2, ⟨hS2, fun j hj => ?_⟩, fun r hr => B_X3_splitFirst_2 _ _ _ ?_⟩
      · by_cases z : j = i
        · rw [z]; exact q
        · exact hno j (by omega)
      · simp (disch := first | omega | assumption | exact bI_01 | exact Or.inl rfl | exact Or.inr rfl) only [↓reduceIte, ↓if_bI, ↓if10, ↓if00, bI_eq0, not_false_eq_true, not_true_eq_false, and_true, true_and, and_false, false_and, or_true, true_or, or_false, false_or, ↓c_Is, ↓c_Js, ↓c_Vs, ↓c_An, ↓c_Ar, ↓o_0, ↓q_0_0, ↓q_0_1, ↓q_0_2, ↓q_0_3, ↓q_0_4, ↓q_0_5, ↓q_0_6, ↓q_0_7, ↓w_0_7, ↓o_18, ↓q_18_0, ↓w_18_0, ↓q_18_1, ↓q_18_2, ↓q_18_3, ↓q_18_4, ↓a_19, ↓s_19, ↓a_20, ↓s_20, ↓a_21, ↓s_21, ↓a_22, ↓s_22, ↓o_23, ↓q_23_0, ↓w_23_0, ↓q_23_1, ↓w_23_1, ↓o_24, ↓q_24_0, ↓w_24_0, ↓q_24_1, ↓q_24_2, ↓q_24_3, ↓w_24_3, ↓q_24_4, ↓q_24_5, ↓a_25, ↓s_25, ↓a_26, ↓s_26, ↓a_27, ↓s_27, ↓a_28, ↓s_28, ↓o_29, ↓q_29_0, ↓w_29_0, ↓q_29_1, ↓w_29_1, ↓q_29_2, ↓w_29_2, ↓q_29_3, ↓q_29_4, ↓q_29_5, ↓q_29_6, ↓q_29_7, ↓w_29_7, ↓q_29_8, ↓q_29_9, ↓w_29_9, ↓q_29_10, ↓w_29_10, ↓q_29_11, ↓a_30, ↓s_30, ↓a_31, ↓s_31, ↓a_32, ↓s_32, ↓a_33, ↓s_33, ↓a_34, ↓s_34, ↓a_35, ↓s_35, ↓o_36, ↓q_36_0, ↓q_36_1, ↓w_36_1, ↓q_36_2, ↓w_36_2, ↓q_36_3, ↓q_36_4, ↓a_37, ↓s_37, ↓a_38, ↓s_38, ↓o_39, ↓q_39_0, ↓q_39_1, ↓w_39_1, ↓q_39_2, ↓q_39_3, ↓w_39_3, ↓q_39_4, ↓q_39_5, ↓a_40, ↓s_40, ↓a_41, ↓s_41, ↓a_42, ↓s_42, ↓o_43, ↓q_43_0, ↓w_43_0, ↓q_43_1, ↓q_43_2, ↓q_43_3, ↓q_43_4, ↓q_43_5, ↓q_43_6, ↓q_43_7, ↓q_43_8, ↓q_43_9, ↓w_43_9, ↓q_43_10, ↓q_43_11, ↓q_43_12, ↓q_43_13, ↓q_43_14, ↓w_43_14, ↓q_43_15, ↓w_43_15, ↓q_43_16, ↓q_43_17, ↓w_43_17, ↓q_43_18, ↓w_43_18, ↓q_43_19, ↓q_43_20, ↓q_43_21, ↓q_43_22, ↓w_43_22, ↓q_43_23, ↓w_43_23, ↓q_43_24, ↓q_43_25, ↓q_43_26, ↓w_43_26, ↓q_43_27, ↓q_43_28, ↓q_43_29, ↓w_43_29, ↓q_43_30, ↓q_43_31, ↓q_43_32, ↓q_43_33, ↓w_43_33, ↓q_43_34, ↓q_43_35, ↓q_43_36, ↓a_44, ↓s_44, ↓a_45, ↓s_45, ↓a_46, ↓s_46, ↓a_47, ↓s_47, ↓a_48, ↓s_48, ↓a_49, ↓s_49, ↓a_50, ↓s_50, ↓a_51, ↓s_51, ↓a_52, ↓s_52, ↓a_53, ↓s_53, ↓a_54, ↓s_54, ↓a_55, ↓s_55, ↓a_56, ↓s_56, ↓a_57, ↓s_57, ↓a_58, ↓s_58, ↓a_59, ↓s_59, ↓a_60, ↓s_60, ↓a_61, ↓s_61, ↓a_62, ↓s_62, ↓a_63, ↓s_63, ↓a_64, ↓s_64, ↓a_65, ↓s_65, ↓a_66, ↓s_66, ↓a_67, ↓s_67, ↓a_68, ↓s_68, ↓a_69, ↓s_69, ↓a_1, le0_T, le0_F, addm1, sA_1, sA_22, sL_1, sL_21, sF_2, sA_eq, sA_ne, sA_nj, sL_eq, sL_ne, sL_nj, sF_eq, sF_ne, sF_nj, le_T, le_F, lt_T, lt_F, lt0_F, eq_T, eq_F, eq_N, m9_F, m1_F, z_F, z_N, l2, l3, l4, l5, l6, l8, l12, l24, l40, l70, l96, l255, l256, l280, l320, c_Is, c_Js, c_Vs, c_An, c_Ar, if_bI, rI0, rI1, rIb, if00, if10, lg0, nI_1, nI_add, sub_1, sub_N, if_true, if_false, ite_true, ite_false, ge0_T, ge0_F, in_d, in_e, bitz, bito, mul_n, a_47, s_47, a_48, s_48, a_49, s_49, a_42, s_42, a_69, s_69, a_59, a_63, a_28, a_50, s_50, a_51, s_51, e39, e41, ↓cI (e2), if_true]
        exact hr
  · intro S1 ⟨hS, hno⟩
    have e39 : S1.1 39 3 = nI D.length := (hS.1.1 39 3 (by decide)).trans d1
    have hsD : ¬ splD F fx fy D := fun z => hno _ z (of_decide_eq_true (fa_first_yes _ _ z))
    refine ⟨S1, ⟨Fr_w hS.1 (by decide) (by decide), hS.2, fun z => absurd z hsD, fun _ => ⟨e39, d2, by rw [(hS.1.2 41 (by decide)).1]; exact d3, d4⟩⟩, fun r hr => B_X3_splitFirst_2 _ _ _ ?_⟩
    rw [bI_f hsD] at hr
    simp (disch := first | omega | assumption | exact bI_01 | exact Or.inl rfl | exact Or.inr rfl) only [↓reduceIte, ↓if_bI, ↓if10, ↓if00, bI_eq0, not_false_eq_true, not_true_eq_false, and_true, true_and, and_false, false_and, or_true, true_or, or_false, false_or, ↓c_Is, ↓c_Js, ↓c_Vs, ↓c_An, ↓c_Ar, ↓o_0, ↓q_0_0, ↓q_0_1, ↓q_0_2, ↓q_0_3, ↓q_0_4, ↓q_0_5, ↓q_0_6, ↓q_0_7, ↓w_0_7, ↓o_18, ↓q_18_0, ↓w_18_0, ↓q_18_1, ↓q_18_2, ↓q_18_3, ↓q_18_4, ↓a_19, ↓s_19, ↓a_20, ↓s_20, ↓a_21, ↓s_21, ↓a_22, ↓s_22, ↓o_23, ↓q_23_0, ↓w_23_0, ↓q_23_1, ↓w_23_1, ↓o_24, ↓q_24_0, ↓w_24_0, ↓q_24_1, ↓q_24_2, ↓q_24_3, ↓w_24_3, ↓q_24_4, ↓q_24_5, ↓a_25, ↓s_25, ↓a_26, ↓s_26, ↓a_27, ↓s_27, ↓a_28, ↓s_28, ↓o_29, ↓q_29_0, ↓w_29_0, ↓q_29_1, ↓w_29_1, ↓q_29_2, ↓w_29_2, ↓q_29_3, ↓q_29_4, ↓q_29_5, ↓q_29_6, ↓q_29_7, ↓w_29_7, ↓q_29_8, ↓q_29_9, ↓w_29_9, ↓q_29_10, ↓w_29_10, ↓q_29_11, ↓a_30, ↓s_30, ↓a_31, ↓s_31, ↓a_32, ↓s_32, ↓a_33, ↓s_33, ↓a_34, ↓s_34, ↓a_35, ↓s_35, ↓o_36, ↓q_36_0, ↓q_36_1, ↓w_36_1, ↓q_36_2, ↓w_36_2, ↓q_36_3, ↓q_36_4, ↓a_37, ↓s_37, ↓a_38, ↓s_38, ↓o_39, ↓q_39_0, ↓q_39_1, ↓w_39_1, ↓q_39_2, ↓q_39_3, ↓w_39_3, ↓q_39_4, ↓q_39_5, ↓a_40, ↓s_40, ↓a_41, ↓s_41, ↓a_42, ↓s_42, ↓o_43, ↓q_43_0, ↓w_43_0, ↓q_43_1, ↓q_43_2, ↓q_43_3, ↓q_43_4, ↓q_43_5, ↓q_43_6, ↓q_43_7, ↓q_43_8, ↓q_43_9, ↓w_43_9, ↓q_43_10, ↓q_43_11, ↓q_43_12, ↓q_43_13, ↓q_43_14, ↓w_43_14, ↓q_43_15, ↓w_43_15, ↓q_43_16, ↓q_43_17, ↓w_43_17, ↓q_43_18, ↓w_43_18, ↓q_43_19, ↓q_43_20, ↓q_43_21, ↓q_43_22, ↓w_43_22, ↓q_43_23, ↓w_43_23, ↓q_43_24, ↓q_43_25, ↓q_43_26, ↓w_43_26, ↓q_43_27, ↓q_43_28, ↓q_43_29, ↓w_43_29, ↓q_43_30, ↓q_43_31, ↓q_43_32, ↓q_43_33, ↓w_43_33, ↓q_43_34, ↓q_43_35, ↓q_43_36, ↓a_44, ↓s_44, ↓a_45, ↓s_45, ↓a_46, ↓s_46, ↓a_47, ↓s_47, ↓a_48, ↓s_48, ↓a_49, ↓s_49, ↓a_50, ↓s_50, ↓a_51, ↓s_51, ↓a_52, ↓s_52, ↓a_53, ↓s_53, ↓a_54, ↓s_54, ↓a_55, ↓s_55, ↓a_56, ↓s_56, ↓a_57, ↓s_57, ↓a_58, ↓s_58, ↓a_59, ↓s_59, ↓a_60, ↓s_60, ↓a_61, ↓s_61, ↓a_62, ↓s_62, ↓a_63, ↓s_63, ↓a_64, ↓s_64, ↓a_65, ↓s_65, ↓a_66, ↓s_66, ↓a_67, ↓s_67, ↓a_68, ↓s_68, ↓a_69, ↓s_69, ↓a_1, le0_T, le0_F, addm1, sA_1, sA_22, sL_1, sL_21, sF_2, sA_eq, sA_ne, sA_nj, sL_eq, sL_ne, sL_nj, sF_eq, sF_ne, sF_nj, le_T, le_F, lt_T, lt_F, lt0_F, eq_T, eq_F, eq_N, m9_F, m1_F, z_F, z_N, l2, l3, l4, l5, l6, l8, l12, l24, l40, l70, l96, l255, l256, l280, l320, c_Is, c_Js, c_Vs, c_An, c_Ar, if_bI, rI0, rI1, rIb, if00, if10, lg0, nI_1, nI_add, sub_1, sub_N, if_true, if_false, ite_true, ite_false, ge0_T, ge0_F, in_d, in_e, bitz, bito, mul_n, a_47, s_47, a_48, s_48, a_49, s_49, a_42, s_42, a_69, s_69, a_59, a_63, a_28, a_50, s_50, a_51, s_51, e39]
    exact hr
/-- how often it is split -/
def pst (F : Nat) (fx fy : Nat → Nat) (a : Nat) : Nat := fa_first (fun p => decide (¬ splD F fx fy (Dn F fx fy a p))) 12
theorem Dn_suc (a p : Nat) : Dn F fx fy a (p + 1) = sStep F fx fy (Dn F fx fy a p) := rfl
theorem Dn_len {a : Nat} : ∀ p, (∀ j, j < p → splD F fx fy (Dn F fx fy a j)) → (Dn F fx fy a p).length = p + 1
  | 0, _ => rfl
  | p + 1, h => by
    rw [Dn_suc]
    unfold sStep
    rw [spt_len (h p (by omega)), Dn_len p (fun j hj => h j (by omega))]
theorem pst_eq {a p : Nat} (hp : p ≤ 12) (h1 : ∀ j, j < p → splD F fx fy (Dn F fx fy a j)) (h2 : p = 12 ∨ ¬ splD F fx fy (Dn F fx fy a p)) : pst F fx fy a = p := by
  unfold pst
  have hle := fa_first_le (fun p => decide (¬ splD F fx fy (Dn F fx fy a p))) 12
  rcases Nat.lt_trichotomy (fa_first (fun p => decide (¬ splD F fx fy (Dn F fx fy a p))) 12) p with z | z | z
  · exact absurd (h1 _ z) (of_decide_eq_true (fa_first_yes (fun p => decide (¬ splD F fx fy (Dn F fx fy a p))) 12 (by omega)))
  · exact z
  · rcases h2 with h2 | h2
    · omega
    · have := of_decide_eq_false (fa_first_no (fun p => decide (¬ splD F fx fy (Dn F fx fy a p))) 12 p z)
      exact absurd h2 this
theorem becomeStrict_s (h : FD S F fx fy) (hm : MO F fx fy (S.2.1 33)) (hw : WiC S w) : ∃ S' D, D = Dn F fx fy (2 ^ w - 1) (pst F fx fy (2 ^ w - 1)) ∧ (Fr [(39, 1), (39, 3)] [33, 40, 41] S S' ∧ MO F fx fy (S'.2.1 33) ∧ (∀ d, d ∈ D → d < 256) ∧ (D.length ≤ 12 → PaC S' D) ∧ (¬ D.length ≤ 12 → S'.1 39 1 = S.1 39 1 ∧ S'.2.1 40 = S.2.1 40)) ∧ Rc 28 [.ref 39] (enc sc S) = some (some (.int (bI (D.length ≤ 12))), enc sc S') := by
  have hw8 := all_lt hw.2.2.2
  have e29 := hw.2.1
  have fin : ∀ p S1, p ≤ 12 → Fr [(39, 3)] [33, 41] S S1 → MO F fx fy (S1.2.1 33) → DrC S1 (Dn F fx fy (2 ^ w - 1) p) → (∀ j, j < p → splD F fx fy (Dn F fx fy (2 ^ w - 1) j)) → (p = 12 ∨ ¬ splD F fx fy (Dn F fx fy (2 ^ w - 1) p)) → ∃ S', (Fr [(39, 1), (39, 3)] [33, 40, 41] S S' ∧ MO F fx fy (S'.2.1 33) ∧ (∀ d, d ∈ Dn F fx fy (2 ^ w - 1) (pst F fx fy (2 ^ w - 1)) → d < 256) ∧ ((Dn F fx fy (2 ^ w - 1) (pst F fx fy (2 ^ w - 1))).length ≤ 12 → PaC S' (Dn F fx fy (2 ^ w - 1) (pst F fx fy (2 ^ w - 1)))) ∧ (¬ (Dn F fx fy (2 ^ w - 1) (pst F fx fy (2 ^ w - 1))).length ≤ 12 → S'.1 39 1 = S.1 39 1 ∧ S'.2.1 40 = S.2.1 40)) ∧ Rc 31 [.ref 39] (enc sc S1) = some (some (.int (bI ((Dn F fx fy (2 ^ w - 1) (pst F fx fy (2 ^ w - 1))).length ≤ 12))), enc sc S') := by
    intro p S1 hp hf hm1 hD hno hq
    rw [pst_eq hp hno hq]
    obtain ⟨S2, ⟨k1, k2, k3⟩, e⟩ := takeDraft_s (sc := sc) hD
    refine ⟨S2, ⟨Fr_tr (Fr_w hf (by decide) (by decide)) (Fr_w k1 (by decide) (by decide)), by rw [(k1.2 33 (by decide)).1]; exact hm1, hD.2.2.2, k2, fun z => ?_⟩, e⟩
    rw [k3 z]
    exact ⟨hf.1 39 1 (by decide), (hf.2 40 (by decide)).1⟩
  have key := loop_to (F := 12) (G := fun p S1 => Rs 28 20 [.ref 39, .int (nI p)] [] (enc sc S1)) (O := fun S' => some (some (.int (bI ((Dn F fx fy (2 ^ w - 1) (pst F fx fy (2 ^ w - 1))).length ≤ 12))), enc sc S')) (J := fun S' => Fr [(39, 1), (39, 3)] [33, 40, 41] S S' ∧ MO F fx fy (S'.2.1 33) ∧ (∀ d, d ∈ Dn F fx fy (2 ^ w - 1) (pst F fx fy (2 ^ w - 1)) → d < 256) ∧ ((Dn F fx fy (2 ^ w - 1) (pst F fx fy (2 ^ w - 1))).length ≤ 12 → PaC S' (Dn F fx fy (2 ^ w - 1) (pst F fx fy (2 ^ w - 1)))) ∧ (¬ (Dn F fx fy (2 ^ w - 1) (pst F fx fy (2 ^ w - 1))).length ≤ 12 → S'.1 39 1 = S.1 39 1 ∧ S'.2.1 40 = S.2.1 40)) (I := fun p S1 => Fr [(39, 3)] [33, 41] S S1 ∧ MO F fx fy (S1.2.1 33) ∧ DrC S1 (Dn F fx fy (2 ^ w - 1) p) ∧ ∀ j, j < p → splD F fx fy (Dn F fx fy (2 ^ w - 1) j)) ?_ ?_ (sF (sA S 41 0 (nI (2 ^ w - 1))) 39 3 (nI 1)) ⟨Fr_tr (Fr_sA (by decide)) (Fr_sF (by decide)), ?_, ⟨sF_eq, show 1 ≤ 321 by decide, ?_, ?_⟩, fun j hj => absurd hj (Nat.not_lt_zero j)⟩
  · obtain ⟨S', g1, g2⟩ := key
    refine ⟨S', _, rfl, g1, Rc_of rfl rfl (B_X3_becomeStrict_0 _ _ ?_)⟩
    have a0 : ∀ x Kt, w_I (enc sc S) 41 0 x Kt = Kt (enc sc (sA S 41 0 x)) := fun x Kt => s_41 (i := 0) (by decide)
    have n1 : (1 : Int32) = nI 1 := rfl
    simp (disch := first | omega | assumption | exact bI_01 | exact Or.inl rfl | exact Or.inr rfl) only [↓reduceIte, ↓if_bI, ↓if10, ↓if00, bI_eq0, not_false_eq_true, not_true_eq_false, and_true, true_and, and_false, false_and, or_true, true_or, or_false, false_or, ↓c_Is, ↓c_Js, ↓c_Vs, ↓c_An, ↓c_Ar, ↓o_0, ↓q_0_0, ↓q_0_1, ↓q_0_2, ↓q_0_3, ↓q_0_4, ↓q_0_5, ↓q_0_6, ↓q_0_7, ↓w_0_7, ↓o_18, ↓q_18_0, ↓w_18_0, ↓q_18_1, ↓q_18_2, ↓q_18_3, ↓q_18_4, ↓a_19, ↓s_19, ↓a_20, ↓s_20, ↓a_21, ↓s_21, ↓a_22, ↓s_22, ↓o_23, ↓q_23_0, ↓w_23_0, ↓q_23_1, ↓w_23_1, ↓o_24, ↓q_24_0, ↓w_24_0, ↓q_24_1, ↓q_24_2, ↓q_24_3, ↓w_24_3, ↓q_24_4, ↓q_24_5, ↓a_25, ↓s_25, ↓a_26, ↓s_26, ↓a_27, ↓s_27, ↓a_28, ↓s_28, ↓o_29, ↓q_29_0, ↓w_29_0, ↓q_29_1, ↓w_29_1, ↓q_29_2, ↓w_29_2, ↓q_29_3, ↓q_29_4, ↓q_29_5, ↓q_29_6, ↓q_29_7, ↓w_29_7, ↓q_29_8, ↓q_29_9, ↓w_29_9, ↓q_29_10, ↓w_29_10, ↓q_29_11, ↓a_30, ↓s_30, ↓a_31, ↓s_31, ↓a_32, ↓s_32, ↓a_33, ↓s_33, ↓a_34, ↓s_34, ↓a_35, ↓s_35, ↓o_36, ↓q_36_0, ↓q_36_1, ↓w_36_1, ↓q_36_2, ↓w_36_2, ↓q_36_3, ↓q_36_4, ↓a_37, ↓s_37, ↓a_38, ↓s_38, ↓o_39, ↓q_39_0, ↓q_39_1, ↓w_39_1, ↓q_39_2, ↓q_39_3, ↓w_39_3, ↓q_39_4, ↓q_39_5, ↓a_40, ↓s_40, ↓a_41, ↓s_41, ↓a_42, ↓s_42, ↓o_43, ↓q_43_0, ↓w_43_0, ↓q_43_1, ↓q_43_2, ↓q_43_3, ↓q_43_4, ↓q_43_5, ↓q_43_6, ↓q_43_7, ↓q_43_8, ↓q_43_9, ↓w_43_9, ↓q_43_10, ↓q_43_11, ↓q_43_12, ↓q_43_13, ↓q_43_14, ↓w_43_14, ↓q_43_15, ↓w_43_15, ↓q_43_16, ↓q_43_17, ↓w_43_17, ↓q_43_18, ↓w_43_18, ↓q_43_19, ↓q_43_20, ↓q_43_21, ↓q_43_22, ↓w_43_22, ↓q_43_23, ↓w_43_23, ↓q_43_24, ↓q_43_25, ↓q_43_26, ↓w_43_26, ↓q_43_27, ↓q_43_28, ↓q_43_29, ↓w_43_29, ↓q_43_30, ↓q_43_31, ↓q_43_32, ↓q_43_33, ↓w_43_33, ↓q_43_34, ↓q_43_35, ↓q_43_36, ↓a_44, ↓s_44, ↓a_45, ↓s_45, ↓a_46, ↓s_46, ↓a_47, ↓s_47, ↓a_48, ↓s_48, ↓a_49, ↓s_49, ↓a_50, ↓s_50, ↓a_51, ↓s_51, ↓a_52, ↓s_52, ↓a_53, ↓s_53, ↓a_54, ↓s_54, ↓a_55, ↓s_55, ↓a_56, ↓s_56, ↓a_57, ↓s_57, ↓a_58, ↓s_58, ↓a_59, ↓s_59, ↓a_60, ↓s_60, ↓a_61, ↓s_61, ↓a_62, ↓s_62, ↓a_63, ↓s_63, ↓a_64, ↓s_64, ↓a_65, ↓s_65, ↓a_66, ↓s_66, ↓a_67, ↓s_67, ↓a_68, ↓s_68, ↓a_69, ↓s_69, ↓a_1, le0_T, le0_F, addm1, sA_1, sA_22, sL_1, sL_21, sF_2, sA_eq, sA_ne, sA_nj, sL_eq, sL_ne, sL_nj, sF_eq, sF_ne, sF_nj, le_T, le_F, lt_T, lt_F, lt0_F, eq_T, eq_F, eq_N, m9_F, m1_F, z_F, z_N, l2, l3, l4, l5, l6, l8, l12, l24, l40, l70, l96, l255, l256, l280, l320, c_Is, c_Js, c_Vs, c_An, c_Ar, if_bI, rI0, rI1, rIb, if00, if10, lg0, nI_1, nI_add, sub_1, sub_N, if_true, if_false, ite_true, ite_false, ge0_T, ge0_F, in_d, in_e, bitz, bito, mul_n, a_47, s_47, a_48, s_48, a_49, s_49, a_42, s_42, a_69, s_69, a_59, a_63, a_28, a_50, s_50, a_51, s_51, e29, ↓a0]
    exact g2 _ rfl
  · intro p S1 hp ⟨hf, hm1, hD, hno⟩
    have hlen := Dn_len p hno
    obtain ⟨S2, ⟨k1, k2, k3, k4⟩, e2⟩ := splitFirst_s (sc := sc) (FDq_fr hf rfl rfl h) hm1 hD (by omega)
    by_cases q : splD F fx fy (Dn F fx fy (2 ^ w - 1) p)
    · left
      refine ⟨S2, ⟨Fr_tr hf k1, k2, k3 q, fun j hj => ?_⟩, fun r hr => B_X3_becomeStrict_20 _ _ _ ?_⟩
      · by_cases z : j = p
        · rw [z]; exact q
        · exact hno j (by omega)
      · simp (disch := first | omega | assumption | exact bI_01 | exact Or.inl rfl | exact Or.inr rfl) only [↓reduceIte, ↓if_bI, ↓if10, ↓if00, bI_eq0, not_false_eq_true, not_true_eq_false, and_true, true_and, and_false, false_and, or_true, true_or, or_false, false_or, ↓c_Is, ↓c_Js, ↓c_Vs, ↓c_An, ↓c_Ar, ↓o_0, ↓q_0_0, ↓q_0_1, ↓q_0_2, ↓q_0_3, ↓q_0_4, ↓q_0_5, ↓q_0_6, ↓q_0_7, ↓w_0_7, ↓o_18, ↓q_18_0, ↓w_18_0, ↓q_18_1, ↓q_18_2, ↓q_18_3, ↓q_18_4, ↓a_19, ↓s_19, ↓a_20, ↓s_20, ↓a_21, ↓s_21, ↓a_22, ↓s_22, ↓o_23, ↓q_23_0, ↓w_23_0, ↓q_23_1, ↓w_23_1, ↓o_24, ↓q_24_0, ↓w_24_0, ↓q_24_1, ↓q_24_2, ↓q_24_3, ↓w_24_3, ↓q_24_4, ↓q_24_5, ↓a_25, ↓s_25, ↓a_26, ↓s_26, ↓a_27, ↓s_27, ↓a_28, ↓s_28, ↓o_29, ↓q_29_0, ↓w_29_0, ↓q_29_1, ↓w_29_1, ↓q_29_2, ↓w_29_2, ↓q_29_3, ↓q_29_4, ↓q_29_5, ↓q_29_6, ↓q_29_7, ↓w_29_7, ↓q_29_8, ↓q_29_9, ↓w_29_9, ↓q_29_10, ↓w_29_10, ↓q_29_11, ↓a_30, ↓s_30, ↓a_31, ↓s_31, ↓a_32, ↓s_32, ↓a_33, ↓s_33, ↓a_34, ↓s_34, ↓a_35, ↓s_35, ↓o_36, ↓q_36_0, ↓q_36_1, ↓w_36_1, ↓q_36_2, ↓w_36_2, ↓q_36_3, ↓q_36_4, ↓a_37, ↓s_37, ↓a_38, ↓s_38, ↓o_39, ↓q_39_0, ↓q_39_1, ↓w_39_1, ↓q_39_2, ↓q_39_3, ↓w_39_3, ↓q_39_4, ↓q_39_5, ↓a_40, ↓s_40, ↓a_41, ↓s_41, ↓a_42, ↓s_42, ↓o_43, ↓q_43_0, ↓w_43_0, ↓q_43_1, ↓q_43_2, ↓q_43_3, ↓q_43_4, ↓q_43_5, ↓q_43_6, ↓q_43_7, ↓q_43_8, ↓q_43_9, ↓w_43_9, ↓q_43_10, ↓q_43_11, ↓q_43_12, ↓q_43_13, ↓q_43_14, ↓w_43_14, ↓q_43_15, ↓w_43_15, ↓q_43_16, ↓q_43_17, ↓w_43_17, ↓q_43_18, ↓w_43_18, ↓q_43_19, ↓q_43_20, ↓q_43_21, ↓q_43_22, ↓w_43_22, ↓q_43_23, ↓w_43_23, ↓q_43_24, ↓q_43_25, ↓q_43_26, ↓w_43_26, ↓q_43_27, ↓q_43_28, ↓q_43_29, ↓w_43_29, ↓q_43_30, ↓q_43_31, ↓q_43_32, ↓q_43_33, ↓w_43_33, ↓q_43_34, ↓q_43_35, ↓q_43_36, ↓a_44, ↓s_44, ↓a_45, ↓s_45, ↓a_46, ↓s_46, ↓a_47, ↓s_47, ↓a_48, ↓s_48, ↓a_49, ↓s_49, ↓a_50, ↓s_50, ↓a_51, ↓s_51, ↓a_52, ↓s_52, ↓a_53, ↓s_53, ↓a_54, ↓s_54, ↓a_55, ↓s_55, ↓a_56, ↓s_56, ↓a_57, ↓s_57, ↓a_58, ↓s_58, ↓a_59, ↓s_59, ↓a_60, ↓s_60, ↓a_61, ↓s_61, ↓a_62, ↓s_62, ↓a_63, ↓s_63, ↓a_64, ↓s_64, ↓a_65, ↓s_65, ↓a_66, ↓s_66, ↓a_67, ↓s_67, ↓a_68, ↓s_68, ↓a_69, ↓s_69, ↓a_1, le0_T, le0_F, addm1, sA_1, sA_22, sL_1, sL_21, sF_2, sA_eq, sA_ne, sA_nj, sL_eq, sL_ne, sL_nj, sF_eq, sF_ne, sF_nj, le_T, le_F, lt_T, lt_F, lt0_F, eq_T, eq_F, eq_N, m9_F, m1_F, z_F, z_N, l2, l3, l4, l5, l6, l8, l12, l24, l40, l70, l96, l255, l256, l280, l320, c_Is, c_Js, c_Vs, c_An, c_Ar, if_bI, rI0, rI1, rIb, if00, if10, lg0, nI_1, nI_add, sub_1, sub_N, if_true, if_false, ite_true, ite_false, ge0_T, ge0_F, in_d, in_e, bitz, bito, mul_n, a_47, s_47, a_48, s_48, a_49, s_49, a_42, s_42, a_69, s_69, a_59, a_63, a_28, a_50, s_50, a_51, s_51, ↓cI (e2), ↓if_pos q]
        exact hr
    · right
      obtain ⟨S3, g1, g2⟩ := fin p S2 (by omega) (Fr_tr hf k1) k2 (k4 q) hno (Or.inr q)
      refine ⟨S3, g1, fun r hr => B_X3_becomeStrict_20 _ _ _ ?_⟩
      simp (disch := first | omega | assumption | exact bI_01 | exact Or.inl rfl | exact Or.inr rfl) only [↓reduceIte, ↓if_bI, ↓if10, ↓if00, bI_eq0, not_false_eq_true, not_true_eq_false, and_true, true_and, and_false, false_and, or_true, true_or, or_false, false_or, ↓c_Is, ↓c_Js, ↓c_Vs, ↓c_An, ↓c_Ar, ↓o_0, ↓q_0_0, ↓q_0_1, ↓q_0_2, ↓q_0_3, ↓q_0_4, ↓q_0_5, ↓q_0_6, ↓q_0_7, ↓w_0_7, ↓o_18, ↓q_18_0, ↓w_18_0, ↓q_18_1, ↓q_18_2, ↓q_18_3, ↓q_18_4, ↓a_19, ↓s_19, ↓a_20, ↓s_20, ↓a_21, ↓s_21, ↓a_22, ↓s_22, ↓o_23, ↓q_23_0, ↓w_23_0, ↓q_23_1, ↓w_23_1, ↓o_24, ↓q_24_0, ↓w_24_0, ↓q_24_1, ↓q_24_2, ↓q_24_3, ↓w_24_3, ↓q_24_4, ↓q_24_5, ↓a_25, ↓s_25, ↓a_26, ↓s_26, ↓a_27, ↓s_27, ↓a_28, ↓s_28, ↓o_29, ↓q_29_0, ↓w_29_0, ↓q_29_1, ↓w_29_1, ↓q_29_2, ↓w_29_2, ↓q_29_3, ↓q_29_4, ↓q_29_5, ↓q_29_6, ↓q_29_7, ↓w_29_7, ↓q_29_8, ↓q_29_9, ↓w_29_9, ↓q_29_10, ↓w_29_10, ↓q_29_11, ↓a_30, ↓s_30, ↓a_31, ↓s_31, ↓a_32, ↓s_32, ↓a_33, ↓s_33, ↓a_34, ↓s_34, ↓a_35, ↓s_35, ↓o_36, ↓q_36_0, ↓q_36_1, ↓w_36_1, ↓q_36_2, ↓w_36_2, ↓q_36_3, ↓q_36_4, ↓a_37, ↓s_37, ↓a_38, ↓s_38, ↓o_39, ↓q_39_0, ↓q_39_1, ↓w_39_1, ↓q_39_2, ↓q_39_3, ↓w_39_3, ↓q_39_4, ↓q_39_5, ↓a_40, ↓s_40, ↓a_41, ↓s_41, ↓a_42, ↓s_42, ↓o_43, ↓q_43_0, ↓w_43_0, ↓q_43_1, ↓q_43_2, ↓q_43_3, ↓q_43_4, ↓q_43_5, ↓q_43_6, ↓q_43_7, ↓q_43_8, ↓q_43_9, ↓w_43_9, ↓q_43_10, ↓q_43_11, ↓q_43_12, ↓q_43_13, ↓q_43_14, ↓w_43_14, ↓q_43_15, ↓w_43_15, ↓q_43_16, ↓q_43_17, ↓w_43_17, ↓q_43_18, ↓w_43_18, ↓q_43_19, ↓q_43_20, ↓q_43_21, ↓q_43_22, ↓w_43_22, ↓q_43_23, ↓w_43_23, ↓q_43_24, ↓q_43_25, ↓q_43_26, ↓w_43_26, ↓q_43_27, ↓q_43_28, ↓q_43_29, ↓w_43_29, ↓q_43_30, ↓q_43_31, ↓q_43_32, ↓q_43_33, ↓w_43_33, ↓q_43_34, ↓q_43_35, ↓q_43_36, ↓a_44, ↓s_44, ↓a_45, ↓s_45, ↓a_46, ↓s_46, ↓a_47, ↓s_47, ↓a_48, ↓s_48, ↓a_49, ↓s_49, ↓a_50, ↓s_50, ↓a_51, ↓s_51, ↓a_52, ↓s_52, ↓a_53, ↓s_53, ↓a_54, ↓s_54, ↓a_55, ↓s_55, ↓a_56, ↓s_56, ↓a_57, ↓s_57, ↓a_58, ↓s_58, ↓a_59, ↓s_59, ↓a_60, ↓s_60, ↓a_61, ↓s_61, ↓a_62, ↓s_62, ↓a_63, ↓s_63, ↓a_64, ↓s_64, ↓a_65, ↓s_65, ↓a_66, ↓s_66, ↓a_67, ↓s_67, ↓a_68, ↓s_68, ↓a_69, ↓s_69, ↓a_1, le0_T, le0_F, addm1, sA_1, sA_22, sL_1, sL_21, sF_2, sA_eq, sA_ne, sA_nj, sL_eq, sL_ne, sL_nj, sF_eq, sF_ne, sF_nj, le_T, le_F, lt_T, lt_F, lt0_F, eq_T, eq_F, eq_N, m9_F, m1_F, z_F, z_N, l2, l3, l4, l5, l6, l8, l12, l24, l40, l70, l96, l255, l256, l280, l320, c_Is, c_Js, c_Vs, c_An, c_Ar, if_bI, rI0, rI1, rIb, if00, if10, lg0, nI_1, nI_add, sub_1, sub_N, if_true, if_false, ite_true, ite_false, ge0_T, ge0_F, in_d, in_e, bitz, bito, mul_n, a_47, s_47, a_48, s_48, a_49, s_49, a_42, s_42, a_69, s_69, a_59, a_63, a_28, a_50, s_50, a_51, s_51, ↓cI (e2), ↓if_neg q, ↓cI (g2)]
      exact hr
  · intro S1 ⟨hf, hm1, hD, hno⟩
    obtain ⟨S3, g1, g2⟩ := fin 12 S1 (Nat.le_refl _) hf hm1 hD hno (Or.inl rfl)
    refine ⟨S3, g1, fun r hr => B_X3_becomeStrict_20 _ _ _ ?_⟩
    simp (disch := first | omega | assumption | exact bI_01 | exact Or.inl rfl | exact Or.inr rfl) only [↓reduceIte, ↓if_bI, ↓if10, ↓if00, bI_eq0, not_false_eq_true, not_true_eq_false, and_true, true_and, and_false, false_and, or_true, true_or, or_false, false_or, ↓c_Is, ↓c_Js, ↓c_Vs, ↓c_An, ↓c_Ar, ↓o_0, ↓q_0_0, ↓q_0_1, ↓q_0_2, ↓q_0_3, ↓q_0_4, ↓q_0_5, ↓q_0_6, ↓q_0_7, ↓w_0_7, ↓o_18, ↓q_18_0, ↓w_18_0, ↓q_18_1, ↓q_18_2, ↓q_18_3, ↓q_18_4, ↓a_19, ↓s_19, ↓a_20, ↓s_20, ↓a_21, ↓s_21, ↓a_22, ↓s_22, ↓o_23, ↓q_23_0, ↓w_23_0, ↓q_23_1, ↓w_23_1, ↓o_24, ↓q_24_0, ↓w_24_0, ↓q_24_1, ↓q_24_2, ↓q_24_3, ↓w_24_3, ↓q_24_4, ↓q_24_5, ↓a_25, ↓s_25, ↓a_26, ↓s_26, ↓a_27, ↓s_27, ↓a_28, ↓s_28, ↓o_29, ↓q_29_0, ↓w_29_0, ↓q_29_1, ↓w_29_1, ↓q_29_2, ↓w_29_2, ↓q_29_3, ↓q_29_4, ↓q_29_5, ↓q_29_6, ↓q_29_7, ↓w_29_7, ↓q_29_8, ↓q_29_9, ↓w_29_9, ↓q_29_10, ↓w_29_10, ↓q_29_11, ↓a_30, ↓s_30, ↓a_31, ↓s_31, ↓a_32, ↓s_32, ↓a_33, ↓s_33, ↓a_34, ↓s_34, ↓a_35, ↓s_35, ↓o_36, ↓q_36_0, ↓q_36_1, ↓w_36_1, ↓q_36_2, ↓w_36_2, ↓q_36_3, ↓q_36_4, ↓a_37, ↓s_37, ↓a_38, ↓s_38, ↓o_39, ↓q_39_0, ↓q_39_1, ↓w_39_1, ↓q_39_2, ↓q_39_3, ↓w_39_3, ↓q_39_4, ↓q_39_5, ↓a_40, ↓s_40, ↓a_41, ↓s_41, ↓a_42, ↓s_42, ↓o_43, ↓q_43_0, ↓w_43_0, ↓q_43_1, ↓q_43_2, ↓q_43_3, ↓q_43_4, ↓q_43_5, ↓q_43_6, ↓q_43_7, ↓q_43_8, ↓q_43_9, ↓w_43_9, ↓q_43_10, ↓q_43_11, ↓q_43_12, ↓q_43_13, ↓q_43_14, ↓w_43_14, ↓q_43_15, ↓w_43_15, ↓q_43_16, ↓q_43_17, ↓w_43_17, ↓q_43_18, ↓w_43_18, ↓q_43_19, ↓q_43_20, ↓q_43_21, ↓q_43_22, ↓w_43_22, ↓q_43_23, ↓w_43_23, ↓q_43_24, ↓q_43_25, ↓q_43_26, ↓w_43_26, ↓q_43_27, ↓q_43_28, ↓q_43_29, ↓w_43_29, ↓q_43_30, ↓q_43_31, ↓q_43_32, ↓q_43_33, ↓w_43_33, ↓q_43_34, ↓q_43_35, ↓q_43_36, ↓a_44, ↓s_44, ↓a_45, ↓s_45, ↓a_46, ↓s_46, ↓a_47, ↓s_47, ↓a_48, ↓s_48, ↓a_49, ↓s_49, ↓a_50, ↓s_50, ↓a_51, ↓s_51, ↓a_52, ↓s_52, ↓a_53, ↓s_53, ↓a_54, ↓s_54, ↓a_55, ↓s_55, ↓a_56, ↓s_56, ↓a_57, ↓s_57, ↓a_58, ↓s_58, ↓a_59, ↓s_59, ↓a_60, ↓s_60, ↓a_61, ↓s_61, ↓a_62, ↓s_62, ↓a_63, ↓s_63, ↓a_64, ↓s_64, ↓a_65, ↓s_65, ↓a_66, ↓s_66, ↓a_67, ↓s_67, ↓a_68, ↓s_68, ↓a_69, ↓s_69, ↓a_1, le0_T, le0_F, addm1, sA_1, sA_22, sL_1, sL_21, sF_2, sA_eq, sA_ne, sA_nj, sL_eq, sL_ne, sL_nj, sF_eq, sF_ne, sF_nj, le_T, le_F, lt_T, lt_F, lt0_F, eq_T, eq_F, eq_N, m9_F, m1_F, z_F, z_N, l2, l3, l4, l5, l6, l8, l12, l24, l40, l70, l96, l255, l256, l280, l320, c_Is, c_Js, c_Vs, c_An, c_Ar, if_bI, rI0, rI1, rIb, if00, if10, lg0, nI_1, nI_add, sub_1, sub_N, if_true, if_false, ite_true, ite_false, ge0_T, ge0_F, in_d, in_e, bitz, bito, mul_n, a_47, s_47, a_48, s_48, a_49, s_49, a_42, s_42, a_69, s_69, a_59, a_63, a_28, a_50, s_50, a_51, s_51, ↓cI (g2)]
    exact hr
  · simp (disch := omega) only [sA_1, sA_22, sL_1, sL_21, sF_2, sA_eq, sA_ne, sA_nj, sL_eq, sL_ne, sL_nj, sF_eq, sF_ne, sF_nj]
    exact hm
  · intro k hk
    have : k = 0 := by
      have : k < 1 := hk
      omega
    subst this
    simp (disch := omega) only [sA_1, sA_22, sL_1, sL_21, sF_2, sA_eq, sA_ne, sA_nj, sL_eq, sL_ne, sL_nj, sF_eq, sF_ne, sF_nj]
    rfl
  · intro d hd
    rw [List.mem_singleton.mp (show d ∈ [2 ^ w - 1] from hd)]
    exact hw8
end STR
