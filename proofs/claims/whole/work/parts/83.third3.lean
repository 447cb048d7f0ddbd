/-! THE CALL third, whole -/
section TH3
variable {sc : RE} {S : SS} {D K : List Nat}
def hKey (K D : List Nat) : Prop := ∃ d, d ∈ D ∧ ∃ κ, κ ∈ K ∧ sub κ d
theorem third_c (hD : Hl (S.2.1 68) D) (hl : D.length ≤ 320) (hlt : ∀ d, d ∈ D → d < 256) (h66 : ∀ k, k < D.length → S.2.1 66 k = bI (moB D k = true)) (hK1 : S.1 43 26 = nI K.length) (hK2 : Hl (S.2.1 62) K) (hK3 : K.length ≤ 70) (hK4 : ∀ κ, κ ∈ K → κ < 256) : ∃ S' v, (Fr [] [68] S S' ∧ Hl (S'.2.1 68) (li D D.length) ∧ (v = 0 ∨ v = 1) ∧ (v = 1 ↔ hKey K (li D D.length))) ∧ Lt (Rs 226 245 [.ref 43, .int (nI D.length), .int 0, .int 0, .int 0, UU] [] (enc sc S)) (Rs 226 245 [.ref 43, .int (nI D.length), .int (nI (li D D.length).length), .int v, .int (nI D.length), UU] [] (enc sc S')) := by
  have key := loop_to (F := D.length) (G := fun k (p : SS × Int32) => Rs 226 245 [.ref 43, .int (nI D.length), .int (nI (li D k).length), .int p.2, .int (nI k), UU] [] (enc sc p.1)) (O := fun (p : SS × Int32) => Rs 226 245 [.ref 43, .int (nI D.length), .int (nI (li D D.length).length), .int p.2, .int (nI D.length), UU] [] (enc sc p.1)) (J := fun p => Fr [] [68] S p.1 ∧ Hl (p.1.2.1 68) (li D D.length) ∧ (p.2 = 0 ∨ p.2 = 1) ∧ (p.2 = 1 ↔ hKey K (li D D.length))) (I := fun k p => Fr [] [68] S p.1 ∧ Hl (p.1.2.1 68) (li D k) ∧ (∀ j, k ≤ j → j < D.length → p.1.2.1 68 j = nI (D.getD j 0)) ∧ (p.2 = 0 ∨ p.2 = 1) ∧ (p.2 = 1 ↔ hKey K (li D k))) ?_ ?_ (S, 0) ⟨Fr_refl _ _ _, Hl_nil _, fun j _ hj => hD j hj, Or.inl rfl, ⟨fun z => absurd z (by show ¬ (0 : Int32) = 1; decide), fun ⟨d, hd, _⟩ => absurd hd List.not_mem_nil⟩⟩
  · obtain ⟨⟨S', v⟩, g1, g2⟩ := key
    exact ⟨S', v, g1, g2⟩
  · intro k ⟨S1, v⟩ hk ⟨hf, h1, h2, h3, h4⟩
    left
    have hf' : Fr [] [68] S S1 := hf
    have e66 : S1.2.1 66 k = bI (moB D k = true) := by rw [(hf'.2 66 (by decide)).1]; exact h66 k hk
    have hlen := li_len D k
    have ek : S1.2.1 68 k = nI (D.getD k 0) := h2 k (Nat.le_refl _) hk
    have lk := P_lt hlt hk
    by_cases q : moB D k = true
    · have e : li D (k + 1) = li D k := by rw [li_succ, if_pos q]
      refine ⟨(S1, v), ⟨hf, by rw [e]; exact h1, fun j j1 j2 => h2 j (by omega) j2, h3, by rw [e]; exact h4⟩, fun r hr => B_X8_third_245 _ _ _ _ _ _ ?_⟩
      rw [e] at hr
      simp (disch := first | omega | assumption | exact bI_01 | exact Or.inl rfl | exact Or.inr rfl) only [↓reduceIte, ↓if_bI, ↓if10, ↓if00, bI_eq0, not_false_eq_true, not_true_eq_false, and_true, true_and, and_false, false_and, or_true, true_or, or_false, false_or, ↓c_Is, ↓c_Js, ↓c_Vs, ↓c_An, ↓c_Ar, ↓o_0, ↓q_0_0, ↓q_0_1, ↓q_0_2, ↓q_0_3, ↓q_0_4, ↓q_0_5, ↓q_0_6, ↓q_0_7, ↓w_0_7, ↓o_18, ↓q_18_0, ↓w_18_0, ↓q_18_1, ↓q_18_2, ↓q_18_3, ↓q_18_4, ↓a_19, ↓s_19, ↓a_20, ↓s_20, ↓a_21, ↓s_21, ↓a_22, ↓s_22, ↓o_23, ↓q_23_0, ↓w_23_0, ↓q_23_1, ↓w_23_1, ↓o_24, ↓q_24_0, ↓w_24_0, ↓q_24_1, ↓q_24_2, ↓q_24_3, ↓w_24_3, ↓q_24_4, ↓q_24_5, ↓a_25, ↓s_25, ↓a_26, ↓s_26, ↓a_27, ↓s_27, ↓a_28, ↓s_28, ↓o_29, ↓q_29_0, ↓w_29_0, ↓q_29_1, ↓w_29_1, ↓q_29_2, ↓w_29_2, ↓q_29_3, ↓q_29_4, ↓q_29_5, ↓q_29_6, ↓q_29_7, ↓w_29_7, ↓q_29_8, ↓q_29_9, ↓w_29_9, ↓q_29_10, ↓w_29_10, ↓q_29_11, ↓a_30, ↓s_30, ↓a_31, ↓s_31, ↓a_32, ↓s_32, ↓a_33, ↓s_33, ↓a_34, ↓s_34, ↓a_35, ↓s_35, ↓o_36, ↓q_36_0, ↓q_36_1, ↓w_36_1, ↓q_36_2, ↓w_36_2, ↓q_36_3, ↓q_36_4, ↓a_37, ↓s_37, ↓a_38, ↓s_38, ↓o_39, ↓q_39_0, ↓q_39_1, ↓w_39_1, ↓q_39_2, ↓q_39_3, ↓w_39_3, ↓q_39_4, ↓q_39_5, ↓a_40, ↓s_40, ↓a_41, ↓s_41, ↓a_42, ↓s_42, ↓o_43, ↓q_43_0, ↓w_43_0, ↓q_43_1, ↓q_43_2, ↓q_43_3, ↓q_43_4, ↓q_43_5, ↓q_43_6, ↓q_43_7, ↓q_43_8, ↓q_43_9, ↓w_43_9, ↓q_43_10, ↓q_43_11, ↓q_43_12, ↓q_43_13, ↓q_43_14, ↓w_43_14, ↓q_43_15, ↓w_43_15, ↓q_43_16, ↓q_43_17, ↓w_43_17, ↓q_43_18, ↓w_43_18, ↓q_43_19, ↓q_43_20, ↓q_43_21, ↓q_43_22, ↓w_43_22, ↓q_43_23, ↓w_43_23, ↓q_43_24, ↓q_43_25, ↓q_43_26, ↓w_43_26, ↓q_43_27, ↓q_43_28, ↓q_43_29, ↓w_43_29, ↓q_43_30, ↓q_43_31, ↓q_43_32, ↓q_43_33, ↓w_43_33, ↓q_43_34, ↓q_43_35, ↓q_43_36, ↓a_44, ↓s_44, ↓a_45, ↓s_45, ↓a_46, ↓s_46, ↓a_47, ↓s_47, ↓a_48, ↓s_48, ↓a_49, ↓s_49, ↓a_50, ↓s_50, ↓a_51, ↓s_51, ↓a_52, ↓s_52, ↓a_53, ↓s_53, ↓a_54, ↓s_54, ↓a_55, ↓s_55, ↓a_56, ↓s_56, ↓a_57, ↓s_57, ↓a_58, ↓s_58, ↓a_59, ↓s_59, ↓a_60, ↓s_60, ↓a_61, ↓s_61, ↓a_62, ↓s_62, ↓a_63, ↓s_63, ↓a_64, ↓s_64, ↓a_65, ↓s_65, ↓a_66, ↓s_66, ↓a_67, ↓s_67, ↓a_68, ↓s_68, ↓a_69, ↓s_69, ↓a_1, le0_T, le0_F, addm1, sA_1, sA_22, sL_1, sL_21, sF_2, sA_eq, sA_ne, sA_nj, sL_eq, sL_ne, sL_nj, sF_eq, sF_ne, sF_nj, le_T, le_F, lt_T, lt_F, lt0_F, eq_T, eq_F, eq_N, m9_F, m1_F, z_F, z_N, l2, l3, l4, l5, l6, l8, l12, l24, l40, l70, l96, l255, l256, l280, l320, c_Is, c_Js, c_Vs, c_An, c_Ar, if_bI, rI0, rI1, rIb, if00, if10, lg0, nI_1, nI_add, sub_1, sub_N, if_true, if_false, ite_true, ite_false, ge0_T, ge0_F, in_d, in_e, bitz, bito, mul_n, a_47, s_47, a_48, s_48, a_49, s_49, a_42, s_42, a_69, s_69, a_59, a_63, a_28, a_50, s_50, a_51, s_51, e66, eq_true q]
      exact hr
    · have e : li D (k + 1) = li D k ++ [D.getD k 0] := by rw [li_succ, if_neg q]
      have k2 := loop_to (F := K.length) (G := fun i (u : Int32) => Rs 226 277 [.ref 43, .int (nI D.length), .int (nI (li D k).length), .int u, .int (nI k), .int (nI i)] [] (enc sc (sA S1 68 (li D k).length (nI (D.getD k 0))))) (O := fun (u : Int32) => Rs 226 245 [.ref 43, .int (nI D.length), .int (nI ((li D k).length + 1)), .int u, .int (nI (k + 1)), UU] [] (enc sc (sA S1 68 (li D k).length (nI (D.getD k 0))))) (J := fun u => (u = 0 ∨ u = 1) ∧ (u = 1 ↔ hKey K (li D (k + 1)))) (I := fun i u => (u = 0 ∨ u = 1) ∧ (u = 1 ↔ (v = 1 ∨ ∃ j, j < i ∧ sub (K.getD j 0) (D.getD k 0)))) ?_ ?_ v ⟨h3, ⟨fun z => Or.inl z, fun z => z.elim id (fun ⟨j, hj, _⟩ => absurd hj (Nat.not_lt_zero j))⟩⟩
      · obtain ⟨u, ⟨u1, u2⟩, u3⟩ := k2
        refine ⟨(sA S1 68 (li D k).length (nI (D.getD k 0)), u), ⟨Fr_tr hf (Fr_sA (by decide)), ?_, fun j j1 j2 => ?_, u1, u2⟩, fun r hr => B_X8_third_245 _ _ _ _ _ _ ?_⟩
        · rw [e]
          refine Hl_app h1 (fun j hj => ?_) ?_
          · simp (disch := omega) only [sA_1, sA_22, sL_1, sL_21, sF_2, sA_eq, sA_ne, sA_nj, sL_eq, sL_ne, sL_nj, sF_eq, sF_ne, sF_nj]
          · simp (disch := omega) only [sA_1, sA_22, sL_1, sL_21, sF_2, sA_eq, sA_ne, sA_nj, sL_eq, sL_ne, sL_nj, sF_eq, sF_ne, sF_nj]
        · show (sA S1 68 (li D k).length (nI (D.getD k 0))).2.1 68 j = _
          rw [sA_nj (by omega)]
          exact h2 j (by omega) j2
        · rw [e, List.length_append, List.length_singleton] at hr
          simp (disch := first | omega | assumption | exact bI_01 | exact Or.inl rfl | exact Or.inr rfl) only [↓reduceIte, ↓if_bI, ↓if10, ↓if00, bI_eq0, not_false_eq_true, not_true_eq_false, and_true, true_and, and_false, false_and, or_true, true_or, or_false, false_or, ↓c_Is, ↓c_Js, ↓c_Vs, ↓c_An, ↓c_Ar, ↓o_0, ↓q_0_0, ↓q_0_1, ↓q_0_2, ↓q_0_3, ↓q_0_4, ↓q_0_5, ↓q_0_6, ↓q_0_7, ↓w_0_7, ↓o_18, ↓q_18_0, ↓w_18_0, ↓q_18_1, ↓q_18_2, ↓q_18_3, ↓q_18_4, ↓a_19, ↓s_19, ↓a_20, ↓s_20, ↓a_21, ↓s_21, ↓a_22, ↓s_22, ↓o_23, ↓q_23_0, ↓w_23_0, ↓q_23_1, ↓w_23_1, ↓o_24, ↓q_24_0, ↓w_24_0, ↓q_24_1, ↓q_24_2, ↓q_24_3, ↓w_24_3, ↓q_24_4, ↓q_24_5, ↓a_25, ↓s_25, ↓a_26, ↓s_26, ↓a_27, ↓s_27, ↓a_28, ↓s_28, ↓o_29, ↓q_29_0, ↓w_29_0, ↓q_29_1, ↓w_29_1, ↓q_29_2, ↓w_29_2, ↓q_29_3, ↓q_29_4, ↓q_29_5, ↓q_29_6, ↓q_29_7, ↓w_29_7, ↓q_29_8, ↓q_29_9, ↓w_29_9, ↓q_29_10, ↓w_29_10, ↓q_29_11, ↓a_30, ↓s_30, ↓a_31, ↓s_31, ↓a_32, ↓s_32, ↓a_33, ↓s_33, ↓a_34, ↓s_34, ↓a_35, ↓s_35, ↓o_36, ↓q_36_0, ↓q_36_1, ↓w_36_1, ↓q_36_2, ↓w_36_2, ↓q_36_3, ↓q_36_4, ↓a_37, ↓s_37, ↓a_38, ↓s_38, ↓o_39, ↓q_39_0, ↓q_39_1, ↓w_39_1, ↓q_39_2, ↓q_39_3, ↓w_39_3, ↓q_39_4, ↓q_39_5, ↓a_40, ↓s_40, ↓a_41, ↓s_41, ↓a_42, ↓s_42, ↓o_43, ↓q_43_0, ↓w_43_0, ↓q_43_1, ↓q_43_2, ↓q_43_3, ↓q_43_4, ↓q_43_5, ↓q_43_6, ↓q_43_7, ↓q_43_8, ↓q_43_9, ↓w_43_9, ↓q_43_10, ↓q_43_11, ↓q_43_12, ↓q_43_13, ↓q_43_14, ↓w_43_14, ↓q_43_15, ↓w_43_15, ↓q_43_16, ↓q_43_17, ↓w_43_17, ↓q_43_18, ↓w_43_18, ↓q_43_19, ↓q_43_20, ↓q_43_21, ↓q_43_22, ↓w_43_22, ↓q_43_23, ↓w_43_23, ↓q_43_24, ↓q_43_25, ↓q_43_26, ↓w_43_26, ↓q_43_27, ↓q_43_28, ↓q_43_29, ↓w_43_29, ↓q_43_30, ↓q_43_31, ↓q_43_32, ↓q_43_33, ↓w_43_33, ↓q_43_34, ↓q_43_35, ↓q_43_36, ↓a_44, ↓s_44, ↓a_45, ↓s_45, ↓a_46, ↓s_46, ↓a_47, ↓s_47, ↓a_48, ↓s_48, ↓a_49, ↓s_49, ↓a_50, ↓s_50, ↓a_51, ↓s_51, ↓a_52, ↓s_52, ↓a_53, ↓s_53, ↓a_54, ↓s_54, ↓a_55, ↓s_55, ↓a_56, ↓s_56, ↓a_57, ↓s_57, ↓a_58, ↓s_58, ↓a_59, ↓s_59, ↓a_60, ↓s_60, ↓a_61, ↓s_61, ↓a_62, ↓s_62, ↓a_63, ↓s_63, ↓a_64, ↓s_64, ↓a_65, ↓s_65, ↓a_66, ↓s_66, ↓a_67, ↓s_67, ↓a_68, ↓s_68, ↓a_69, ↓s_69, ↓a_1, le0_T, le0_F, addm1, sA_1, sA_22, sL_1, sL_21, sF_2, sA_eq, sA_ne, sA_nj, sL_eq, sL_ne, sL_nj, sF_eq, sF_ne, sF_nj, le_T, le_F, lt_T, lt_F, lt0_F, eq_T, eq_F, eq_N, m9_F, m1_F, z_F, z_N, l2, l3, l4, l5, l6, l8, l12, l24, l40, l70, l96, l255, l256, l280, l320, c_Is, c_Js, c_Vs, c_An, c_Ar, if_bI, rI0, rI1, rIb, if00, if10, lg0, nI_1, nI_add, sub_1, sub_N, if_true, if_false, ite_true, ite_false, ge0_T, ge0_F, in_d, in_e, bitz, bito, mul_n, a_47, s_47, a_48, s_48, a_49, s_49, a_42, s_42, a_69, s_69, a_59, a_63, a_28, a_50, s_50, a_51, s_51, e66, eq_false q, ek]
          exact u3 r hr
      · intro i u hi ⟨u1, u2⟩
        left
        have e26 : (sA S1 68 (li D k).length (nI (D.getD k 0))).1 43 26 = nI K.length := (hf'.1 43 26 (by decide)).trans hK1
        have e62 : (sA S1 68 (li D k).length (nI (D.getD k 0))).2.1 62 i = nI (K.getD i 0) := by rw [sA_ne (by decide), (hf'.2 62 (by decide)).1]; exact hK2 i hi
        have e26' : S1.1 43 26 = nI K.length := e26
        have e62' : S1.2.1 62 i = nI (K.getD i 0) := by rw [(hf'.2 62 (by decide)).1]; exact hK2 i hi
        have lK := P_lt hK4 hi
        rcases u1 with rfl | rfl
        · by_cases qs : sub (K.getD i 0) (D.getD k 0)
          · have qw : wi (nI (K.getD i 0)) (nI (D.getD k 0)) := (wi_sub (by omega) (by omega)).mpr qs
            refine ⟨1, ⟨Or.inr rfl, ⟨fun _ => Or.inr ⟨i, by omega, qs⟩, fun _ => rfl⟩⟩, fun r hr => B_X8_third_277 _ _ _ _ _ _ _ ?_⟩
            simp (disch := first | omega | assumption | exact bI_01 | exact Or.inl rfl | exact Or.inr rfl) only [↓reduceIte, ↓if_bI, ↓if10, ↓if00, bI_eq0, not_false_eq_true, not_true_eq_false, and_true, true_and, and_false, false_and, or_true, true_or, or_false, false_or, ↓c_Is, ↓c_Js, ↓c_Vs, ↓c_An, ↓c_Ar, ↓o_0, ↓q_0_0, ↓q_0_1, ↓q_0_2, ↓q_0_3, ↓q_0_4, ↓q_0_5, ↓q_0_6, ↓q_0_7, ↓w_0_7, ↓o_18, ↓q_18_0, ↓w_18_0, ↓q_18_1, ↓q_18_2, ↓q_18_3, ↓q_18_4, ↓a_19, ↓s_19, ↓a_20, ↓s_20, ↓a_21, ↓s_21, ↓a_22, ↓s_22, ↓o_23, ↓q_23_0, ↓w_23_0, ↓q_23_1, ↓w_23_1, ↓o_24, ↓q_24_0, ↓w_24_0, ↓q_24_1, ↓q_24_2, ↓q_24_3, ↓w_24_3, ↓q_24_4, ↓q_24_5, ↓a_25, ↓s_25, ↓a_26, ↓s_26, ↓a_27, ↓s_27, ↓a_28, ↓s_28, ↓o_29, ↓q_29_0, ↓w_29_0, ↓q_29_1, ↓w_29_1, ↓q_29_2, ↓w_29_2, ↓q_29_3, ↓q_29_4, ↓q_29_5, ↓q_29_6, ↓q_29_7, ↓w_29_7, ↓q_29_8, ↓q_29_9, ↓w_29_9, ↓q_29_10, ↓w_29_10, ↓q_29_11, ↓a_30, ↓s_30, ↓a_31, ↓s_31, ↓a_32, ↓s_32, ↓a_33, ↓s_33, ↓a_34, ↓s_34, ↓a_35, ↓s_35, ↓o_36, ↓q_36_0, ↓q_36_1, ↓w_36_1, ↓q_36_2, ↓w_36_2, ↓q_36_3, ↓q_36_4, ↓a_37, ↓s_37, ↓a_38, ↓s_38, ↓o_39, ↓q_39_0, ↓q_39_1, ↓w_39_1, ↓q_39_2, ↓q_39_3, ↓w_39_3, ↓q_39_4, ↓q_39_5, ↓a_40, ↓s_40, ↓a_41, ↓s_41, ↓a_42, ↓s_42, ↓o_43, ↓q_43_0, ↓w_43_0, ↓q_43_1, ↓q_43_2, ↓q_43_3, ↓q_43_4, ↓q_43_5, ↓q_43_6, ↓q_43_7, ↓q_43_8, ↓q_43_9, ↓w_43_9, ↓q_43_10, ↓q_43_11, ↓q_43_12, ↓q_43_13, ↓q_43_14, ↓w_43_14, ↓q_43_15, ↓w_43_15, ↓q_43_16, ↓q_43_17, ↓w_43_17, ↓q_43_18, ↓w_43_18, ↓q_43_19, ↓q_43_20, ↓q_43_21, ↓q_43_22, ↓w_43_22, ↓q_43_23, ↓w_43_23, ↓q_43_24, ↓q_43_25, ↓q_43_26, ↓w_43_26, ↓q_43_27, ↓q_43_28, ↓q_43_29, ↓w_43_29, ↓q_43_30, ↓q_43_31, ↓q_43_32, ↓q_43_33, ↓w_43_33, ↓q_43_34, ↓q_43_35, ↓q_43_36, ↓a_44, ↓s_44, ↓a_45, ↓s_45, ↓a_46, ↓s_46, ↓a_47, ↓s_47, ↓a_48, ↓s_48, ↓a_49, ↓s_49, ↓a_50, ↓s_50, ↓a_51, ↓s_51, ↓a_52, ↓s_52, ↓a_53, ↓s_53, ↓a_54, ↓s_54, ↓a_55, ↓s_55, ↓a_56, ↓s_56, ↓a_57, ↓s_57, ↓a_58, ↓s_58, ↓a_59, ↓s_59, ↓a_60, ↓s_60, ↓a_61, ↓s_61, ↓a_62, ↓s_62, ↓a_63, ↓s_63, ↓a_64, ↓s_64, ↓a_65, ↓s_65, ↓a_66, ↓s_66, ↓a_67, ↓s_67, ↓a_68, ↓s_68, ↓a_69, ↓s_69, ↓a_1, le0_T, le0_F, addm1, sA_1, sA_22, sL_1, sL_21, sF_2, sA_eq, sA_ne, sA_nj, sL_eq, sL_ne, sL_nj, sF_eq, sF_ne, sF_nj, le_T, le_F, lt_T, lt_F, lt0_F, eq_T, eq_F, eq_N, m9_F, m1_F, z_F, z_N, l2, l3, l4, l5, l6, l8, l12, l24, l40, l70, l96, l255, l256, l280, l320, c_Is, c_Js, c_Vs, c_An, c_Ar, if_bI, rI0, rI1, rIb, if00, if10, lg0, nI_1, nI_add, sub_1, sub_N, if_true, if_false, ite_true, ite_false, ge0_T, ge0_F, in_d, in_e, bitz, bito, mul_n, a_47, s_47, a_48, s_48, a_49, s_49, a_42, s_42, a_69, s_69, a_59, a_63, a_28, a_50, s_50, a_51, s_51, e26', e62', eq_true qw]
            exact hr
          · have qw : ¬ wi (nI (K.getD i 0)) (nI (D.getD k 0)) := fun z => qs ((wi_sub (by omega) (by omega)).mp z)
            refine ⟨0, ⟨Or.inl rfl, ⟨fun z => absurd z (by decide), fun z => ?_⟩⟩, fun r hr => B_X8_third_277 _ _ _ _ _ _ _ ?_⟩
            · have n0 : ¬ ((0 : Int32) = 1) := by decide
              rcases z with z | ⟨j, hj, z⟩
              · exact absurd (u2.mpr (Or.inl z)) n0
              · by_cases ej : j = i
                · rw [ej] at z; exact absurd z qs
                · exact absurd (u2.mpr (Or.inr ⟨j, by omega, z⟩)) n0
            · simp (disch := first | omega | assumption | exact bI_01 | exact Or.inl rfl | exact Or.inr rfl) only [↓reduceIte, ↓if_bI, ↓if10, ↓if00, bI_eq0, not_false_eq_true, not_true_eq_false, and_true, true_and, and_false, false_and, or_true, true_or, or_false, false_or, ↓c_Is, ↓c_Js, ↓c_Vs, ↓c_An, ↓c_Ar, ↓o_0, ↓q_0_0, ↓q_0_1, ↓q_0_2, ↓q_0_3, ↓q_0_4, ↓q_0_5, ↓q_0_6, ↓q_0_7, ↓w_0_7, ↓o_18, ↓q_18_0, ↓w_18_0, ↓q_18_1, ↓q_18_2, ↓q_18_3, ↓q_18_4, ↓a_19, ↓s_19, ↓a_20, ↓s_20, ↓a_21, ↓s_21, ↓a_22, ↓s_22, ↓o_23, ↓q_23_0, ↓w_23_0, ↓q_23_1, ↓w_23_1, ↓o_24, ↓q_24_0, ↓w_24_0, ↓q_24_1, ↓q_24_2, ↓q_24_3, ↓w_24_3, ↓q_24_4, ↓q_24_5, ↓a_25, ↓s_25, ↓a_26, ↓s_26, ↓a_27, ↓s_27, ↓a_28, ↓s_28, ↓o_29, ↓q_29_0, ↓w_29_0, ↓q_29_1, ↓w_29_1, ↓q_29_2, ↓w_29_2, ↓q_29_3, ↓q_29_4, ↓q_29_5, ↓q_29_6, ↓q_29_7, ↓w_29_7, ↓q_29_8, ↓q_29_9, ↓w_29_9, ↓q_29_10, ↓w_29_10, ↓q_29_11, ↓a_30, ↓s_30, ↓a_31, ↓s_31, ↓a_32, ↓s_32, ↓a_33, ↓s_33, ↓a_34, ↓s_34, ↓a_35, ↓s_35, ↓o_36, ↓q_36_0, ↓q_36_1, ↓w_36_1, ↓q_36_2, ↓w_36_2, ↓q_36_3, ↓q_36_4, ↓a_37, ↓s_37, ↓a_38, ↓s_38, ↓o_39, ↓q_39_0, ↓q_39_1, ↓w_39_1, ↓q_39_2, ↓q_39_3, ↓w_39_3, ↓q_39_4, ↓q_39_5, ↓a_40, ↓s_40, ↓a_41, ↓s_41, ↓a_42, ↓s_42, ↓o_43, ↓q_43_0, ↓w_43_0, ↓q_43_1, ↓q_43_2, ↓q_43_3, ↓q_43_4, ↓q_43_5, ↓q_43_6, ↓q_43_7, ↓q_43_8, ↓q_43_9, ↓w_43_9, ↓q_43_10, ↓q_43_11, ↓q_43_12, ↓q_43_13, ↓q_43_14, ↓w_43_14, ↓q_43_15, ↓w_43_15, ↓q_43_16, ↓q_43_17, ↓w_43_17, ↓q_43_18, ↓w_43_18, ↓q_43_19, ↓q_43_20, ↓q_43_21, ↓q_43_22, ↓w_43_22, ↓q_43_23, ↓w_43_23, ↓q_43_24, ↓q_43_25, ↓q_43_26, ↓w_43_26, ↓q_43_27, ↓q_43_28, ↓q_43_29, ↓w_43_29, ↓q_43_30, ↓q_43_31, ↓q_43_32, ↓q_43_33, ↓w_43_33, ↓q_43_34, ↓q_43_35, ↓q_43_36, ↓a_44, ↓s_44, ↓a_45, ↓s_45, ↓a_46, ↓s_46, ↓a_47, ↓s_47, ↓a_48, ↓s_48, ↓a_49, ↓s_49, ↓a_50, ↓s_50, ↓a_51, ↓s_51, ↓a_52, ↓s_52, ↓a_53, ↓s_53, ↓a_54, ↓s_54, ↓a_55, ↓s_55, ↓a_56, ↓s_56, ↓a_57, ↓s_57, ↓a_58, ↓s_58, ↓a_59, ↓s_59, ↓a_60, ↓s_60, ↓a_61, ↓s_61, ↓a_62, ↓s_62, ↓a_63, ↓s_63, ↓a_64, ↓s_64, ↓a_65, ↓s_65, ↓a_66, ↓s_66, ↓a_67, ↓s_67, ↓a_68, ↓s_68, ↓a_69, ↓s_69, ↓a_1, le0_T, le0_F, addm1, sA_1, sA_22, sL_1, sL_21, sF_2, sA_eq, sA_ne, sA_nj, sL_eq, sL_ne, sL_nj, sF_eq, sF_ne, sF_nj, le_T, le_F, lt_T, lt_F, lt0_F, eq_T, eq_F, eq_N, m9_F, m1_F, z_F, z_N, l2, l3, l4, l5, l6, l8, l12, l24, l40, l70, l96, l255, l256, l280, l320, c_Is, c_Js, c_Vs, c_An, c_Ar, if_bI, rI0, rI1, rIb, if00, if10, lg0, nI_1, nI_add, sub_1, sub_N, if_true, if_false, ite_true, ite_false, ge0_T, ge0_F, in_d, in_e, bitz, bito, mul_n, a_47, s_47, a_48, s_48, a_49, s_49, a_42, s_42, a_69, s_69, a_59, a_63, a_28, a_50, s_50, a_51, s_51, e26', e62', eq_false qw]
              exact hr
        · refine ⟨1, ⟨Or.inr rfl, ⟨fun _ => ?_, fun _ => rfl⟩⟩, fun r hr => B_X8_third_277 _ _ _ _ _ _ _ ?_⟩
          · rcases u2.mp rfl with z | ⟨j, hj, z⟩
            · exact Or.inl z
            · exact Or.inr ⟨j, by omega, z⟩
          · simp (disch := first | omega | assumption | exact bI_01 | exact Or.inl rfl | exact Or.inr rfl) only [↓reduceIte, ↓if_bI, ↓if10, ↓if00, bI_eq0, not_false_eq_true, not_true_eq_false, and_true, true_and, and_false, false_and, or_true, true_or, or_false, false_or, ↓c_Is, ↓c_Js, ↓c_Vs, ↓c_An, ↓c_Ar, ↓o_0, ↓q_0_0, ↓q_0_1, ↓q_0_2, ↓q_0_3, ↓q_0_4, ↓q_0_5, ↓q_0_6, ↓q_0_7, ↓w_0_7, ↓o_18, ↓q_18_0, ↓w_18_0, ↓q_18_1, ↓q_18_2, ↓q_18_3, ↓q_18_4, ↓a_19, ↓s_19, ↓a_20, ↓s_20, ↓a_21, ↓s_21, ↓a_22, ↓s_22, ↓o_23, ↓q_23_0, ↓w_23_0, ↓q_23_1, ↓w_23_1, ↓o_24, ↓q_24_0, ↓w_24_0, ↓q_24_1, ↓q_24_2, ↓q_24_3, ↓w_24_3, ↓q_24_4, ↓q_24_5, ↓a_25, ↓s_25, ↓a_26, ↓s_26, ↓a_27, ↓s_27, ↓a_28, ↓s_28, ↓o_29, ↓q_29_0, ↓w_29_0, ↓q_29_1, ↓w_29_1, ↓q_29_2, ↓w_29_2, ↓q_29_3, ↓q_29_4, ↓q_29_5, ↓q_29_6, ↓q_29_7, ↓w_29_7, ↓q_29_8, ↓q_29_9, ↓w_29_9, ↓q_29_10, ↓w_29_10, ↓q_29_11, ↓a_30, ↓s_30, ↓a_31, ↓s_31, ↓a_32, ↓s_32, ↓a_33, ↓s_33, ↓a_34, ↓s_34, ↓a_35, ↓s_35, ↓o_36, ↓q_36_0, ↓q_36_1, ↓w_36_1, ↓q_36_2, ↓w_36_2, ↓q_36_3, ↓q_36_4, ↓a_37, ↓s_37, ↓a_38, ↓s_38, ↓o_39, ↓q_39_0, ↓q_39_1, ↓w_39_1, ↓q_39_2, ↓q_39_3, ↓w_39_3, ↓q_39_4, ↓q_39_5, ↓a_40, ↓s_40, ↓a_41, ↓s_41, ↓a_42, ↓s_42, ↓o_43, ↓q_43_0, ↓w_43_0, ↓q_43_1, ↓q_43_2, ↓q_43_3, ↓q_43_4, ↓q_43_5, ↓q_43_6, ↓q_43_7, ↓q_43_8, ↓q_43_9, ↓w_43_9, ↓q_43_10, ↓q_43_11, ↓q_43_12, ↓q_43_13, ↓q_43_14, ↓w_43_14, ↓q_43_15, ↓w_43_15, ↓q_43_16, ↓q_43_17, ↓w_43_17, ↓q_43_18, ↓w_43_18, ↓q_43_19, ↓q_43_20, ↓q_43_21, ↓q_43_22, ↓w_43_22, ↓q_43_23, ↓w_43_23, ↓q_43_24, ↓q_43_25, ↓q_43_26, ↓w_43_26, ↓q_43_27, ↓q_43_28, ↓q_43_29, ↓w_43_29, ↓q_43_30, ↓q_43_31, ↓q_43_32, ↓q_43_33, ↓w_43_33, ↓q_43_34, ↓q_43_35, ↓q_43_36, ↓a_44, ↓s_44, ↓a_45, ↓s_45, ↓a_46, ↓s_46, ↓a_47, ↓s_47, ↓a_48, ↓s_48, ↓a_49, ↓s_49, ↓a_50, ↓s_50, ↓a_51, ↓s_51, ↓a_52, ↓s_52, ↓a_53, ↓s_53, ↓a_54, ↓s_54, ↓a_55, ↓s_55, ↓a_56, ↓s_56, ↓a_57, ↓s_57, ↓a_58, ↓s_58, ↓a_59, ↓s_59, ↓a_60, ↓s_60, ↓a_61, ↓s_61, ↓a_62, ↓s_62, ↓a_63, ↓s_63, ↓a_64, ↓s_64, ↓a_65, ↓s_65, ↓a_66, ↓s_66, ↓a_67, ↓s_67, ↓a_68, ↓s_68, ↓a_69, ↓s_69, ↓a_1, le0_T, le0_F, addm1, sA_1, sA_22, sL_1, sL_21, sF_2, sA_eq, sA_ne, sA_nj, sL_eq, sL_ne, sL_nj, sF_eq, sF_ne, sF_nj, le_T, le_F, lt_T, lt_F, lt0_F, eq_T, eq_F, eq_N, m9_F, m1_F, z_F, z_N, l2, l3, l4, l5, l6, l8, l12, l24, l40, l70, l96, l255, l256, l280, l320, c_Is, c_Js, c_Vs, c_An, c_Ar, if_bI, rI0, rI1, rIb, if00, if10, lg0, nI_1, nI_add, sub_1, sub_N, if_true, if_false, ite_true, ite_false, ge0_T, ge0_F, in_d, in_e, bitz, bito, mul_n, a_47, s_47, a_48, s_48, a_49, s_49, a_42, s_42, a_69, s_69, a_59, a_63, a_28, a_50, s_50, a_51, s_51, e26']
            exact hr
      · intro u ⟨u1, u2⟩
        have e26' : S1.1 43 26 = nI K.length := (hf'.1 43 26 (by decide)).trans hK1
        refine ⟨u, ⟨u1, u2.trans ?_⟩, fun r hr => B_X8_third_277 _ _ _ _ _ _ _ ?_⟩
        · rw [e]
          constructor
          · rintro (z | ⟨j, hj, z⟩)
            · obtain ⟨d, hd, κ, hκ, hs⟩ := h4.mp z
              exact ⟨d, List.mem_append_left _ hd, κ, hκ, hs⟩
            · exact ⟨D.getD k 0, List.mem_append_right _ (List.mem_singleton.mpr rfl), _, gD_mem hj, z⟩
          · rintro ⟨d, hd, κ, hκ, hs⟩
            rcases List.mem_append.mp hd with z | z
            · exact Or.inl (h4.mpr ⟨d, z, κ, hκ, hs⟩)
            · rw [List.mem_singleton.mp z] at hs
              obtain ⟨j, hj, ej⟩ := gD_of hκ
              exact Or.inr ⟨j, hj, by rw [ej]; exact hs⟩
        · simp (disch := first | omega | assumption | exact bI_01 | exact Or.inl rfl | exact Or.inr rfl) only [↓reduceIte, ↓if_bI, ↓if10, ↓if00, bI_eq0, not_false_eq_true, not_true_eq_false, and_true, true_and, and_false, false_and, or_true, true_or, or_false, false_or, ↓c_Is, ↓c_Js, ↓c_Vs, ↓c_An, ↓c_Ar, ↓o_0, ↓q_0_0, ↓q_0_1, ↓q_0_2, ↓q_0_3, ↓q_0_4, ↓q_0_5, ↓q_0_6, ↓q_0_7, ↓w_0_7, ↓o_18, ↓q_18_0, ↓w_18_0, ↓q_18_1, ↓q_18_2, ↓q_18_3, ↓q_18_4, ↓a_19, ↓s_19, ↓a_20, ↓s_20, ↓a_21, ↓s_21, ↓a_22, ↓s_22, ↓o_23, ↓q_23_0, ↓w_23_0, ↓q_23_1, ↓w_23_1, ↓o_24, ↓q_24_0, ↓w_24_0, ↓q_24_1, ↓q_24_2, ↓q_24_3, ↓w_24_3, ↓q_24_4, ↓q_24_5, ↓a_25, ↓s_25, ↓a_26, ↓s_26, ↓a_27, ↓s_27, ↓a_28, ↓s_28, ↓o_29, ↓q_29_0, ↓w_29_0, ↓q_29_1, ↓w_29_1, ↓q_29_2, ↓w_29_2, ↓q_29_3, ↓q_29_4, ↓q_29_5, ↓q_29_6, ↓q_29_7, ↓w_29_7, ↓q_29_8, ↓q_29_9, ↓w_29_9, ↓q_29_10, ↓w_29_10, ↓q_29_11, ↓a_30, ↓s_30, ↓a_31, ↓s_31, ↓a_32, ↓s_32, ↓a_33, ↓s_33, ↓a_34, ↓s_34, ↓a_35, ↓s_35, ↓o_36, ↓q_36_0, ↓q_36_1, ↓w_36_1, ↓q_36_2, ↓w_36_2, ↓q_36_3, ↓q_36_4, ↓a_37, ↓s_37, ↓a_38, ↓s_38, ↓o_39, ↓q_39_0, ↓q_39_1, ↓w_39_1, ↓q_39_2, ↓q_39_3, ↓w_39_3, ↓q_39_4, ↓q_39_5, ↓a_40, ↓s_40, ↓a_41, ↓s_41, ↓a_42, ↓s_42, ↓o_43, ↓q_43_0, ↓w_43_0, ↓q_43_1, ↓q_43_2, ↓q_43_3, ↓q_43_4, ↓q_43_5, ↓q_43_6, ↓q_43_7, ↓q_43_8, ↓q_43_9, ↓w_43_9, ↓q_43_10, ↓q_43_11, ↓q_43_12, ↓q_43_13, ↓q_43_14, ↓w_43_14, ↓q_43_15, ↓w_43_15, ↓q_43_16, ↓q_43_17, ↓w_43_17, ↓q_43_18, ↓w_43_18, ↓q_43_19, ↓q_43_20, ↓q_43_21, ↓q_43_22, ↓w_43_22, ↓q_43_23, ↓w_43_23, ↓q_43_24, ↓q_43_25, ↓q_43_26, ↓w_43_26, ↓q_43_27, ↓q_43_28, ↓q_43_29, ↓w_43_29, ↓q_43_30, ↓q_43_31, ↓q_43_32, ↓q_43_33, ↓w_43_33, ↓q_43_34, ↓q_43_35, ↓q_43_36, ↓a_44, ↓s_44, ↓a_45, ↓s_45, ↓a_46, ↓s_46, ↓a_47, ↓s_47, ↓a_48, ↓s_48, ↓a_49, ↓s_49, ↓a_50, ↓s_50, ↓a_51, ↓s_51, ↓a_52, ↓s_52, ↓a_53, ↓s_53, ↓a_54, ↓s_54, ↓a_55, ↓s_55, ↓a_56, ↓s_56, ↓a_57, ↓s_57, ↓a_58, ↓s_58, ↓a_59, ↓s_59, ↓a_60, ↓s_60, ↓a_61, ↓s_61, ↓a_62, ↓s_62, ↓a_63, ↓s_63, ↓a_64, ↓s_64, ↓a_65, ↓s_65, ↓a_66, ↓s_66, ↓a_67, ↓s_67, ↓a_68, ↓s_68, ↓a_69, ↓s_69, ↓a_1, le0_T, le0_F, addm1, sA_1, sA_22, sL_1, sL_21, sF_2, sA_eq, sA_ne, sA_nj, sL_eq, sL_ne, sL_nj, sF_eq, sF_ne, sF_nj, le_T, le_F, lt_T, lt_F, lt0_F, eq_T, eq_F, eq_N, m9_F, m1_F, z_F, z_N, l2, l3, l4, l5, l6, l8, l12, l24, l40, l70, l96, l255, l256, l280, l320, c_Is, c_Js, c_Vs, c_An, c_Ar, if_bI, rI0, rI1, rIb, if00, if10, lg0, nI_1, nI_add, sub_1, sub_N, if_true, if_false, ite_true, ite_false, ge0_T, ge0_F, in_d, in_e, bitz, bito, mul_n, a_47, s_47, a_48, s_48, a_49, s_49, a_42, s_42, a_69, s_69, a_59, a_63, a_28, a_50, s_50, a_51, s_51, e26']
          exact hr
  · intro ⟨S1, v⟩ ⟨hf, h1, h2, h3, h4⟩
    exact ⟨(S1, v), ⟨hf, h1, h3, h4⟩, fun r hr => hr⟩
theorem g0_sub {w : Nat} {P : List (Nat × Nat)} (h8 : w ≤ 8) (hP : ∀ e, e ∈ P → e.1 < 2 ^ w ∧ e.2 < w) : ∀ d, d ∈ g0 P P.length → d < 2 ^ w := by
  intro d hd
  unfold g0 at hd
  obtain ⟨i, hi, rfl⟩ := List.mem_map.mp hd
  have hi' := List.mem_range.mp (List.mem_filter.mp hi).1
  unfold gr
  refine it_inv (I := fun _ a => a < 2 ^ w) (hP _ (cv_mem hi')).1 (fun k a hk ha => ?_)
  unfold grI
  split
  · exact or_lt ha (Nat.pow_lt_pow_right (by decide) (hP _ (cv_mem hk)).2)
  · exact ha
theorem cov_in {w F : Nat} {fx fy : Nat → Nat} {L : List Nat} (h : mq S w F fx fy L) : ∀ e, e ∈ cov F fx fy → e.1 < 2 ^ w ∧ e.2 < w := by
  intro e he
  have h1 := lo_mem (c1 F fx fy) [] e he
  rw [List.nil_append] at h1
  unfold c1 at h1
  obtain ⟨e0, he0, rfl⟩ := List.mem_map.mp h1
  obtain ⟨j, hj, q1, q2, q3⟩ := (c0_mem fx fy).mp he0
  have hsub := mq_sub h j
  refine ⟨?_, ?_⟩
  · show it (shI F fx fy e0.2) 8 e0.1 < 2 ^ w
    exact sh_w (by rw [q1]; exact sub_lt_pw hsub.1) 8
  · rw [andn_bit (mq_y h j hj)] at q3
    have := sub_iff.mp hsub.2 e0.2 ((Bool.and_eq_true _ _).mp q3).1
    rw [Nat.testBit_two_pow_sub_one] at this
    exact of_decide_eq_true this
theorem third_o (h : Rel S) : Op sc S (Rc 121 [.ref 0]) (Rc 226 [.ref 43]) := by
  obtain ⟨w, F, fx, fy, L, hq, hla⟩ := La_q h.2.2.2.2.2.2
  obtain ⟨q1, q2, q3, q4, q5, q6, q7, q8⟩ := hq
  obtain ⟨P0, hP0⟩ := h.2.2.2.2.2.1
  have hy := mq_y q5
  have h8 := (mq_w q5).2.2
  have hp8 := pw8 h8
  -- here
  obtain ⟨S1, ⟨a1, a2, a3, a4⟩, e1⟩ := build_s (sc := sc) q2 q6 q8
  obtain ⟨S2, ⟨b1, b2, b3, b4⟩, e2⟩ := findKeys_s (sc := sc) (FDq_fr a1 rfl rfl q2) a2 (WiC_fr a1 rfl q1) (KC_fr a1 rfl rfl q7)
  have f12 : Fr [(36, 1), (36, 2), (29, 9), (29, 10)] [33, 37, 38, 35] S S2 := Fr_tr (Fr_w a1 (by decide) (by decide)) (Fr_w b1 (by decide) (by decide))
  have hg := PG_cov q2
  have hcv : CvC S2 (cov F fx fy) := by
    obtain ⟨x1, x2, x3⟩ := a4
    exact ⟨(b1.1 36 2 (by decide)).trans x1, x2, fun k hk => by rw [(b1.2 37 (by decide)).1, (b1.2 38 (by decide)).1]; exact x3 k hk⟩
  have hKlen := kl_len (fx := fx) hy (a := 2 ^ w - 1) (N := 2 ^ w) hp8
  have hKne := kl_ne (F := F) (fx := fx) hy h8
  have hKlt : ∀ κ, κ ∈ kl F fx fy (2 ^ w - 1) (2 ^ w) → κ < 256 := fun κ hκ => by have := (kl_mem.mp hκ).1; omega
  obtain ⟨D2, hD2⟩ : ∃ D2, (hasK F fx fy (2 ^ w - 1) (D1 (cov F fx fy)) ∧ D2 = D1 (cov F fx fy)) ∨ (¬ hasK F fx fy (2 ^ w - 1) (D1 (cov F fx fy)) ∧ D2 = D1 (cov F fx fy) ++ [(kl F fx fy (2 ^ w - 1) (2 ^ w)).getD 0 0]) := by
    by_cases q : hasK F fx fy (2 ^ w - 1) (D1 (cov F fx fy))
    · exact ⟨_, Or.inl ⟨q, rfl⟩⟩
    · exact ⟨_, Or.inr ⟨q, rfl⟩⟩
  obtain ⟨S3, ⟨c1', c2, c3, c4⟩, e3⟩ := becomeThird_s (sc := sc) (FDq_fr f12 rfl rfl q2) b2 (WiC_fr f12 rfl q1) hcv hg b4 hKne hKlen (hKlt _ (gD_mem hKne)) hD2
  have f13 : Fr [(36, 1), (36, 2), (29, 9), (29, 10), (39, 1), (39, 3)] [33, 37, 38, 35, 40, 41] S S3 := Fr_tr (Fr_w f12 (by decide) (by decide)) (Fr_w c1' (by decide) (by decide))
  have m3 := mq_fr f13 rfl rfl q5
  -- there
  obtain ⟨T1, ⟨t1, t2⟩, g1⟩ := findCover_q (sc := sc) m3
  have n1 := mq_fr t1 rfl rfl m3
  obtain ⟨T2, ⟨t3, t4, t5, t6⟩, g2⟩ := findKeys_q (sc := sc) n1
  have hMV : MV T2 (cov F fx fy) := by
    obtain ⟨x1, x2, x3⟩ := t2
    exact ⟨(t3.1 43 29 (by decide)).trans x1, x2, fun k hk => by rw [(t3.2 64 (by decide)).1, (t3.2 65 (by decide)).1]; exact x3 k hk⟩
  obtain ⟨T3, ⟨t7, t8⟩, g3⟩ := third_a (sc := sc) hMV hg
  have hDlen : (g0 (cov F fx fy) (cov F fx fy).length).length ≤ 320 := Nat.le_trans (g0_len _ _) hMV.2.1
  have hDlt := g0_lt hg (n := (cov F fx fy).length) (Nat.le_refl _)
  obtain ⟨T4, ⟨t9, t10⟩, g4⟩ := third_b (sc := sc) t8 hDlen hDlt
  have t8' : Hl (T4.2.1 68) (g0 (cov F fx fy) (cov F fx fy).length) := by rw [(t9.2 68 (by decide)).1]; exact t8
  have f24 : Fr [] [66, 68] T2 T4 := Fr_tr (Fr_w t7 (by decide) (by decide)) (Fr_w t9 (by decide) (by decide))
  obtain ⟨T5, v, ⟨t11, t12, t13, t14⟩, g5⟩ := third_c (sc := sc) (K := kl F fx fy (2 ^ w - 1) (2 ^ w)) t8' hDlen hDlt t10 ((f24.1 43 26 (by decide)).trans t5) (by rw [(f24.2 62 (by decide)).1]; exact t6) hKlen hKlt
  have hD1lt : ∀ d, d ∈ D1 (cov F fx fy) → d < 2 ^ w := by
    intro d hd
    obtain ⟨j, hj, _, rfl⟩ := li_mem.mp hd
    exact g0_sub h8 (cov_in q5) _ (gD_mem hj)
  have hkk : hKey (kl F fx fy (2 ^ w - 1) (2 ^ w)) (D1 (cov F fx fy)) ↔ hasK F fx fy (2 ^ w - 1) (D1 (cov F fx fy)) := by
    rw [hasK_iff]
    constructor
    · rintro ⟨d, hd, κ, hκ, hs⟩
      exact ⟨d, hd, sub_trans (kl_mem.mp hκ).2.1 (clo_mono F fx fy hy hs)⟩
    · rintro ⟨d, hd, hs⟩
      have hdl := hD1lt d hd
      obtain ⟨s, h1, h2⟩ := least_in (F := F) (fx := fx) hy (a := 2 ^ w - 1) d (by omega) hs
      exact ⟨d, hd, s, kl_mem.mpr ⟨sub_lt h1 hdl, h2⟩, h1⟩
  have f25 : Fr [] [66, 68] T2 T5 := Fr_tr f24 (Fr_w t11 (by decide) (by decide))
  have fT5 : Fr [(43, 26), (43, 29)] [62, 63, 64, 65, 66, 68] S3 T5 := Fr_tr (Fr_w t1 (by decide) (by decide)) (Fr_tr (Fr_w t3 (by decide) (by decide)) (Fr_w f25 (by decide) (by decide)))
  have hD1len : (D1 (cov F fx fy)).length ≤ 320 := Nat.le_trans D1_len hMV.2.1
  -- the draft, there
  obtain ⟨T6, t15, t16, t17⟩ : ∃ T6, (Fr [] [68] T5 T6 ∧ Hl (T6.2.1 68) D2) ∧ D2.length ≤ 321 ∧ ∀ y T7, Rc 225 [.ref 43, .int (nI D2.length), .int 1] (enc sc T6) = some (some (.int y), enc sc T7) → Rc 226 [.ref 43] (enc sc S3) = some (some (.int y), enc sc T7) := by
    have ent : ∀ r, Rs 226 245 [.ref 43, .int (nI (g0 (cov F fx fy) (cov F fx fy).length).length), .int (nI (D1 (cov F fx fy)).length), .int v, .int (nI (g0 (cov F fx fy) (cov F fx fy).length).length), UU] [] (enc sc T5) = some r → Rc 226 [.ref 43] (enc sc S3) = some r := by
      intro r hr
      refine Rc_of rfl rfl (B_X8_third_0 _ _ ?_)
      simp (disch := first | omega | assumption | exact bI_01 | exact Or.inl rfl | exact Or.inr rfl) only [↓reduceIte, ↓if_bI, ↓if10, ↓if00, bI_eq0, not_false_eq_true, not_true_eq_false, and_true, true_and, and_false, false_and, or_true, true_or, or_false, false_or, ↓c_Is, ↓c_Js, ↓c_Vs, ↓c_An, ↓c_Ar, ↓o_0, ↓q_0_0, ↓q_0_1, ↓q_0_2, ↓q_0_3, ↓q_0_4, ↓q_0_5, ↓q_0_6, ↓q_0_7, ↓w_0_7, ↓o_18, ↓q_18_0, ↓w_18_0, ↓q_18_1, ↓q_18_2, ↓q_18_3, ↓q_18_4, ↓a_19, ↓s_19, ↓a_20, ↓s_20, ↓a_21, ↓s_21, ↓a_22, ↓s_22, ↓o_23, ↓q_23_0, ↓w_23_0, ↓q_23_1, ↓w_23_1, ↓o_24, ↓q_24_0, ↓w_24_0, ↓q_24_1, ↓q_24_2, ↓q_24_3, ↓w_24_3, ↓q_24_4, ↓q_24_5, ↓a_25, ↓s_25, ↓a_26, ↓s_26, ↓a_27, ↓s_27, ↓a_28, ↓s_28, ↓o_29, ↓q_29_0, ↓w_29_0, ↓q_29_1, ↓w_29_1, ↓q_29_2, ↓w_29_2, ↓q_29_3, ↓q_29_4, ↓q_29_5, ↓q_29_6, ↓q_29_7, ↓w_29_7, ↓q_29_8, ↓q_29_9, ↓w_29_9, ↓q_29_10, ↓w_29_10, ↓q_29_11, ↓a_30, ↓s_30, ↓a_31, ↓s_31, ↓a_32, ↓s_32, ↓a_33, ↓s_33, ↓a_34, ↓s_34, ↓a_35, ↓s_35, ↓o_36, ↓q_36_0, ↓q_36_1, ↓w_36_1, ↓q_36_2, ↓w_36_2, ↓q_36_3, ↓q_36_4, ↓a_37, ↓s_37, ↓a_38, ↓s_38, ↓o_39, ↓q_39_0, ↓q_39_1, ↓w_39_1, ↓q_39_2, ↓q_39_3, ↓w_39_3, ↓q_39_4, ↓q_39_5, ↓a_40, ↓s_40, ↓a_41, ↓s_41, ↓a_42, ↓s_42, ↓o_43, ↓q_43_0, ↓w_43_0, ↓q_43_1, ↓q_43_2, ↓q_43_3, ↓q_43_4, ↓q_43_5, ↓q_43_6, ↓q_43_7, ↓q_43_8, ↓q_43_9, ↓w_43_9, ↓q_43_10, ↓q_43_11, ↓q_43_12, ↓q_43_13, ↓q_43_14, ↓w_43_14, ↓q_43_15, ↓w_43_15, ↓q_43_16, ↓q_43_17, ↓w_43_17, ↓q_43_18, ↓w_43_18, ↓q_43_19, ↓q_43_20, ↓q_43_21, ↓q_43_22, ↓w_43_22, ↓q_43_23, ↓w_43_23, ↓q_43_24, ↓q_43_25, ↓q_43_26, ↓w_43_26, ↓q_43_27, ↓q_43_28, ↓q_43_29, ↓w_43_29, ↓q_43_30, ↓q_43_31, ↓q_43_32, ↓q_43_33, ↓w_43_33, ↓q_43_34, ↓q_43_35, ↓q_43_36, ↓a_44, ↓s_44, ↓a_45, ↓s_45, ↓a_46, ↓s_46, ↓a_47, ↓s_47, ↓a_48, ↓s_48, ↓a_49, ↓s_49, ↓a_50, ↓s_50, ↓a_51, ↓s_51, ↓a_52, ↓s_52, ↓a_53, ↓s_53, ↓a_54, ↓s_54, ↓a_55, ↓s_55, ↓a_56, ↓s_56, ↓a_57, ↓s_57, ↓a_58, ↓s_58, ↓a_59, ↓s_59, ↓a_60, ↓s_60, ↓a_61, ↓s_61, ↓a_62, ↓s_62, ↓a_63, ↓s_63, ↓a_64, ↓s_64, ↓a_65, ↓s_65, ↓a_66, ↓s_66, ↓a_67, ↓s_67, ↓a_68, ↓s_68, ↓a_69, ↓s_69, ↓a_1, le0_T, le0_F, addm1, sA_1, sA_22, sL_1, sL_21, sF_2, sA_eq, sA_ne, sA_nj, sL_eq, sL_ne, sL_nj, sF_eq, sF_ne, sF_nj, le_T, le_F, lt_T, lt_F, lt0_F, eq_T, eq_F, eq_N, m9_F, m1_F, z_F, z_N, l2, l3, l4, l5, l6, l8, l12, l24, l40, l70, l96, l255, l256, l280, l320, c_Is, c_Js, c_Vs, c_An, c_Ar, if_bI, rI0, rI1, rIb, if00, if10, lg0, nI_1, nI_add, sub_1, sub_N, if_true, if_false, ite_true, ite_false, ge0_T, ge0_F, in_d, in_e, bitz, bito, mul_n, a_47, s_47, a_48, s_48, a_49, s_49, a_42, s_42, a_69, s_69, a_59, a_63, a_28, a_50, s_50, a_51, s_51, ↓cV (g1), ↓cV (g2)]
      exact g3 _ (g4 _ (g5 _ hr))
    rcases hD2 with ⟨q, rfl⟩ | ⟨q, rfl⟩
    · have hv : v = 1 := t14.mpr (hkk.mpr q)
      subst hv
      refine ⟨T5, ⟨Fr_refl _ _ _, t12⟩, by omega, fun y T7 hy => ent _ (B_X8_third_245 _ _ _ _ _ _ ?_)⟩
      simp (disch := first | omega | assumption | exact bI_01 | exact Or.inl rfl | exact Or.inr rfl) only [↓reduceIte, ↓if_bI, ↓if10, ↓if00, bI_eq0, not_false_eq_true, not_true_eq_false, and_true, true_and, and_false, false_and, or_true, true_or, or_false, false_or, ↓c_Is, ↓c_Js, ↓c_Vs, ↓c_An, ↓c_Ar, ↓o_0, ↓q_0_0, ↓q_0_1, ↓q_0_2, ↓q_0_3, ↓q_0_4, ↓q_0_5, ↓q_0_6, ↓q_0_7, ↓w_0_7, ↓o_18, ↓q_18_0, ↓w_18_0, ↓q_18_1, ↓q_18_2, ↓q_18_3, ↓q_18_4, ↓a_19, ↓s_19, ↓a_20, ↓s_20, ↓a_21, ↓s_21, ↓a_22, ↓s_22, ↓o_23, ↓q_23_0, ↓w_23_0, ↓q_23_1, ↓w_23_1, ↓o_24, ↓q_24_0, ↓w_24_0, ↓q_24_1, ↓q_24_2, ↓q_24_3, ↓w_24_3, ↓q_24_4, ↓q_24_5, ↓a_25, ↓s_25, ↓a_26, ↓s_26, ↓a_27, ↓s_27, ↓a_28, ↓s_28, ↓o_29, ↓q_29_0, ↓w_29_0, ↓q_29_1, ↓w_29_1, ↓q_29_2, ↓w_29_2, ↓q_29_3, ↓q_29_4, ↓q_29_5, ↓q_29_6, ↓q_29_7, ↓w_29_7, ↓q_29_8, ↓q_29_9, ↓w_29_9, ↓q_29_10, ↓w_29_10, ↓q_29_11, ↓a_30, ↓s_30, ↓a_31, ↓s_31, ↓a_32, ↓s_32, ↓a_33, ↓s_33, ↓a_34, ↓s_34, ↓a_35, ↓s_35, ↓o_36, ↓q_36_0, ↓q_36_1, ↓w_36_1, ↓q_36_2, ↓w_36_2, ↓q_36_3, ↓q_36_4, ↓a_37, ↓s_37, ↓a_38, ↓s_38, ↓o_39, ↓q_39_0, ↓q_39_1, ↓w_39_1, ↓q_39_2, ↓q_39_3, ↓w_39_3, ↓q_39_4, ↓q_39_5, ↓a_40, ↓s_40, ↓a_41, ↓s_41, ↓a_42, ↓s_42, ↓o_43, ↓q_43_0, ↓w_43_0, ↓q_43_1, ↓q_43_2, ↓q_43_3, ↓q_43_4, ↓q_43_5, ↓q_43_6, ↓q_43_7, ↓q_43_8, ↓q_43_9, ↓w_43_9, ↓q_43_10, ↓q_43_11, ↓q_43_12, ↓q_43_13, ↓q_43_14, ↓w_43_14, ↓q_43_15, ↓w_43_15, ↓q_43_16, ↓q_43_17, ↓w_43_17, ↓q_43_18, ↓w_43_18, ↓q_43_19, ↓q_43_20, ↓q_43_21, ↓q_43_22, ↓w_43_22, ↓q_43_23, ↓w_43_23, ↓q_43_24, ↓q_43_25, ↓q_43_26, ↓w_43_26, ↓q_43_27, ↓q_43_28, ↓q_43_29, ↓w_43_29, ↓q_43_30, ↓q_43_31, ↓q_43_32, ↓q_43_33, ↓w_43_33, ↓q_43_34, ↓q_43_35, ↓q_43_36, ↓a_44, ↓s_44, ↓a_45, ↓s_45, ↓a_46, ↓s_46, ↓a_47, ↓s_47, ↓a_48, ↓s_48, ↓a_49, ↓s_49, ↓a_50, ↓s_50, ↓a_51, ↓s_51, ↓a_52, ↓s_52, ↓a_53, ↓s_53, ↓a_54, ↓s_54, ↓a_55, ↓s_55, ↓a_56, ↓s_56, ↓a_57, ↓s_57, ↓a_58, ↓s_58, ↓a_59, ↓s_59, ↓a_60, ↓s_60, ↓a_61, ↓s_61, ↓a_62, ↓s_62, ↓a_63, ↓s_63, ↓a_64, ↓s_64, ↓a_65, ↓s_65, ↓a_66, ↓s_66, ↓a_67, ↓s_67, ↓a_68, ↓s_68, ↓a_69, ↓s_69, ↓a_1, le0_T, le0_F, addm1, sA_1, sA_22, sL_1, sL_21, sF_2, sA_eq, sA_ne, sA_nj, sL_eq, sL_ne, sL_nj, sF_eq, sF_ne, sF_nj, le_T, le_F, lt_T, lt_F, lt0_F, eq_T, eq_F, eq_N, m9_F, m1_F, z_F, z_N, l2, l3, l4, l5, l6, l8, l12, l24, l40, l70, l96, l255, l256, l280, l320, c_Is, c_Js, c_Vs, c_An, c_Ar, if_bI, rI0, rI1, rIb, if00, if10, lg0, nI_1, nI_add, sub_1, sub_N, if_true, if_false, ite_true, ite_false, ge0_T, ge0_F, in_d, in_e, bitz, bito, mul_n, a_47, s_47, a_48, s_48, a_49, s_49, a_42, s_42, a_69, s_69, a_59, a_63, a_28, a_50, s_50, a_51, s_51, ↓cI (hy)]
    · have hv : v = 0 := t13.resolve_right fun z => q (hkk.mp (t14.mp z))
      subst hv
      have e62 : T5.2.1 62 0 = nI ((kl F fx fy (2 ^ w - 1) (2 ^ w)).getD 0 0) := by rw [(f25.2 62 (by decide)).1]; exact t6 0 hKne
      refine ⟨sA T5 68 (D1 (cov F fx fy)).length (nI ((kl F fx fy (2 ^ w - 1) (2 ^ w)).getD 0 0)), ⟨Fr_sA (by decide), ?_⟩, by rw [List.length_append, List.length_singleton]; omega, fun y T7 hy => ent _ (B_X8_third_245 _ _ _ _ _ _ ?_)⟩
      · refine Hl_app t12 (fun j hj => ?_) ?_
        · have hj' : j < (D1 (cov F fx fy)).length := hj
          simp (disch := omega) only [sA_1, sA_22, sL_1, sL_21, sF_2, sA_eq, sA_ne, sA_nj, sL_eq, sL_ne, sL_nj, sF_eq, sF_ne, sF_nj]
        · exact sA_eq
      · rw [List.length_append, List.length_singleton] at hy
        have a0 : ∀ Kt : Int32 → Option RT, a_I (enc sc T5) 62 0 Kt = Kt (T5.2.1 62 0) := fun Kt => a_62 (i := 0) (by decide)
        simp (disch := first | omega | assumption | exact bI_01 | exact Or.inl rfl | exact Or.inr rfl) only [↓reduceIte, ↓if_bI, ↓if10, ↓if00, bI_eq0, not_false_eq_true, not_true_eq_false, and_true, true_and, and_false, false_and, or_true, true_or, or_false, false_or, ↓c_Is, ↓c_Js, ↓c_Vs, ↓c_An, ↓c_Ar, ↓o_0, ↓q_0_0, ↓q_0_1, ↓q_0_2, ↓q_0_3, ↓q_0_4, ↓q_0_5, ↓q_0_6, ↓q_0_7, ↓w_0_7, ↓o_18, ↓q_18_0, ↓w_18_0, ↓q_18_1, ↓q_18_2, ↓q_18_3, ↓q_18_4, ↓a_19, ↓s_19, ↓a_20, ↓s_20, ↓a_21, ↓s_21, ↓a_22, ↓s_22, ↓o_23, ↓q_23_0, ↓w_23_0, ↓q_23_1, ↓w_23_1, ↓o_24, ↓q_24_0, ↓w_24_0, ↓q_24_1, ↓q_24_2, ↓q_24_3, ↓w_24_3, ↓q_24_4, ↓q_24_5, ↓a_25, ↓s_25, ↓a_26, ↓s_26, ↓a_27, ↓s_27, ↓a_28, ↓s_28, ↓o_29, ↓q_29_0, ↓w_29_0, ↓q_29_1, ↓w_29_1, ↓q_29_2, ↓w_29_2, ↓q_29_3, ↓q_29_4, ↓q_29_5, ↓q_29_6, ↓q_29_7, ↓w_29_7, ↓q_29_8, ↓q_29_9, ↓w_29_9, ↓q_29_10, ↓w_29_10, ↓q_29_11, ↓a_30, ↓s_30, ↓a_31, ↓s_31, ↓a_32, ↓s_32, ↓a_33, ↓s_33, ↓a_34, ↓s_34, ↓a_35, ↓s_35, ↓o_36, ↓q_36_0, ↓q_36_1, ↓w_36_1, ↓q_36_2, ↓w_36_2, ↓q_36_3, ↓q_36_4, ↓a_37, ↓s_37, ↓a_38, ↓s_38, ↓o_39, ↓q_39_0, ↓q_39_1, ↓w_39_1, ↓q_39_2, ↓q_39_3, ↓w_39_3, ↓q_39_4, ↓q_39_5, ↓a_40, ↓s_40, ↓a_41, ↓s_41, ↓a_42, ↓s_42, ↓o_43, ↓q_43_0, ↓w_43_0, ↓q_43_1, ↓q_43_2, ↓q_43_3, ↓q_43_4, ↓q_43_5, ↓q_43_6, ↓q_43_7, ↓q_43_8, ↓q_43_9, ↓w_43_9, ↓q_43_10, ↓q_43_11, ↓q_43_12, ↓q_43_13, ↓q_43_14, ↓w_43_14, ↓q_43_15, ↓w_43_15, ↓q_43_16, ↓q_43_17, ↓w_43_17, ↓q_43_18, ↓w_43_18, ↓q_43_19, ↓q_43_20, ↓q_43_21, ↓q_43_22, ↓w_43_22, ↓q_43_23, ↓w_43_23, ↓q_43_24, ↓q_43_25, ↓q_43_26, ↓w_43_26, ↓q_43_27, ↓q_43_28, ↓q_43_29, ↓w_43_29, ↓q_43_30, ↓q_43_31, ↓q_43_32, ↓q_43_33, ↓w_43_33, ↓q_43_34, ↓q_43_35, ↓q_43_36, ↓a_44, ↓s_44, ↓a_45, ↓s_45, ↓a_46, ↓s_46, ↓a_47, ↓s_47, ↓a_48, ↓s_48, ↓a_49, ↓s_49, ↓a_50, ↓s_50, ↓a_51, ↓s_51, ↓a_52, ↓s_52, ↓a_53, ↓s_53, ↓a_54, ↓s_54, ↓a_55, ↓s_55, ↓a_56, ↓s_56, ↓a_57, ↓s_57, ↓a_58, ↓s_58, ↓a_59, ↓s_59, ↓a_60, ↓s_60, ↓a_61, ↓s_61, ↓a_62, ↓s_62, ↓a_63, ↓s_63, ↓a_64, ↓s_64, ↓a_65, ↓s_65, ↓a_66, ↓s_66, ↓a_67, ↓s_67, ↓a_68, ↓s_68, ↓a_69, ↓s_69, ↓a_1, le0_T, le0_F, addm1, sA_1, sA_22, sL_1, sL_21, sF_2, sA_eq, sA_ne, sA_nj, sL_eq, sL_ne, sL_nj, sF_eq, sF_ne, sF_nj, le_T, le_F, lt_T, lt_F, lt0_F, eq_T, eq_F, eq_N, m9_F, m1_F, z_F, z_N, l2, l3, l4, l5, l6, l8, l12, l24, l40, l70, l96, l255, l256, l280, l320, c_Is, c_Js, c_Vs, c_An, c_Ar, if_bI, rI0, rI1, rIb, if00, if10, lg0, nI_1, nI_add, sub_1, sub_N, if_true, if_false, ite_true, ite_false, ge0_T, ge0_F, in_d, in_e, bitz, bito, mul_n, a_47, s_47, a_48, s_48, a_49, s_49, a_42, s_42, a_69, s_69, a_59, a_63, a_28, a_50, s_50, a_51, s_51, ↓a0, e62, ↓cI (hy)]
  obtain ⟨T7, ⟨t18, t19, t20⟩, g6⟩ := laid_s (sc := sc) t15.2 t16
  have fT7 : Fr [(36, 1), (36, 2), (29, 9), (29, 10), (39, 1), (39, 3), (43, 26), (43, 29), (43, 33)] [33, 37, 38, 35, 40, 41, 62, 63, 64, 65, 66, 67, 68] S T7 := Fr_tr (Fr_w f13 (by decide) (by decide)) (Fr_tr (Fr_w fT5 (by decide) (by decide)) (Fr_tr (Fr_w t15.1 (by decide) (by decide)) (Fr_w t18 (by decide) (by decide))))
  have fS3T7 : Fr [(43, 26), (43, 29), (43, 33)] [62, 63, 64, 65, 66, 67, 68] S3 T7 := Fr_tr (Fr_w fT5 (by decide) (by decide)) (Fr_tr (Fr_w t15.1 (by decide) (by decide)) (Fr_w t18 (by decide) (by decide)))
  have fS3T6 : Fr [(43, 26), (43, 29)] [62, 63, 64, 65, 66, 68] S3 T6 := Fr_tr fT5 (Fr_w t15.1 (by decide) (by decide))
  obtain ⟨r1, r2, r3, r4, r5, r6, r7⟩ := h
  have laR : LaR T7 := by
    refine hla T7 _ _ fT7 rfl rfl ?_ ?_ ?_
    · rw [(fS3T7.2 33 (by decide)).1]; exact c2
    · refine KC_fr fS3T7 rfl rfl (KC_fr c1' rfl rfl (Or.inr ⟨b3, b4⟩))
    · refine VC_fr fS3T7 rfl rfl (VC_fr c1' rfl rfl (VC_fr b1 rfl rfl (Or.inr ⟨a3, a4⟩)))
  have hD2lt : ∀ d, d ∈ D2 → d < 256 := by
    rcases hD2 with ⟨_, rfl⟩ | ⟨_, rfl⟩
    · exact D1_lt hg
    · intro d hd
      rcases List.mem_append.mp hd with z | z
      · exact D1_lt hg d z
      · rw [List.mem_singleton.mp z]; exact hKlt _ (gD_mem hKne)
  refine ⟨some (.int (if D2.length ≤ 12 then nI D2.length else -4)), S3, T7, ⟨TB_fr fT7 rfl rfl r1, Fa_fr fT7 rfl r2, Ju_fr fT7 rfl r3, Se_fr fT7 rfl rfl r4, St_fr fT7 rfl rfl r5, ?_, laR⟩, Rc_of rfl rfl (B_X7_third_0 _ _ ?_), t17 _ _ g6⟩
  · by_cases q : D2.length ≤ 12
    · refine ⟨D2, ?_, (t19 q).1, (t19 q).2, hD2lt⟩
      obtain ⟨x1, x2, x3⟩ := c3 q
      exact ⟨(fS3T7.1 39 1 (by decide)).trans x1, x2, by rw [(fS3T7.2 40 (by decide)).1]; exact x3⟩
    · obtain ⟨⟨x1, x2, x3⟩, x4, x5, x6⟩ := hP0
      have e7 := t20 q
      refine ⟨P0, ⟨?_, x2, ?_⟩, ?_, ?_, x6⟩
      · rw [fS3T7.1 39 1 (by decide), (c4 q).1, f12.1 39 1 (by decide)]; exact x1
      · rw [(fS3T7.2 40 (by decide)).1, (c4 q).2, (f12.2 40 (by decide)).1]; exact x3
      · rw [e7, fS3T6.1 43 33 (by decide), f13.1 43 33 (by decide)]; exact x4
      · rw [e7, (fS3T6.2 67 (by decide)).1, (f13.2 67 (by decide)).1]; exact x5
  · by_cases q : D2.length ≤ 12
    · have e39 := (c3 q).1
      rw [if_pos q]
      simp (disch := first | omega | assumption | exact bI_01 | exact Or.inl rfl | exact Or.inr rfl) only [↓reduceIte, ↓if_bI, ↓if10, ↓if00, bI_eq0, not_false_eq_true, not_true_eq_false, and_true, true_and, and_false, false_and, or_true, true_or, or_false, false_or, ↓c_Is, ↓c_Js, ↓c_Vs, ↓c_An, ↓c_Ar, ↓o_0, ↓q_0_0, ↓q_0_1, ↓q_0_2, ↓q_0_3, ↓q_0_4, ↓q_0_5, ↓q_0_6, ↓q_0_7, ↓w_0_7, ↓o_18, ↓q_18_0, ↓w_18_0, ↓q_18_1, ↓q_18_2, ↓q_18_3, ↓q_18_4, ↓a_19, ↓s_19, ↓a_20, ↓s_20, ↓a_21, ↓s_21, ↓a_22, ↓s_22, ↓o_23, ↓q_23_0, ↓w_23_0, ↓q_23_1, ↓w_23_1, ↓o_24, ↓q_24_0, ↓w_24_0, ↓q_24_1, ↓q_24_2, ↓q_24_3, ↓w_24_3, ↓q_24_4, ↓q_24_5, ↓a_25, ↓s_25, ↓a_26, ↓s_26, ↓a_27, ↓s_27, ↓a_28, ↓s_28, ↓o_29, ↓q_29_0, ↓w_29_0, ↓q_29_1, ↓w_29_1, ↓q_29_2, ↓w_29_2, ↓q_29_3, ↓q_29_4, ↓q_29_5, ↓q_29_6, ↓q_29_7, ↓w_29_7, ↓q_29_8, ↓q_29_9, ↓w_29_9, ↓q_29_10, ↓w_29_10, ↓q_29_11, ↓a_30, ↓s_30, ↓a_31, ↓s_31, ↓a_32, ↓s_32, ↓a_33, ↓s_33, ↓a_34, ↓s_34, ↓a_35, ↓s_35, ↓o_36, ↓q_36_0, ↓q_36_1, ↓w_36_1, ↓q_36_2, ↓w_36_2, ↓q_36_3, ↓q_36_4, ↓a_37, ↓s_37, ↓a_38, ↓s_38, ↓o_39, ↓q_39_0, ↓q_39_1, ↓w_39_1, ↓q_39_2, ↓q_39_3, ↓w_39_3, ↓q_39_4, ↓q_39_5, ↓a_40, ↓s_40, ↓a_41, ↓s_41, ↓a_42, ↓s_42, ↓o_43, ↓q_43_0, ↓w_43_0, ↓q_43_1, ↓q_43_2, ↓q_43_3, ↓q_43_4, ↓q_43_5, ↓q_43_6, ↓q_43_7, ↓q_43_8, ↓q_43_9, ↓w_43_9, ↓q_43_10, ↓q_43_11, ↓q_43_12, ↓q_43_13, ↓q_43_14, ↓w_43_14, ↓q_43_15, ↓w_43_15, ↓q_43_16, ↓q_43_17, ↓w_43_17, ↓q_43_18, ↓w_43_18, ↓q_43_19, ↓q_43_20, ↓q_43_21, ↓q_43_22, ↓w_43_22, ↓q_43_23, ↓w_43_23, ↓q_43_24, ↓q_43_25, ↓q_43_26, ↓w_43_26, ↓q_43_27, ↓q_43_28, ↓q_43_29, ↓w_43_29, ↓q_43_30, ↓q_43_31, ↓q_43_32, ↓q_43_33, ↓w_43_33, ↓q_43_34, ↓q_43_35, ↓q_43_36, ↓a_44, ↓s_44, ↓a_45, ↓s_45, ↓a_46, ↓s_46, ↓a_47, ↓s_47, ↓a_48, ↓s_48, ↓a_49, ↓s_49, ↓a_50, ↓s_50, ↓a_51, ↓s_51, ↓a_52, ↓s_52, ↓a_53, ↓s_53, ↓a_54, ↓s_54, ↓a_55, ↓s_55, ↓a_56, ↓s_56, ↓a_57, ↓s_57, ↓a_58, ↓s_58, ↓a_59, ↓s_59, ↓a_60, ↓s_60, ↓a_61, ↓s_61, ↓a_62, ↓s_62, ↓a_63, ↓s_63, ↓a_64, ↓s_64, ↓a_65, ↓s_65, ↓a_66, ↓s_66, ↓a_67, ↓s_67, ↓a_68, ↓s_68, ↓a_69, ↓s_69, ↓a_1, le0_T, le0_F, addm1, sA_1, sA_22, sL_1, sL_21, sF_2, sA_eq, sA_ne, sA_nj, sL_eq, sL_ne, sL_nj, sF_eq, sF_ne, sF_nj, le_T, le_F, lt_T, lt_F, lt0_F, eq_T, eq_F, eq_N, m9_F, m1_F, z_F, z_N, l2, l3, l4, l5, l6, l8, l12, l24, l40, l70, l96, l255, l256, l280, l320, c_Is, c_Js, c_Vs, c_An, c_Ar, if_bI, rI0, rI1, rIb, if00, if10, lg0, nI_1, nI_add, sub_1, sub_N, if_true, if_false, ite_true, ite_false, ge0_T, ge0_F, in_d, in_e, bitz, bito, mul_n, a_47, s_47, a_48, s_48, a_49, s_49, a_42, s_42, a_69, s_69, a_59, a_63, a_28, a_50, s_50, a_51, s_51, ↓cV (e1), ↓cV (e2), ↓cI (e3), ↓if_pos q, e39]
    · rw [if_neg q]
      simp (disch := first | omega | assumption | exact bI_01 | exact Or.inl rfl | exact Or.inr rfl) only [↓reduceIte, ↓if_bI, ↓if10, ↓if00, bI_eq0, not_false_eq_true, not_true_eq_false, and_true, true_and, and_false, false_and, or_true, true_or, or_false, false_or, ↓c_Is, ↓c_Js, ↓c_Vs, ↓c_An, ↓c_Ar, ↓o_0, ↓q_0_0, ↓q_0_1, ↓q_0_2, ↓q_0_3, ↓q_0_4, ↓q_0_5, ↓q_0_6, ↓q_0_7, ↓w_0_7, ↓o_18, ↓q_18_0, ↓w_18_0, ↓q_18_1, ↓q_18_2, ↓q_18_3, ↓q_18_4, ↓a_19, ↓s_19, ↓a_20, ↓s_20, ↓a_21, ↓s_21, ↓a_22, ↓s_22, ↓o_23, ↓q_23_0, ↓w_23_0, ↓q_23_1, ↓w_23_1, ↓o_24, ↓q_24_0, ↓w_24_0, ↓q_24_1, ↓q_24_2, ↓q_24_3, ↓w_24_3, ↓q_24_4, ↓q_24_5, ↓a_25, ↓s_25, ↓a_26, ↓s_26, ↓a_27, ↓s_27, ↓a_28, ↓s_28, ↓o_29, ↓q_29_0, ↓w_29_0, ↓q_29_1, ↓w_29_1, ↓q_29_2, ↓w_29_2, ↓q_29_3, ↓q_29_4, ↓q_29_5, ↓q_29_6, ↓q_29_7, ↓w_29_7, ↓q_29_8, ↓q_29_9, ↓w_29_9, ↓q_29_10, ↓w_29_10, ↓q_29_11, ↓a_30, ↓s_30, ↓a_31, ↓s_31, ↓a_32, ↓s_32, ↓a_33, ↓s_33, ↓a_34, ↓s_34, ↓a_35, ↓s_35, ↓o_36, ↓q_36_0, ↓q_36_1, ↓w_36_1, ↓q_36_2, ↓w_36_2, ↓q_36_3, ↓q_36_4, ↓a_37, ↓s_37, ↓a_38, ↓s_38, ↓o_39, ↓q_39_0, ↓q_39_1, ↓w_39_1, ↓q_39_2, ↓q_39_3, ↓w_39_3, ↓q_39_4, ↓q_39_5, ↓a_40, ↓s_40, ↓a_41, ↓s_41, ↓a_42, ↓s_42, ↓o_43, ↓q_43_0, ↓w_43_0, ↓q_43_1, ↓q_43_2, ↓q_43_3, ↓q_43_4, ↓q_43_5, ↓q_43_6, ↓q_43_7, ↓q_43_8, ↓q_43_9, ↓w_43_9, ↓q_43_10, ↓q_43_11, ↓q_43_12, ↓q_43_13, ↓q_43_14, ↓w_43_14, ↓q_43_15, ↓w_43_15, ↓q_43_16, ↓q_43_17, ↓w_43_17, ↓q_43_18, ↓w_43_18, ↓q_43_19, ↓q_43_20, ↓q_43_21, ↓q_43_22, ↓w_43_22, ↓q_43_23, ↓w_43_23, ↓q_43_24, ↓q_43_25, ↓q_43_26, ↓w_43_26, ↓q_43_27, ↓q_43_28, ↓q_43_29, ↓w_43_29, ↓q_43_30, ↓q_43_31, ↓q_43_32, ↓q_43_33, ↓w_43_33, ↓q_43_34, ↓q_43_35, ↓q_43_36, ↓a_44, ↓s_44, ↓a_45, ↓s_45, ↓a_46, ↓s_46, ↓a_47, ↓s_47, ↓a_48, ↓s_48, ↓a_49, ↓s_49, ↓a_50, ↓s_50, ↓a_51, ↓s_51, ↓a_52, ↓s_52, ↓a_53, ↓s_53, ↓a_54, ↓s_54, ↓a_55, ↓s_55, ↓a_56, ↓s_56, ↓a_57, ↓s_57, ↓a_58, ↓s_58, ↓a_59, ↓s_59, ↓a_60, ↓s_60, ↓a_61, ↓s_61, ↓a_62, ↓s_62, ↓a_63, ↓s_63, ↓a_64, ↓s_64, ↓a_65, ↓s_65, ↓a_66, ↓s_66, ↓a_67, ↓s_67, ↓a_68, ↓s_68, ↓a_69, ↓s_69, ↓a_1, le0_T, le0_F, addm1, sA_1, sA_22, sL_1, sL_21, sF_2, sA_eq, sA_ne, sA_nj, sL_eq, sL_ne, sL_nj, sF_eq, sF_ne, sF_nj, le_T, le_F, lt_T, lt_F, lt0_F, eq_T, eq_F, eq_N, m9_F, m1_F, z_F, z_N, l2, l3, l4, l5, l6, l8, l12, l24, l40, l70, l96, l255, l256, l280, l320, c_Is, c_Js, c_Vs, c_An, c_Ar, if_bI, rI0, rI1, rIb, if00, if10, lg0, nI_1, nI_add, sub_1, sub_N, if_true, if_false, ite_true, ite_false, ge0_T, ge0_F, in_d, in_e, bitz, bito, mul_n, a_47, s_47, a_48, s_48, a_49, s_49, a_42, s_42, a_69, s_69, a_59, a_63, a_28, a_50, s_50, a_51, s_51, ↓cV (e1), ↓cV (e2), ↓cI (e3), ↓if_neg q]
end TH3
