/-! TABLES made of others: cells taken, here -/
theorem pl_mono : ∀ s, s < 256 → ∀ c, c < 8 → ∀ d, d < 8 → c < d → s.testBit c = true → pl s c < pl s d := by decide +kernel
theorem pl_inj {s c d : Nat} (hs : s < 256) (hc : c < 8) (hd : d < 8) (bc : s.testBit c = true) (bd : s.testBit d = true) (h : pl s c = pl s d) : c = d := by
  rcases Nat.lt_trichotomy c d with z | z | z
  · have := pl_mono s hs c hc d hd z bc; omega
  · exact z
  · have := pl_mono s hs d hd c hc z bd; omega
theorem pl_step : ∀ s, s < 256 → ∀ c, c < 8 → pl s (c + 1) = (if s.testBit c = true then pl s c + 1 else pl s c) := by decide +kernel
theorem pl_8 : ∀ s, s < 256 → pl s 8 = pcn s := by decide +kernel
theorem pl_0 (s : Nat) : pl s 0 = 0 := by
  show pcn (s &&& (2 ^ 0 - 1)) = 0
  rw [show s &&& (2 ^ 0 - 1) = 0 from Nat.and_zero s]
  rfl
theorem pl_sur : ∀ s, s < 256 → ∀ k, k < 8 → k < pcn s → ∃ c, c < 8 ∧ s.testBit c = true ∧ pl s c = k := by decide +kernel
theorem pcn_8 : ∀ s, s < 256 → pcn s ≤ 8 := by decide +kernel
section TK
variable {sc : RE} {S : SS} {a b : Nat}
def TkI (S S' : SS) (a b set own names i m k : Nat) : Prop := Fr [] [a + 2, a + 3] S S' ∧ (∀ c, c < k → set.testBit c = true → S'.2.2 (a + 2) (24 * pl own c + m) = S.2.2 (b + 2) (24 * pl names c + i) ∧ S'.2.1 (a + 3) (24 * pl own c + m) = S.2.1 (b + 3) (24 * pl names c + i)) ∧ ∀ q, (∀ c, c < k → set.testBit c = true → q ≠ 24 * pl own c + m) → S'.2.2 (a + 2) q = S.2.2 (a + 2) q ∧ S'.2.1 (a + 3) q = S.2.1 (a + 3) q
theorem takeCells_s (ha : IsT a) (hb : IsT b) (hab : ∀ k l, k < 4 → l < 4 → a + k ≠ b + l) {set own names i m : Nat} (hm : S.1 a 3 = nI (m + 1)) (h24 : m < 24) (hi : i < 24) (h1 : set < 256) (h2 : own < 256) (h3 : names < 256) (so : ∀ c, c < 8 → set.testBit c = true → own.testBit c = true ∧ names.testBit c = true) (h01 : ∀ q, q < 192 → S.2.1 (b + 3) q = 0 ∨ S.2.1 (b + 3) q = 1) : ∃ S', TkI S S' a b set own names i m 8 ∧ Rc 77 [.ref a, .int (nI set), .int (nI own), .ref b, .int (nI i), .int (nI names)] (enc sc S) = some (none, enc sc S') := by
  have key := loop_to (F := 8) (G := fun c (S1 : SS) => Rs 77 3 [.ref a, .int (nI set), .int (nI own), .ref b, .int (nI i), .int (nI names), .int (nI c), UU, UU] [] (enc sc S1)) (O := fun S1 => some (none, enc sc S1)) (J := fun S1 => TkI S S1 a b set own names i m 8) (I := fun c S1 => TkI S S1 a b set own names i m c) ?_ ?_ S ⟨Fr_refl _ _ _, fun c hc => absurd hc (Nat.not_lt_zero _), fun q _ => ⟨rfl, rfl⟩⟩
  · obtain ⟨S1, g1, g2⟩ := key
    exact ⟨S1, g1, Rc_of rfl rfl (B_X5_takeCells_0 _ _ _ _ _ _ _ (g2 _ rfl))⟩
  · intro c S1 hc ⟨f1, f2, f3⟩
    left
    have e3 : S1.1 a 3 = nI (m + 1) := (f1.1 a 3 (List.not_mem_nil)).trans hm
    have nb : ∀ k, k < 4 → b + k ∉ [a + 2, a + 3] := by
      intro k hk z
      rcases List.mem_cons.mp z with z | z
      · exact hab 2 k (by omega) hk z.symm
      · rcases List.mem_cons.mp z with z | z
        · exact hab 3 k (by omega) hk z.symm
        · cases z
    have hB := hasBit_s (μ := enc sc S1) (a := set) (c := c) (by omega) (by omega)
    cases hbit : set.testBit c with
    | false =>
      have hbf : ¬ set.testBit c = true := by rw [hbit]; exact Bool.false_ne_true
      refine ⟨S1, ⟨f1, fun c' hc' hb' => ?_, fun q hq => f3 q fun c' hc' => hq c' (by omega)⟩, fun r hr => B_X5_takeCells_3 _ _ _ _ _ _ _ _ ?_⟩
      · by_cases e : c' = c
        · rw [e, hbit] at hb'; cases hb'
        · exact f2 c' (by omega) hb'
      · simp (disch := first | omega | assumption | exact bI_01 | exact Or.inl rfl | exact Or.inr rfl) only [↓reduceIte, ↓if_bI, ↓if10, ↓if00, bI_eq0, not_false_eq_true, not_true_eq_false, and_true, true_and, and_false, false_and, or_true, true_or, or_false, false_or, ↓c_Is, ↓c_Js, ↓c_Vs, ↓c_An, ↓c_Ar, ↓o_0, ↓q_0_0, ↓q_0_1, ↓q_0_2, ↓q_0_3, ↓q_0_4, ↓q_0_5, ↓q_0_6, ↓q_0_7, ↓w_0_7, ↓o_18, ↓q_18_0, ↓w_18_0, ↓q_18_1, ↓q_18_2, ↓q_18_3, ↓q_18_4, ↓a_19, ↓s_19, ↓a_20, ↓s_20, ↓a_21, ↓s_21, ↓a_22, ↓s_22, ↓o_23, ↓q_23_0, ↓w_23_0, ↓q_23_1, ↓w_23_1, ↓o_24, ↓q_24_0, ↓w_24_0, ↓q_24_1, ↓q_24_2, ↓q_24_3, ↓w_24_3, ↓q_24_4, ↓q_24_5, ↓a_25, ↓s_25, ↓a_26, ↓s_26, ↓a_27, ↓s_27, ↓a_28, ↓s_28, ↓o_29, ↓q_29_0, ↓w_29_0, ↓q_29_1, ↓w_29_1, ↓q_29_2, ↓w_29_2, ↓q_29_3, ↓q_29_4, ↓q_29_5, ↓q_29_6, ↓q_29_7, ↓w_29_7, ↓q_29_8, ↓q_29_9, ↓w_29_9, ↓q_29_10, ↓w_29_10, ↓q_29_11, ↓a_30, ↓s_30, ↓a_31, ↓s_31, ↓a_32, ↓s_32, ↓a_33, ↓s_33, ↓a_34, ↓s_34, ↓a_35, ↓s_35, ↓o_36, ↓q_36_0, ↓q_36_1, ↓w_36_1, ↓q_36_2, ↓w_36_2, ↓q_36_3, ↓q_36_4, ↓a_37, ↓s_37, ↓a_38, ↓s_38, ↓o_39, ↓q_39_0, ↓q_39_1, ↓w_39_1, ↓q_39_2, ↓q_39_3, ↓w_39_3, ↓q_39_4, ↓q_39_5, ↓a_40, ↓s_40, ↓a_41, ↓s_41, ↓a_42, ↓s_42, ↓o_43, ↓q_43_0, ↓w_43_0, ↓q_43_1, ↓q_43_2, ↓q_43_3, ↓q_43_4, ↓q_43_5, ↓q_43_6, ↓q_43_7, ↓q_43_8, ↓q_43_9, ↓w_43_9, ↓q_43_10, ↓q_43_11, ↓q_43_12, ↓q_43_13, ↓q_43_14, ↓w_43_14, ↓q_43_15, ↓w_43_15, ↓q_43_16, ↓q_43_17, ↓w_43_17, ↓q_43_18, ↓w_43_18, ↓q_43_19, ↓q_43_20, ↓q_43_21, ↓q_43_22, ↓w_43_22, ↓q_43_23, ↓w_43_23, ↓q_43_24, ↓q_43_25, ↓q_43_26, ↓w_43_26, ↓q_43_27, ↓q_43_28, ↓q_43_29, ↓w_43_29, ↓q_43_30, ↓q_43_31, ↓q_43_32, ↓q_43_33, ↓w_43_33, ↓q_43_34, ↓q_43_35, ↓q_43_36, ↓a_44, ↓s_44, ↓a_45, ↓s_45, ↓a_46, ↓s_46, ↓a_47, ↓s_47, ↓a_48, ↓s_48, ↓a_49, ↓s_49, ↓a_50, ↓s_50, ↓a_51, ↓s_51, ↓a_52, ↓s_52, ↓a_53, ↓s_53, ↓a_54, ↓s_54, ↓a_55, ↓s_55, ↓a_56, ↓s_56, ↓a_57, ↓s_57, ↓a_58, ↓s_58, ↓a_59, ↓s_59, ↓a_60, ↓s_60, ↓a_61, ↓s_61, ↓a_62, ↓s_62, ↓a_63, ↓s_63, ↓a_64, ↓s_64, ↓a_65, ↓s_65, ↓a_66, ↓s_66, ↓a_67, ↓s_67, ↓a_68, ↓s_68, ↓a_69, ↓s_69, ↓a_1, le0_T, le0_F, addm1, sA_1, sA_22, sL_1, sL_21, sF_2, sA_eq, sA_ne, sA_nj, sL_eq, sL_ne, sL_nj, sF_eq, sF_ne, sF_nj, le_T, le_F, lt_T, lt_F, lt0_F, eq_T, eq_F, eq_N, m9_F, m1_F, z_F, z_N, l2, l3, l4, l5, l6, l8, l12, l24, l40, l70, l96, l255, l256, l280, l320, c_Is, c_Js, c_Vs, c_An, c_Ar, if_bI, rI0, rI1, rIb, if00, if10, lg0, nI_1, nI_add, sub_1, sub_N, if_true, if_false, ite_true, ite_false, ge0_T, ge0_F, in_d, in_e, bitz, bito, mul_n, a_47, s_47, a_48, s_48, a_49, s_49, a_42, s_42, a_69, s_69, a_59, a_63, a_28, a_50, s_50, a_51, s_51, ↓cI (hB), ↓if_neg hbf]
        exact hr
    | true =>
      obtain ⟨so1, so2⟩ := so c hc hbit
      have p1 := pl_lt own h2 c hc so1
      have p2 := pl_lt names h3 c hc so2
      have ev : S1.2.2 (b + 2) (24 * pl names c + i) = S.2.2 (b + 2) (24 * pl names c + i) := by rw [(f1.2 (b + 2) (nb 2 (by omega))).2]
      have ef : S1.2.1 (b + 3) (24 * pl names c + i) = S.2.1 (b + 3) (24 * pl names c + i) := by rw [(f1.2 (b + 3) (nb 3 (by omega))).1]
      have q01 := h01 (24 * pl names c + i) (by omega)
      have ne23 : ¬ b + 3 = a + 3 := fun z => hab 3 3 (by omega) (by omega) z.symm
      refine ⟨sA (sL S1 (a + 2) (24 * pl own c + m) (S.2.2 (b + 2) (24 * pl names c + i))) (a + 3) (24 * pl own c + m) (S.2.1 (b + 3) (24 * pl names c + i)), ⟨?_, fun c' hc' hb' => ?_, fun q hq => ?_⟩, fun r hr => B_X5_takeCells_3 _ _ _ _ _ _ _ _ ?_⟩
      · exact Fr_tr f1 (Fr_tr (Fr_sL (by simp)) (Fr_sA (by simp)))
      · by_cases e : c' = c
        · subst e
          simp [sA, sL]
        · have np : ¬ 24 * pl own c' + m = 24 * pl own c + m := by
            intro z
            exact e (pl_inj h2 (by omega) hc (so c' (by omega) hb').1 so1 (by omega))
          obtain ⟨g1, g2⟩ := f2 c' (by omega) hb'
          refine ⟨?_, ?_⟩
          · rw [← g1]; simp [sA, sL]; intro z; exact absurd z (by omega)
          · rw [← g2]; simp [sA, sL]; intro z; exact absurd z (by omega)
      · have np : ¬ q = 24 * pl own c + m := hq c (by omega) hbit
        obtain ⟨g1, g2⟩ := f3 q fun c' hc' => hq c' (by omega)
        refine ⟨?_, ?_⟩
        · rw [← g1]; simp [sA, sL, np]
        · rw [← g2]; simp [sA, sL, np]
      · have m1 : nI (m + 1) - 1 = nI m := by rw [show (1 : Int32) = nI 1 from rfl, pk_sub (by omega)]; rfl
        generalize S.2.2 (b + 2) (24 * pl names c + i) = V at *
        generalize S.2.1 (b + 3) (24 * pl names c + i) = W at *
        simp (disch := first | omega | assumption | exact bI_01 | exact Or.inl rfl | exact Or.inr rfl) only [↓reduceIte, ↓if_bI, ↓if10, ↓if00, bI_eq0, not_false_eq_true, not_true_eq_false, and_true, true_and, and_false, false_and, or_true, true_or, or_false, false_or, ↓c_Is, ↓c_Js, ↓c_Vs, ↓c_An, ↓c_Ar, ↓o_0, ↓q_0_0, ↓q_0_1, ↓q_0_2, ↓q_0_3, ↓q_0_4, ↓q_0_5, ↓q_0_6, ↓q_0_7, ↓w_0_7, ↓o_18, ↓q_18_0, ↓w_18_0, ↓q_18_1, ↓q_18_2, ↓q_18_3, ↓q_18_4, ↓a_19, ↓s_19, ↓a_20, ↓s_20, ↓a_21, ↓s_21, ↓a_22, ↓s_22, ↓o_23, ↓q_23_0, ↓w_23_0, ↓q_23_1, ↓w_23_1, ↓o_24, ↓q_24_0, ↓w_24_0, ↓q_24_1, ↓q_24_2, ↓q_24_3, ↓w_24_3, ↓q_24_4, ↓q_24_5, ↓a_25, ↓s_25, ↓a_26, ↓s_26, ↓a_27, ↓s_27, ↓a_28, ↓s_28, ↓o_29, ↓q_29_0, ↓w_29_0, ↓q_29_1, ↓w_29_1, ↓q_29_2, ↓w_29_2, ↓q_29_3, ↓q_29_4, ↓q_29_5, ↓q_29_6, ↓q_29_7, ↓w_29_7, ↓q_29_8, ↓q_29_9, ↓w_29_9, ↓q_29_10, ↓w_29_10, ↓q_29_11, ↓a_30, ↓s_30, ↓a_31, ↓s_31, ↓a_32, ↓s_32, ↓a_33, ↓s_33, ↓a_34, ↓s_34, ↓a_35, ↓s_35, ↓o_36, ↓q_36_0, ↓q_36_1, ↓w_36_1, ↓q_36_2, ↓w_36_2, ↓q_36_3, ↓q_36_4, ↓a_37, ↓s_37, ↓a_38, ↓s_38, ↓o_39, ↓q_39_0, ↓q_39_1, ↓w_39_1, ↓q_39_2, ↓q_39_3, ↓w_39_3, ↓q_39_4, ↓q_39_5, ↓a_40, ↓s_40, ↓a_41, ↓s_41, ↓a_42, ↓s_42, ↓o_43, ↓q_43_0, ↓w_43_0, ↓q_43_1, ↓q_43_2, ↓q_43_3, ↓q_43_4, ↓q_43_5, ↓q_43_6, ↓q_43_7, ↓q_43_8, ↓q_43_9, ↓w_43_9, ↓q_43_10, ↓q_43_11, ↓q_43_12, ↓q_43_13, ↓q_43_14, ↓w_43_14, ↓q_43_15, ↓w_43_15, ↓q_43_16, ↓q_43_17, ↓w_43_17, ↓q_43_18, ↓w_43_18, ↓q_43_19, ↓q_43_20, ↓q_43_21, ↓q_43_22, ↓w_43_22, ↓q_43_23, ↓w_43_23, ↓q_43_24, ↓q_43_25, ↓q_43_26, ↓w_43_26, ↓q_43_27, ↓q_43_28, ↓q_43_29, ↓w_43_29, ↓q_43_30, ↓q_43_31, ↓q_43_32, ↓q_43_33, ↓w_43_33, ↓q_43_34, ↓q_43_35, ↓q_43_36, ↓a_44, ↓s_44, ↓a_45, ↓s_45, ↓a_46, ↓s_46, ↓a_47, ↓s_47, ↓a_48, ↓s_48, ↓a_49, ↓s_49, ↓a_50, ↓s_50, ↓a_51, ↓s_51, ↓a_52, ↓s_52, ↓a_53, ↓s_53, ↓a_54, ↓s_54, ↓a_55, ↓s_55, ↓a_56, ↓s_56, ↓a_57, ↓s_57, ↓a_58, ↓s_58, ↓a_59, ↓s_59, ↓a_60, ↓s_60, ↓a_61, ↓s_61, ↓a_62, ↓s_62, ↓a_63, ↓s_63, ↓a_64, ↓s_64, ↓a_65, ↓s_65, ↓a_66, ↓s_66, ↓a_67, ↓s_67, ↓a_68, ↓s_68, ↓a_69, ↓s_69, ↓a_1, le0_T, le0_F, addm1, sA_1, sA_22, sL_1, sL_21, sF_2, sA_eq, sA_ne, sA_nj, sL_eq, sL_ne, sL_nj, sF_eq, sF_ne, sF_nj, le_T, le_F, lt_T, lt_F, lt0_F, eq_T, eq_F, eq_N, m9_F, m1_F, z_F, z_N, l2, l3, l4, l5, l6, l8, l12, l24, l40, l70, l96, l255, l256, l280, l320, c_Is, c_Js, c_Vs, c_An, c_Ar, if_bI, rI0, rI1, rIb, if00, if10, lg0, nI_1, nI_add, sub_1, sub_N, if_true, if_false, ite_true, ite_false, ge0_T, ge0_F, in_d, in_e, bitz, bito, mul_n, a_47, s_47, a_48, s_48, a_49, s_49, a_42, s_42, a_69, s_69, a_59, a_63, a_28, a_50, s_50, a_51, s_51, ↓cI (hB), ↓if_pos hbit, ↓o_T (ha), ↓q_T_0 (ha), ↓w_T_0 (ha), ↓q_T_1 (ha), ↓w_T_1 (ha), ↓q_T_2 (ha), ↓w_T_2 (ha), ↓q_T_3 (ha), ↓w_T_3 (ha), ↓q_T_4 (ha), ↓q_T_5 (ha), ↓q_T_6 (ha), ↓a_T1 (ha), ↓s_T1 (ha), ↓a_T2 (ha), ↓s_T2 (ha), ↓a_T3 (ha), ↓s_T3 (ha), ↓o_T (hb), ↓q_T_0 (hb), ↓w_T_0 (hb), ↓q_T_1 (hb), ↓w_T_1 (hb), ↓q_T_2 (hb), ↓w_T_2 (hb), ↓q_T_3 (hb), ↓w_T_3 (hb), ↓q_T_4 (hb), ↓q_T_5 (hb), ↓q_T_6 (hb), ↓a_T1 (hb), ↓s_T1 (hb), ↓a_T2 (hb), ↓s_T2 (hb), ↓a_T3 (hb), ↓s_T3 (hb), e3, m1, ↓cI (placeIn_s h2 hc), ↓cI (placeIn_s h3 hc), ↓cI (cell_s _ _), ev, ef]
        exact hr
  · intro S1 hI
    refine ⟨S1, hI, fun r hr => B_X5_takeCells_3 _ _ _ _ _ _ _ _ ?_⟩
    simp (disch := first | omega | assumption | exact bI_01 | exact Or.inl rfl | exact Or.inr rfl) only [↓reduceIte, ↓if_bI, ↓if10, ↓if00, bI_eq0, not_false_eq_true, not_true_eq_false, and_true, true_and, and_false, false_and, or_true, true_or, or_false, false_or, ↓c_Is, ↓c_Js, ↓c_Vs, ↓c_An, ↓c_Ar, ↓o_0, ↓q_0_0, ↓q_0_1, ↓q_0_2, ↓q_0_3, ↓q_0_4, ↓q_0_5, ↓q_0_6, ↓q_0_7, ↓w_0_7, ↓o_18, ↓q_18_0, ↓w_18_0, ↓q_18_1, ↓q_18_2, ↓q_18_3, ↓q_18_4, ↓a_19, ↓s_19, ↓a_20, ↓s_20, ↓a_21, ↓s_21, ↓a_22, ↓s_22, ↓o_23, ↓q_23_0, ↓w_23_0, ↓q_23_1, ↓w_23_1, ↓o_24, ↓q_24_0, ↓w_24_0, ↓q_24_1, ↓q_24_2, ↓q_24_3, ↓w_24_3, ↓q_24_4, ↓q_24_5, ↓a_25, ↓s_25, ↓a_26, ↓s_26, ↓a_27, ↓s_27, ↓a_28, ↓s_28, ↓o_29, ↓q_29_0, ↓w_29_0, ↓q_29_1, ↓w_29_1, ↓q_29_2, ↓w_29_2, ↓q_29_3, ↓q_29_4, ↓q_29_5, ↓q_29_6, ↓q_29_7, ↓w_29_7, ↓q_29_8, ↓q_29_9, ↓w_29_9, ↓q_29_10, ↓w_29_10, ↓q_29_11, ↓a_30, ↓s_30, ↓a_31, ↓s_31, ↓a_32, ↓s_32, ↓a_33, ↓s_33, ↓a_34, ↓s_34, ↓a_35, ↓s_35, ↓o_36, ↓q_36_0, ↓q_36_1, ↓w_36_1, ↓q_36_2, ↓w_36_2, ↓q_36_3, ↓q_36_4, ↓a_37, ↓s_37, ↓a_38, ↓s_38, ↓o_39, ↓q_39_0, ↓q_39_1, ↓w_39_1, ↓q_39_2, ↓q_39_3, ↓w_39_3, ↓q_39_4, ↓q_39_5, ↓a_40, ↓s_40, ↓a_41, ↓s_41, ↓a_42, ↓s_42, ↓o_43, ↓q_43_0, ↓w_43_0, ↓q_43_1, ↓q_43_2, ↓q_43_3, ↓q_43_4, ↓q_43_5, ↓q_43_6, ↓q_43_7, ↓q_43_8, ↓q_43_9, ↓w_43_9, ↓q_43_10, ↓q_43_11, ↓q_43_12, ↓q_43_13, ↓q_43_14, ↓w_43_14, ↓q_43_15, ↓w_43_15, ↓q_43_16, ↓q_43_17, ↓w_43_17, ↓q_43_18, ↓w_43_18, ↓q_43_19, ↓q_43_20, ↓q_43_21, ↓q_43_22, ↓w_43_22, ↓q_43_23, ↓w_43_23, ↓q_43_24, ↓q_43_25, ↓q_43_26, ↓w_43_26, ↓q_43_27, ↓q_43_28, ↓q_43_29, ↓w_43_29, ↓q_43_30, ↓q_43_31, ↓q_43_32, ↓q_43_33, ↓w_43_33, ↓q_43_34, ↓q_43_35, ↓q_43_36, ↓a_44, ↓s_44, ↓a_45, ↓s_45, ↓a_46, ↓s_46, ↓a_47, ↓s_47, ↓a_48, ↓s_48, ↓a_49, ↓s_49, ↓a_50, ↓s_50, ↓a_51, ↓s_51, ↓a_52, ↓s_52, ↓a_53, ↓s_53, ↓a_54, ↓s_54, ↓a_55, ↓s_55, ↓a_56, ↓s_56, ↓a_57, ↓s_57, ↓a_58, ↓s_58, ↓a_59, ↓s_59, ↓a_60, ↓s_60, ↓a_61, ↓s_61, ↓a_62, ↓s_62, ↓a_63, ↓s_63, ↓a_64, ↓s_64, ↓a_65, ↓s_65, ↓a_66, ↓s_66, ↓a_67, ↓s_67, ↓a_68, ↓s_68, ↓a_69, ↓s_69, ↓a_1, le0_T, le0_F, addm1, sA_1, sA_22, sL_1, sL_21, sF_2, sA_eq, sA_ne, sA_nj, sL_eq, sL_ne, sL_nj, sF_eq, sF_ne, sF_nj, le_T, le_F, lt_T, lt_F, lt0_F, eq_T, eq_F, eq_N, m9_F, m1_F, z_F, z_N, l2, l3, l4, l5, l6, l8, l12, l24, l40, l70, l96, l255, l256, l280, l320, c_Is, c_Js, c_Vs, c_An, c_Ar, if_bI, rI0, rI1, rIb, if00, if10, lg0, nI_1, nI_add, sub_1, sub_N, if_true, if_false, ite_true, ite_false, ge0_T, ge0_F, in_d, in_e, bitz, bito, mul_n, a_47, s_47, a_48, s_48, a_49, s_49, a_42, s_42, a_69, s_69, a_59, a_63, a_28, a_50, s_50, a_51, s_51]
    exact hr
/-- a table that is being made of others -/
def BC (S S' : SS) (a : Nat) (lk : Int32) (n m : Nat) : Prop := Fr [(a, 0), (a, 1), (a, 2), (a, 3)] [a + 1, a + 2, a + 3] S S' ∧ S'.1 a 0 = 1 ∧ S'.1 a 1 = lk ∧ S'.1 a 2 = nI n ∧ S'.1 a 3 = nI m ∧ ∀ q, q < 192 → S'.2.1 (a + 3) q = 0 ∨ S'.2.1 (a + 3) q = 1
def BL (S' : SS) (a s k : Nat) (lf : Nat → Int32) : Prop := ∀ c, c < k → s.testBit c = true → S'.2.1 (a + 1) (pl s c) = lf c
def BV (S' : SS) (a s : Nat) (V : Nat → Nat × Nat → Int64) (G : Nat → Nat × Nat → Int32) (R : List (Nat × Nat)) : Prop := ∀ c r, c < 8 → s.testBit c = true → r < R.length → S'.2.2 (a + 2) (24 * pl s c + r) = V c (R.getD r (0, 0)) ∧ S'.2.1 (a + 3) (24 * pl s c + r) = G c (R.getD r (0, 0))
variable {S1 S2 S3 : SS} {lk : Int32} {n m s : Nat} {lf : Nat → Int32} {V : Nat → Nat × Nat → Int64} {G : Nat → Nat × Nat → Int32} {R : List (Nat × Nat)}
theorem BC_open (h01 : ∀ q, q < 192 → S.2.1 (a + 3) q = 0 ∨ S.2.1 (a + 3) q = 1) : BC S (opS S a lk) a lk 0 0 ∧ BL (opS S a lk) a s 0 lf ∧ BV (opS S a lk) a s V G [] := by
  refine ⟨⟨?_, ?_, ?_, ?_, ?_, h01⟩, fun c hc => absurd hc (Nat.not_lt_zero _), fun c r _ _ hr => absurd hr (Nat.not_lt_zero _)⟩
  · exact Fr_tr (Fr_sF (by simp)) (Fr_tr (Fr_sF (by simp)) (Fr_tr (Fr_sF (by simp)) (Fr_sF (by simp))))
  · simp [opS, sF]
  · simp [opS, sF]
  · simp [opS, sF]
  · simp [opS, sF]
theorem BC_col (hs : s < 256) {c : Nat} (hc : c < 8) (bt : s.testBit c = true) (h : BC S S1 a lk (pl s c) m) (hl : BL S1 a s c lf) : BC S (acS S1 a (pl s c) (lf c)) a lk (pl s (c + 1)) m ∧ BL (acS S1 a (pl s c) (lf c)) a s (c + 1) lf := by
  obtain ⟨f, h0, h1, h2, h3, h4⟩ := h
  rw [pl_step s hs c hc, if_pos bt]
  refine ⟨⟨Fr_tr f (Fr_tr (Fr_sA (by simp)) (Fr_sF (by simp))), ?_, ?_, ?_, ?_, ?_⟩, fun c' hc' bt' => ?_⟩
  · simp [acS, sF, sA, h0]
  · simp [acS, sF, sA, h1]
  · simp [acS, sF, sA]
  · simp [acS, sF, sA, h3]
  · intro q hq
    have := h4 q hq
    simpa [acS, sF, sA] using this
  · by_cases e : c' = c
    · subst e
      simp [acS, sF, sA]
    · have np : ¬ pl s c' = pl s c := fun z => e (pl_inj hs (by omega) hc bt' bt z)
      have := hl c' (by omega) bt'
      simpa [acS, sF, sA, np] using this
theorem BC_nocol (hs : s < 256) {c : Nat} (hc : c < 8) (bt : ¬ s.testBit c = true) (h : BC S S1 a lk (pl s c) m) (hl : BL S1 a s c lf) : BC S S1 a lk (pl s (c + 1)) m ∧ BL S1 a s (c + 1) lf := by
  rw [pl_step s hs c hc, if_neg bt]
  refine ⟨h, fun c' hc' bt' => ?_⟩
  by_cases e : c' = c
  · subst e
    exact absurd bt' bt
  · exact hl c' (by omega) bt'
theorem arS_A {q : Nat} : (arS S a n m 1).2.1 (a + 3) q = if nrP n m 1 q = true then 0 else S.2.1 (a + 3) q := by
  simp [arS, clr, sF]
theorem BC_row (hm24 : m < 24) (hs : s < 256) (h : BC S S1 a lk n m) (hl : BL S1 a s 8 lf) (hv : BV S1 a s V G R) (hR : R.length = m) (f : Fr [] [a + 2, a + 3] (arS S1 a n m 1) S3) {ρ : Nat × Nat} (hn : ∀ c, c < 8 → s.testBit c = true → S3.2.2 (a + 2) (24 * pl s c + m) = V c ρ ∧ S3.2.1 (a + 3) (24 * pl s c + m) = G c ρ) (ho : ∀ q, q % 24 ≠ m → S3.2.2 (a + 2) q = S1.2.2 (a + 2) q ∧ S3.2.1 (a + 3) q = (arS S1 a n m 1).2.1 (a + 3) q) (h01 : ∀ q, q < 192 → S3.2.1 (a + 3) q = 0 ∨ S3.2.1 (a + 3) q = 1) : BC S S3 a lk n (m + 1) ∧ BL S3 a s 8 lf ∧ BV S3 a s V G (R ++ [ρ]) := by
  obtain ⟨f0, h0, h1, h2, h3, h4⟩ := h
  have fa : Fr [(a, 0), (a, 1), (a, 2), (a, 3)] [a + 1, a + 2, a + 3] S1 (arS S1 a n m 1) := by
    refine ⟨fun b j hj => ?_, fun b hb => ?_⟩
    · have : ¬ (b = a ∧ j = 3) := fun z => hj (by rw [z.1, z.2]; simp)
      by_cases e : b = a
      · have e3 : ¬ j = 3 := fun z => this ⟨e, z⟩
        simp [arS, sF, clr, e3]
      · simp [arS, sF, clr, e]
    · have : ¬ b = a + 3 := fun z => hb (by rw [z]; simp)
      exact ⟨funext fun q => by simp [arS, sF, clr, this], rfl⟩
  have fz : ∀ b j, S3.1 b j = (arS S1 a n m 1).1 b j := fun b j => f.1 b j (List.not_mem_nil)
  refine ⟨⟨Fr_tr f0 (Fr_tr fa (Fr_w f (by simp) (by intro x hx; simp at hx ⊢; omega))), ?_, ?_, ?_, ?_, h01⟩, fun c hc bt => ?_, fun c r hc bt hr => ?_⟩
  · rw [fz]; simp [arS, sF, clr, h0]
  · rw [fz]; simp [arS, sF, clr, h1]
  · rw [fz]; simp [arS, sF, clr, h2]
  · rw [fz]; simp [arS, sF, clr]
  · rw [(f.2 (a + 1) (by simp)).1, ← hl c hc bt]
    simp [arS, sF, clr]
  · rw [List.length_append, List.length_singleton] at hr
    by_cases e : r = m
    · subst e
      rw [show (R ++ [ρ]).getD r (0, 0) = ρ by rw [List.getD_eq_getElem?_getD, ← hR, List.getElem?_concat_length]; rfl]
      exact hn c hc bt
    · have hp := pl_lt s hs c hc bt
      obtain ⟨g1, g2⟩ := ho (24 * pl s c + r) (by omega)
      rw [show (R ++ [ρ]).getD r (0, 0) = R.getD r (0, 0) by rw [List.getD_eq_getElem?_getD, List.getD_eq_getElem?_getD, List.getElem?_append_left (by omega)]]
      obtain ⟨k1, k2⟩ := hv c r hc bt (by omega)
      refine ⟨g1.trans k1, g2.trans ?_⟩
      rw [arS_A, if_neg, k2]
      unfold nrP
      rw [decide_eq_true_iff]
      omega
end TK
