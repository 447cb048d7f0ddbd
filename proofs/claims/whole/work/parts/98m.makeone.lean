/-! SIGNS, here: two rows made one in a column -/
section MK
variable {sc : RE} {S : SS} {L : List Nat} {F : Nat} {fx fy : Nat → Nat} {s : Nat → Nat → Nat}
/-- from signs to signs: what was one stays one, and what changes makes fewer -/
def Sgt (P : Nat) (s s' : Nat → Nat → Nat) : Prop := (∀ r r' c, s r c = s r' c → s' r c = s' r' c) ∧ dS P s' ≤ dS P s ∧ ((∀ r c, s' r c = s r c) ∨ dS P s' < dS P s)
theorem Sgt_refl {P : Nat} : Sgt P s s := ⟨fun _ _ _ h => h, Nat.le_refl _, Or.inl fun _ _ => rfl⟩
theorem Sgt_tr {P : Nat} {s' s'' : Nat → Nat → Nat} (h : Sgt P s s') (h' : Sgt P s' s'') : Sgt P s s'' := by
  obtain ⟨a1, a2, a3⟩ := h
  obtain ⟨b1, b2, b3⟩ := h'
  refine ⟨fun r r' c e => b1 r r' c (a1 r r' c e), Nat.le_trans b2 a2, ?_⟩
  rcases a3 with a3 | a3
  · rcases b3 with b3 | b3
    · exact Or.inl fun r c => (b3 r c).trans (a3 r c)
    · exact Or.inr (by omega)
  · exact Or.inr (by omega)
theorem mg_mono {c a b : Nat} {r r' d : Nat} (h : s r d = s r' d) : mg s c a b r d = mg s c a b r' d := by
  unfold mg
  rw [h]
theorem mg_one {i j c : Nat} (h : SgI L F fx fy s) (hi : i < L.length) (hj : j < L.length) (hc : c < 8) (hE : EQ L F fx fy c i j) : SgI L F fx fy (mg s c (Nat.max (s i c) (s j c)) (Nat.min (s i c) (s j c))) ∧ Sgt L.length s (mg s c (Nat.max (s i c) (s j c)) (Nat.min (s i c) (s j c))) ∧ mg s c (Nat.max (s i c) (s j c)) (Nat.min (s i c) (s j c)) i c = mg s c (Nat.max (s i c) (s j c)) (Nat.min (s i c) (s j c)) j c ∧ (¬ s i c = s j c → dS L.length (mg s c (Nat.max (s i c) (s j c)) (Nat.min (s i c) (s j c))) < dS L.length s) := by
  rcases Nat.lt_trichotomy (s i c) (s j c) with q | q | q
  · have e1 : Nat.max (s i c) (s j c) = s j c := Nat.max_eq_right (by omega)
    have e2 : Nat.min (s i c) (s j c) = s i c := Nat.min_eq_left (by omega)
    rw [e1, e2]
    have hd := dS_mg (P := L.length) hj hi hc (h.1 j c hj hc) q
    refine ⟨SgI_mg h hj hi hc (EQ_sym hE) q, ⟨fun _ _ _ e => mg_mono e, by omega, Or.inr hd⟩, ?_, fun _ => hd⟩
    unfold mg
    rw [if_neg (fun z => by omega), if_pos ⟨rfl, rfl⟩]
  · have e1 : Nat.max (s i c) (s j c) = s i c := Nat.max_eq_left (by omega)
    have e2 : Nat.min (s i c) (s j c) = s i c := Nat.min_eq_left (by omega)
    rw [e1, e2]
    have e : mg s c (s i c) (s i c) = s := by
      funext r d
      unfold mg
      split
      · next z => rw [z.2]
      · rfl
    rw [e]
    exact ⟨h, Sgt_refl, q, fun z => absurd q z⟩
  · have e1 : Nat.max (s i c) (s j c) = s i c := Nat.max_eq_left (by omega)
    have e2 : Nat.min (s i c) (s j c) = s j c := Nat.min_eq_right (by omega)
    rw [e1, e2]
    have hd := dS_mg (P := L.length) hi hj hc (h.1 i c hi hc) q
    refine ⟨SgI_mg h hi hj hc hE q, ⟨fun _ _ _ e => mg_mono e, by omega, Or.inr hd⟩, ?_, fun _ => hd⟩
    unfold mg
    rw [if_pos ⟨rfl, rfl⟩, if_neg (fun z => by omega)]
theorem makeOne_s (hp : PaC S L) (h : SgC S L.length s) (hI : SgI L F fx fy s) {i j set : Nat} (hi : i < L.length) (hj : j < L.length) (hset : set < 256) (hE : ∀ c, c < 8 → set.testBit c = true → EQ L F fx fy c i j) : ∃ S' s', (Fr [] [42] S S' ∧ SgC S' L.length s' ∧ SgI L F fx fy s' ∧ Sgt L.length s s' ∧ (∀ c, c < 8 → set.testBit c = true → s' i c = s' j c) ∧ ((∃ c, c < 8 ∧ set.testBit c = true ∧ ¬ s i c = s j c) → dS L.length s' < dS L.length s)) ∧ Rc 38 [.ref 39, .int (nI i), .int (nI j), .int (nI set)] (enc sc S) = some (none, enc sc S') := by
  have h12 := hp.2.1
  have key := loop_to (F := 8) (G := fun k (q : SS × (Nat → Nat → Nat)) => Rs 38 3 [.ref 39, .int (nI i), .int (nI j), .int (nI set), .int (nI k), UU, UU] [] (enc sc q.1)) (O := fun (q : SS × (Nat → Nat → Nat)) => some (none, enc sc q.1)) (J := fun (q : SS × (Nat → Nat → Nat)) => Fr [] [42] S q.1 ∧ SgC q.1 L.length q.2 ∧ SgI L F fx fy q.2 ∧ Sgt L.length s q.2 ∧ (∀ c, c < 8 → set.testBit c = true → q.2 i c = q.2 j c) ∧ ((∃ c, c < 8 ∧ set.testBit c = true ∧ ¬ s i c = s j c) → dS L.length q.2 < dS L.length s)) (I := fun k q => Fr [] [42] S q.1 ∧ SgC q.1 L.length q.2 ∧ SgI L F fx fy q.2 ∧ Sgt L.length s q.2 ∧ (∀ c, c < k → set.testBit c = true → q.2 i c = q.2 j c) ∧ ((∃ c, c < k ∧ set.testBit c = true ∧ ¬ s i c = s j c) → dS L.length q.2 < dS L.length s) ∧ ∀ c r, k ≤ c → q.2 r c = s r c) ?_ ?_ (S, s) ⟨Fr_refl _ _ _, h, hI, Sgt_refl, fun c hc => absurd hc (Nat.not_lt_zero _), fun ⟨c, hc, _⟩ => absurd hc (Nat.not_lt_zero _), fun _ _ _ => rfl⟩
  · obtain ⟨⟨S1, s1⟩, g1, g2⟩ := key
    exact ⟨S1, s1, g1, Rc_of rfl rfl (B_X3_makeOne_0 _ _ _ _ _ (g2 _ rfl))⟩
  · intro c ⟨S1, s1⟩ hc ⟨f1, f2, f3, f4, f5, f6, f7⟩
    left
    dsimp only at f1 f2 f3 f4 f5 f6 f7
    have hB := hasBit_s (μ := enc sc S1) (a := set) (c := c) (by omega) (by omega)
    by_cases bt : set.testBit c = true
    · have pc : PaC S1 L := ⟨(f1.1 39 1 (List.not_mem_nil)).trans hp.1, h12, by rw [(f1.2 40 (by decide)).1]; exact hp.2.2⟩
      obtain ⟨v1, b1⟩ := f2 i c hi hc
      obtain ⟨v2, b2⟩ := f2 j c hj hc
      obtain ⟨o1, o2, o3, o4⟩ := mg_one f3 hi hj hc (hE c hc bt)
      obtain ⟨S2, ⟨k1, k2⟩, e2⟩ := replace_s (sc := sc) pc f2 (c := c) (a := Nat.max (s1 i c) (s1 j c)) (b := Nat.min (s1 i c) (s1 j c)) hc (Nat.max_le.mpr ⟨b1, b2⟩) (Nat.le_trans (Nat.min_le_left _ _) b1)
      refine ⟨(S2, mg s1 c (Nat.max (s1 i c) (s1 j c)) (Nat.min (s1 i c) (s1 j c))), ⟨Fr_tr f1 k1, k2, o1, Sgt_tr f4 o2, fun c' hc' bt' => ?_, fun ⟨c', hc', bt', ne⟩ => ?_, fun c' r hc' => ?_⟩, fun r hr => B_X3_makeOne_3 _ _ _ _ _ _ ?_⟩
      · by_cases e : c' = c
        · rw [e]; exact o3
        · exact mg_mono (f5 c' (by omega) bt')
      · by_cases e : c' = c
        · have z := o4 (by rw [f7 c i (Nat.le_refl _), f7 c j (Nat.le_refl _)]; rw [e] at ne; exact ne)
          have := f4.2.1
          show dS L.length (mg s1 c (Nat.max (s1 i c) (s1 j c)) (Nat.min (s1 i c) (s1 j c))) < _
          omega
        · have := f6 ⟨c', by omega, bt', ne⟩
          have := o2.2.1
          show dS L.length (mg s1 c (Nat.max (s1 i c) (s1 j c)) (Nat.min (s1 i c) (s1 j c))) < _
          omega
      · show mg s1 c _ _ r c' = s r c'
        unfold mg
        rw [if_neg (fun z => by omega)]
        exact f7 c' r (by omega)
      · have m1 : nI i * 8 + nI c = nI (8 * i + c) := by
          rw [show (8 : Int32) = nI 8 from rfl, mul_n, nI_add, Nat.mul_comm]
        have m2 : nI j * 8 + nI c = nI (8 * j + c) := by
          rw [show (8 : Int32) = nI 8 from rfl, mul_n, nI_add, Nat.mul_comm]
        rw [m1, m2]
        have hr' : Rs 38 3 [.ref 39, .int (nI i), .int (nI j), .int (nI set), .int (nI (c + 1)), UU, UU] [] (enc sc S2) = some r := hr
        clear hr o1 o2 o3 o4 k2 f2 f3 f4 f5 f6 f7
        generalize s1 i c = a at *
        generalize s1 j c = b at *
        rcases Nat.lt_trichotomy a b with q | q | q
        · rw [show Nat.max a b = b from Nat.max_eq_right (by omega), show Nat.min a b = a from Nat.min_eq_left (by omega)] at e2
          have q2 : ¬ b < a := by omega
          simp (disch := first | omega | assumption | exact bI_01 | exact Or.inl rfl | exact Or.inr rfl) only [↓reduceIte, ↓if_bI, ↓if10, ↓if00, bI_eq0, not_false_eq_true, not_true_eq_false, and_true, true_and, and_false, false_and, or_true, true_or, or_false, false_or, ↓c_Is, ↓c_Js, ↓c_Vs, ↓c_An, ↓c_Ar, ↓o_0, ↓q_0_0, ↓q_0_1, ↓q_0_2, ↓q_0_3, ↓q_0_4, ↓q_0_5, ↓q_0_6, ↓q_0_7, ↓w_0_7, ↓o_18, ↓q_18_0, ↓w_18_0, ↓q_18_1, ↓q_18_2, ↓q_18_3, ↓q_18_4, ↓a_19, ↓s_19, ↓a_20, ↓s_20, ↓a_21, ↓s_21, ↓a_22, ↓s_22, ↓o_23, ↓q_23_0, ↓w_23_0, ↓q_23_1, ↓w_23_1, ↓o_24, ↓q_24_0, ↓w_24_0, ↓q_24_1, ↓q_24_2, ↓q_24_3, ↓w_24_3, ↓q_24_4, ↓q_24_5, ↓a_25, ↓s_25, ↓a_26, ↓s_26, ↓a_27, ↓s_27, ↓a_28, ↓s_28, ↓o_29, ↓q_29_0, ↓w_29_0, ↓q_29_1, ↓w_29_1, ↓q_29_2, ↓w_29_2, ↓q_29_3, ↓q_29_4, ↓q_29_5, ↓q_29_6, ↓q_29_7, ↓w_29_7, ↓q_29_8, ↓q_29_9, ↓w_29_9, ↓q_29_10, ↓w_29_10, ↓q_29_11, ↓a_30, ↓s_30, ↓a_31, ↓s_31, ↓a_32, ↓s_32, ↓a_33, ↓s_33, ↓a_34, ↓s_34, ↓a_35, ↓s_35, ↓o_36, ↓q_36_0, ↓q_36_1, ↓w_36_1, ↓q_36_2, ↓w_36_2, ↓q_36_3, ↓q_36_4, ↓a_37, ↓s_37, ↓a_38, ↓s_38, ↓o_39, ↓q_39_0, ↓q_39_1, ↓w_39_1, ↓q_39_2, ↓q_39_3, ↓w_39_3, ↓q_39_4, ↓q_39_5, ↓a_40, ↓s_40, ↓a_41, ↓s_41, ↓a_42, ↓s_42, ↓o_43, ↓q_43_0, ↓w_43_0, ↓q_43_1, ↓q_43_2, ↓q_43_3, ↓q_43_4, ↓q_43_5, ↓q_43_6, ↓q_43_7, ↓q_43_8, ↓q_43_9, ↓w_43_9, ↓q_43_10, ↓q_43_11, ↓q_43_12, ↓q_43_13, ↓q_43_14, ↓w_43_14, ↓q_43_15, ↓w_43_15, ↓q_43_16, ↓q_43_17, ↓w_43_17, ↓q_43_18, ↓w_43_18, ↓q_43_19, ↓q_43_20, ↓q_43_21, ↓q_43_22, ↓w_43_22, ↓q_43_23, ↓w_43_23, ↓q_43_24, ↓q_43_25, ↓q_43_26, ↓w_43_26, ↓q_43_27, ↓q_43_28, ↓q_43_29, ↓w_43_29, ↓q_43_30, ↓q_43_31, ↓q_43_32, ↓q_43_33, ↓w_43_33, ↓q_43_34, ↓q_43_35, ↓q_43_36, ↓a_44, ↓s_44, ↓a_45, ↓s_45, ↓a_46, ↓s_46, ↓a_47, ↓s_47, ↓a_48, ↓s_48, ↓a_49, ↓s_49, ↓a_50, ↓s_50, ↓a_51, ↓s_51, ↓a_52, ↓s_52, ↓a_53, ↓s_53, ↓a_54, ↓s_54, ↓a_55, ↓s_55, ↓a_56, ↓s_56, ↓a_57, ↓s_57, ↓a_58, ↓s_58, ↓a_59, ↓s_59, ↓a_60, ↓s_60, ↓a_61, ↓s_61, ↓a_62, ↓s_62, ↓a_63, ↓s_63, ↓a_64, ↓s_64, ↓a_65, ↓s_65, ↓a_66, ↓s_66, ↓a_67, ↓s_67, ↓a_68, ↓s_68, ↓a_69, ↓s_69, ↓a_1, le0_T, le0_F, addm1, sA_1, sA_22, sL_1, sL_21, sF_2, sA_eq, sA_ne, sA_nj, sL_eq, sL_ne, sL_nj, sF_eq, sF_ne, sF_nj, le_T, le_F, lt_T, lt_F, lt0_F, eq_T, eq_F, eq_N, m9_F, m1_F, z_F, z_N, l2, l3, l4, l5, l6, l8, l12, l24, l40, l70, l96, l255, l256, l280, l320, c_Is, c_Js, c_Vs, c_An, c_Ar, if_bI, rI0, rI1, rIb, if00, if10, lg0, nI_1, nI_add, sub_1, sub_N, if_true, if_false, ite_true, ite_false, ge0_T, ge0_F, in_d, in_e, bitz, bito, mul_n, a_47, s_47, a_48, s_48, a_49, s_49, a_42, s_42, a_69, s_69, a_59, a_63, a_28, a_50, s_50, a_51, s_51, ↓cI (hB), ↓if_pos bt, v1, v2, eq_true q, eq_false q2, ↓cV (e2)]
          exact hr'
        · rw [show Nat.max a b = a from Nat.max_eq_left (by omega), show Nat.min a b = a from Nat.min_eq_left (by omega)] at e2
          have q1 : ¬ a < b := by omega
          have q2 : ¬ b < a := by omega
          simp (disch := first | omega | assumption | exact bI_01 | exact Or.inl rfl | exact Or.inr rfl) only [↓reduceIte, ↓if_bI, ↓if10, ↓if00, bI_eq0, not_false_eq_true, not_true_eq_false, and_true, true_and, and_false, false_and, or_true, true_or, or_false, false_or, ↓c_Is, ↓c_Js, ↓c_Vs, ↓c_An, ↓c_Ar, ↓o_0, ↓q_0_0, ↓q_0_1, ↓q_0_2, ↓q_0_3, ↓q_0_4, ↓q_0_5, ↓q_0_6, ↓q_0_7, ↓w_0_7, ↓o_18, ↓q_18_0, ↓w_18_0, ↓q_18_1, ↓q_18_2, ↓q_18_3, ↓q_18_4, ↓a_19, ↓s_19, ↓a_20, ↓s_20, ↓a_21, ↓s_21, ↓a_22, ↓s_22, ↓o_23, ↓q_23_0, ↓w_23_0, ↓q_23_1, ↓w_23_1, ↓o_24, ↓q_24_0, ↓w_24_0, ↓q_24_1, ↓q_24_2, ↓q_24_3, ↓w_24_3, ↓q_24_4, ↓q_24_5, ↓a_25, ↓s_25, ↓a_26, ↓s_26, ↓a_27, ↓s_27, ↓a_28, ↓s_28, ↓o_29, ↓q_29_0, ↓w_29_0, ↓q_29_1, ↓w_29_1, ↓q_29_2, ↓w_29_2, ↓q_29_3, ↓q_29_4, ↓q_29_5, ↓q_29_6, ↓q_29_7, ↓w_29_7, ↓q_29_8, ↓q_29_9, ↓w_29_9, ↓q_29_10, ↓w_29_10, ↓q_29_11, ↓a_30, ↓s_30, ↓a_31, ↓s_31, ↓a_32, ↓s_32, ↓a_33, ↓s_33, ↓a_34, ↓s_34, ↓a_35, ↓s_35, ↓o_36, ↓q_36_0, ↓q_36_1, ↓w_36_1, ↓q_36_2, ↓w_36_2, ↓q_36_3, ↓q_36_4, ↓a_37, ↓s_37, ↓a_38, ↓s_38, ↓o_39, ↓q_39_0, ↓q_39_1, ↓w_39_1, ↓q_39_2, ↓q_39_3, ↓w_39_3, ↓q_39_4, ↓q_39_5, ↓a_40, ↓s_40, ↓a_41, ↓s_41, ↓a_42, ↓s_42, ↓o_43, ↓q_43_0, ↓w_43_0, ↓q_43_1, ↓q_43_2, ↓q_43_3, ↓q_43_4, ↓q_43_5, ↓q_43_6, ↓q_43_7, ↓q_43_8, ↓q_43_9, ↓w_43_9, ↓q_43_10, ↓q_43_11, ↓q_43_12, ↓q_43_13, ↓q_43_14, ↓w_43_14, ↓q_43_15, ↓w_43_15, ↓q_43_16, ↓q_43_17, ↓w_43_17, ↓q_43_18, ↓w_43_18, ↓q_43_19, ↓q_43_20, ↓q_43_21, ↓q_43_22, ↓w_43_22, ↓q_43_23, ↓w_43_23, ↓q_43_24, ↓q_43_25, ↓q_43_26, ↓w_43_26, ↓q_43_27, ↓q_43_28, ↓q_43_29, ↓w_43_29, ↓q_43_30, ↓q_43_31, ↓q_43_32, ↓q_43_33, ↓w_43_33, ↓q_43_34, ↓q_43_35, ↓q_43_36, ↓a_44, ↓s_44, ↓a_45, ↓s_45, ↓a_46, ↓s_46, ↓a_47, ↓s_47, ↓a_48, ↓s_48, ↓a_49, ↓s_49, ↓a_50, ↓s_50, ↓a_51, ↓s_51, ↓a_52, ↓s_52, ↓a_53, ↓s_53, ↓a_54, ↓s_54, ↓a_55, ↓s_55, ↓a_56, ↓s_56, ↓a_57, ↓s_57, ↓a_58, ↓s_58, ↓a_59, ↓s_59, ↓a_60, ↓s_60, ↓a_61, ↓s_61, ↓a_62, ↓s_62, ↓a_63, ↓s_63, ↓a_64, ↓s_64, ↓a_65, ↓s_65, ↓a_66, ↓s_66, ↓a_67, ↓s_67, ↓a_68, ↓s_68, ↓a_69, ↓s_69, ↓a_1, le0_T, le0_F, addm1, sA_1, sA_22, sL_1, sL_21, sF_2, sA_eq, sA_ne, sA_nj, sL_eq, sL_ne, sL_nj, sF_eq, sF_ne, sF_nj, le_T, le_F, lt_T, lt_F, lt0_F, eq_T, eq_F, eq_N, m9_F, m1_F, z_F, z_N, l2, l3, l4, l5, l6, l8, l12, l24, l40, l70, l96, l255, l256, l280, l320, c_Is, c_Js, c_Vs, c_An, c_Ar, if_bI, rI0, rI1, rIb, if00, if10, lg0, nI_1, nI_add, sub_1, sub_N, if_true, if_false, ite_true, ite_false, ge0_T, ge0_F, in_d, in_e, bitz, bito, mul_n, a_47, s_47, a_48, s_48, a_49, s_49, a_42, s_42, a_69, s_69, a_59, a_63, a_28, a_50, s_50, a_51, s_51, ↓cI (hB), ↓if_pos bt, v1, v2, eq_false q1, eq_false q2, ↓cV (e2)]
          exact hr'
        · rw [show Nat.max a b = a from Nat.max_eq_left (by omega), show Nat.min a b = b from Nat.min_eq_right (by omega)] at e2
          have q1 : ¬ a < b := by omega
          simp (disch := first | omega | assumption | exact bI_01 | exact Or.inl rfl | exact Or.inr rfl) only [↓reduceIte, ↓if_bI, ↓if10, ↓if00, bI_eq0, not_false_eq_true, not_true_eq_false, and_true, true_and, and_false, false_and, or_true, true_or, or_false, false_or, ↓c_Is, ↓c_Js, ↓c_Vs, ↓c_An, ↓c_Ar, ↓o_0, ↓q_0_0, ↓q_0_1, ↓q_0_2, ↓q_0_3, ↓q_0_4, ↓q_0_5, ↓q_0_6, ↓q_0_7, ↓w_0_7, ↓o_18, ↓q_18_0, ↓w_18_0, ↓q_18_1, ↓q_18_2, ↓q_18_3, ↓q_18_4, ↓a_19, ↓s_19, ↓a_20, ↓s_20, ↓a_21, ↓s_21, ↓a_22, ↓s_22, ↓o_23, ↓q_23_0, ↓w_23_0, ↓q_23_1, ↓w_23_1, ↓o_24, ↓q_24_0, ↓w_24_0, ↓q_24_1, ↓q_24_2, ↓q_24_3, ↓w_24_3, ↓q_24_4, ↓q_24_5, ↓a_25, ↓s_25, ↓a_26, ↓s_26, ↓a_27, ↓s_27, ↓a_28, ↓s_28, ↓o_29, ↓q_29_0, ↓w_29_0, ↓q_29_1, ↓w_29_1, ↓q_29_2, ↓w_29_2, ↓q_29_3, ↓q_29_4, ↓q_29_5, ↓q_29_6, ↓q_29_7, ↓w_29_7, ↓q_29_8, ↓q_29_9, ↓w_29_9, ↓q_29_10, ↓w_29_10, ↓q_29_11, ↓a_30, ↓s_30, ↓a_31, ↓s_31, ↓a_32, ↓s_32, ↓a_33, ↓s_33, ↓a_34, ↓s_34, ↓a_35, ↓s_35, ↓o_36, ↓q_36_0, ↓q_36_1, ↓w_36_1, ↓q_36_2, ↓w_36_2, ↓q_36_3, ↓q_36_4, ↓a_37, ↓s_37, ↓a_38, ↓s_38, ↓o_39, ↓q_39_0, ↓q_39_1, ↓w_39_1, ↓q_39_2, ↓q_39_3, ↓w_39_3, ↓q_39_4, ↓q_39_5, ↓a_40, ↓s_40, ↓a_41, ↓s_41, ↓a_42, ↓s_42, ↓o_43, ↓q_43_0, ↓w_43_0, ↓q_43_1, ↓q_43_2, ↓q_43_3, ↓q_43_4, ↓q_43_5, ↓q_43_6, ↓q_43_7, ↓q_43_8, ↓q_43_9, ↓w_43_9, ↓q_43_10, ↓q_43_11, ↓q_43_12, ↓q_43_13, ↓q_43_14, ↓w_43_14, ↓q_43_15, ↓w_43_15, ↓q_43_16, ↓q_43_17, ↓w_43_17, ↓q_43_18, ↓w_43_18, ↓q_43_19, ↓q_43_20, ↓q_43_21, ↓q_43_22, ↓w_43_22, ↓q_43_23, ↓w_43_23, ↓q_43_24, ↓q_43_25, ↓q_43_26, ↓w_43_26, ↓q_43_27, ↓q_43_28, ↓q_43_29, ↓w_43_29, ↓q_43_30, ↓q_43_31, ↓q_43_32, ↓q_43_33, ↓w_43_33, ↓q_43_34, ↓q_43_35, ↓q_43_36, ↓a_44, ↓s_44, ↓a_45, ↓s_45, ↓a_46, ↓s_46, ↓a_47, ↓s_47, ↓a_48, ↓s_48, ↓a_49, ↓s_49, ↓a_50, ↓s_50, ↓a_51, ↓s_51, ↓a_52, ↓s_52, ↓a_53, ↓s_53, ↓a_54, ↓s_54, ↓a_55, ↓s_55, ↓a_56, ↓s_56, ↓a_57, ↓s_57, ↓a_58, ↓s_58, ↓a_59, ↓s_59, ↓a_60, ↓s_60, ↓a_61, ↓s_61, ↓a_62, ↓s_62, ↓a_63, ↓s_63, ↓a_64, ↓s_64, ↓a_65, ↓s_65, ↓a_66, ↓s_66, ↓a_67, ↓s_67, ↓a_68, ↓s_68, ↓a_69, ↓s_69, ↓a_1, le0_T, le0_F, addm1, sA_1, sA_22, sL_1, sL_21, sF_2, sA_eq, sA_ne, sA_nj, sL_eq, sL_ne, sL_nj, sF_eq, sF_ne, sF_nj, le_T, le_F, lt_T, lt_F, lt0_F, eq_T, eq_F, eq_N, m9_F, m1_F, z_F, z_N, l2, l3, l4, l5, l6, l8, l12, l24, l40, l70, l96, l255, l256, l280, l320, c_Is, c_Js, c_Vs, c_An, c_Ar, if_bI, rI0, rI1, rIb, if00, if10, lg0, nI_1, nI_add, sub_1, sub_N, if_true, if_false, ite_true, ite_false, ge0_T, ge0_F, in_d, in_e, bitz, bito, mul_n, a_47, s_47, a_48, s_48, a_49, s_49, a_42, s_42, a_69, s_69, a_59, a_63, a_28, a_50, s_50, a_51, s_51, ↓cI (hB), ↓if_pos bt, v1, v2, eq_false q1, eq_true q, ↓cV (e2)]
          exact hr'
    · refine ⟨(S1, s1), ⟨f1, f2, f3, f4, fun c' hc' bt' => ?_, fun ⟨c', hc', bt', ne⟩ => ?_, fun c' r hc' => f7 c' r (by omega)⟩, fun r hr => B_X3_makeOne_3 _ _ _ _ _ _ ?_⟩
      · by_cases e : c' = c
        · rw [e] at bt'; exact absurd bt' bt
        · exact f5 c' (by omega) bt'
      · by_cases e : c' = c
        · rw [e] at bt'; exact absurd bt' bt
        · exact f6 ⟨c', by omega, bt', ne⟩
      · simp (disch := first | omega | assumption | exact bI_01 | exact Or.inl rfl | exact Or.inr rfl) only [↓reduceIte, ↓if_bI, ↓if10, ↓if00, bI_eq0, not_false_eq_true, not_true_eq_false, and_true, true_and, and_false, false_and, or_true, true_or, or_false, false_or, ↓c_Is, ↓c_Js, ↓c_Vs, ↓c_An, ↓c_Ar, ↓o_0, ↓q_0_0, ↓q_0_1, ↓q_0_2, ↓q_0_3, ↓q_0_4, ↓q_0_5, ↓q_0_6, ↓q_0_7, ↓w_0_7, ↓o_18, ↓q_18_0, ↓w_18_0, ↓q_18_1, ↓q_18_2, ↓q_18_3, ↓q_18_4, ↓a_19, ↓s_19, ↓a_20, ↓s_20, ↓a_21, ↓s_21, ↓a_22, ↓s_22, ↓o_23, ↓q_23_0, ↓w_23_0, ↓q_23_1, ↓w_23_1, ↓o_24, ↓q_24_0, ↓w_24_0, ↓q_24_1, ↓q_24_2, ↓q_24_3, ↓w_24_3, ↓q_24_4, ↓q_24_5, ↓a_25, ↓s_25, ↓a_26, ↓s_26, ↓a_27, ↓s_27, ↓a_28, ↓s_28, ↓o_29, ↓q_29_0, ↓w_29_0, ↓q_29_1, ↓w_29_1, ↓q_29_2, ↓w_29_2, ↓q_29_3, ↓q_29_4, ↓q_29_5, ↓q_29_6, ↓q_29_7, ↓w_29_7, ↓q_29_8, ↓q_29_9, ↓w_29_9, ↓q_29_10, ↓w_29_10, ↓q_29_11, ↓a_30, ↓s_30, ↓a_31, ↓s_31, ↓a_32, ↓s_32, ↓a_33, ↓s_33, ↓a_34, ↓s_34, ↓a_35, ↓s_35, ↓o_36, ↓q_36_0, ↓q_36_1, ↓w_36_1, ↓q_36_2, ↓w_36_2, ↓q_36_3, ↓q_36_4, ↓a_37, ↓s_37, ↓a_38, ↓s_38, ↓o_39, ↓q_39_0, ↓q_39_1, ↓w_39_1, ↓q_39_2, ↓q_39_3, ↓w_39_3, ↓q_39_4, ↓q_39_5, ↓a_40, ↓s_40, ↓a_41, ↓s_41, ↓a_42, ↓s_42, ↓o_43, ↓q_43_0, ↓w_43_0, ↓q_43_1, ↓q_43_2, ↓q_43_3, ↓q_43_4, ↓q_43_5, ↓q_43_6, ↓q_43_7, ↓q_43_8, ↓q_43_9, ↓w_43_9, ↓q_43_10, ↓q_43_11, ↓q_43_12, ↓q_43_13, ↓q_43_14, ↓w_43_14, ↓q_43_15, ↓w_43_15, ↓q_43_16, ↓q_43_17, ↓w_43_17, ↓q_43_18, ↓w_43_18, ↓q_43_19, ↓q_43_20, ↓q_43_21, ↓q_43_22, ↓w_43_22, ↓q_43_23, ↓w_43_23, ↓q_43_24, ↓q_43_25, ↓q_43_26, ↓w_43_26, ↓q_43_27, ↓q_43_28, ↓q_43_29, ↓w_43_29, ↓q_43_30, ↓q_43_31, ↓q_43_32, ↓q_43_33, ↓w_43_33, ↓q_43_34, ↓q_43_35, ↓q_43_36, ↓a_44, ↓s_44, ↓a_45, ↓s_45, ↓a_46, ↓s_46, ↓a_47, ↓s_47, ↓a_48, ↓s_48, ↓a_49, ↓s_49, ↓a_50, ↓s_50, ↓a_51, ↓s_51, ↓a_52, ↓s_52, ↓a_53, ↓s_53, ↓a_54, ↓s_54, ↓a_55, ↓s_55, ↓a_56, ↓s_56, ↓a_57, ↓s_57, ↓a_58, ↓s_58, ↓a_59, ↓s_59, ↓a_60, ↓s_60, ↓a_61, ↓s_61, ↓a_62, ↓s_62, ↓a_63, ↓s_63, ↓a_64, ↓s_64, ↓a_65, ↓s_65, ↓a_66, ↓s_66, ↓a_67, ↓s_67, ↓a_68, ↓s_68, ↓a_69, ↓s_69, ↓a_1, le0_T, le0_F, addm1, sA_1, sA_22, sL_1, sL_21, sF_2, sA_eq, sA_ne, sA_nj, sL_eq, sL_ne, sL_nj, sF_eq, sF_ne, sF_nj, le_T, le_F, lt_T, lt_F, lt0_F, eq_T, eq_F, eq_N, m9_F, m1_F, z_F, z_N, l2, l3, l4, l5, l6, l8, l12, l24, l40, l70, l96, l255, l256, l280, l320, c_Is, c_Js, c_Vs, c_An, c_Ar, if_bI, rI0, rI1, rIb, if00, if10, lg0, nI_1, nI_add, sub_1, sub_N, if_true, if_false, ite_true, ite_false, ge0_T, ge0_F, in_d, in_e, bitz, bito, mul_n, a_47, s_47, a_48, s_48, a_49, s_49, a_42, s_42, a_69, s_69, a_59, a_63, a_28, a_50, s_50, a_51, s_51, ↓cI (hB), ↓if_neg bt]
        exact hr
  · intro ⟨S1, s1⟩ ⟨f1, f2, f3, f4, f5, f6, f7⟩
    refine ⟨(S1, s1), ⟨f1, f2, f3, f4, f5, f6⟩, fun r hr => B_X3_makeOne_3 _ _ _ _ _ _ ?_⟩
    simp (disch := first | omega | assumption | exact bI_01 | exact Or.inl rfl | exact Or.inr rfl) only [↓reduceIte, ↓if_bI, ↓if10, ↓if00, bI_eq0, not_false_eq_true, not_true_eq_false, and_true, true_and, and_false, false_and, or_true, true_or, or_false, false_or, ↓c_Is, ↓c_Js, ↓c_Vs, ↓c_An, ↓c_Ar, ↓o_0, ↓q_0_0, ↓q_0_1, ↓q_0_2, ↓q_0_3, ↓q_0_4, ↓q_0_5, ↓q_0_6, ↓q_0_7, ↓w_0_7, ↓o_18, ↓q_18_0, ↓w_18_0, ↓q_18_1, ↓q_18_2, ↓q_18_3, ↓q_18_4, ↓a_19, ↓s_19, ↓a_20, ↓s_20, ↓a_21, ↓s_21, ↓a_22, ↓s_22, ↓o_23, ↓q_23_0, ↓w_23_0, ↓q_23_1, ↓w_23_1, ↓o_24, ↓q_24_0, ↓w_24_0, ↓q_24_1, ↓q_24_2, ↓q_24_3, ↓w_24_3, ↓q_24_4, ↓q_24_5, ↓a_25, ↓s_25, ↓a_26, ↓s_26, ↓a_27, ↓s_27, ↓a_28, ↓s_28, ↓o_29, ↓q_29_0, ↓w_29_0, ↓q_29_1, ↓w_29_1, ↓q_29_2, ↓w_29_2, ↓q_29_3, ↓q_29_4, ↓q_29_5, ↓q_29_6, ↓q_29_7, ↓w_29_7, ↓q_29_8, ↓q_29_9, ↓w_29_9, ↓q_29_10, ↓w_29_10, ↓q_29_11, ↓a_30, ↓s_30, ↓a_31, ↓s_31, ↓a_32, ↓s_32, ↓a_33, ↓s_33, ↓a_34, ↓s_34, ↓a_35, ↓s_35, ↓o_36, ↓q_36_0, ↓q_36_1, ↓w_36_1, ↓q_36_2, ↓w_36_2, ↓q_36_3, ↓q_36_4, ↓a_37, ↓s_37, ↓a_38, ↓s_38, ↓o_39, ↓q_39_0, ↓q_39_1, ↓w_39_1, ↓q_39_2, ↓q_39_3, ↓w_39_3, ↓q_39_4, ↓q_39_5, ↓a_40, ↓s_40, ↓a_41, ↓s_41, ↓a_42, ↓s_42, ↓o_43, ↓q_43_0, ↓w_43_0, ↓q_43_1, ↓q_43_2, ↓q_43_3, ↓q_43_4, ↓q_43_5, ↓q_43_6, ↓q_43_7, ↓q_43_8, ↓q_43_9, ↓w_43_9, ↓q_43_10, ↓q_43_11, ↓q_43_12, ↓q_43_13, ↓q_43_14, ↓w_43_14, ↓q_43_15, ↓w_43_15, ↓q_43_16, ↓q_43_17, ↓w_43_17, ↓q_43_18, ↓w_43_18, ↓q_43_19, ↓q_43_20, ↓q_43_21, ↓q_43_22, ↓w_43_22, ↓q_43_23, ↓w_43_23, ↓q_43_24, ↓q_43_25, ↓q_43_26, ↓w_43_26, ↓q_43_27, ↓q_43_28, ↓q_43_29, ↓w_43_29, ↓q_43_30, ↓q_43_31, ↓q_43_32, ↓q_43_33, ↓w_43_33, ↓q_43_34, ↓q_43_35, ↓q_43_36, ↓a_44, ↓s_44, ↓a_45, ↓s_45, ↓a_46, ↓s_46, ↓a_47, ↓s_47, ↓a_48, ↓s_48, ↓a_49, ↓s_49, ↓a_50, ↓s_50, ↓a_51, ↓s_51, ↓a_52, ↓s_52, ↓a_53, ↓s_53, ↓a_54, ↓s_54, ↓a_55, ↓s_55, ↓a_56, ↓s_56, ↓a_57, ↓s_57, ↓a_58, ↓s_58, ↓a_59, ↓s_59, ↓a_60, ↓s_60, ↓a_61, ↓s_61, ↓a_62, ↓s_62, ↓a_63, ↓s_63, ↓a_64, ↓s_64, ↓a_65, ↓s_65, ↓a_66, ↓s_66, ↓a_67, ↓s_67, ↓a_68, ↓s_68, ↓a_69, ↓s_69, ↓a_1, le0_T, le0_F, addm1, sA_1, sA_22, sL_1, sL_21, sF_2, sA_eq, sA_ne, sA_nj, sL_eq, sL_ne, sL_nj, sF_eq, sF_ne, sF_nj, le_T, le_F, lt_T, lt_F, lt0_F, eq_T, eq_F, eq_N, m9_F, m1_F, z_F, z_N, l2, l3, l4, l5, l6, l8, l12, l24, l40, l70, l96, l255, l256, l280, l320, c_Is, c_Js, c_Vs, c_An, c_Ar, if_bI, rI0, rI1, rIb, if00, if10, lg0, nI_1, nI_add, sub_1, sub_N, if_true, if_false, ite_true, ite_false, ge0_T, ge0_F, in_d, in_e, bitz, bito, mul_n, a_47, s_47, a_48, s_48, a_49, s_49, a_42, s_42, a_69, s_69, a_59, a_63, a_28, a_50, s_50, a_51, s_51]
    exact hr
end MK
