/-! TOOLS: frames, loops by what holds of them, rules for simp -/
/-- X comes to what Y comes to -/
abbrev Lt (X Y : Option RT) : Prop := ∀ r, Y = some r → X = some r
theorem loop_to {α β : Type} {F : Nat} {G : Nat → α → Option RT} {O : β → Option RT} {J : β → Prop} (I : Nat → α → Prop) (hs : ∀ k a, k < F → I k a → (∃ b, I (k + 1) b ∧ Lt (G k a) (G (k + 1) b)) ∨ (∃ b, J b ∧ Lt (G k a) (O b))) (hend : ∀ a, I F a → ∃ b, J b ∧ Lt (G F a) (O b)) : ∀ a, I 0 a → ∃ b, J b ∧ Lt (G 0 a) (O b) := by
  have key : ∀ d k, k + d = F → ∀ a, I k a → ∃ b, J b ∧ Lt (G k a) (O b) := by
    intro d
    induction d with
    | zero => intro k hk a ha; rw [show k = F by omega] at ha ⊢; exact hend a ha
    | succ d ih =>
      intro k hk a ha
      rcases hs k a (by omega) ha with ⟨b, h1, h2⟩ | h
      · obtain ⟨c, h3, h4⟩ := ih (k + 1) (by omega) b h1
        exact ⟨c, h3, fun r hr => h2 r (h4 r hr)⟩
      · exact h
  exact key F 0 (by omega)
theorem loop_wh {α β : Type} {G : α → Option RT} {O : β → Option RT} {J : β → Prop} (I : α → Prop) (μ : α → Nat) (hs : ∀ a, I a → (∃ b, I b ∧ μ b < μ a ∧ Lt (G a) (G b)) ∨ (∃ b, J b ∧ Lt (G a) (O b))) : ∀ a, I a → ∃ b, J b ∧ Lt (G a) (O b) := by
  have key : ∀ n a, μ a ≤ n → I a → ∃ b, J b ∧ Lt (G a) (O b) := by
    intro n
    induction n with
    | zero =>
      intro a hn ha
      rcases hs a ha with ⟨b, _, h2, _⟩ | h
      · omega
      · exact h
    | succ n ih =>
      intro a hn ha
      rcases hs a ha with ⟨b, h1, h2, h3⟩ | h
      · obtain ⟨c, h4, h5⟩ := ih b (by omega) h1
        exact ⟨c, h4, fun r hr => h3 r (h5 r hr)⟩
      · exact h
  exact fun a ha => key (μ a) a (Nat.le_refl _) ha
/-- all but some registers stand -/
def Fr (fs : List (Nat × Nat)) (cs : List Nat) (S S' : SS) : Prop := (∀ a j, (a, j) ∉ fs → S'.1 a j = S.1 a j) ∧ (∀ a, a ∉ cs → S'.2.1 a = S.2.1 a ∧ S'.2.2 a = S.2.2 a)
theorem Fr_refl (fs : List (Nat × Nat)) (cs : List Nat) (S : SS) : Fr fs cs S S := ⟨fun _ _ _ => rfl, fun _ _ => ⟨rfl, rfl⟩⟩
theorem Fr_tr {fs : List (Nat × Nat)} {cs : List Nat} {S S' S'' : SS} (h : Fr fs cs S S') (h' : Fr fs cs S' S'') : Fr fs cs S S'' :=
  ⟨fun a j q => (h'.1 a j q).trans (h.1 a j q), fun a q => ⟨(h'.2 a q).1.trans (h.2 a q).1, (h'.2 a q).2.trans (h.2 a q).2⟩⟩
theorem Fr_w {fs fs' : List (Nat × Nat)} {cs cs' : List Nat} {S S' : SS} (h : Fr fs cs S S') (h1 : ∀ x, x ∈ fs → x ∈ fs') (h2 : ∀ x, x ∈ cs → x ∈ cs') : Fr fs' cs' S S' :=
  ⟨fun a j q => h.1 a j (fun z => q (h1 _ z)), fun a q => h.2 a (fun z => q (h2 _ z))⟩
theorem Fr_sF {fs : List (Nat × Nat)} {cs : List Nat} {S : SS} {a j : Nat} {x : Int32} (h : (a, j) ∈ fs) : Fr fs cs S (sF S a j x) := by
  refine ⟨fun a' j' q => ?_, fun _ _ => ⟨rfl, rfl⟩⟩
  have : ¬ (a' = a ∧ j' = j) := fun z => q (by rw [z.1, z.2]; exact h)
  simp [sF, this]
theorem Fr_sA {fs : List (Nat × Nat)} {cs : List Nat} {S : SS} {a i : Nat} {x : Int32} (h : a ∈ cs) : Fr fs cs S (sA S a i x) := by
  refine ⟨fun _ _ _ => rfl, fun a' q => ⟨?_, rfl⟩⟩
  have : ¬ a' = a := fun z => q (by rw [z]; exact h)
  funext i'
  simp [sA, this]
theorem Fr_sL {fs : List (Nat × Nat)} {cs : List Nat} {S : SS} {a i : Nat} {x : Int64} (h : a ∈ cs) : Fr fs cs S (sL S a i x) := by
  refine ⟨fun _ _ _ => rfl, fun a' q => ⟨rfl, ?_⟩⟩
  have : ¬ a' = a := fun z => q (by rw [z]; exact h)
  funext i'
  simp [sL, this]
theorem Fr_w33 {fs : List (Nat × Nat)} {cs : List Nat} {S : SS} {m : Nat → Int32} (h : 33 ∈ cs) : Fr fs cs S (w33 S m) := by
  refine ⟨fun _ _ _ => rfl, fun a' q => ⟨?_, rfl⟩⟩
  exact w33_ne (fun z => q (by rw [z]; exact h))
section RULES
variable {S : SS} {a b i j : Nat} {x : Int32} {z : Int64}
theorem sA_1 : (sA S a i x).1 = S.1 := rfl
theorem sA_22 : (sA S a i x).2.2 = S.2.2 := rfl
theorem sL_1 : (sL S a i z).1 = S.1 := rfl
theorem sL_21 : (sL S a i z).2.1 = S.2.1 := rfl
theorem sF_2 : (sF S a i x).2 = S.2 := rfl
theorem sA_eq : (sA S a i x).2.1 a i = x := by simp [sA]
theorem sA_ne (h : b ≠ a) : (sA S a i x).2.1 b = S.2.1 b := by funext k; simp [sA, h]
theorem sA_nj (h : j ≠ i) : (sA S a i x).2.1 b j = S.2.1 b j := by simp [sA, h]
theorem sL_eq : (sL S a i z).2.2 a i = z := by simp [sL]
theorem sL_ne (h : b ≠ a) : (sL S a i z).2.2 b = S.2.2 b := by funext k; simp [sL, h]
theorem sL_nj (h : j ≠ i) : (sL S a i z).2.2 b j = S.2.2 b j := by simp [sL, h]
theorem sF_eq : (sF S a i x).1 a i = x := by simp [sF]
theorem sF_ne (h : b ≠ a) : (sF S a i x).1 b = S.1 b := by funext k; simp [sF, h]
theorem sF_nj (h : j ≠ i) : (sF S a i x).1 b j = S.1 b j := by simp [sF, h]
theorem le_T (h : a ≤ b) (hb : b < 2147483648) : (nI a ≤ nI b) = True := eq_true (nI_le h hb)
theorem le_F (h : b < a) (ha : a < 2147483648) : (nI a ≤ nI b) = False := eq_false (nI_ge h ha)
theorem lt_F (h : b ≤ a) (ha : a < 2147483648) : (nI a < nI b) = False := eq_false (fun q => by
  have h1 := nI_le h ha
  rw [Int32.lt_iff_toInt_lt] at q
  rw [Int32.le_iff_toInt_le] at h1
  omega)
theorem lt_T (h : a < b) (hb : b < 2147483648) : (nI a < nI b) = True := eq_true (by
  have h1 := nI_ge h hb
  rw [Int32.le_iff_toInt_le] at h1
  rw [Int32.lt_iff_toInt_lt]
  omega)
theorem eq_T (h : a = b) : (nI a = nI b) = True := eq_true (by rw [h])
theorem eq_F (h : a ≠ b) (ha : a < 2147483648) (hb : b < 2147483648) : (nI a = nI b) = False := eq_false (fun q => h (nI_inj ha hb q))
theorem eq_N (ha : a < 2147483648) (hb : b < 2147483648) : (nI a = nI b) = (a = b) := propext (nI_eq ha hb)
theorem lt0_F (ha : a < 2147483648) : (nI a < 0) = False := eq_false (nI_pos ha)
theorem m9_F (ha : a < 2147483648) : (nI a = -9) = False := eq_false (m9_ne _ ha)
theorem m1_F (ha : a < 2147483648) : (nI a = -1) = False := eq_false (m1_ne _ ha)
theorem z_F (h : a ≠ 0) (ha : a < 2147483648) : (nI a = 0) = False := eq_false (fun q => h (nI_inj ha (by decide) q))
theorem z_N (ha : a < 2147483648) : (nI a = 0) = (a = 0) := propext (nI_eq ha (by decide))
theorem sub_N (h : b ≤ a) : nI a - nI b = nI (a - b) := pk_sub h
theorem sub_1 (h : 1 ≤ a) : nI a - 1 = nI (a - 1) := pk_sub h
theorem le0_T (h : a = 0) : (nI a ≤ 0) = True := eq_true (by rw [h]; decide)
theorem le0_F (h : 0 < a) (ha : a < 2147483648) : (nI a ≤ 0) = False := le_F (b := 0) h ha
theorem addm1 (h : 1 ≤ a) : nI a + (-1) = nI (a - 1) := by
  have h1 : nI a = nI (a - 1) + 1 := by rw [nI_1]; congr 1; omega
  rw [h1, Int32.add_assoc, show (1 : Int32) + (-1) = 0 by decide, Int32.add_zero]
theorem l2 : (2 : Int32) = nI 2 := rfl
theorem l3 : (3 : Int32) = nI 3 := rfl
theorem l4 : (4 : Int32) = nI 4 := rfl
theorem l5 : (5 : Int32) = nI 5 := rfl
theorem l6 : (6 : Int32) = nI 6 := rfl
theorem l8 : (8 : Int32) = nI 8 := rfl
theorem l12 : (12 : Int32) = nI 12 := rfl
theorem l24 : (24 : Int32) = nI 24 := rfl
theorem l40 : (40 : Int32) = nI 40 := rfl
theorem l70 : (70 : Int32) = nI 70 := rfl
theorem l96 : (96 : Int32) = nI 96 := rfl
theorem l256 : (256 : Int32) = nI 256 := rfl
theorem l255 : (255 : Int32) = nI 255 := rfl
theorem l280 : (280 : Int32) = nI 280 := rfl
theorem l320 : (320 : Int32) = nI 320 := rfl
end RULES
section LAWS
variable {sc : RE} {S : SS}
theorem lawHas_s {n : Nat} (hn : S.1 18 0 = nI n) (x : Int32) : Rc 21 [.ref 18, .int x] (enc sc S) = some (some (.int (bI (rg x n))), enc sc S) := by
  refine Rc_of rfl rfl (B_X2_has_0 _ _ _ ?_)
  simp (disch := first | omega | assumption | exact bI_01 | exact Or.inl rfl | exact Or.inr rfl) only [↓o_0, ↓q_0_0, ↓q_0_1, ↓q_0_2, ↓q_0_3, ↓q_0_4, ↓q_0_5, ↓q_0_6, ↓q_0_7, ↓w_0_7, ↓o_18, ↓q_18_0, ↓w_18_0, ↓q_18_1, ↓q_18_2, ↓q_18_3, ↓q_18_4, ↓a_19, ↓s_19, ↓a_20, ↓s_20, ↓a_21, ↓s_21, ↓a_22, ↓s_22, ↓o_23, ↓q_23_0, ↓w_23_0, ↓q_23_1, ↓w_23_1, ↓o_24, ↓q_24_0, ↓w_24_0, ↓q_24_1, ↓q_24_2, ↓q_24_3, ↓w_24_3, ↓q_24_4, ↓q_24_5, ↓a_25, ↓s_25, ↓a_26, ↓s_26, ↓a_27, ↓s_27, ↓a_28, ↓s_28, ↓o_29, ↓q_29_0, ↓w_29_0, ↓q_29_1, ↓w_29_1, ↓q_29_2, ↓w_29_2, ↓q_29_3, ↓q_29_4, ↓q_29_5, ↓q_29_6, ↓q_29_7, ↓w_29_7, ↓q_29_8, ↓q_29_9, ↓w_29_9, ↓q_29_10, ↓w_29_10, ↓q_29_11, ↓a_30, ↓s_30, ↓a_31, ↓s_31, ↓a_32, ↓s_32, ↓a_33, ↓s_33, ↓a_34, ↓s_34, ↓a_35, ↓s_35, ↓o_36, ↓q_36_0, ↓q_36_1, ↓w_36_1, ↓q_36_2, ↓w_36_2, ↓q_36_3, ↓q_36_4, ↓a_37, ↓s_37, ↓a_38, ↓s_38, ↓o_39, ↓q_39_0, ↓q_39_1, ↓w_39_1, ↓q_39_2, ↓q_39_3, ↓w_39_3, ↓q_39_4, ↓q_39_5, ↓a_40, ↓s_40, ↓a_41, ↓s_41, ↓a_42, ↓s_42, ↓o_43, ↓q_43_0, ↓w_43_0, ↓q_43_1, ↓q_43_2, ↓q_43_3, ↓q_43_4, ↓q_43_5, ↓q_43_6, ↓q_43_7, ↓q_43_8, ↓q_43_9, ↓w_43_9, ↓q_43_10, ↓q_43_11, ↓q_43_12, ↓q_43_13, ↓q_43_14, ↓w_43_14, ↓q_43_15, ↓w_43_15, ↓q_43_16, ↓q_43_17, ↓w_43_17, ↓q_43_18, ↓w_43_18, ↓q_43_19, ↓q_43_20, ↓q_43_21, ↓q_43_22, ↓w_43_22, ↓q_43_23, ↓w_43_23, ↓q_43_24, ↓q_43_25, ↓q_43_26, ↓w_43_26, ↓q_43_27, ↓q_43_28, ↓q_43_29, ↓w_43_29, ↓q_43_30, ↓q_43_31, ↓q_43_32, ↓q_43_33, ↓w_43_33, ↓q_43_34, ↓q_43_35, ↓q_43_36, ↓a_44, ↓s_44, ↓a_45, ↓s_45, ↓a_46, ↓s_46, ↓a_47, ↓s_47, ↓a_48, ↓s_48, ↓a_49, ↓s_49, ↓a_50, ↓s_50, ↓a_51, ↓s_51, ↓a_52, ↓s_52, ↓a_53, ↓s_53, ↓a_54, ↓s_54, ↓a_55, ↓s_55, ↓a_56, ↓s_56, ↓a_57, ↓s_57, ↓a_58, ↓s_58, ↓a_59, ↓s_59, ↓a_60, ↓s_60, ↓a_61, ↓s_61, ↓a_62, ↓s_62, ↓a_63, ↓s_63, ↓a_64, ↓s_64, ↓a_65, ↓s_65, ↓a_66, ↓s_66, ↓a_67, ↓s_67, ↓a_68, ↓s_68, ↓a_69, ↓s_69, ↓a_1, le0_T, le0_F, addm1, sA_1, sA_22, sL_1, sL_21, sF_2, sA_eq, sA_ne, sA_nj, sL_eq, sL_ne, sL_nj, sF_eq, sF_ne, sF_nj, le_T, le_F, lt_T, lt_F, lt0_F, eq_T, eq_F, eq_N, m9_F, m1_F, z_F, z_N, l2, l3, l4, l5, l6, l8, l12, l24, l40, l70, l96, l255, l256, l280, l320, c_Is, c_Js, c_Vs, c_An, c_Ar, if_bI, rI0, rI1, rIb, if00, if10, lg0, nI_1, nI_add, sub_1, sub_N, if_true, if_false, ite_true, ite_false, hn]
  by_cases h1 : x < 0
  · rw [if_pos h1, bI_f (fun q => q.1 h1)]
  · rw [if_neg h1]
    by_cases h2 : nI n ≤ x
    · rw [if_pos h2, bI_f (fun q => q.2 h2)]
    · rw [if_neg h2, bI_t ⟨h1, h2⟩]
theorem lawAdd_s {n : Nat} (hn : S.1 18 0 = nI n) (h40 : n < 40) (k x y : Int32) : Rc 20 [.ref 18, .int k, .int x, .int y] (enc sc S) = some (some (.int (nI n)), enc sc (sF (sA (sA (sA S 19 n k) 20 n x) 21 n y) 18 0 (nI (n + 1)))) := by
  refine Rc_of rfl rfl (B_X2_add_0 _ _ _ _ _ ?_)
  simp (disch := first | omega | assumption | exact bI_01 | exact Or.inl rfl | exact Or.inr rfl) only [↓o_0, ↓q_0_0, ↓q_0_1, ↓q_0_2, ↓q_0_3, ↓q_0_4, ↓q_0_5, ↓q_0_6, ↓q_0_7, ↓w_0_7, ↓o_18, ↓q_18_0, ↓w_18_0, ↓q_18_1, ↓q_18_2, ↓q_18_3, ↓q_18_4, ↓a_19, ↓s_19, ↓a_20, ↓s_20, ↓a_21, ↓s_21, ↓a_22, ↓s_22, ↓o_23, ↓q_23_0, ↓w_23_0, ↓q_23_1, ↓w_23_1, ↓o_24, ↓q_24_0, ↓w_24_0, ↓q_24_1, ↓q_24_2, ↓q_24_3, ↓w_24_3, ↓q_24_4, ↓q_24_5, ↓a_25, ↓s_25, ↓a_26, ↓s_26, ↓a_27, ↓s_27, ↓a_28, ↓s_28, ↓o_29, ↓q_29_0, ↓w_29_0, ↓q_29_1, ↓w_29_1, ↓q_29_2, ↓w_29_2, ↓q_29_3, ↓q_29_4, ↓q_29_5, ↓q_29_6, ↓q_29_7, ↓w_29_7, ↓q_29_8, ↓q_29_9, ↓w_29_9, ↓q_29_10, ↓w_29_10, ↓q_29_11, ↓a_30, ↓s_30, ↓a_31, ↓s_31, ↓a_32, ↓s_32, ↓a_33, ↓s_33, ↓a_34, ↓s_34, ↓a_35, ↓s_35, ↓o_36, ↓q_36_0, ↓q_36_1, ↓w_36_1, ↓q_36_2, ↓w_36_2, ↓q_36_3, ↓q_36_4, ↓a_37, ↓s_37, ↓a_38, ↓s_38, ↓o_39, ↓q_39_0, ↓q_39_1, ↓w_39_1, ↓q_39_2, ↓q_39_3, ↓w_39_3, ↓q_39_4, ↓q_39_5, ↓a_40, ↓s_40, ↓a_41, ↓s_41, ↓a_42, ↓s_42, ↓o_43, ↓q_43_0, ↓w_43_0, ↓q_43_1, ↓q_43_2, ↓q_43_3, ↓q_43_4, ↓q_43_5, ↓q_43_6, ↓q_43_7, ↓q_43_8, ↓q_43_9, ↓w_43_9, ↓q_43_10, ↓q_43_11, ↓q_43_12, ↓q_43_13, ↓q_43_14, ↓w_43_14, ↓q_43_15, ↓w_43_15, ↓q_43_16, ↓q_43_17, ↓w_43_17, ↓q_43_18, ↓w_43_18, ↓q_43_19, ↓q_43_20, ↓q_43_21, ↓q_43_22, ↓w_43_22, ↓q_43_23, ↓w_43_23, ↓q_43_24, ↓q_43_25, ↓q_43_26, ↓w_43_26, ↓q_43_27, ↓q_43_28, ↓q_43_29, ↓w_43_29, ↓q_43_30, ↓q_43_31, ↓q_43_32, ↓q_43_33, ↓w_43_33, ↓q_43_34, ↓q_43_35, ↓q_43_36, ↓a_44, ↓s_44, ↓a_45, ↓s_45, ↓a_46, ↓s_46, ↓a_47, ↓s_47, ↓a_48, ↓s_48, ↓a_49, ↓s_49, ↓a_50, ↓s_50, ↓a_51, ↓s_51, ↓a_52, ↓s_52, ↓a_53, ↓s_53, ↓a_54, ↓s_54, ↓a_55, ↓s_55, ↓a_56, ↓s_56, ↓a_57, ↓s_57, ↓a_58, ↓s_58, ↓a_59, ↓s_59, ↓a_60, ↓s_60, ↓a_61, ↓s_61, ↓a_62, ↓s_62, ↓a_63, ↓s_63, ↓a_64, ↓s_64, ↓a_65, ↓s_65, ↓a_66, ↓s_66, ↓a_67, ↓s_67, ↓a_68, ↓s_68, ↓a_69, ↓s_69, ↓a_1, le0_T, le0_F, addm1, sA_1, sA_22, sL_1, sL_21, sF_2, sA_eq, sA_ne, sA_nj, sL_eq, sL_ne, sL_nj, sF_eq, sF_ne, sF_nj, le_T, le_F, lt_T, lt_F, lt0_F, eq_T, eq_F, eq_N, m9_F, m1_F, z_F, z_N, l2, l3, l4, l5, l6, l8, l12, l24, l40, l70, l96, l255, l256, l280, l320, c_Is, c_Js, c_Vs, c_An, c_Ar, if_bI, rI0, rI1, rIb, if00, if10, lg0, nI_1, nI_add, sub_1, sub_N, if_true, if_false, ite_true, ite_false, hn]
  rfl
/-- in force: not dropped, TELLS or KEY -/
def ifo (S : SS) (l : Nat) : Bool := decide (S.2.1 22 l = 0 ∧ (S.2.1 19 l = 0 ∨ S.2.1 19 l = 1))
theorem isInForce_s {l : Nat} (h : l < 40) : Rc 22 [.ref 18, .int (nI l)] (enc sc S) = some (some (.int (bI (ifo S l = true))), enc sc S) := by
  refine Rc_of rfl rfl (B_X2_isInForce_0 _ _ _ ?_)
  simp (disch := first | omega | assumption | exact bI_01 | exact Or.inl rfl | exact Or.inr rfl) only [↓o_0, ↓q_0_0, ↓q_0_1, ↓q_0_2, ↓q_0_3, ↓q_0_4, ↓q_0_5, ↓q_0_6, ↓q_0_7, ↓w_0_7, ↓o_18, ↓q_18_0, ↓w_18_0, ↓q_18_1, ↓q_18_2, ↓q_18_3, ↓q_18_4, ↓a_19, ↓s_19, ↓a_20, ↓s_20, ↓a_21, ↓s_21, ↓a_22, ↓s_22, ↓o_23, ↓q_23_0, ↓w_23_0, ↓q_23_1, ↓w_23_1, ↓o_24, ↓q_24_0, ↓w_24_0, ↓q_24_1, ↓q_24_2, ↓q_24_3, ↓w_24_3, ↓q_24_4, ↓q_24_5, ↓a_25, ↓s_25, ↓a_26, ↓s_26, ↓a_27, ↓s_27, ↓a_28, ↓s_28, ↓o_29, ↓q_29_0, ↓w_29_0, ↓q_29_1, ↓w_29_1, ↓q_29_2, ↓w_29_2, ↓q_29_3, ↓q_29_4, ↓q_29_5, ↓q_29_6, ↓q_29_7, ↓w_29_7, ↓q_29_8, ↓q_29_9, ↓w_29_9, ↓q_29_10, ↓w_29_10, ↓q_29_11, ↓a_30, ↓s_30, ↓a_31, ↓s_31, ↓a_32, ↓s_32, ↓a_33, ↓s_33, ↓a_34, ↓s_34, ↓a_35, ↓s_35, ↓o_36, ↓q_36_0, ↓q_36_1, ↓w_36_1, ↓q_36_2, ↓w_36_2, ↓q_36_3, ↓q_36_4, ↓a_37, ↓s_37, ↓a_38, ↓s_38, ↓o_39, ↓q_39_0, ↓q_39_1, ↓w_39_1, ↓q_39_2, ↓q_39_3, ↓w_39_3, ↓q_39_4, ↓q_39_5, ↓a_40, ↓s_40, ↓a_41, ↓s_41, ↓a_42, ↓s_42, ↓o_43, ↓q_43_0, ↓w_43_0, ↓q_43_1, ↓q_43_2, ↓q_43_3, ↓q_43_4, ↓q_43_5, ↓q_43_6, ↓q_43_7, ↓q_43_8, ↓q_43_9, ↓w_43_9, ↓q_43_10, ↓q_43_11, ↓q_43_12, ↓q_43_13, ↓q_43_14, ↓w_43_14, ↓q_43_15, ↓w_43_15, ↓q_43_16, ↓q_43_17, ↓w_43_17, ↓q_43_18, ↓w_43_18, ↓q_43_19, ↓q_43_20, ↓q_43_21, ↓q_43_22, ↓w_43_22, ↓q_43_23, ↓w_43_23, ↓q_43_24, ↓q_43_25, ↓q_43_26, ↓w_43_26, ↓q_43_27, ↓q_43_28, ↓q_43_29, ↓w_43_29, ↓q_43_30, ↓q_43_31, ↓q_43_32, ↓q_43_33, ↓w_43_33, ↓q_43_34, ↓q_43_35, ↓q_43_36, ↓a_44, ↓s_44, ↓a_45, ↓s_45, ↓a_46, ↓s_46, ↓a_47, ↓s_47, ↓a_48, ↓s_48, ↓a_49, ↓s_49, ↓a_50, ↓s_50, ↓a_51, ↓s_51, ↓a_52, ↓s_52, ↓a_53, ↓s_53, ↓a_54, ↓s_54, ↓a_55, ↓s_55, ↓a_56, ↓s_56, ↓a_57, ↓s_57, ↓a_58, ↓s_58, ↓a_59, ↓s_59, ↓a_60, ↓s_60, ↓a_61, ↓s_61, ↓a_62, ↓s_62, ↓a_63, ↓s_63, ↓a_64, ↓s_64, ↓a_65, ↓s_65, ↓a_66, ↓s_66, ↓a_67, ↓s_67, ↓a_68, ↓s_68, ↓a_69, ↓s_69, ↓a_1, le0_T, le0_F, addm1, sA_1, sA_22, sL_1, sL_21, sF_2, sA_eq, sA_ne, sA_nj, sL_eq, sL_ne, sL_nj, sF_eq, sF_ne, sF_nj, le_T, le_F, lt_T, lt_F, lt0_F, eq_T, eq_F, eq_N, m9_F, m1_F, z_F, z_N, l2, l3, l4, l5, l6, l8, l12, l24, l40, l70, l96, l255, l256, l280, l320, c_Is, c_Js, c_Vs, c_An, c_Ar, if_bI, rI0, rI1, rIb, if00, if10, lg0, nI_1, nI_add, sub_1, sub_N, if_true, if_false, ite_true, ite_false]
  unfold ifo
  by_cases h1 : S.2.1 22 l = 0
  · by_cases h2 : S.2.1 19 l = 0
    · simp [h1, h2, bI]
    · by_cases h3 : S.2.1 19 l = 1 <;> simp [h1, h2, h3, bI]
  · simp [h1, bI]
end LAWS
