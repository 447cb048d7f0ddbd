/-! TABLES made of others: a join, here -/
def jnI (p : Nat → Nat → Bool) (i : Nat) : Nat → List (Nat × Nat)
  | 0 => []
  | j + 1 => if p i j = true then jnI p i j ++ [(i, j)] else jnI p i j
def jnR (p : Nat → Nat → Bool) (m2 : Nat) : Nat → List (Nat × Nat)
  | 0 => []
  | i + 1 => jnR p m2 i ++ jnI p i m2
theorem jnI_mono (p : Nat → Nat → Bool) (i : Nat) {j k : Nat} (h : j ≤ k) : (jnI p i j).length ≤ (jnI p i k).length := by
  induction k with
  | zero => rw [show j = 0 by omega]; exact Nat.le_refl _
  | succ k ih =>
    by_cases e : j = k + 1
    · rw [e]; exact Nat.le_refl _
    · refine Nat.le_trans (ih (by omega)) ?_
      show _ ≤ (if p i k = true then jnI p i k ++ [(i, k)] else jnI p i k).length
      split
      · rw [List.length_append]; omega
      · exact Nat.le_refl _
theorem jnR_mono (p : Nat → Nat → Bool) (m2 : Nat) {i k : Nat} (h : i ≤ k) : (jnR p m2 i).length ≤ (jnR p m2 k).length := by
  induction k with
  | zero => rw [show i = 0 by omega]; exact Nat.le_refl _
  | succ k ih =>
    by_cases e : i = k + 1
    · rw [e]; exact Nat.le_refl _
    · refine Nat.le_trans (ih (by omega)) ?_
      show _ ≤ (jnR p m2 k ++ jnI p k m2).length
      rw [List.length_append]; omega
theorem jn_at {p : Nat → Nat → Bool} {m m2 i j : Nat} (hi : i < m) (hj : j ≤ m2) : (jnR p m2 i ++ jnI p i j).length ≤ (jnR p m2 m).length := by
  refine Nat.le_trans ?_ (jnR_mono p m2 (show i + 1 ≤ m by omega))
  show _ ≤ (jnR p m2 i ++ jnI p i m2).length
  rw [List.length_append, List.length_append]
  have := jnI_mono p i hj
  omega
theorem jnI_mem {p : Nat → Nat → Bool} {i : Nat} {ρ : Nat × Nat} : ∀ j, ρ ∈ jnI p i j → ρ.1 = i ∧ ρ.2 < j
  | 0, h => by cases h
  | j + 1, h => by
    have ih := jnI_mem (p := p) (i := i) (ρ := ρ) j
    unfold jnI at h
    by_cases q : p i j = true
    · rw [if_pos q] at h
      rcases List.mem_append.mp h with h | h
      · have := ih h; omega
      · rw [List.mem_singleton.mp h]; exact ⟨rfl, Nat.lt_succ_self j⟩
    · rw [if_neg q] at h
      have := ih h; omega
theorem jnR_mem {p : Nat → Nat → Bool} {m2 : Nat} {ρ : Nat × Nat} : ∀ i, ρ ∈ jnR p m2 i → ρ.1 < i ∧ ρ.2 < m2
  | 0, h => by cases h
  | i + 1, h => by
    have ih := jnR_mem (p := p) (m2 := m2) (ρ := ρ) i
    unfold jnR at h
    rcases List.mem_append.mp h with h | h
    · have := ih h; omega
    · have := jnI_mem _ h; omega
section JN
variable {sc : RE} {S : SS} {a b d m m2 x y : Nat}
def dmP (S : SS) (b d x y i j : Nat) : Bool := decide (¬ fa_first (drmP S b d x y i j) 8 < 8)
theorem it_sc {α : Type} (g : Nat → α → α) (n : Nat) (a : α) : it g (n + 1) a = g n (it g n a) := rfl
theorem jnI_sc (p : Nat → Nat → Bool) (i j : Nat) : jnI p i (j + 1) = if p i j = true then jnI p i j ++ [(i, j)] else jnI p i j := rfl
theorem jnR_sc (p : Nat → Nat → Bool) (k i : Nat) : jnR p k (i + 1) = jnR p k i ++ jnI p i k := rfl
theorem it_jrI {i : Nat} (acc j : Nat) : it (jrI S b d x y i) j acc = acc + (jnI (dmP S b d x y) i j).length := by
  induction j with
  | zero => rfl
  | succ j ih =>
    rw [it_sc, ih, jnI_sc]
    by_cases q : fa_first (drmP S b d x y i j) 8 < 8
    · have e1 : ¬ dmP S b d x y i j = true := fun z => (of_decide_eq_true z : ¬ fa_first (drmP S b d x y i j) 8 < 8) q
      rw [if_neg e1]
      unfold jrI
      rw [if_pos q]
    · have e1 : dmP S b d x y i j = true := decide_eq_true q
      rw [if_pos e1]
      unfold jrI
      rw [if_neg q, List.length_append, List.length_singleton]
      omega
theorem it_jrG (i : Nat) : it (jrG S b d x y m2) i 0 = (jnR (dmP S b d x y) m2 i).length := by
  induction i with
  | zero => rfl
  | succ i ih =>
    rw [it_sc, ih, jnR_sc]
    unfold jrG
    rw [it_jrI, List.length_append]
def jV (S : SS) (b d x y c : Nat) (ρ : Nat × Nat) : Int64 := if x.testBit c = true then S.2.2 (b + 2) (24 * pl x c + ρ.1) else S.2.2 (d + 2) (24 * pl y c + ρ.2)
def jG (S : SS) (b d x y c : Nat) (ρ : Nat × Nat) : Int32 := if x.testBit c = true then S.2.1 (b + 3) (24 * pl x c + ρ.1) else S.2.1 (d + 3) (24 * pl y c + ρ.2)
def jL (S : SS) (b d x y c : Nat) : Int32 := if x.testBit c = true then S.2.1 (b + 1) (pl x c) else S.2.1 (d + 1) (pl y c)
theorem or_bit {c : Nat} : (x ||| y).testBit c = true ↔ (x.testBit c = true ∨ y.testBit c = true) := by
  rw [Nat.testBit_or, Bool.or_eq_true]
theorem an_bit {c : Nat} (hx : x < 256) (hc : c < 8) : (y &&& (x ^^^ 2147483647)).testBit c = true ↔ (y.testBit c = true ∧ ¬ x.testBit c = true) := by
  have e : (2147483647 : Nat).testBit c = true := by
    rcases (by omega : c = 0 ∨ c = 1 ∨ c = 2 ∨ c = 3 ∨ c = 4 ∨ c = 5 ∨ c = 6 ∨ c = 7) with rfl | rfl | rfl | rfl | rfl | rfl | rfl | rfl <;> decide
  rw [Nat.testBit_and, Nat.testBit_xor, e, Bool.and_eq_true]
  cases x.testBit c <;> simp
theorem becomeJoin_s (ha : IsT a) (hb : IsT b) (hd : IsT d) (hab : ∀ k l, k < 4 → l < 4 → a + k ≠ b + l) (had : ∀ k l, k < 4 → l < 4 → a + k ≠ d + l) (hm : S.1 b 3 = nI m) (h24 : m ≤ 24) (hm2 : S.1 d 3 = nI m2) (h242 : m2 ≤ 24) (hx : x < 256) (hy : y < 256) (hlk : S.1 b 1 = 0 ∨ S.1 b 1 = 1) (h01 : ∀ q, q < 192 → S.2.1 (a + 3) q = 0 ∨ S.2.1 (a + 3) q = 1) (h01b : ∀ q, q < 192 → S.2.1 (b + 3) q = 0 ∨ S.2.1 (b + 3) q = 1) (h01d : ∀ q, q < 192 → S.2.1 (d + 3) q = 0 ∨ S.2.1 (d + 3) q = 1) (hle : (jnR (dmP S b d x y) m2 m).length ≤ 24) : ∃ S', (BC S S' a (S.1 b 1) (pcn (x ||| y)) (jnR (dmP S b d x y) m2 m).length ∧ BL S' a (x ||| y) 8 (jL S b d x y) ∧ BV S' a (x ||| y) (jV S b d x y) (jG S b d x y) (jnR (dmP S b d x y) m2 m)) ∧ Rc 76 [.ref a, .ref b, .int (nI x), .ref d, .int (nI y)] (enc sc S) = some (some (.int (nI (jnR (dmP S b d x y) m2 m).length)), enc sc S') := by
  have hs8 : x ||| y < 256 := Nat.or_lt_two_pow (n := 8) hx hy
  have hpc := pcn_8 (x ||| y) hs8
  obtain ⟨o1, o2, o3⟩ := BC_open (S := S) (a := a) (lk := S.1 b 1) (s := x ||| y) (lf := jL S b d x y) (V := jV S b d x y) (G := jG S b d x y) h01
  have key := loop_to (F := 8) (G := fun c (S1 : SS) => Rs 76 11 [.ref a, .ref b, .int (nI x), .ref d, .int (nI y), .int (nI c), UU] [] (enc sc S1)) (O := fun S1 => Rs 76 82 [.ref a, .ref b, .int (nI x), .ref d, .int (nI y), .int (nI 0), UU] [] (enc sc S1)) (J := fun S1 => BC S S1 a (S.1 b 1) (pcn (x ||| y)) 0 ∧ BL S1 a (x ||| y) 8 (jL S b d x y)) (I := fun c S1 => BC S S1 a (S.1 b 1) (pl (x ||| y) c) 0 ∧ BL S1 a (x ||| y) c (jL S b d x y)) ?_ ?_ (opS S a (S.1 b 1)) ⟨by rw [pl_0]; exact o1, o2⟩
  · obtain ⟨S1, ⟨g1, g2⟩, e1⟩ := key
    have k2 := loop_to (F := m) (G := fun i (S1 : SS) => Rs 76 82 [.ref a, .ref b, .int (nI x), .ref d, .int (nI y), .int (nI i), UU] [] (enc sc S1)) (O := fun S1 => some (some (.int (nI (jnR (dmP S b d x y) m2 m).length)), enc sc S1)) (J := fun S1 => BC S S1 a (S.1 b 1) (pcn (x ||| y)) (jnR (dmP S b d x y) m2 m).length ∧ BL S1 a (x ||| y) 8 (jL S b d x y) ∧ BV S1 a (x ||| y) (jV S b d x y) (jG S b d x y) (jnR (dmP S b d x y) m2 m)) (I := fun i S1 => BC S S1 a (S.1 b 1) (pcn (x ||| y)) (jnR (dmP S b d x y) m2 i).length ∧ BL S1 a (x ||| y) 8 (jL S b d x y) ∧ BV S1 a (x ||| y) (jV S b d x y) (jG S b d x y) (jnR (dmP S b d x y) m2 i)) ?_ ?_ S1 ⟨g1, g2, fun c r _ _ hr => absurd hr (Nat.not_lt_zero _)⟩
    · obtain ⟨S2, k1, e2⟩ := k2
      refine ⟨S2, k1, Rc_of rfl rfl (B_X5_becomeJoin_0 _ _ _ _ _ _ ?_)⟩
      simp (disch := first | omega | assumption | exact bI_01 | exact Or.inl rfl | exact Or.inr rfl) only [↓reduceIte, ↓if_bI, ↓if10, ↓if00, bI_eq0, not_false_eq_true, not_true_eq_false, and_true, true_and, and_false, false_and, or_true, true_or, or_false, false_or, ↓c_Is, ↓c_Js, ↓c_Vs, ↓c_An, ↓c_Ar, ↓o_0, ↓q_0_0, ↓q_0_1, ↓q_0_2, ↓q_0_3, ↓q_0_4, ↓q_0_5, ↓q_0_6, ↓q_0_7, ↓w_0_7, ↓o_18, ↓q_18_0, ↓w_18_0, ↓q_18_1, ↓q_18_2, ↓q_18_3, ↓q_18_4, ↓a_19, ↓s_19, ↓a_20, ↓s_20, ↓a_21, ↓s_21, ↓a_22, ↓s_22, ↓o_23, ↓q_23_0, ↓w_23_0, ↓q_23_1, ↓w_23_1, ↓o_24, ↓q_24_0, ↓w_24_0, ↓q_24_1, ↓q_24_2, ↓q_24_3, ↓w_24_3, ↓q_24_4, ↓q_24_5, ↓a_25, ↓s_25, ↓a_26, ↓s_26, ↓a_27, ↓s_27, ↓a_28, ↓s_28, ↓o_29, ↓q_29_0, ↓w_29_0, ↓q_29_1, ↓w_29_1, ↓q_29_2, ↓w_29_2, ↓q_29_3, ↓q_29_4, ↓q_29_5, ↓q_29_6, ↓q_29_7, ↓w_29_7, ↓q_29_8, ↓q_29_9, ↓w_29_9, ↓q_29_10, ↓w_29_10, ↓q_29_11, ↓a_30, ↓s_30, ↓a_31, ↓s_31, ↓a_32, ↓s_32, ↓a_33, ↓s_33, ↓a_34, ↓s_34, ↓a_35, ↓s_35, ↓o_36, ↓q_36_0, ↓q_36_1, ↓w_36_1, ↓q_36_2, ↓w_36_2, ↓q_36_3, ↓q_36_4, ↓a_37, ↓s_37, ↓a_38, ↓s_38, ↓o_39, ↓q_39_0, ↓q_39_1, ↓w_39_1, ↓q_39_2, ↓q_39_3, ↓w_39_3, ↓q_39_4, ↓q_39_5, ↓a_40, ↓s_40, ↓a_41, ↓s_41, ↓a_42, ↓s_42, ↓o_43, ↓q_43_0, ↓w_43_0, ↓q_43_1, ↓q_43_2, ↓q_43_3, ↓q_43_4, ↓q_43_5, ↓q_43_6, ↓q_43_7, ↓q_43_8, ↓q_43_9, ↓w_43_9, ↓q_43_10, ↓q_43_11, ↓q_43_12, ↓q_43_13, ↓q_43_14, ↓w_43_14, ↓q_43_15, ↓w_43_15, ↓q_43_16, ↓q_43_17, ↓w_43_17, ↓q_43_18, ↓w_43_18, ↓q_43_19, ↓q_43_20, ↓q_43_21, ↓q_43_22, ↓w_43_22, ↓q_43_23, ↓w_43_23, ↓q_43_24, ↓q_43_25, ↓q_43_26, ↓w_43_26, ↓q_43_27, ↓q_43_28, ↓q_43_29, ↓w_43_29, ↓q_43_30, ↓q_43_31, ↓q_43_32, ↓q_43_33, ↓w_43_33, ↓q_43_34, ↓q_43_35, ↓q_43_36, ↓a_44, ↓s_44, ↓a_45, ↓s_45, ↓a_46, ↓s_46, ↓a_47, ↓s_47, ↓a_48, ↓s_48, ↓a_49, ↓s_49, ↓a_50, ↓s_50, ↓a_51, ↓s_51, ↓a_52, ↓s_52, ↓a_53, ↓s_53, ↓a_54, ↓s_54, ↓a_55, ↓s_55, ↓a_56, ↓s_56, ↓a_57, ↓s_57, ↓a_58, ↓s_58, ↓a_59, ↓s_59, ↓a_60, ↓s_60, ↓a_61, ↓s_61, ↓a_62, ↓s_62, ↓a_63, ↓s_63, ↓a_64, ↓s_64, ↓a_65, ↓s_65, ↓a_66, ↓s_66, ↓a_67, ↓s_67, ↓a_68, ↓s_68, ↓a_69, ↓s_69, ↓a_1, le0_T, le0_F, addm1, sA_1, sA_22, sL_1, sL_21, sF_2, sA_eq, sA_ne, sA_nj, sL_eq, sL_ne, sL_nj, sF_eq, sF_ne, sF_nj, le_T, le_F, lt_T, lt_F, lt0_F, eq_T, eq_F, eq_N, m9_F, m1_F, z_F, z_N, l2, l3, l4, l5, l6, l8, l12, l24, l40, l70, l96, l255, l256, l280, l320, c_Is, c_Js, c_Vs, c_An, c_Ar, if_bI, rI0, rI1, rIb, if00, if10, lg0, nI_1, nI_add, sub_1, sub_N, if_true, if_false, ite_true, ite_false, ge0_T, ge0_F, in_d, in_e, bitz, bito, mul_n, a_47, s_47, a_48, s_48, a_49, s_49, a_42, s_42, a_69, s_69, a_59, a_63, a_28, a_50, s_50, a_51, s_51, ↓o_T (ha), ↓q_T_0 (ha), ↓w_T_0 (ha), ↓q_T_1 (ha), ↓w_T_1 (ha), ↓q_T_2 (ha), ↓w_T_2 (ha), ↓q_T_3 (ha), ↓w_T_3 (ha), ↓q_T_4 (ha), ↓q_T_5 (ha), ↓q_T_6 (ha), ↓a_T1 (ha), ↓s_T1 (ha), ↓a_T2 (ha), ↓s_T2 (ha), ↓a_T3 (ha), ↓s_T3 (ha), ↓o_T (hb), ↓q_T_0 (hb), ↓w_T_0 (hb), ↓q_T_1 (hb), ↓w_T_1 (hb), ↓q_T_2 (hb), ↓w_T_2 (hb), ↓q_T_3 (hb), ↓w_T_3 (hb), ↓q_T_4 (hb), ↓q_T_5 (hb), ↓q_T_6 (hb), ↓a_T1 (hb), ↓s_T1 (hb), ↓a_T2 (hb), ↓s_T2 (hb), ↓a_T3 (hb), ↓s_T3 (hb), ↓cV (open_s ha hlk)]
      exact e1 _ (e2 _ rfl)
    · intro i S2 hi hI
      left
      have k3 := loop_to (F := m2) (G := fun j (S1 : SS) => Rs 76 94 [.ref a, .ref b, .int (nI x), .ref d, .int (nI y), .int (nI i), .int (nI j)] [] (enc sc S1)) (O := fun S1 => Rs 76 82 [.ref a, .ref b, .int (nI x), .ref d, .int (nI y), .int (nI (i + 1)), UU] [] (enc sc S1)) (J := fun S1 => BC S S1 a (S.1 b 1) (pcn (x ||| y)) (jnR (dmP S b d x y) m2 (i + 1)).length ∧ BL S1 a (x ||| y) 8 (jL S b d x y) ∧ BV S1 a (x ||| y) (jV S b d x y) (jG S b d x y) (jnR (dmP S b d x y) m2 (i + 1))) (I := fun j S1 => BC S S1 a (S.1 b 1) (pcn (x ||| y)) (jnR (dmP S b d x y) m2 i ++ jnI (dmP S b d x y) i j).length ∧ BL S1 a (x ||| y) 8 (jL S b d x y) ∧ BV S1 a (x ||| y) (jV S b d x y) (jG S b d x y) (jnR (dmP S b d x y) m2 i ++ jnI (dmP S b d x y) i j)) ?_ ?_ S2 (by rw [show jnI (dmP S b d x y) i 0 = [] from rfl, List.append_nil]; exact hI)
      · obtain ⟨S3, k1, e3⟩ := k3
        refine ⟨S3, k1, fun r hr => B_X5_becomeJoin_82 _ _ _ _ _ _ _ ?_⟩
        have mb := ((BC_src hab hI.1).1 3).trans hm
        simp (disch := first | omega | assumption | exact bI_01 | exact Or.inl rfl | exact Or.inr rfl) only [↓reduceIte, ↓if_bI, ↓if10, ↓if00, bI_eq0, not_false_eq_true, not_true_eq_false, and_true, true_and, and_false, false_and, or_true, true_or, or_false, false_or, ↓c_Is, ↓c_Js, ↓c_Vs, ↓c_An, ↓c_Ar, ↓o_0, ↓q_0_0, ↓q_0_1, ↓q_0_2, ↓q_0_3, ↓q_0_4, ↓q_0_5, ↓q_0_6, ↓q_0_7, ↓w_0_7, ↓o_18, ↓q_18_0, ↓w_18_0, ↓q_18_1, ↓q_18_2, ↓q_18_3, ↓q_18_4, ↓a_19, ↓s_19, ↓a_20, ↓s_20, ↓a_21, ↓s_21, ↓a_22, ↓s_22, ↓o_23, ↓q_23_0, ↓w_23_0, ↓q_23_1, ↓w_23_1, ↓o_24, ↓q_24_0, ↓w_24_0, ↓q_24_1, ↓q_24_2, ↓q_24_3, ↓w_24_3, ↓q_24_4, ↓q_24_5, ↓a_25, ↓s_25, ↓a_26, ↓s_26, ↓a_27, ↓s_27, ↓a_28, ↓s_28, ↓o_29, ↓q_29_0, ↓w_29_0, ↓q_29_1, ↓w_29_1, ↓q_29_2, ↓w_29_2, ↓q_29_3, ↓q_29_4, ↓q_29_5, ↓q_29_6, ↓q_29_7, ↓w_29_7, ↓q_29_8, ↓q_29_9, ↓w_29_9, ↓q_29_10, ↓w_29_10, ↓q_29_11, ↓a_30, ↓s_30, ↓a_31, ↓s_31, ↓a_32, ↓s_32, ↓a_33, ↓s_33, ↓a_34, ↓s_34, ↓a_35, ↓s_35, ↓o_36, ↓q_36_0, ↓q_36_1, ↓w_36_1, ↓q_36_2, ↓w_36_2, ↓q_36_3, ↓q_36_4, ↓a_37, ↓s_37, ↓a_38, ↓s_38, ↓o_39, ↓q_39_0, ↓q_39_1, ↓w_39_1, ↓q_39_2, ↓q_39_3, ↓w_39_3, ↓q_39_4, ↓q_39_5, ↓a_40, ↓s_40, ↓a_41, ↓s_41, ↓a_42, ↓s_42, ↓o_43, ↓q_43_0, ↓w_43_0, ↓q_43_1, ↓q_43_2, ↓q_43_3, ↓q_43_4, ↓q_43_5, ↓q_43_6, ↓q_43_7, ↓q_43_8, ↓q_43_9, ↓w_43_9, ↓q_43_10, ↓q_43_11, ↓q_43_12, ↓q_43_13, ↓q_43_14, ↓w_43_14, ↓q_43_15, ↓w_43_15, ↓q_43_16, ↓q_43_17, ↓w_43_17, ↓q_43_18, ↓w_43_18, ↓q_43_19, ↓q_43_20, ↓q_43_21, ↓q_43_22, ↓w_43_22, ↓q_43_23, ↓w_43_23, ↓q_43_24, ↓q_43_25, ↓q_43_26, ↓w_43_26, ↓q_43_27, ↓q_43_28, ↓q_43_29, ↓w_43_29, ↓q_43_30, ↓q_43_31, ↓q_43_32, ↓q_43_33, ↓w_43_33, ↓q_43_34, ↓q_43_35, ↓q_43_36, ↓a_44, ↓s_44, ↓a_45, ↓s_45, ↓a_46, ↓s_46, ↓a_47, ↓s_47, ↓a_48, ↓s_48, ↓a_49, ↓s_49, ↓a_50, ↓s_50, ↓a_51, ↓s_51, ↓a_52, ↓s_52, ↓a_53, ↓s_53, ↓a_54, ↓s_54, ↓a_55, ↓s_55, ↓a_56, ↓s_56, ↓a_57, ↓s_57, ↓a_58, ↓s_58, ↓a_59, ↓s_59, ↓a_60, ↓s_60, ↓a_61, ↓s_61, ↓a_62, ↓s_62, ↓a_63, ↓s_63, ↓a_64, ↓s_64, ↓a_65, ↓s_65, ↓a_66, ↓s_66, ↓a_67, ↓s_67, ↓a_68, ↓s_68, ↓a_69, ↓s_69, ↓a_1, le0_T, le0_F, addm1, sA_1, sA_22, sL_1, sL_21, sF_2, sA_eq, sA_ne, sA_nj, sL_eq, sL_ne, sL_nj, sF_eq, sF_ne, sF_nj, le_T, le_F, lt_T, lt_F, lt0_F, eq_T, eq_F, eq_N, m9_F, m1_F, z_F, z_N, l2, l3, l4, l5, l6, l8, l12, l24, l40, l70, l96, l255, l256, l280, l320, c_Is, c_Js, c_Vs, c_An, c_Ar, if_bI, rI0, rI1, rIb, if00, if10, lg0, nI_1, nI_add, sub_1, sub_N, if_true, if_false, ite_true, ite_false, ge0_T, ge0_F, in_d, in_e, bitz, bito, mul_n, a_47, s_47, a_48, s_48, a_49, s_49, a_42, s_42, a_69, s_69, a_59, a_63, a_28, a_50, s_50, a_51, s_51, ↓o_T (ha), ↓q_T_0 (ha), ↓w_T_0 (ha), ↓q_T_1 (ha), ↓w_T_1 (ha), ↓q_T_2 (ha), ↓w_T_2 (ha), ↓q_T_3 (ha), ↓w_T_3 (ha), ↓q_T_4 (ha), ↓q_T_5 (ha), ↓q_T_6 (ha), ↓a_T1 (ha), ↓s_T1 (ha), ↓a_T2 (ha), ↓s_T2 (ha), ↓a_T3 (ha), ↓s_T3 (ha), ↓o_T (hb), ↓q_T_0 (hb), ↓w_T_0 (hb), ↓q_T_1 (hb), ↓w_T_1 (hb), ↓q_T_2 (hb), ↓w_T_2 (hb), ↓q_T_3 (hb), ↓w_T_3 (hb), ↓q_T_4 (hb), ↓q_T_5 (hb), ↓q_T_6 (hb), ↓a_T1 (hb), ↓s_T1 (hb), ↓a_T2 (hb), ↓s_T2 (hb), ↓a_T3 (hb), ↓s_T3 (hb), mb]
        exact e3 r hr
      · intro j S3 hj ⟨q1, q2, q3⟩
        left
        obtain ⟨sf, sa⟩ := BC_src hab q1
        obtain ⟨sf', sa'⟩ := BC_src had q1
        have md := (sf' 3).trans hm2
        have hdm : drmP S3 b d x y i j = drmP S b d x y i j := by
          funext c
          unfold drmP cvI
          rw [sf 1, (sa 3 (by omega)).1, (sa 2 (by omega)).2, (sa' 3 (by omega)).1, (sa' 2 (by omega)).2]
        have edm := doRowsMeet_s (sc := sc) (S := S3) hb hd hx hy (i := i) (j := j) (by omega) (by omega)
        rw [hdm] at edm
        have hj1 := jn_at (p := dmP S b d x y) (m := m) hi (show j + 1 ≤ m2 by omega)
        have q1' := q1
        obtain ⟨f0, c0, c1, c2, c3, c4⟩ := q1'
        by_cases qe : ¬ fa_first (drmP S b d x y i j) 8 < 8
        · have e1 : dmP S b d x y i j = true := decide_eq_true qe
          rw [jnI_sc, if_pos e1, ← List.append_assoc, List.length_append, List.length_singleton] at hj1
          rw [jnI_sc, if_pos e1, ← List.append_assoc, List.length_append (bs := [(i, j)]), List.length_singleton]
          generalize hRR : jnR (dmP S b d x y) m2 i ++ jnI (dmP S b d x y) i j = RR at *
          generalize hM : RR.length = M at *
          have ea : Rc 51 [.ref a, .int 1] (enc sc S3) = some (some (.int (nI (M + 1))), enc sc (arS S3 a (pcn (x ||| y)) M 1)) := addRows_s (sc := sc) ha c2 hpc c3 (k := 1) (by omega)
          have sfA : ∀ k, k < 4 → (arS S3 a (pcn (x ||| y)) M 1).2.1 (b + k) = S.2.1 (b + k) ∧ (arS S3 a (pcn (x ||| y)) M 1).2.2 (b + k) = S.2.2 (b + k) := by
            intro k hk
            have := hab 3 k (by omega) hk
            refine ⟨?_, (sa k hk).2⟩
            rw [← (sa k hk).1]
            funext q
            have : ¬ b + k = a + 3 := fun z => this z.symm
            simp [arS, clr, sF, this]
          have sfD : ∀ k, k < 4 → (arS S3 a (pcn (x ||| y)) M 1).2.1 (d + k) = S.2.1 (d + k) ∧ (arS S3 a (pcn (x ||| y)) M 1).2.2 (d + k) = S.2.2 (d + k) := by
            intro k hk
            have := had 3 k (by omega) hk
            refine ⟨?_, (sa' k hk).2⟩
            rw [← (sa' k hk).1]
            funext q
            have : ¬ d + k = a + 3 := fun z => this z.symm
            simp [arS, clr, sF, this]
          have m3 : (arS S3 a (pcn (x ||| y)) M 1).1 a 3 = nI (M + 1) := by simp [arS, sF]
          have f01 : ∀ q, q < 192 → (arS S3 a (pcn (x ||| y)) M 1).2.1 (b + 3) q = 0 ∨ (arS S3 a (pcn (x ||| y)) M 1).2.1 (b + 3) q = 1 := fun q hq => by rw [(sfA 3 (by omega)).1]; exact h01b q hq
          have aA : ∀ q, q < 192 → (arS S3 a (pcn (x ||| y)) M 1).2.1 (a + 3) q = 0 ∨ (arS S3 a (pcn (x ||| y)) M 1).2.1 (a + 3) q = 1 := fun q hq => by
            rw [arS_A]
            split
            · exact Or.inl rfl
            · exact c4 q hq
          have ho1 : ∀ q, (arS S3 a (pcn (x ||| y)) M 1).2.2 (a + 2) q = S3.2.2 (a + 2) q := fun q => rfl
          obtain ⟨S4, ⟨t1, t2, t3⟩, e4⟩ := takeCells_s (sc := sc) (S := arS S3 a (pcn (x ||| y)) M 1) ha hb hab (set := x) (own := x ||| y) (names := x) (i := i) (m := M) m3 (by omega) (by omega) hx hs8 hx (fun c hc bt => ⟨or_bit.mpr (Or.inl bt), bt⟩) f01
          have nD : ∀ k, k < 4 → d + k ∉ [a + 2, a + 3] := by
            intro k hk z
            have y2 := had 2 k (by omega) hk
            have y3 := had 3 k (by omega) hk
            simp at z
            omega
          have s4D : ∀ k, k < 4 → S4.2.1 (d + k) = S.2.1 (d + k) ∧ S4.2.2 (d + k) = S.2.2 (d + k) := fun k hk => ⟨(t1.2 _ (nD k hk)).1.trans (sfD k hk).1, (t1.2 _ (nD k hk)).2.trans (sfD k hk).2⟩
          have f01' : ∀ q, q < 192 → S4.2.1 (d + 3) q = 0 ∨ S4.2.1 (d + 3) q = 1 := fun q hq => by rw [(s4D 3 (by omega)).1]; exact h01d q hq
          have m4 : S4.1 a 3 = nI (M + 1) := (t1.1 a 3 (List.not_mem_nil)).trans m3
          obtain ⟨S5, ⟨v1, v2, v3⟩, e5⟩ := takeCells_s (sc := sc) (S := S4) ha hd had (set := y &&& (x ^^^ 2147483647)) (own := x ||| y) (names := y) (i := j) (m := M) m4 (by omega) (by omega) (Nat.lt_of_le_of_lt Nat.and_le_left hy) hs8 hy (fun c hc bt => ⟨or_bit.mpr (Or.inr ((an_bit hx hc).mp bt).1), ((an_bit hx hc).mp bt).1⟩) f01'
          refine ⟨S5, BC_row (by omega) hs8 q1 q2 q3 hM (Fr_tr t1 v1) (fun c hc bt => ?_) (fun q hq => ?_) (fun q hq => ?_), fun r hr => B_X5_becomeJoin_94 _ _ _ _ _ _ _ _ ?_⟩
          · by_cases bx : x.testBit c = true
            · obtain ⟨y1, y2⟩ := v3 (24 * pl (x ||| y) c + M) (fun c' hc' bt' z => by
                have hb' := (an_bit hx hc').mp bt'
                have := pl_inj hs8 hc hc' bt (or_bit.mpr (Or.inr hb'.1)) (by omega)
                rw [← this] at hb'
                exact hb'.2 bx)
              obtain ⟨y3, y4⟩ := t2 c hc bx
              rw [(sfA 2 (by omega)).2] at y3
              rw [(sfA 3 (by omega)).1] at y4
              unfold jV jG
              rw [if_pos bx, if_pos bx]
              exact ⟨y1.trans y3, y2.trans y4⟩
            · have by' : y.testBit c = true := (or_bit.mp bt).resolve_left bx
              obtain ⟨y1, y2⟩ := v2 c hc ((an_bit hx hc).mpr ⟨by', bx⟩)
              rw [(s4D 2 (by omega)).2] at y1
              rw [(s4D 3 (by omega)).1] at y2
              unfold jV jG
              rw [if_neg bx, if_neg bx]
              exact ⟨y1, y2⟩
          · obtain ⟨y1, y2⟩ := v3 q (fun c' hc' bt' z => by omega)
            obtain ⟨y3, y4⟩ := t3 q (fun c' hc' bt' z => by omega)
            exact ⟨(y1.trans y3).trans (ho1 q), y2.trans y4⟩
          · by_cases e : ∃ c, c < 8 ∧ (y &&& (x ^^^ 2147483647)).testBit c = true ∧ q = 24 * pl (x ||| y) c + M
            · obtain ⟨c, hc, bt, rfl⟩ := e
              rw [(v2 c hc bt).2]
              have := pl_lt y hy c hc ((an_bit hx hc).mp bt).1
              exact f01' _ (by omega)
            · rw [(v3 q fun c hc bt z => e ⟨c, hc, bt, z⟩).2]
              by_cases e2 : ∃ c, c < 8 ∧ x.testBit c = true ∧ q = 24 * pl (x ||| y) c + M
              · obtain ⟨c, hc, bt, rfl⟩ := e2
                rw [(t2 c hc bt).2]
                have := pl_lt x hx c hc bt
                exact f01 _ (by omega)
              · rw [(t3 q fun c hc bt z => e2 ⟨c, hc, bt, z⟩).2]
                exact aA q hq
          · have q24 : ¬ 24 ≤ M := by omega
            have o1 : nI x ||| nI y = nI (x ||| y) := fa_or _ _
            have o2 : nI y &&& (nI x ^^^ (-1)) = nI (y &&& (x ^^^ 2147483647)) := andn_n (by omega) (by omega)
            simp (disch := first | omega | assumption | exact bI_01 | exact Or.inl rfl | exact Or.inr rfl) only [↓reduceIte, ↓if_bI, ↓if10, ↓if00, bI_eq0, not_false_eq_true, not_true_eq_false, and_true, true_and, and_false, false_and, or_true, true_or, or_false, false_or, ↓c_Is, ↓c_Js, ↓c_Vs, ↓c_An, ↓c_Ar, ↓o_0, ↓q_0_0, ↓q_0_1, ↓q_0_2, ↓q_0_3, ↓q_0_4, ↓q_0_5, ↓q_0_6, ↓q_0_7, ↓w_0_7, ↓o_18, ↓q_18_0, ↓w_18_0, ↓q_18_1, ↓q_18_2, ↓q_18_3, ↓q_18_4, ↓a_19, ↓s_19, ↓a_20, ↓s_20, ↓a_21, ↓s_21, ↓a_22, ↓s_22, ↓o_23, ↓q_23_0, ↓w_23_0, ↓q_23_1, ↓w_23_1, ↓o_24, ↓q_24_0, ↓w_24_0, ↓q_24_1, ↓q_24_2, ↓q_24_3, ↓w_24_3, ↓q_24_4, ↓q_24_5, ↓a_25, ↓s_25, ↓a_26, ↓s_26, ↓a_27, ↓s_27, ↓a_28, ↓s_28, ↓o_29, ↓q_29_0, ↓w_29_0, ↓q_29_1, ↓w_29_1, ↓q_29_2, ↓w_29_2, ↓q_29_3, ↓q_29_4, ↓q_29_5, ↓q_29_6, ↓q_29_7, ↓w_29_7, ↓q_29_8, ↓q_29_9, ↓w_29_9, ↓q_29_10, ↓w_29_10, ↓q_29_11, ↓a_30, ↓s_30, ↓a_31, ↓s_31, ↓a_32, ↓s_32, ↓a_33, ↓s_33, ↓a_34, ↓s_34, ↓a_35, ↓s_35, ↓o_36, ↓q_36_0, ↓q_36_1, ↓w_36_1, ↓q_36_2, ↓w_36_2, ↓q_36_3, ↓q_36_4, ↓a_37, ↓s_37, ↓a_38, ↓s_38, ↓o_39, ↓q_39_0, ↓q_39_1, ↓w_39_1, ↓q_39_2, ↓q_39_3, ↓w_39_3, ↓q_39_4, ↓q_39_5, ↓a_40, ↓s_40, ↓a_41, ↓s_41, ↓a_42, ↓s_42, ↓o_43, ↓q_43_0, ↓w_43_0, ↓q_43_1, ↓q_43_2, ↓q_43_3, ↓q_43_4, ↓q_43_5, ↓q_43_6, ↓q_43_7, ↓q_43_8, ↓q_43_9, ↓w_43_9, ↓q_43_10, ↓q_43_11, ↓q_43_12, ↓q_43_13, ↓q_43_14, ↓w_43_14, ↓q_43_15, ↓w_43_15, ↓q_43_16, ↓q_43_17, ↓w_43_17, ↓q_43_18, ↓w_43_18, ↓q_43_19, ↓q_43_20, ↓q_43_21, ↓q_43_22, ↓w_43_22, ↓q_43_23, ↓w_43_23, ↓q_43_24, ↓q_43_25, ↓q_43_26, ↓w_43_26, ↓q_43_27, ↓q_43_28, ↓q_43_29, ↓w_43_29, ↓q_43_30, ↓q_43_31, ↓q_43_32, ↓q_43_33, ↓w_43_33, ↓q_43_34, ↓q_43_35, ↓q_43_36, ↓a_44, ↓s_44, ↓a_45, ↓s_45, ↓a_46, ↓s_46, ↓a_47, ↓s_47, ↓a_48, ↓s_48, ↓a_49, ↓s_49, ↓a_50, ↓s_50, ↓a_51, ↓s_51, ↓a_52, ↓s_52, ↓a_53, ↓s_53, ↓a_54, ↓s_54, ↓a_55, ↓s_55, ↓a_56, ↓s_56, ↓a_57, ↓s_57, ↓a_58, ↓s_58, ↓a_59, ↓s_59, ↓a_60, ↓s_60, ↓a_61, ↓s_61, ↓a_62, ↓s_62, ↓a_63, ↓s_63, ↓a_64, ↓s_64, ↓a_65, ↓s_65, ↓a_66, ↓s_66, ↓a_67, ↓s_67, ↓a_68, ↓s_68, ↓a_69, ↓s_69, ↓a_1, le0_T, le0_F, addm1, sA_1, sA_22, sL_1, sL_21, sF_2, sA_eq, sA_ne, sA_nj, sL_eq, sL_ne, sL_nj, sF_eq, sF_ne, sF_nj, le_T, le_F, lt_T, lt_F, lt0_F, eq_T, eq_F, eq_N, m9_F, m1_F, z_F, z_N, l2, l3, l4, l5, l6, l8, l12, l24, l40, l70, l96, l255, l256, l280, l320, c_Is, c_Js, c_Vs, c_An, c_Ar, if_bI, rI0, rI1, rIb, if00, if10, lg0, nI_1, nI_add, sub_1, sub_N, if_true, if_false, ite_true, ite_false, ge0_T, ge0_F, in_d, in_e, bitz, bito, mul_n, a_47, s_47, a_48, s_48, a_49, s_49, a_42, s_42, a_69, s_69, a_59, a_63, a_28, a_50, s_50, a_51, s_51, ↓o_T (ha), ↓q_T_0 (ha), ↓w_T_0 (ha), ↓q_T_1 (ha), ↓w_T_1 (ha), ↓q_T_2 (ha), ↓w_T_2 (ha), ↓q_T_3 (ha), ↓w_T_3 (ha), ↓q_T_4 (ha), ↓q_T_5 (ha), ↓q_T_6 (ha), ↓a_T1 (ha), ↓s_T1 (ha), ↓a_T2 (ha), ↓s_T2 (ha), ↓a_T3 (ha), ↓s_T3 (ha), ↓o_T (hb), ↓q_T_0 (hb), ↓w_T_0 (hb), ↓q_T_1 (hb), ↓w_T_1 (hb), ↓q_T_2 (hb), ↓w_T_2 (hb), ↓q_T_3 (hb), ↓w_T_3 (hb), ↓q_T_4 (hb), ↓q_T_5 (hb), ↓q_T_6 (hb), ↓a_T1 (hb), ↓s_T1 (hb), ↓a_T2 (hb), ↓s_T2 (hb), ↓a_T3 (hb), ↓s_T3 (hb), ↓o_T (hd), ↓q_T_0 (hd), ↓w_T_0 (hd), ↓q_T_1 (hd), ↓w_T_1 (hd), ↓q_T_2 (hd), ↓w_T_2 (hd), ↓q_T_3 (hd), ↓w_T_3 (hd), ↓q_T_4 (hd), ↓q_T_5 (hd), ↓q_T_6 (hd), ↓a_T1 (hd), ↓s_T1 (hd), ↓a_T2 (hd), ↓s_T2 (hd), ↓a_T3 (hd), ↓s_T3 (hd), md, c3, eq_false q24, ↓cI (edm), ↓if_pos qe, ↓cI (ea), o1, o2, ↓cV (e4), ↓cV (e5)]
            exact hr
        · have e1 : ¬ dmP S b d x y i j = true := fun z => qe (of_decide_eq_true z)
          rw [jnI_sc, if_neg e1] at hj1
          rw [jnI_sc, if_neg e1]
          refine ⟨S3, ⟨q1, q2, q3⟩, fun r hr => B_X5_becomeJoin_94 _ _ _ _ _ _ _ _ ?_⟩
          generalize (jnR (dmP S b d x y) m2 i ++ jnI (dmP S b d x y) i j).length = M at *
          have hM24 : M ≤ 24 := Nat.le_trans hj1 hle
          by_cases q24 : 24 ≤ M
          · simp (disch := first | omega | assumption | exact bI_01 | exact Or.inl rfl | exact Or.inr rfl) only [↓reduceIte, ↓if_bI, ↓if10, ↓if00, bI_eq0, not_false_eq_true, not_true_eq_false, and_true, true_and, and_false, false_and, or_true, true_or, or_false, false_or, ↓c_Is, ↓c_Js, ↓c_Vs, ↓c_An, ↓c_Ar, ↓o_0, ↓q_0_0, ↓q_0_1, ↓q_0_2, ↓q_0_3, ↓q_0_4, ↓q_0_5, ↓q_0_6, ↓q_0_7, ↓w_0_7, ↓o_18, ↓q_18_0, ↓w_18_0, ↓q_18_1, ↓q_18_2, ↓q_18_3, ↓q_18_4, ↓a_19, ↓s_19, ↓a_20, ↓s_20, ↓a_21, ↓s_21, ↓a_22, ↓s_22, ↓o_23, ↓q_23_0, ↓w_23_0, ↓q_23_1, ↓w_23_1, ↓o_24, ↓q_24_0, ↓w_24_0, ↓q_24_1, ↓q_24_2, ↓q_24_3, ↓w_24_3, ↓q_24_4, ↓q_24_5, ↓a_25, ↓s_25, ↓a_26, ↓s_26, ↓a_27, ↓s_27, ↓a_28, ↓s_28, ↓o_29, ↓q_29_0, ↓w_29_0, ↓q_29_1, ↓w_29_1, ↓q_29_2, ↓w_29_2, ↓q_29_3, ↓q_29_4, ↓q_29_5, ↓q_29_6, ↓q_29_7, ↓w_29_7, ↓q_29_8, ↓q_29_9, ↓w_29_9, ↓q_29_10, ↓w_29_10, ↓q_29_11, ↓a_30, ↓s_30, ↓a_31, ↓s_31, ↓a_32, ↓s_32, ↓a_33, ↓s_33, ↓a_34, ↓s_34, ↓a_35, ↓s_35, ↓o_36, ↓q_36_0, ↓q_36_1, ↓w_36_1, ↓q_36_2, ↓w_36_2, ↓q_36_3, ↓q_36_4, ↓a_37, ↓s_37, ↓a_38, ↓s_38, ↓o_39, ↓q_39_0, ↓q_39_1, ↓w_39_1, ↓q_39_2, ↓q_39_3, ↓w_39_3, ↓q_39_4, ↓q_39_5, ↓a_40, ↓s_40, ↓a_41, ↓s_41, ↓a_42, ↓s_42, ↓o_43, ↓q_43_0, ↓w_43_0, ↓q_43_1, ↓q_43_2, ↓q_43_3, ↓q_43_4, ↓q_43_5, ↓q_43_6, ↓q_43_7, ↓q_43_8, ↓q_43_9, ↓w_43_9, ↓q_43_10, ↓q_43_11, ↓q_43_12, ↓q_43_13, ↓q_43_14, ↓w_43_14, ↓q_43_15, ↓w_43_15, ↓q_43_16, ↓q_43_17, ↓w_43_17, ↓q_43_18, ↓w_43_18, ↓q_43_19, ↓q_43_20, ↓q_43_21, ↓q_43_22, ↓w_43_22, ↓q_43_23, ↓w_43_23, ↓q_43_24, ↓q_43_25, ↓q_43_26, ↓w_43_26, ↓q_43_27, ↓q_43_28, ↓q_43_29, ↓w_43_29, ↓q_43_30, ↓q_43_31, ↓q_43_32, ↓q_43_33, ↓w_43_33, ↓q_43_34, ↓q_43_35, ↓q_43_36, ↓a_44, ↓s_44, ↓a_45, ↓s_45, ↓a_46, ↓s_46, ↓a_47, ↓s_47, ↓a_48, ↓s_48, ↓a_49, ↓s_49, ↓a_50, ↓s_50, ↓a_51, ↓s_51, ↓a_52, ↓s_52, ↓a_53, ↓s_53, ↓a_54, ↓s_54, ↓a_55, ↓s_55, ↓a_56, ↓s_56, ↓a_57, ↓s_57, ↓a_58, ↓s_58, ↓a_59, ↓s_59, ↓a_60, ↓s_60, ↓a_61, ↓s_61, ↓a_62, ↓s_62, ↓a_63, ↓s_63, ↓a_64, ↓s_64, ↓a_65, ↓s_65, ↓a_66, ↓s_66, ↓a_67, ↓s_67, ↓a_68, ↓s_68, ↓a_69, ↓s_69, ↓a_1, le0_T, le0_F, addm1, sA_1, sA_22, sL_1, sL_21, sF_2, sA_eq, sA_ne, sA_nj, sL_eq, sL_ne, sL_nj, sF_eq, sF_ne, sF_nj, le_T, le_F, lt_T, lt_F, lt0_F, eq_T, eq_F, eq_N, m9_F, m1_F, z_F, z_N, l2, l3, l4, l5, l6, l8, l12, l24, l40, l70, l96, l255, l256, l280, l320, c_Is, c_Js, c_Vs, c_An, c_Ar, if_bI, rI0, rI1, rIb, if00, if10, lg0, nI_1, nI_add, sub_1, sub_N, if_true, if_false, ite_true, ite_false, ge0_T, ge0_F, in_d, in_e, bitz, bito, mul_n, a_47, s_47, a_48, s_48, a_49, s_49, a_42, s_42, a_69, s_69, a_59, a_63, a_28, a_50, s_50, a_51, s_51, ↓o_T (ha), ↓q_T_0 (ha), ↓w_T_0 (ha), ↓q_T_1 (ha), ↓w_T_1 (ha), ↓q_T_2 (ha), ↓w_T_2 (ha), ↓q_T_3 (ha), ↓w_T_3 (ha), ↓q_T_4 (ha), ↓q_T_5 (ha), ↓q_T_6 (ha), ↓a_T1 (ha), ↓s_T1 (ha), ↓a_T2 (ha), ↓s_T2 (ha), ↓a_T3 (ha), ↓s_T3 (ha), ↓o_T (hd), ↓q_T_0 (hd), ↓w_T_0 (hd), ↓q_T_1 (hd), ↓w_T_1 (hd), ↓q_T_2 (hd), ↓w_T_2 (hd), ↓q_T_3 (hd), ↓w_T_3 (hd), ↓q_T_4 (hd), ↓q_T_5 (hd), ↓q_T_6 (hd), ↓a_T1 (hd), ↓s_T1 (hd), ↓a_T2 (hd), ↓s_T2 (hd), ↓a_T3 (hd), ↓s_T3 (hd), md, c3, eq_true q24]
            exact hr
          · simp (disch := first | omega | assumption | exact bI_01 | exact Or.inl rfl | exact Or.inr rfl) only [↓reduceIte, ↓if_bI, ↓if10, ↓if00, bI_eq0, not_false_eq_true, not_true_eq_false, and_true, true_and, and_false, false_and, or_true, true_or, or_false, false_or, ↓c_Is, ↓c_Js, ↓c_Vs, ↓c_An, ↓c_Ar, ↓o_0, ↓q_0_0, ↓q_0_1, ↓q_0_2, ↓q_0_3, ↓q_0_4, ↓q_0_5, ↓q_0_6, ↓q_0_7, ↓w_0_7, ↓o_18, ↓q_18_0, ↓w_18_0, ↓q_18_1, ↓q_18_2, ↓q_18_3, ↓q_18_4, ↓a_19, ↓s_19, ↓a_20, ↓s_20, ↓a_21, ↓s_21, ↓a_22, ↓s_22, ↓o_23, ↓q_23_0, ↓w_23_0, ↓q_23_1, ↓w_23_1, ↓o_24, ↓q_24_0, ↓w_24_0, ↓q_24_1, ↓q_24_2, ↓q_24_3, ↓w_24_3, ↓q_24_4, ↓q_24_5, ↓a_25, ↓s_25, ↓a_26, ↓s_26, ↓a_27, ↓s_27, ↓a_28, ↓s_28, ↓o_29, ↓q_29_0, ↓w_29_0, ↓q_29_1, ↓w_29_1, ↓q_29_2, ↓w_29_2, ↓q_29_3, ↓q_29_4, ↓q_29_5, ↓q_29_6, ↓q_29_7, ↓w_29_7, ↓q_29_8, ↓q_29_9, ↓w_29_9, ↓q_29_10, ↓w_29_10, ↓q_29_11, ↓a_30, ↓s_30, ↓a_31, ↓s_31, ↓a_32, ↓s_32, ↓a_33, ↓s_33, ↓a_34, ↓s_34, ↓a_35, ↓s_35, ↓o_36, ↓q_36_0, ↓q_36_1, ↓w_36_1, ↓q_36_2, ↓w_36_2, ↓q_36_3, ↓q_36_4, ↓a_37, ↓s_37, ↓a_38, ↓s_38, ↓o_39, ↓q_39_0, ↓q_39_1, ↓w_39_1, ↓q_39_2, ↓q_39_3, ↓w_39_3, ↓q_39_4, ↓q_39_5, ↓a_40, ↓s_40, ↓a_41, ↓s_41, ↓a_42, ↓s_42, ↓o_43, ↓q_43_0, ↓w_43_0, ↓q_43_1, ↓q_43_2, ↓q_43_3, ↓q_43_4, ↓q_43_5, ↓q_43_6, ↓q_43_7, ↓q_43_8, ↓q_43_9, ↓w_43_9, ↓q_43_10, ↓q_43_11, ↓q_43_12, ↓q_43_13, ↓q_43_14, ↓w_43_14, ↓q_43_15, ↓w_43_15, ↓q_43_16, ↓q_43_17, ↓w_43_17, ↓q_43_18, ↓w_43_18, ↓q_43_19, ↓q_43_20, ↓q_43_21, ↓q_43_22, ↓w_43_22, ↓q_43_23, ↓w_43_23, ↓q_43_24, ↓q_43_25, ↓q_43_26, ↓w_43_26, ↓q_43_27, ↓q_43_28, ↓q_43_29, ↓w_43_29, ↓q_43_30, ↓q_43_31, ↓q_43_32, ↓q_43_33, ↓w_43_33, ↓q_43_34, ↓q_43_35, ↓q_43_36, ↓a_44, ↓s_44, ↓a_45, ↓s_45, ↓a_46, ↓s_46, ↓a_47, ↓s_47, ↓a_48, ↓s_48, ↓a_49, ↓s_49, ↓a_50, ↓s_50, ↓a_51, ↓s_51, ↓a_52, ↓s_52, ↓a_53, ↓s_53, ↓a_54, ↓s_54, ↓a_55, ↓s_55, ↓a_56, ↓s_56, ↓a_57, ↓s_57, ↓a_58, ↓s_58, ↓a_59, ↓s_59, ↓a_60, ↓s_60, ↓a_61, ↓s_61, ↓a_62, ↓s_62, ↓a_63, ↓s_63, ↓a_64, ↓s_64, ↓a_65, ↓s_65, ↓a_66, ↓s_66, ↓a_67, ↓s_67, ↓a_68, ↓s_68, ↓a_69, ↓s_69, ↓a_1, le0_T, le0_F, addm1, sA_1, sA_22, sL_1, sL_21, sF_2, sA_eq, sA_ne, sA_nj, sL_eq, sL_ne, sL_nj, sF_eq, sF_ne, sF_nj, le_T, le_F, lt_T, lt_F, lt0_F, eq_T, eq_F, eq_N, m9_F, m1_F, z_F, z_N, l2, l3, l4, l5, l6, l8, l12, l24, l40, l70, l96, l255, l256, l280, l320, c_Is, c_Js, c_Vs, c_An, c_Ar, if_bI, rI0, rI1, rIb, if00, if10, lg0, nI_1, nI_add, sub_1, sub_N, if_true, if_false, ite_true, ite_false, ge0_T, ge0_F, in_d, in_e, bitz, bito, mul_n, a_47, s_47, a_48, s_48, a_49, s_49, a_42, s_42, a_69, s_69, a_59, a_63, a_28, a_50, s_50, a_51, s_51, ↓o_T (ha), ↓q_T_0 (ha), ↓w_T_0 (ha), ↓q_T_1 (ha), ↓w_T_1 (ha), ↓q_T_2 (ha), ↓w_T_2 (ha), ↓q_T_3 (ha), ↓w_T_3 (ha), ↓q_T_4 (ha), ↓q_T_5 (ha), ↓q_T_6 (ha), ↓a_T1 (ha), ↓s_T1 (ha), ↓a_T2 (ha), ↓s_T2 (ha), ↓a_T3 (ha), ↓s_T3 (ha), ↓o_T (hd), ↓q_T_0 (hd), ↓w_T_0 (hd), ↓q_T_1 (hd), ↓w_T_1 (hd), ↓q_T_2 (hd), ↓w_T_2 (hd), ↓q_T_3 (hd), ↓w_T_3 (hd), ↓q_T_4 (hd), ↓q_T_5 (hd), ↓q_T_6 (hd), ↓a_T1 (hd), ↓s_T1 (hd), ↓a_T2 (hd), ↓s_T2 (hd), ↓a_T3 (hd), ↓s_T3 (hd), md, c3, eq_false q24, ↓cI (edm), ↓if_neg qe]
            exact hr
      · intro S3 hI3
        have md := ((BC_src had hI3.1).1 3).trans hm2
        refine ⟨S3, hI3, fun r hr => B_X5_becomeJoin_94 _ _ _ _ _ _ _ _ ?_⟩
        simp (disch := first | omega | assumption | exact bI_01 | exact Or.inl rfl | exact Or.inr rfl) only [↓reduceIte, ↓if_bI, ↓if10, ↓if00, bI_eq0, not_false_eq_true, not_true_eq_false, and_true, true_and, and_false, false_and, or_true, true_or, or_false, false_or, ↓c_Is, ↓c_Js, ↓c_Vs, ↓c_An, ↓c_Ar, ↓o_0, ↓q_0_0, ↓q_0_1, ↓q_0_2, ↓q_0_3, ↓q_0_4, ↓q_0_5, ↓q_0_6, ↓q_0_7, ↓w_0_7, ↓o_18, ↓q_18_0, ↓w_18_0, ↓q_18_1, ↓q_18_2, ↓q_18_3, ↓q_18_4, ↓a_19, ↓s_19, ↓a_20, ↓s_20, ↓a_21, ↓s_21, ↓a_22, ↓s_22, ↓o_23, ↓q_23_0, ↓w_23_0, ↓q_23_1, ↓w_23_1, ↓o_24, ↓q_24_0, ↓w_24_0, ↓q_24_1, ↓q_24_2, ↓q_24_3, ↓w_24_3, ↓q_24_4, ↓q_24_5, ↓a_25, ↓s_25, ↓a_26, ↓s_26, ↓a_27, ↓s_27, ↓a_28, ↓s_28, ↓o_29, ↓q_29_0, ↓w_29_0, ↓q_29_1, ↓w_29_1, ↓q_29_2, ↓w_29_2, ↓q_29_3, ↓q_29_4, ↓q_29_5, ↓q_29_6, ↓q_29_7, ↓w_29_7, ↓q_29_8, ↓q_29_9, ↓w_29_9, ↓q_29_10, ↓w_29_10, ↓q_29_11, ↓a_30, ↓s_30, ↓a_31, ↓s_31, ↓a_32, ↓s_32, ↓a_33, ↓s_33, ↓a_34, ↓s_34, ↓a_35, ↓s_35, ↓o_36, ↓q_36_0, ↓q_36_1, ↓w_36_1, ↓q_36_2, ↓w_36_2, ↓q_36_3, ↓q_36_4, ↓a_37, ↓s_37, ↓a_38, ↓s_38, ↓o_39, ↓q_39_0, ↓q_39_1, ↓w_39_1, ↓q_39_2, ↓q_39_3, ↓w_39_3, ↓q_39_4, ↓q_39_5, ↓a_40, ↓s_40, ↓a_41, ↓s_41, ↓a_42, ↓s_42, ↓o_43, ↓q_43_0, ↓w_43_0, ↓q_43_1, ↓q_43_2, ↓q_43_3, ↓q_43_4, ↓q_43_5, ↓q_43_6, ↓q_43_7, ↓q_43_8, ↓q_43_9, ↓w_43_9, ↓q_43_10, ↓q_43_11, ↓q_43_12, ↓q_43_13, ↓q_43_14, ↓w_43_14, ↓q_43_15, ↓w_43_15, ↓q_43_16, ↓q_43_17, ↓w_43_17, ↓q_43_18, ↓w_43_18, ↓q_43_19, ↓q_43_20, ↓q_43_21, ↓q_43_22, ↓w_43_22, ↓q_43_23, ↓w_43_23, ↓q_43_24, ↓q_43_25, ↓q_43_26, ↓w_43_26, ↓q_43_27, ↓q_43_28, ↓q_43_29, ↓w_43_29, ↓q_43_30, ↓q_43_31, ↓q_43_32, ↓q_43_33, ↓w_43_33, ↓q_43_34, ↓q_43_35, ↓q_43_36, ↓a_44, ↓s_44, ↓a_45, ↓s_45, ↓a_46, ↓s_46, ↓a_47, ↓s_47, ↓a_48, ↓s_48, ↓a_49, ↓s_49, ↓a_50, ↓s_50, ↓a_51, ↓s_51, ↓a_52, ↓s_52, ↓a_53, ↓s_53, ↓a_54, ↓s_54, ↓a_55, ↓s_55, ↓a_56, ↓s_56, ↓a_57, ↓s_57, ↓a_58, ↓s_58, ↓a_59, ↓s_59, ↓a_60, ↓s_60, ↓a_61, ↓s_61, ↓a_62, ↓s_62, ↓a_63, ↓s_63, ↓a_64, ↓s_64, ↓a_65, ↓s_65, ↓a_66, ↓s_66, ↓a_67, ↓s_67, ↓a_68, ↓s_68, ↓a_69, ↓s_69, ↓a_1, le0_T, le0_F, addm1, sA_1, sA_22, sL_1, sL_21, sF_2, sA_eq, sA_ne, sA_nj, sL_eq, sL_ne, sL_nj, sF_eq, sF_ne, sF_nj, le_T, le_F, lt_T, lt_F, lt0_F, eq_T, eq_F, eq_N, m9_F, m1_F, z_F, z_N, l2, l3, l4, l5, l6, l8, l12, l24, l40, l70, l96, l255, l256, l280, l320, c_Is, c_Js, c_Vs, c_An, c_Ar, if_bI, rI0, rI1, rIb, if00, if10, lg0, nI_1, nI_add, sub_1, sub_N, if_true, if_false, ite_true, ite_false, ge0_T, ge0_F, in_d, in_e, bitz, bito, mul_n, a_47, s_47, a_48, s_48, a_49, s_49, a_42, s_42, a_69, s_69, a_59, a_63, a_28, a_50, s_50, a_51, s_51, ↓o_T (hd), ↓q_T_0 (hd), ↓w_T_0 (hd), ↓q_T_1 (hd), ↓w_T_1 (hd), ↓q_T_2 (hd), ↓w_T_2 (hd), ↓q_T_3 (hd), ↓w_T_3 (hd), ↓q_T_4 (hd), ↓q_T_5 (hd), ↓q_T_6 (hd), ↓a_T1 (hd), ↓s_T1 (hd), ↓a_T2 (hd), ↓s_T2 (hd), ↓a_T3 (hd), ↓s_T3 (hd), md]
        exact hr
    · intro S2 ⟨q1, q2, q3⟩
      have mb := ((BC_src hab q1).1 3).trans hm
      have c3 := q1.2.2.2.2.1
      refine ⟨S2, ⟨q1, q2, q3⟩, fun r hr => B_X5_becomeJoin_82 _ _ _ _ _ _ _ ?_⟩
      simp (disch := first | omega | assumption | exact bI_01 | exact Or.inl rfl | exact Or.inr rfl) only [↓reduceIte, ↓if_bI, ↓if10, ↓if00, bI_eq0, not_false_eq_true, not_true_eq_false, and_true, true_and, and_false, false_and, or_true, true_or, or_false, false_or, ↓c_Is, ↓c_Js, ↓c_Vs, ↓c_An, ↓c_Ar, ↓o_0, ↓q_0_0, ↓q_0_1, ↓q_0_2, ↓q_0_3, ↓q_0_4, ↓q_0_5, ↓q_0_6, ↓q_0_7, ↓w_0_7, ↓o_18, ↓q_18_0, ↓w_18_0, ↓q_18_1, ↓q_18_2, ↓q_18_3, ↓q_18_4, ↓a_19, ↓s_19, ↓a_20, ↓s_20, ↓a_21, ↓s_21, ↓a_22, ↓s_22, ↓o_23, ↓q_23_0, ↓w_23_0, ↓q_23_1, ↓w_23_1, ↓o_24, ↓q_24_0, ↓w_24_0, ↓q_24_1, ↓q_24_2, ↓q_24_3, ↓w_24_3, ↓q_24_4, ↓q_24_5, ↓a_25, ↓s_25, ↓a_26, ↓s_26, ↓a_27, ↓s_27, ↓a_28, ↓s_28, ↓o_29, ↓q_29_0, ↓w_29_0, ↓q_29_1, ↓w_29_1, ↓q_29_2, ↓w_29_2, ↓q_29_3, ↓q_29_4, ↓q_29_5, ↓q_29_6, ↓q_29_7, ↓w_29_7, ↓q_29_8, ↓q_29_9, ↓w_29_9, ↓q_29_10, ↓w_29_10, ↓q_29_11, ↓a_30, ↓s_30, ↓a_31, ↓s_31, ↓a_32, ↓s_32, ↓a_33, ↓s_33, ↓a_34, ↓s_34, ↓a_35, ↓s_35, ↓o_36, ↓q_36_0, ↓q_36_1, ↓w_36_1, ↓q_36_2, ↓w_36_2, ↓q_36_3, ↓q_36_4, ↓a_37, ↓s_37, ↓a_38, ↓s_38, ↓o_39, ↓q_39_0, ↓q_39_1, ↓w_39_1, ↓q_39_2, ↓q_39_3, ↓w_39_3, ↓q_39_4, ↓q_39_5, ↓a_40, ↓s_40, ↓a_41, ↓s_41, ↓a_42, ↓s_42, ↓o_43, ↓q_43_0, ↓w_43_0, ↓q_43_1, ↓q_43_2, ↓q_43_3, ↓q_43_4, ↓q_43_5, ↓q_43_6, ↓q_43_7, ↓q_43_8, ↓q_43_9, ↓w_43_9, ↓q_43_10, ↓q_43_11, ↓q_43_12, ↓q_43_13, ↓q_43_14, ↓w_43_14, ↓q_43_15, ↓w_43_15, ↓q_43_16, ↓q_43_17, ↓w_43_17, ↓q_43_18, ↓w_43_18, ↓q_43_19, ↓q_43_20, ↓q_43_21, ↓q_43_22, ↓w_43_22, ↓q_43_23, ↓w_43_23, ↓q_43_24, ↓q_43_25, ↓q_43_26, ↓w_43_26, ↓q_43_27, ↓q_43_28, ↓q_43_29, ↓w_43_29, ↓q_43_30, ↓q_43_31, ↓q_43_32, ↓q_43_33, ↓w_43_33, ↓q_43_34, ↓q_43_35, ↓q_43_36, ↓a_44, ↓s_44, ↓a_45, ↓s_45, ↓a_46, ↓s_46, ↓a_47, ↓s_47, ↓a_48, ↓s_48, ↓a_49, ↓s_49, ↓a_50, ↓s_50, ↓a_51, ↓s_51, ↓a_52, ↓s_52, ↓a_53, ↓s_53, ↓a_54, ↓s_54, ↓a_55, ↓s_55, ↓a_56, ↓s_56, ↓a_57, ↓s_57, ↓a_58, ↓s_58, ↓a_59, ↓s_59, ↓a_60, ↓s_60, ↓a_61, ↓s_61, ↓a_62, ↓s_62, ↓a_63, ↓s_63, ↓a_64, ↓s_64, ↓a_65, ↓s_65, ↓a_66, ↓s_66, ↓a_67, ↓s_67, ↓a_68, ↓s_68, ↓a_69, ↓s_69, ↓a_1, le0_T, le0_F, addm1, sA_1, sA_22, sL_1, sL_21, sF_2, sA_eq, sA_ne, sA_nj, sL_eq, sL_ne, sL_nj, sF_eq, sF_ne, sF_nj, le_T, le_F, lt_T, lt_F, lt0_F, eq_T, eq_F, eq_N, m9_F, m1_F, z_F, z_N, l2, l3, l4, l5, l6, l8, l12, l24, l40, l70, l96, l255, l256, l280, l320, c_Is, c_Js, c_Vs, c_An, c_Ar, if_bI, rI0, rI1, rIb, if00, if10, lg0, nI_1, nI_add, sub_1, sub_N, if_true, if_false, ite_true, ite_false, ge0_T, ge0_F, in_d, in_e, bitz, bito, mul_n, a_47, s_47, a_48, s_48, a_49, s_49, a_42, s_42, a_69, s_69, a_59, a_63, a_28, a_50, s_50, a_51, s_51, ↓o_T (ha), ↓q_T_0 (ha), ↓w_T_0 (ha), ↓q_T_1 (ha), ↓w_T_1 (ha), ↓q_T_2 (ha), ↓w_T_2 (ha), ↓q_T_3 (ha), ↓w_T_3 (ha), ↓q_T_4 (ha), ↓q_T_5 (ha), ↓q_T_6 (ha), ↓a_T1 (ha), ↓s_T1 (ha), ↓a_T2 (ha), ↓s_T2 (ha), ↓a_T3 (ha), ↓s_T3 (ha), ↓o_T (hb), ↓q_T_0 (hb), ↓w_T_0 (hb), ↓q_T_1 (hb), ↓w_T_1 (hb), ↓q_T_2 (hb), ↓w_T_2 (hb), ↓q_T_3 (hb), ↓w_T_3 (hb), ↓q_T_4 (hb), ↓q_T_5 (hb), ↓q_T_6 (hb), ↓a_T1 (hb), ↓s_T1 (hb), ↓a_T2 (hb), ↓s_T2 (hb), ↓a_T3 (hb), ↓s_T3 (hb), mb, c3]
      exact hr
  · intro c S1 hc ⟨q1, q2⟩
    left
    obtain ⟨sf, sa⟩ := BC_src hab q1
    obtain ⟨sf', sa'⟩ := BC_src had q1
    have hBx := hasBit_s (μ := enc sc S1) (a := x) (c := c) (by omega) (by omega)
    have hBy := hasBit_s (μ := enc sc S1) (a := y) (c := c) (by omega) (by omega)
    have c2 := q1.2.2.2.1
    by_cases bx : x.testBit c = true
    · have bt : (x ||| y).testBit c = true := or_bit.mpr (Or.inl bx)
      have pp := pl_lt x hx c hc bx
      have el : S1.2.1 (b + 1) (pl x c) = jL S b d x y c := by rw [(sa 1 (by omega)).1]; unfold jL; rw [if_pos bx]
      have ec := addColumn_s (sc := sc) ha c2 (pl_lt _ hs8 c hc bt) (jL S b d x y c)
      refine ⟨_, BC_col hs8 hc bt q1 q2, fun r hr => B_X5_becomeJoin_11 _ _ _ _ _ _ _ ?_⟩
      simp (disch := first | omega | assumption | exact bI_01 | exact Or.inl rfl | exact Or.inr rfl) only [↓reduceIte, ↓if_bI, ↓if10, ↓if00, bI_eq0, not_false_eq_true, not_true_eq_false, and_true, true_and, and_false, false_and, or_true, true_or, or_false, false_or, ↓c_Is, ↓c_Js, ↓c_Vs, ↓c_An, ↓c_Ar, ↓o_0, ↓q_0_0, ↓q_0_1, ↓q_0_2, ↓q_0_3, ↓q_0_4, ↓q_0_5, ↓q_0_6, ↓q_0_7, ↓w_0_7, ↓o_18, ↓q_18_0, ↓w_18_0, ↓q_18_1, ↓q_18_2, ↓q_18_3, ↓q_18_4, ↓a_19, ↓s_19, ↓a_20, ↓s_20, ↓a_21, ↓s_21, ↓a_22, ↓s_22, ↓o_23, ↓q_23_0, ↓w_23_0, ↓q_23_1, ↓w_23_1, ↓o_24, ↓q_24_0, ↓w_24_0, ↓q_24_1, ↓q_24_2, ↓q_24_3, ↓w_24_3, ↓q_24_4, ↓q_24_5, ↓a_25, ↓s_25, ↓a_26, ↓s_26, ↓a_27, ↓s_27, ↓a_28, ↓s_28, ↓o_29, ↓q_29_0, ↓w_29_0, ↓q_29_1, ↓w_29_1, ↓q_29_2, ↓w_29_2, ↓q_29_3, ↓q_29_4, ↓q_29_5, ↓q_29_6, ↓q_29_7, ↓w_29_7, ↓q_29_8, ↓q_29_9, ↓w_29_9, ↓q_29_10, ↓w_29_10, ↓q_29_11, ↓a_30, ↓s_30, ↓a_31, ↓s_31, ↓a_32, ↓s_32, ↓a_33, ↓s_33, ↓a_34, ↓s_34, ↓a_35, ↓s_35, ↓o_36, ↓q_36_0, ↓q_36_1, ↓w_36_1, ↓q_36_2, ↓w_36_2, ↓q_36_3, ↓q_36_4, ↓a_37, ↓s_37, ↓a_38, ↓s_38, ↓o_39, ↓q_39_0, ↓q_39_1, ↓w_39_1, ↓q_39_2, ↓q_39_3, ↓w_39_3, ↓q_39_4, ↓q_39_5, ↓a_40, ↓s_40, ↓a_41, ↓s_41, ↓a_42, ↓s_42, ↓o_43, ↓q_43_0, ↓w_43_0, ↓q_43_1, ↓q_43_2, ↓q_43_3, ↓q_43_4, ↓q_43_5, ↓q_43_6, ↓q_43_7, ↓q_43_8, ↓q_43_9, ↓w_43_9, ↓q_43_10, ↓q_43_11, ↓q_43_12, ↓q_43_13, ↓q_43_14, ↓w_43_14, ↓q_43_15, ↓w_43_15, ↓q_43_16, ↓q_43_17, ↓w_43_17, ↓q_43_18, ↓w_43_18, ↓q_43_19, ↓q_43_20, ↓q_43_21, ↓q_43_22, ↓w_43_22, ↓q_43_23, ↓w_43_23, ↓q_43_24, ↓q_43_25, ↓q_43_26, ↓w_43_26, ↓q_43_27, ↓q_43_28, ↓q_43_29, ↓w_43_29, ↓q_43_30, ↓q_43_31, ↓q_43_32, ↓q_43_33, ↓w_43_33, ↓q_43_34, ↓q_43_35, ↓q_43_36, ↓a_44, ↓s_44, ↓a_45, ↓s_45, ↓a_46, ↓s_46, ↓a_47, ↓s_47, ↓a_48, ↓s_48, ↓a_49, ↓s_49, ↓a_50, ↓s_50, ↓a_51, ↓s_51, ↓a_52, ↓s_52, ↓a_53, ↓s_53, ↓a_54, ↓s_54, ↓a_55, ↓s_55, ↓a_56, ↓s_56, ↓a_57, ↓s_57, ↓a_58, ↓s_58, ↓a_59, ↓s_59, ↓a_60, ↓s_60, ↓a_61, ↓s_61, ↓a_62, ↓s_62, ↓a_63, ↓s_63, ↓a_64, ↓s_64, ↓a_65, ↓s_65, ↓a_66, ↓s_66, ↓a_67, ↓s_67, ↓a_68, ↓s_68, ↓a_69, ↓s_69, ↓a_1, le0_T, le0_F, addm1, sA_1, sA_22, sL_1, sL_21, sF_2, sA_eq, sA_ne, sA_nj, sL_eq, sL_ne, sL_nj, sF_eq, sF_ne, sF_nj, le_T, le_F, lt_T, lt_F, lt0_F, eq_T, eq_F, eq_N, m9_F, m1_F, z_F, z_N, l2, l3, l4, l5, l6, l8, l12, l24, l40, l70, l96, l255, l256, l280, l320, c_Is, c_Js, c_Vs, c_An, c_Ar, if_bI, rI0, rI1, rIb, if00, if10, lg0, nI_1, nI_add, sub_1, sub_N, if_true, if_false, ite_true, ite_false, ge0_T, ge0_F, in_d, in_e, bitz, bito, mul_n, a_47, s_47, a_48, s_48, a_49, s_49, a_42, s_42, a_69, s_69, a_59, a_63, a_28, a_50, s_50, a_51, s_51, ↓o_T (ha), ↓q_T_0 (ha), ↓w_T_0 (ha), ↓q_T_1 (ha), ↓w_T_1 (ha), ↓q_T_2 (ha), ↓w_T_2 (ha), ↓q_T_3 (ha), ↓w_T_3 (ha), ↓q_T_4 (ha), ↓q_T_5 (ha), ↓q_T_6 (ha), ↓a_T1 (ha), ↓s_T1 (ha), ↓a_T2 (ha), ↓s_T2 (ha), ↓a_T3 (ha), ↓s_T3 (ha), ↓o_T (hb), ↓q_T_0 (hb), ↓w_T_0 (hb), ↓q_T_1 (hb), ↓w_T_1 (hb), ↓q_T_2 (hb), ↓w_T_2 (hb), ↓q_T_3 (hb), ↓w_T_3 (hb), ↓q_T_4 (hb), ↓q_T_5 (hb), ↓q_T_6 (hb), ↓a_T1 (hb), ↓s_T1 (hb), ↓a_T2 (hb), ↓s_T2 (hb), ↓a_T3 (hb), ↓s_T3 (hb), ↓cI (hBx), ↓if_pos bx, ↓cI (placeIn_s hx hc), el, ↓cI (ec)]
      exact hr
    · by_cases by' : y.testBit c = true
      · have bt : (x ||| y).testBit c = true := or_bit.mpr (Or.inr by')
        have pp := pl_lt y hy c hc by'
        have el : S1.2.1 (d + 1) (pl y c) = jL S b d x y c := by rw [(sa' 1 (by omega)).1]; unfold jL; rw [if_neg bx]
        have ec := addColumn_s (sc := sc) ha c2 (pl_lt _ hs8 c hc bt) (jL S b d x y c)
        refine ⟨_, BC_col hs8 hc bt q1 q2, fun r hr => B_X5_becomeJoin_11 _ _ _ _ _ _ _ ?_⟩
        simp (disch := first | omega | assumption | exact bI_01 | exact Or.inl rfl | exact Or.inr rfl) only [↓reduceIte, ↓if_bI, ↓if10, ↓if00, bI_eq0, not_false_eq_true, not_true_eq_false, and_true, true_and, and_false, false_and, or_true, true_or, or_false, false_or, ↓c_Is, ↓c_Js, ↓c_Vs, ↓c_An, ↓c_Ar, ↓o_0, ↓q_0_0, ↓q_0_1, ↓q_0_2, ↓q_0_3, ↓q_0_4, ↓q_0_5, ↓q_0_6, ↓q_0_7, ↓w_0_7, ↓o_18, ↓q_18_0, ↓w_18_0, ↓q_18_1, ↓q_18_2, ↓q_18_3, ↓q_18_4, ↓a_19, ↓s_19, ↓a_20, ↓s_20, ↓a_21, ↓s_21, ↓a_22, ↓s_22, ↓o_23, ↓q_23_0, ↓w_23_0, ↓q_23_1, ↓w_23_1, ↓o_24, ↓q_24_0, ↓w_24_0, ↓q_24_1, ↓q_24_2, ↓q_24_3, ↓w_24_3, ↓q_24_4, ↓q_24_5, ↓a_25, ↓s_25, ↓a_26, ↓s_26, ↓a_27, ↓s_27, ↓a_28, ↓s_28, ↓o_29, ↓q_29_0, ↓w_29_0, ↓q_29_1, ↓w_29_1, ↓q_29_2, ↓w_29_2, ↓q_29_3, ↓q_29_4, ↓q_29_5, ↓q_29_6, ↓q_29_7, ↓w_29_7, ↓q_29_8, ↓q_29_9, ↓w_29_9, ↓q_29_10, ↓w_29_10, ↓q_29_11, ↓a_30, ↓s_30, ↓a_31, ↓s_31, ↓a_32, ↓s_32, ↓a_33, ↓s_33, ↓a_34, ↓s_34, ↓a_35, ↓s_35, ↓o_36, ↓q_36_0, ↓q_36_1, ↓w_36_1, ↓q_36_2, ↓w_36_2, ↓q_36_3, ↓q_36_4, ↓a_37, ↓s_37, ↓a_38, ↓s_38, ↓o_39, ↓q_39_0, ↓q_39_1, ↓w_39_1, ↓q_39_2, ↓q_39_3, ↓w_39_3, ↓q_39_4, ↓q_39_5, ↓a_40, ↓s_40, ↓a_41, ↓s_41, ↓a_42, ↓s_42, ↓o_43, ↓q_43_0, ↓w_43_0, ↓q_43_1, ↓q_43_2, ↓q_43_3, ↓q_43_4, ↓q_43_5, ↓q_43_6, ↓q_43_7, ↓q_43_8, ↓q_43_9, ↓w_43_9, ↓q_43_10, ↓q_43_11, ↓q_43_12, ↓q_43_13, ↓q_43_14, ↓w_43_14, ↓q_43_15, ↓w_43_15, ↓q_43_16, ↓q_43_17, ↓w_43_17, ↓q_43_18, ↓w_43_18, ↓q_43_19, ↓q_43_20, ↓q_43_21, ↓q_43_22, ↓w_43_22, ↓q_43_23, ↓w_43_23, ↓q_43_24, ↓q_43_25, ↓q_43_26, ↓w_43_26, ↓q_43_27, ↓q_43_28, ↓q_43_29, ↓w_43_29, ↓q_43_30, ↓q_43_31, ↓q_43_32, ↓q_43_33, ↓w_43_33, ↓q_43_34, ↓q_43_35, ↓q_43_36, ↓a_44, ↓s_44, ↓a_45, ↓s_45, ↓a_46, ↓s_46, ↓a_47, ↓s_47, ↓a_48, ↓s_48, ↓a_49, ↓s_49, ↓a_50, ↓s_50, ↓a_51, ↓s_51, ↓a_52, ↓s_52, ↓a_53, ↓s_53, ↓a_54, ↓s_54, ↓a_55, ↓s_55, ↓a_56, ↓s_56, ↓a_57, ↓s_57, ↓a_58, ↓s_58, ↓a_59, ↓s_59, ↓a_60, ↓s_60, ↓a_61, ↓s_61, ↓a_62, ↓s_62, ↓a_63, ↓s_63, ↓a_64, ↓s_64, ↓a_65, ↓s_65, ↓a_66, ↓s_66, ↓a_67, ↓s_67, ↓a_68, ↓s_68, ↓a_69, ↓s_69, ↓a_1, le0_T, le0_F, addm1, sA_1, sA_22, sL_1, sL_21, sF_2, sA_eq, sA_ne, sA_nj, sL_eq, sL_ne, sL_nj, sF_eq, sF_ne, sF_nj, le_T, le_F, lt_T, lt_F, lt0_F, eq_T, eq_F, eq_N, m9_F, m1_F, z_F, z_N, l2, l3, l4, l5, l6, l8, l12, l24, l40, l70, l96, l255, l256, l280, l320, c_Is, c_Js, c_Vs, c_An, c_Ar, if_bI, rI0, rI1, rIb, if00, if10, lg0, nI_1, nI_add, sub_1, sub_N, if_true, if_false, ite_true, ite_false, ge0_T, ge0_F, in_d, in_e, bitz, bito, mul_n, a_47, s_47, a_48, s_48, a_49, s_49, a_42, s_42, a_69, s_69, a_59, a_63, a_28, a_50, s_50, a_51, s_51, ↓o_T (ha), ↓q_T_0 (ha), ↓w_T_0 (ha), ↓q_T_1 (ha), ↓w_T_1 (ha), ↓q_T_2 (ha), ↓w_T_2 (ha), ↓q_T_3 (ha), ↓w_T_3 (ha), ↓q_T_4 (ha), ↓q_T_5 (ha), ↓q_T_6 (ha), ↓a_T1 (ha), ↓s_T1 (ha), ↓a_T2 (ha), ↓s_T2 (ha), ↓a_T3 (ha), ↓s_T3 (ha), ↓o_T (hd), ↓q_T_0 (hd), ↓w_T_0 (hd), ↓q_T_1 (hd), ↓w_T_1 (hd), ↓q_T_2 (hd), ↓w_T_2 (hd), ↓q_T_3 (hd), ↓w_T_3 (hd), ↓q_T_4 (hd), ↓q_T_5 (hd), ↓q_T_6 (hd), ↓a_T1 (hd), ↓s_T1 (hd), ↓a_T2 (hd), ↓s_T2 (hd), ↓a_T3 (hd), ↓s_T3 (hd), ↓cI (hBx), ↓if_neg bx, ↓cI (hBy), ↓if_pos by', ↓cI (placeIn_s hy hc), el, ↓cI (ec)]
        exact hr
      · have bt : ¬ (x ||| y).testBit c = true := fun z => (or_bit.mp z).elim bx by'
        refine ⟨S1, BC_nocol hs8 hc bt q1 q2, fun r hr => B_X5_becomeJoin_11 _ _ _ _ _ _ _ ?_⟩
        simp (disch := first | omega | assumption | exact bI_01 | exact Or.inl rfl | exact Or.inr rfl) only [↓reduceIte, ↓if_bI, ↓if10, ↓if00, bI_eq0, not_false_eq_true, not_true_eq_false, and_true, true_and, and_false, false_and, or_true, true_or, or_false, false_or, ↓c_Is, ↓c_Js, ↓c_Vs, ↓c_An, ↓c_Ar, ↓o_0, ↓q_0_0, ↓q_0_1, ↓q_0_2, ↓q_0_3, ↓q_0_4, ↓q_0_5, ↓q_0_6, ↓q_0_7, ↓w_0_7, ↓o_18, ↓q_18_0, ↓w_18_0, ↓q_18_1, ↓q_18_2, ↓q_18_3, ↓q_18_4, ↓a_19, ↓s_19, ↓a_20, ↓s_20, ↓a_21, ↓s_21, ↓a_22, ↓s_22, ↓o_23, ↓q_23_0, ↓w_23_0, ↓q_23_1, ↓w_23_1, ↓o_24, ↓q_24_0, ↓w_24_0, ↓q_24_1, ↓q_24_2, ↓q_24_3, ↓w_24_3, ↓q_24_4, ↓q_24_5, ↓a_25, ↓s_25, ↓a_26, ↓s_26, ↓a_27, ↓s_27, ↓a_28, ↓s_28, ↓o_29, ↓q_29_0, ↓w_29_0, ↓q_29_1, ↓w_29_1, ↓q_29_2, ↓w_29_2, ↓q_29_3, ↓q_29_4, ↓q_29_5, ↓q_29_6, ↓q_29_7, ↓w_29_7, ↓q_29_8, ↓q_29_9, ↓w_29_9, ↓q_29_10, ↓w_29_10, ↓q_29_11, ↓a_30, ↓s_30, ↓a_31, ↓s_31, ↓a_32, ↓s_32, ↓a_33, ↓s_33, ↓a_34, ↓s_34, ↓a_35, ↓s_35, ↓o_36, ↓q_36_0, ↓q_36_1, ↓w_36_1, ↓q_36_2, ↓w_36_2, ↓q_36_3, ↓q_36_4, ↓a_37, ↓s_37, ↓a_38, ↓s_38, ↓o_39, ↓q_39_0, ↓q_39_1, ↓w_39_1, ↓q_39_2, ↓q_39_3, ↓w_39_3, ↓q_39_4, ↓q_39_5, ↓a_40, ↓s_40, ↓a_41, ↓s_41, ↓a_42, ↓s_42, ↓o_43, ↓q_43_0, ↓w_43_0, ↓q_43_1, ↓q_43_2, ↓q_43_3, ↓q_43_4, ↓q_43_5, ↓q_43_6, ↓q_43_7, ↓q_43_8, ↓q_43_9, ↓w_43_9, ↓q_43_10, ↓q_43_11, ↓q_43_12, ↓q_43_13, ↓q_43_14, ↓w_43_14, ↓q_43_15, ↓w_43_15, ↓q_43_16, ↓q_43_17, ↓w_43_17, ↓q_43_18, ↓w_43_18, ↓q_43_19, ↓q_43_20, ↓q_43_21, ↓q_43_22, ↓w_43_22, ↓q_43_23, ↓w_43_23, ↓q_43_24, ↓q_43_25, ↓q_43_26, ↓w_43_26, ↓q_43_27, ↓q_43_28, ↓q_43_29, ↓w_43_29, ↓q_43_30, ↓q_43_31, ↓q_43_32, ↓q_43_33, ↓w_43_33, ↓q_43_34, ↓q_43_35, ↓q_43_36, ↓a_44, ↓s_44, ↓a_45, ↓s_45, ↓a_46, ↓s_46, ↓a_47, ↓s_47, ↓a_48, ↓s_48, ↓a_49, ↓s_49, ↓a_50, ↓s_50, ↓a_51, ↓s_51, ↓a_52, ↓s_52, ↓a_53, ↓s_53, ↓a_54, ↓s_54, ↓a_55, ↓s_55, ↓a_56, ↓s_56, ↓a_57, ↓s_57, ↓a_58, ↓s_58, ↓a_59, ↓s_59, ↓a_60, ↓s_60, ↓a_61, ↓s_61, ↓a_62, ↓s_62, ↓a_63, ↓s_63, ↓a_64, ↓s_64, ↓a_65, ↓s_65, ↓a_66, ↓s_66, ↓a_67, ↓s_67, ↓a_68, ↓s_68, ↓a_69, ↓s_69, ↓a_1, le0_T, le0_F, addm1, sA_1, sA_22, sL_1, sL_21, sF_2, sA_eq, sA_ne, sA_nj, sL_eq, sL_ne, sL_nj, sF_eq, sF_ne, sF_nj, le_T, le_F, lt_T, lt_F, lt0_F, eq_T, eq_F, eq_N, m9_F, m1_F, z_F, z_N, l2, l3, l4, l5, l6, l8, l12, l24, l40, l70, l96, l255, l256, l280, l320, c_Is, c_Js, c_Vs, c_An, c_Ar, if_bI, rI0, rI1, rIb, if00, if10, lg0, nI_1, nI_add, sub_1, sub_N, if_true, if_false, ite_true, ite_false, ge0_T, ge0_F, in_d, in_e, bitz, bito, mul_n, a_47, s_47, a_48, s_48, a_49, s_49, a_42, s_42, a_69, s_69, a_59, a_63, a_28, a_50, s_50, a_51, s_51, ↓cI (hBx), ↓if_neg bx, ↓cI (hBy), ↓if_neg by']
        exact hr
  · intro S1 ⟨q1, q2⟩
    rw [pl_8 _ hs8] at q1
    refine ⟨S1, ⟨q1, q2⟩, fun r hr => B_X5_becomeJoin_11 _ _ _ _ _ _ _ ?_⟩
    simp (disch := first | omega | assumption | exact bI_01 | exact Or.inl rfl | exact Or.inr rfl) only [↓reduceIte, ↓if_bI, ↓if10, ↓if00, bI_eq0, not_false_eq_true, not_true_eq_false, and_true, true_and, and_false, false_and, or_true, true_or, or_false, false_or, ↓c_Is, ↓c_Js, ↓c_Vs, ↓c_An, ↓c_Ar, ↓o_0, ↓q_0_0, ↓q_0_1, ↓q_0_2, ↓q_0_3, ↓q_0_4, ↓q_0_5, ↓q_0_6, ↓q_0_7, ↓w_0_7, ↓o_18, ↓q_18_0, ↓w_18_0, ↓q_18_1, ↓q_18_2, ↓q_18_3, ↓q_18_4, ↓a_19, ↓s_19, ↓a_20, ↓s_20, ↓a_21, ↓s_21, ↓a_22, ↓s_22, ↓o_23, ↓q_23_0, ↓w_23_0, ↓q_23_1, ↓w_23_1, ↓o_24, ↓q_24_0, ↓w_24_0, ↓q_24_1, ↓q_24_2, ↓q_24_3, ↓w_24_3, ↓q_24_4, ↓q_24_5, ↓a_25, ↓s_25, ↓a_26, ↓s_26, ↓a_27, ↓s_27, ↓a_28, ↓s_28, ↓o_29, ↓q_29_0, ↓w_29_0, ↓q_29_1, ↓w_29_1, ↓q_29_2, ↓w_29_2, ↓q_29_3, ↓q_29_4, ↓q_29_5, ↓q_29_6, ↓q_29_7, ↓w_29_7, ↓q_29_8, ↓q_29_9, ↓w_29_9, ↓q_29_10, ↓w_29_10, ↓q_29_11, ↓a_30, ↓s_30, ↓a_31, ↓s_31, ↓a_32, ↓s_32, ↓a_33, ↓s_33, ↓a_34, ↓s_34, ↓a_35, ↓s_35, ↓o_36, ↓q_36_0, ↓q_36_1, ↓w_36_1, ↓q_36_2, ↓w_36_2, ↓q_36_3, ↓q_36_4, ↓a_37, ↓s_37, ↓a_38, ↓s_38, ↓o_39, ↓q_39_0, ↓q_39_1, ↓w_39_1, ↓q_39_2, ↓q_39_3, ↓w_39_3, ↓q_39_4, ↓q_39_5, ↓a_40, ↓s_40, ↓a_41, ↓s_41, ↓a_42, ↓s_42, ↓o_43, ↓q_43_0, ↓w_43_0, ↓q_43_1, ↓q_43_2, ↓q_43_3, ↓q_43_4, ↓q_43_5, ↓q_43_6, ↓q_43_7, ↓q_43_8, ↓q_43_9, ↓w_43_9, ↓q_43_10, ↓q_43_11, ↓q_43_12, ↓q_43_13, ↓q_43_14, ↓w_43_14, ↓q_43_15, ↓w_43_15, ↓q_43_16, ↓q_43_17, ↓w_43_17, ↓q_43_18, ↓w_43_18, ↓q_43_19, ↓q_43_20, ↓q_43_21, ↓q_43_22, ↓w_43_22, ↓q_43_23, ↓w_43_23, ↓q_43_24, ↓q_43_25, ↓q_43_26, ↓w_43_26, ↓q_43_27, ↓q_43_28, ↓q_43_29, ↓w_43_29, ↓q_43_30, ↓q_43_31, ↓q_43_32, ↓q_43_33, ↓w_43_33, ↓q_43_34, ↓q_43_35, ↓q_43_36, ↓a_44, ↓s_44, ↓a_45, ↓s_45, ↓a_46, ↓s_46, ↓a_47, ↓s_47, ↓a_48, ↓s_48, ↓a_49, ↓s_49, ↓a_50, ↓s_50, ↓a_51, ↓s_51, ↓a_52, ↓s_52, ↓a_53, ↓s_53, ↓a_54, ↓s_54, ↓a_55, ↓s_55, ↓a_56, ↓s_56, ↓a_57, ↓s_57, ↓a_58, ↓s_58, ↓a_59, ↓s_59, ↓a_60, ↓s_60, ↓a_61, ↓s_61, ↓a_62, ↓s_62, ↓a_63, ↓s_63, ↓a_64, ↓s_64, ↓a_65, ↓s_65, ↓a_66, ↓s_66, ↓a_67, ↓s_67, ↓a_68, ↓s_68, ↓a_69, ↓s_69, ↓a_1, le0_T, le0_F, addm1, sA_1, sA_22, sL_1, sL_21, sF_2, sA_eq, sA_ne, sA_nj, sL_eq, sL_ne, sL_nj, sF_eq, sF_ne, sF_nj, le_T, le_F, lt_T, lt_F, lt0_F, eq_T, eq_F, eq_N, m9_F, m1_F, z_F, z_N, l2, l3, l4, l5, l6, l8, l12, l24, l40, l70, l96, l255, l256, l280, l320, c_Is, c_Js, c_Vs, c_An, c_Ar, if_bI, rI0, rI1, rIb, if00, if10, lg0, nI_1, nI_add, sub_1, sub_N, if_true, if_false, ite_true, ite_false, ge0_T, ge0_F, in_d, in_e, bitz, bito, mul_n, a_47, s_47, a_48, s_48, a_49, s_49, a_42, s_42, a_69, s_69, a_59, a_63, a_28, a_50, s_50, a_51, s_51]
    exact hr
end JN
