/-! SPECS of Cover: build, groups -/
section CO5
variable (F : Nat) (fx fy : Nat → Nat)
def c0 (n : Nat) : List (Nat × Nat) := (List.range n).flatMap (fun j => ea (fx j) (fy j &&& (fx j ^^^ 2147483647)) 8)
def c1 : List (Nat × Nat) := (c0 fx fy F).map (fun e => (sh F fx fy e.2 e.1, e.2))
def cov : List (Nat × Nat) := lo [] (c1 F fx fy)
theorem c0_succ (n : Nat) : c0 fx fy (n + 1) = c0 fx fy n ++ ea (fx n) (fy n &&& (fx n ^^^ 2147483647)) 8 := by
  unfold c0
  rw [List.range_succ, List.flatMap_append]
  simp
theorem c0_len : ∀ n, (c0 fx fy n).length ≤ 8 * n
  | 0 => by simp [c0]
  | n + 1 => by
    rw [c0_succ, List.length_append]
    have h1 := c0_len n
    have h2 := ea_len (fx n) (fy n &&& (fx n ^^^ 2147483647)) 8
    omega
theorem ea_mem {x told n : Nat} {e : Nat × Nat} : e ∈ ea x told n ↔ e.1 = x ∧ e.2 < n ∧ told.testBit e.2 = true := by
  unfold ea
  rw [List.mem_map]
  constructor
  · intro ⟨c, h1, h2⟩
    rw [List.mem_filter, List.mem_range] at h1
    rw [← h2]
    exact ⟨rfl, h1.1, h1.2⟩
  · intro ⟨h1, h2, h3⟩
    refine ⟨e.2, ?_, ?_⟩
    · rw [List.mem_filter, List.mem_range]
      exact ⟨h2, h3⟩
    · rw [← h1]
theorem c0_mem {n : Nat} {e : Nat × Nat} : e ∈ c0 fx fy n ↔ ∃ j, j < n ∧ e.1 = fx j ∧ e.2 < 8 ∧ (fy j &&& (fx j ^^^ 2147483647)).testBit e.2 = true := by
  unfold c0
  rw [List.mem_flatMap]
  constructor
  · intro ⟨j, h1, h2⟩
    exact ⟨j, List.mem_range.mp h1, ea_mem.mp h2⟩
  · intro ⟨j, h1, h2⟩
    exact ⟨j, List.mem_range.mpr h1, ea_mem.mpr h2⟩
end CO5
theorem sh_lt {F : Nat} {fx fy : Nat → Nat} {c x : Nat} (h : x < 256) : sh F fx fy c x < 256 := shn_lt h 8
theorem cv_map {P : List (Nat × Nat)} {f : Nat × Nat → Nat × Nat} {k : Nat} (h : k < P.length) : cvx (P.map f) k = (f (cvx P k, cvc P k)).1 ∧ cvc (P.map f) k = (f (cvx P k, cvc P k)).2 := by
  unfold cvx cvc
  rw [getD_lt h, getD_lt (by rw [List.length_map]; exact h), List.getElem_map]
  exact ⟨rfl, rfl⟩
theorem lo_mem : ∀ (R K : List (Nat × Nat)) (e : Nat × Nat), e ∈ lo K R → e ∈ K ++ R
  | [], K, e, h => by rw [List.append_nil]; exact h
  | d :: R, K, e, h => by
    rw [lo] at h
    split at h
    · have := lo_mem R K e h
      rw [List.mem_append] at this ⊢
      rcases this with q | q
      · exact Or.inl q
      · exact Or.inr (List.mem_cons_of_mem _ q)
    · have := lo_mem R (K ++ [d]) e h
      rw [List.append_assoc] at this
      exact this
theorem lo_len : ∀ (R K : List (Nat × Nat)), (lo K R).length ≤ K.length + R.length
  | [], K => by rw [lo]; simp
  | d :: R, K => by
    rw [lo, List.length_cons]
    split
    · have := lo_len R K
      omega
    · have := lo_len R (K ++ [d])
      rw [List.length_append, List.length_singleton] at this
      omega
section CO6
variable {sc : RE} {S : SS} {F : Nat} {fx fy : Nat → Nat}
theorem PG_c0 (h : FD S F fx fy) : PG (c0 fx fy F) := by
  intro e he
  obtain ⟨j, h1, h2, h3, _⟩ := (c0_mem fx fy).mp he
  rw [h2]
  exact ⟨(h.2.2 j h1).2.1, h3⟩
theorem PG_c1 (h : FD S F fx fy) : PG (c1 F fx fy) := by
  intro e he
  obtain ⟨d, h1, h2⟩ := List.mem_map.mp he
  have := PG_c0 h d h1
  rw [← h2]
  exact ⟨sh_lt this.1, this.2⟩
theorem PG_cov (h : FD S F fx fy) : PG (cov F fx fy) := fun e he => PG_c1 h e (by
  have := lo_mem _ _ e he
  rwa [List.nil_append] at this)
theorem build_s (h : FD S F fx fy) (hm : MO F fx fy (S.2.1 33)) (hk : S.1 36 1 = 0 ∨ (S.1 36 1 = 1 ∧ CvC S (cov F fx fy))) : ∃ S', (Fr [(36, 1), (36, 2)] [33, 37, 38] S S' ∧ MO F fx fy (S'.2.1 33) ∧ S'.1 36 1 = 1 ∧ CvC S' (cov F fx fy)) ∧ Rc 1 [.ref 36] (enc sc S) = some (none, enc sc S') := by
  rcases hk with hk | hk
  · have h40 := h.2.1
    have hF := h.1
    have hl0 := c0_len fx fy F
    have key := loop_to (F := F) (G := fun k S1 => Rs 1 15 [.ref 36, .int (nI k)] [] (enc sc S1)) (O := fun S1 => Rs 1 68 [.ref 36, .int 0] [] (enc sc S1)) (J := fun S1 => Fr [(36, 1), (36, 2)] [33, 37, 38] S S1 ∧ MO F fx fy (S1.2.1 33) ∧ CvC S1 (c0 fx fy F)) (I := fun k S1 => Fr [(36, 1), (36, 2)] [33, 37, 38] S S1 ∧ MO F fx fy (S1.2.1 33) ∧ CvC S1 (c0 fx fy k)) ?_ ?_ (sF S 36 2 0) ⟨Fr_sF (by decide), hm, rfl, by simp [c0], fun k hk => absurd hk (Nat.not_lt_zero k)⟩
    · obtain ⟨S1, ⟨hf1, hm1, hc1⟩, e1⟩ := key
      have hPG := PG_c0 h
      have key2 := loop_to (F := (c0 fx fy F).length) (G := fun i S1 => Rs 1 68 [.ref 36, .int (nI i)] [] (enc sc S1)) (O := fun S' => some (none, enc sc S')) (J := fun S' => Fr [(36, 1), (36, 2)] [33, 37, 38] S S' ∧ MO F fx fy (S'.2.1 33) ∧ S'.1 36 1 = 1 ∧ CvC S' (cov F fx fy)) (I := fun i S1 => Fr [(36, 1), (36, 2)] [33, 37, 38] S S1 ∧ MO F fx fy (S1.2.1 33) ∧ CvF S1 (c0 fx fy F).length (fun k => if k < i then cvx (c1 F fx fy) k else cvx (c0 fx fy F) k) (cvc (c0 fx fy F))) ?_ ?_ S1 ⟨hf1, hm1, hc1⟩
      · obtain ⟨S', g1, g2⟩ := key2
        refine ⟨S', g1, Rc_of rfl rfl (B_X0_build_0 _ _ ?_)⟩
        simp (disch := first | omega | assumption | exact bI_01 | exact Or.inl rfl | exact Or.inr rfl) only [↓o_0, ↓q_0_0, ↓q_0_1, ↓q_0_2, ↓q_0_3, ↓q_0_4, ↓q_0_5, ↓q_0_6, ↓q_0_7, ↓w_0_7, ↓o_18, ↓q_18_0, ↓w_18_0, ↓q_18_1, ↓q_18_2, ↓q_18_3, ↓q_18_4, ↓a_19, ↓s_19, ↓a_20, ↓s_20, ↓a_21, ↓s_21, ↓a_22, ↓s_22, ↓o_23, ↓q_23_0, ↓w_23_0, ↓q_23_1, ↓w_23_1, ↓o_24, ↓q_24_0, ↓w_24_0, ↓q_24_1, ↓q_24_2, ↓q_24_3, ↓w_24_3, ↓q_24_4, ↓q_24_5, ↓a_25, ↓s_25, ↓a_26, ↓s_26, ↓a_27, ↓s_27, ↓a_28, ↓s_28, ↓o_29, ↓q_29_0, ↓w_29_0, ↓q_29_1, ↓w_29_1, ↓q_29_2, ↓w_29_2, ↓q_29_3, ↓q_29_4, ↓q_29_5, ↓q_29_6, ↓q_29_7, ↓w_29_7, ↓q_29_8, ↓q_29_9, ↓w_29_9, ↓q_29_10, ↓w_29_10, ↓q_29_11, ↓a_30, ↓s_30, ↓a_31, ↓s_31, ↓a_32, ↓s_32, ↓a_33, ↓s_33, ↓a_34, ↓s_34, ↓a_35, ↓s_35, ↓o_36, ↓q_36_0, ↓q_36_1, ↓w_36_1, ↓q_36_2, ↓w_36_2, ↓q_36_3, ↓q_36_4, ↓a_37, ↓s_37, ↓a_38, ↓s_38, ↓o_39, ↓q_39_0, ↓q_39_1, ↓w_39_1, ↓q_39_2, ↓q_39_3, ↓w_39_3, ↓q_39_4, ↓q_39_5, ↓a_40, ↓s_40, ↓a_41, ↓s_41, ↓a_42, ↓s_42, ↓o_43, ↓q_43_0, ↓w_43_0, ↓q_43_1, ↓q_43_2, ↓q_43_3, ↓q_43_4, ↓q_43_5, ↓q_43_6, ↓q_43_7, ↓q_43_8, ↓q_43_9, ↓w_43_9, ↓q_43_10, ↓q_43_11, ↓q_43_12, ↓q_43_13, ↓q_43_14, ↓w_43_14, ↓q_43_15, ↓w_43_15, ↓q_43_16, ↓q_43_17, ↓w_43_17, ↓q_43_18, ↓w_43_18, ↓q_43_19, ↓q_43_20, ↓q_43_21, ↓q_43_22, ↓w_43_22, ↓q_43_23, ↓w_43_23, ↓q_43_24, ↓q_43_25, ↓q_43_26, ↓w_43_26, ↓q_43_27, ↓q_43_28, ↓q_43_29, ↓w_43_29, ↓q_43_30, ↓q_43_31, ↓q_43_32, ↓q_43_33, ↓w_43_33, ↓q_43_34, ↓q_43_35, ↓q_43_36, ↓a_44, ↓s_44, ↓a_45, ↓s_45, ↓a_46, ↓s_46, ↓a_47, ↓s_47, ↓a_48, ↓s_48, ↓a_49, ↓s_49, ↓a_50, ↓s_50, ↓a_51, ↓s_51, ↓a_52, ↓s_52, ↓a_53, ↓s_53, ↓a_54, ↓s_54, ↓a_55, ↓s_55, ↓a_56, ↓s_56, ↓a_57, ↓s_57, ↓a_58, ↓s_58, ↓a_59, ↓s_59, ↓a_60, ↓s_60, ↓a_61, ↓s_61, ↓a_62, ↓s_62, ↓a_63, ↓s_63, ↓a_64, ↓s_64, ↓a_65, ↓s_65, ↓a_66, ↓s_66, ↓a_67, ↓s_67, ↓a_68, ↓s_68, ↓a_69, ↓s_69, ↓a_1, le0_T, le0_F, addm1, sA_1, sA_22, sL_1, sL_21, sF_2, sA_eq, sA_ne, sA_nj, sL_eq, sL_ne, sL_nj, sF_eq, sF_ne, sF_nj, le_T, le_F, lt_T, lt_F, lt0_F, eq_T, eq_F, eq_N, m9_F, m1_F, z_F, z_N, l2, l3, l4, l5, l6, l8, l12, l24, l40, l70, l96, l255, l256, l280, l320, c_Is, c_Js, c_Vs, c_An, c_Ar, if_bI, rI0, rI1, rIb, if00, if10, lg0, nI_1, nI_add, sub_1, sub_N, if_true, if_false, ite_true, ite_false, hk]
        exact e1 _ (g2 _ rfl)
      · intro i S2 hi ⟨hf2, hm2, hc2⟩
        have hd := FD_fr hf2 (by decide) (by decide) h
        have hgi := hPG _ (cv_mem hi)
        have e0 := hc2.1
        obtain ⟨S3, ⟨f3, m3, c3⟩, e3⟩ := shorten_s (sc := sc) hd hm2 hc2 hi (by
          simp only [Nat.lt_irrefl, if_false]
          exact hgi.1) hgi.2
        left
        refine ⟨S3, ⟨Fr_tr hf2 (Fr_w f3 (by decide) (by decide)), m3, ?_⟩, fun r hr => B_X0_build_68 _ _ _ ?_⟩
        · refine ⟨c3.1, c3.2.1, fun k hk => ?_⟩
          obtain ⟨z1, z2⟩ := c3.2.2 k hk
          refine ⟨z1.trans ?_, z2⟩
          congr 1
          by_cases z : k = i
          · rw [z, upN_eq]
            simp only [Nat.lt_irrefl, if_false, if_pos (Nat.lt_succ_self i)]
            exact (cv_map (f := fun e => (sh F fx fy e.2 e.1, e.2)) hi).1.symm
          · rw [upN_ne z]
            by_cases z2 : k < i
            · simp only [if_pos z2, if_pos (show k < i + 1 by omega)]
            · simp only [if_neg z2, if_neg (show ¬ k < i + 1 by omega)]
        · simp (disch := first | omega | assumption | exact bI_01 | exact Or.inl rfl | exact Or.inr rfl) only [↓o_0, ↓q_0_0, ↓q_0_1, ↓q_0_2, ↓q_0_3, ↓q_0_4, ↓q_0_5, ↓q_0_6, ↓q_0_7, ↓w_0_7, ↓o_18, ↓q_18_0, ↓w_18_0, ↓q_18_1, ↓q_18_2, ↓q_18_3, ↓q_18_4, ↓a_19, ↓s_19, ↓a_20, ↓s_20, ↓a_21, ↓s_21, ↓a_22, ↓s_22, ↓o_23, ↓q_23_0, ↓w_23_0, ↓q_23_1, ↓w_23_1, ↓o_24, ↓q_24_0, ↓w_24_0, ↓q_24_1, ↓q_24_2, ↓q_24_3, ↓w_24_3, ↓q_24_4, ↓q_24_5, ↓a_25, ↓s_25, ↓a_26, ↓s_26, ↓a_27, ↓s_27, ↓a_28, ↓s_28, ↓o_29, ↓q_29_0, ↓w_29_0, ↓q_29_1, ↓w_29_1, ↓q_29_2, ↓w_29_2, ↓q_29_3, ↓q_29_4, ↓q_29_5, ↓q_29_6, ↓q_29_7, ↓w_29_7, ↓q_29_8, ↓q_29_9, ↓w_29_9, ↓q_29_10, ↓w_29_10, ↓q_29_11, ↓a_30, ↓s_30, ↓a_31, ↓s_31, ↓a_32, ↓s_32, ↓a_33, ↓s_33, ↓a_34, ↓s_34, ↓a_35, ↓s_35, ↓o_36, ↓q_36_0, ↓q_36_1, ↓w_36_1, ↓q_36_2, ↓w_36_2, ↓q_36_3, ↓q_36_4, ↓a_37, ↓s_37, ↓a_38, ↓s_38, ↓o_39, ↓q_39_0, ↓q_39_1, ↓w_39_1, ↓q_39_2, ↓q_39_3, ↓w_39_3, ↓q_39_4, ↓q_39_5, ↓a_40, ↓s_40, ↓a_41, ↓s_41, ↓a_42, ↓s_42, ↓o_43, ↓q_43_0, ↓w_43_0, ↓q_43_1, ↓q_43_2, ↓q_43_3, ↓q_43_4, ↓q_43_5, ↓q_43_6, ↓q_43_7, ↓q_43_8, ↓q_43_9, ↓w_43_9, ↓q_43_10, ↓q_43_11, ↓q_43_12, ↓q_43_13, ↓q_43_14, ↓w_43_14, ↓q_43_15, ↓w_43_15, ↓q_43_16, ↓q_43_17, ↓w_43_17, ↓q_43_18, ↓w_43_18, ↓q_43_19, ↓q_43_20, ↓q_43_21, ↓q_43_22, ↓w_43_22, ↓q_43_23, ↓w_43_23, ↓q_43_24, ↓q_43_25, ↓q_43_26, ↓w_43_26, ↓q_43_27, ↓q_43_28, ↓q_43_29, ↓w_43_29, ↓q_43_30, ↓q_43_31, ↓q_43_32, ↓q_43_33, ↓w_43_33, ↓q_43_34, ↓q_43_35, ↓q_43_36, ↓a_44, ↓s_44, ↓a_45, ↓s_45, ↓a_46, ↓s_46, ↓a_47, ↓s_47, ↓a_48, ↓s_48, ↓a_49, ↓s_49, ↓a_50, ↓s_50, ↓a_51, ↓s_51, ↓a_52, ↓s_52, ↓a_53, ↓s_53, ↓a_54, ↓s_54, ↓a_55, ↓s_55, ↓a_56, ↓s_56, ↓a_57, ↓s_57, ↓a_58, ↓s_58, ↓a_59, ↓s_59, ↓a_60, ↓s_60, ↓a_61, ↓s_61, ↓a_62, ↓s_62, ↓a_63, ↓s_63, ↓a_64, ↓s_64, ↓a_65, ↓s_65, ↓a_66, ↓s_66, ↓a_67, ↓s_67, ↓a_68, ↓s_68, ↓a_69, ↓s_69, ↓a_1, le0_T, le0_F, addm1, sA_1, sA_22, sL_1, sL_21, sF_2, sA_eq, sA_ne, sA_nj, sL_eq, sL_ne, sL_nj, sF_eq, sF_ne, sF_nj, le_T, le_F, lt_T, lt_F, lt0_F, eq_T, eq_F, eq_N, m9_F, m1_F, z_F, z_N, l2, l3, l4, l5, l6, l8, l12, l24, l40, l70, l96, l255, l256, l280, l320, c_Is, c_Js, c_Vs, c_An, c_Ar, if_bI, rI0, rI1, rIb, if00, if10, lg0, nI_1, nI_add, sub_1, sub_N, if_true, if_false, ite_true, ite_false, e0, e3]
          exact hr
      · intro S2 ⟨hf2, hm2, hc2⟩
        have e0 := hc2.1
        have hc3 : CvC S2 (c1 F fx fy) := by
          have hl1 : (c1 F fx fy).length = (c0 fx fy F).length := List.length_map _
          unfold CvC
          rw [hl1]
          refine ⟨hc2.1, hc2.2.1, fun k hk => ?_⟩
          obtain ⟨z1, z2⟩ := hc2.2.2 k hk
          simp only [if_pos hk] at z1
          refine ⟨z1, z2.trans ?_⟩
          congr 1
          exact (cv_map (f := fun e => (sh F fx fy e.2 e.1, e.2)) hk).2.symm
        obtain ⟨S3, ⟨f3, c3⟩, e3⟩ := leaveOutWhatFollows_s (sc := sc) hc3 (PG_c1 h)
        refine ⟨sF S3 36 1 1, ⟨Fr_tr hf2 (Fr_tr (Fr_w f3 (by decide) (by decide)) (Fr_sF (by decide))), ?_, sF_eq, ?_⟩, fun r hr => B_X0_build_68 _ _ _ ?_⟩
        · rw [sF_2, (f3.2 33 (by decide)).1]
          exact hm2
        · refine ⟨?_, c3.2⟩
          rw [sF_nj (by decide)]
          exact c3.1
        · simp (disch := first | omega | assumption | exact bI_01 | exact Or.inl rfl | exact Or.inr rfl) only [↓o_0, ↓q_0_0, ↓q_0_1, ↓q_0_2, ↓q_0_3, ↓q_0_4, ↓q_0_5, ↓q_0_6, ↓q_0_7, ↓w_0_7, ↓o_18, ↓q_18_0, ↓w_18_0, ↓q_18_1, ↓q_18_2, ↓q_18_3, ↓q_18_4, ↓a_19, ↓s_19, ↓a_20, ↓s_20, ↓a_21, ↓s_21, ↓a_22, ↓s_22, ↓o_23, ↓q_23_0, ↓w_23_0, ↓q_23_1, ↓w_23_1, ↓o_24, ↓q_24_0, ↓w_24_0, ↓q_24_1, ↓q_24_2, ↓q_24_3, ↓w_24_3, ↓q_24_4, ↓q_24_5, ↓a_25, ↓s_25, ↓a_26, ↓s_26, ↓a_27, ↓s_27, ↓a_28, ↓s_28, ↓o_29, ↓q_29_0, ↓w_29_0, ↓q_29_1, ↓w_29_1, ↓q_29_2, ↓w_29_2, ↓q_29_3, ↓q_29_4, ↓q_29_5, ↓q_29_6, ↓q_29_7, ↓w_29_7, ↓q_29_8, ↓q_29_9, ↓w_29_9, ↓q_29_10, ↓w_29_10, ↓q_29_11, ↓a_30, ↓s_30, ↓a_31, ↓s_31, ↓a_32, ↓s_32, ↓a_33, ↓s_33, ↓a_34, ↓s_34, ↓a_35, ↓s_35, ↓o_36, ↓q_36_0, ↓q_36_1, ↓w_36_1, ↓q_36_2, ↓w_36_2, ↓q_36_3, ↓q_36_4, ↓a_37, ↓s_37, ↓a_38, ↓s_38, ↓o_39, ↓q_39_0, ↓q_39_1, ↓w_39_1, ↓q_39_2, ↓q_39_3, ↓w_39_3, ↓q_39_4, ↓q_39_5, ↓a_40, ↓s_40, ↓a_41, ↓s_41, ↓a_42, ↓s_42, ↓o_43, ↓q_43_0, ↓w_43_0, ↓q_43_1, ↓q_43_2, ↓q_43_3, ↓q_43_4, ↓q_43_5, ↓q_43_6, ↓q_43_7, ↓q_43_8, ↓q_43_9, ↓w_43_9, ↓q_43_10, ↓q_43_11, ↓q_43_12, ↓q_43_13, ↓q_43_14, ↓w_43_14, ↓q_43_15, ↓w_43_15, ↓q_43_16, ↓q_43_17, ↓w_43_17, ↓q_43_18, ↓w_43_18, ↓q_43_19, ↓q_43_20, ↓q_43_21, ↓q_43_22, ↓w_43_22, ↓q_43_23, ↓w_43_23, ↓q_43_24, ↓q_43_25, ↓q_43_26, ↓w_43_26, ↓q_43_27, ↓q_43_28, ↓q_43_29, ↓w_43_29, ↓q_43_30, ↓q_43_31, ↓q_43_32, ↓q_43_33, ↓w_43_33, ↓q_43_34, ↓q_43_35, ↓q_43_36, ↓a_44, ↓s_44, ↓a_45, ↓s_45, ↓a_46, ↓s_46, ↓a_47, ↓s_47, ↓a_48, ↓s_48, ↓a_49, ↓s_49, ↓a_50, ↓s_50, ↓a_51, ↓s_51, ↓a_52, ↓s_52, ↓a_53, ↓s_53, ↓a_54, ↓s_54, ↓a_55, ↓s_55, ↓a_56, ↓s_56, ↓a_57, ↓s_57, ↓a_58, ↓s_58, ↓a_59, ↓s_59, ↓a_60, ↓s_60, ↓a_61, ↓s_61, ↓a_62, ↓s_62, ↓a_63, ↓s_63, ↓a_64, ↓s_64, ↓a_65, ↓s_65, ↓a_66, ↓s_66, ↓a_67, ↓s_67, ↓a_68, ↓s_68, ↓a_69, ↓s_69, ↓a_1, le0_T, le0_F, addm1, sA_1, sA_22, sL_1, sL_21, sF_2, sA_eq, sA_ne, sA_nj, sL_eq, sL_ne, sL_nj, sF_eq, sF_ne, sF_nj, le_T, le_F, lt_T, lt_F, lt0_F, eq_T, eq_F, eq_N, m9_F, m1_F, z_F, z_N, l2, l3, l4, l5, l6, l8, l12, l24, l40, l70, l96, l255, l256, l280, l320, c_Is, c_Js, c_Vs, c_An, c_Ar, if_bI, rI0, rI1, rIb, if00, if10, lg0, nI_1, nI_add, sub_1, sub_N, if_true, if_false, ite_true, ite_false, e0, e3]
          exact hr
    · intro k S1 hk1 ⟨hf1, hm1, hc1⟩
      have hd := FD_fr hf1 (by decide) (by decide) h
      obtain ⟨g1, g2, g3, g4⟩ := hd.2.2 k hk1
      have g0 := hd.1
      have hl := c0_len fx fy k
      obtain ⟨S2, ⟨f2, c2⟩, e2⟩ := addEach_s (sc := sc) hc1 (by omega) g2 (told := fy k &&& (fx k ^^^ 2147483647)) (Nat.lt_of_le_of_lt Nat.and_le_left g4)
      left
      refine ⟨S2, ⟨Fr_tr hf1 (Fr_w f2 (by decide) (by decide)), ?_, ?_⟩, fun r hr => B_X0_build_15 _ _ _ ?_⟩
      · rw [(f2.2 33 (by decide)).1]
        exact hm1
      · rw [c0_succ]
        exact c2
      · simp (disch := first | omega | assumption | exact bI_01 | exact Or.inl rfl | exact Or.inr rfl) only [↓o_0, ↓q_0_0, ↓q_0_1, ↓q_0_2, ↓q_0_3, ↓q_0_4, ↓q_0_5, ↓q_0_6, ↓q_0_7, ↓w_0_7, ↓o_18, ↓q_18_0, ↓w_18_0, ↓q_18_1, ↓q_18_2, ↓q_18_3, ↓q_18_4, ↓a_19, ↓s_19, ↓a_20, ↓s_20, ↓a_21, ↓s_21, ↓a_22, ↓s_22, ↓o_23, ↓q_23_0, ↓w_23_0, ↓q_23_1, ↓w_23_1, ↓o_24, ↓q_24_0, ↓w_24_0, ↓q_24_1, ↓q_24_2, ↓q_24_3, ↓w_24_3, ↓q_24_4, ↓q_24_5, ↓a_25, ↓s_25, ↓a_26, ↓s_26, ↓a_27, ↓s_27, ↓a_28, ↓s_28, ↓o_29, ↓q_29_0, ↓w_29_0, ↓q_29_1, ↓w_29_1, ↓q_29_2, ↓w_29_2, ↓q_29_3, ↓q_29_4, ↓q_29_5, ↓q_29_6, ↓q_29_7, ↓w_29_7, ↓q_29_8, ↓q_29_9, ↓w_29_9, ↓q_29_10, ↓w_29_10, ↓q_29_11, ↓a_30, ↓s_30, ↓a_31, ↓s_31, ↓a_32, ↓s_32, ↓a_33, ↓s_33, ↓a_34, ↓s_34, ↓a_35, ↓s_35, ↓o_36, ↓q_36_0, ↓q_36_1, ↓w_36_1, ↓q_36_2, ↓w_36_2, ↓q_36_3, ↓q_36_4, ↓a_37, ↓s_37, ↓a_38, ↓s_38, ↓o_39, ↓q_39_0, ↓q_39_1, ↓w_39_1, ↓q_39_2, ↓q_39_3, ↓w_39_3, ↓q_39_4, ↓q_39_5, ↓a_40, ↓s_40, ↓a_41, ↓s_41, ↓a_42, ↓s_42, ↓o_43, ↓q_43_0, ↓w_43_0, ↓q_43_1, ↓q_43_2, ↓q_43_3, ↓q_43_4, ↓q_43_5, ↓q_43_6, ↓q_43_7, ↓q_43_8, ↓q_43_9, ↓w_43_9, ↓q_43_10, ↓q_43_11, ↓q_43_12, ↓q_43_13, ↓q_43_14, ↓w_43_14, ↓q_43_15, ↓w_43_15, ↓q_43_16, ↓q_43_17, ↓w_43_17, ↓q_43_18, ↓w_43_18, ↓q_43_19, ↓q_43_20, ↓q_43_21, ↓q_43_22, ↓w_43_22, ↓q_43_23, ↓w_43_23, ↓q_43_24, ↓q_43_25, ↓q_43_26, ↓w_43_26, ↓q_43_27, ↓q_43_28, ↓q_43_29, ↓w_43_29, ↓q_43_30, ↓q_43_31, ↓q_43_32, ↓q_43_33, ↓w_43_33, ↓q_43_34, ↓q_43_35, ↓q_43_36, ↓a_44, ↓s_44, ↓a_45, ↓s_45, ↓a_46, ↓s_46, ↓a_47, ↓s_47, ↓a_48, ↓s_48, ↓a_49, ↓s_49, ↓a_50, ↓s_50, ↓a_51, ↓s_51, ↓a_52, ↓s_52, ↓a_53, ↓s_53, ↓a_54, ↓s_54, ↓a_55, ↓s_55, ↓a_56, ↓s_56, ↓a_57, ↓s_57, ↓a_58, ↓s_58, ↓a_59, ↓s_59, ↓a_60, ↓s_60, ↓a_61, ↓s_61, ↓a_62, ↓s_62, ↓a_63, ↓s_63, ↓a_64, ↓s_64, ↓a_65, ↓s_65, ↓a_66, ↓s_66, ↓a_67, ↓s_67, ↓a_68, ↓s_68, ↓a_69, ↓s_69, ↓a_1, le0_T, le0_F, addm1, sA_1, sA_22, sL_1, sL_21, sF_2, sA_eq, sA_ne, sA_nj, sL_eq, sL_ne, sL_nj, sF_eq, sF_ne, sF_nj, le_T, le_F, lt_T, lt_F, lt0_F, eq_T, eq_F, eq_N, m9_F, m1_F, z_F, z_N, l2, l3, l4, l5, l6, l8, l12, l24, l40, l70, l96, l255, l256, l280, l320, c_Is, c_Js, c_Vs, c_An, c_Ar, if_bI, rI0, rI1, rIb, if00, if10, lg0, nI_1, nI_add, sub_1, sub_N, if_true, if_false, ite_true, ite_false, g0, g1, g3, andn_n, e2]
        exact hr
    · intro S1 hI
      have g0 : S1.1 29 2 = nI F := (hI.1.1 29 2 (by decide)).trans hF
      refine ⟨S1, hI, fun r hr => B_X0_build_15 _ _ _ ?_⟩
      simp (disch := first | omega | assumption | exact bI_01 | exact Or.inl rfl | exact Or.inr rfl) only [↓o_0, ↓q_0_0, ↓q_0_1, ↓q_0_2, ↓q_0_3, ↓q_0_4, ↓q_0_5, ↓q_0_6, ↓q_0_7, ↓w_0_7, ↓o_18, ↓q_18_0, ↓w_18_0, ↓q_18_1, ↓q_18_2, ↓q_18_3, ↓q_18_4, ↓a_19, ↓s_19, ↓a_20, ↓s_20, ↓a_21, ↓s_21, ↓a_22, ↓s_22, ↓o_23, ↓q_23_0, ↓w_23_0, ↓q_23_1, ↓w_23_1, ↓o_24, ↓q_24_0, ↓w_24_0, ↓q_24_1, ↓q_24_2, ↓q_24_3, ↓w_24_3, ↓q_24_4, ↓q_24_5, ↓a_25, ↓s_25, ↓a_26, ↓s_26, ↓a_27, ↓s_27, ↓a_28, ↓s_28, ↓o_29, ↓q_29_0, ↓w_29_0, ↓q_29_1, ↓w_29_1, ↓q_29_2, ↓w_29_2, ↓q_29_3, ↓q_29_4, ↓q_29_5, ↓q_29_6, ↓q_29_7, ↓w_29_7, ↓q_29_8, ↓q_29_9, ↓w_29_9, ↓q_29_10, ↓w_29_10, ↓q_29_11, ↓a_30, ↓s_30, ↓a_31, ↓s_31, ↓a_32, ↓s_32, ↓a_33, ↓s_33, ↓a_34, ↓s_34, ↓a_35, ↓s_35, ↓o_36, ↓q_36_0, ↓q_36_1, ↓w_36_1, ↓q_36_2, ↓w_36_2, ↓q_36_3, ↓q_36_4, ↓a_37, ↓s_37, ↓a_38, ↓s_38, ↓o_39, ↓q_39_0, ↓q_39_1, ↓w_39_1, ↓q_39_2, ↓q_39_3, ↓w_39_3, ↓q_39_4, ↓q_39_5, ↓a_40, ↓s_40, ↓a_41, ↓s_41, ↓a_42, ↓s_42, ↓o_43, ↓q_43_0, ↓w_43_0, ↓q_43_1, ↓q_43_2, ↓q_43_3, ↓q_43_4, ↓q_43_5, ↓q_43_6, ↓q_43_7, ↓q_43_8, ↓q_43_9, ↓w_43_9, ↓q_43_10, ↓q_43_11, ↓q_43_12, ↓q_43_13, ↓q_43_14, ↓w_43_14, ↓q_43_15, ↓w_43_15, ↓q_43_16, ↓q_43_17, ↓w_43_17, ↓q_43_18, ↓w_43_18, ↓q_43_19, ↓q_43_20, ↓q_43_21, ↓q_43_22, ↓w_43_22, ↓q_43_23, ↓w_43_23, ↓q_43_24, ↓q_43_25, ↓q_43_26, ↓w_43_26, ↓q_43_27, ↓q_43_28, ↓q_43_29, ↓w_43_29, ↓q_43_30, ↓q_43_31, ↓q_43_32, ↓q_43_33, ↓w_43_33, ↓q_43_34, ↓q_43_35, ↓q_43_36, ↓a_44, ↓s_44, ↓a_45, ↓s_45, ↓a_46, ↓s_46, ↓a_47, ↓s_47, ↓a_48, ↓s_48, ↓a_49, ↓s_49, ↓a_50, ↓s_50, ↓a_51, ↓s_51, ↓a_52, ↓s_52, ↓a_53, ↓s_53, ↓a_54, ↓s_54, ↓a_55, ↓s_55, ↓a_56, ↓s_56, ↓a_57, ↓s_57, ↓a_58, ↓s_58, ↓a_59, ↓s_59, ↓a_60, ↓s_60, ↓a_61, ↓s_61, ↓a_62, ↓s_62, ↓a_63, ↓s_63, ↓a_64, ↓s_64, ↓a_65, ↓s_65, ↓a_66, ↓s_66, ↓a_67, ↓s_67, ↓a_68, ↓s_68, ↓a_69, ↓s_69, ↓a_1, le0_T, le0_F, addm1, sA_1, sA_22, sL_1, sL_21, sF_2, sA_eq, sA_ne, sA_nj, sL_eq, sL_ne, sL_nj, sF_eq, sF_ne, sF_nj, le_T, le_F, lt_T, lt_F, lt0_F, eq_T, eq_F, eq_N, m9_F, m1_F, z_F, z_N, l2, l3, l4, l5, l6, l8, l12, l24, l40, l70, l96, l255, l256, l280, l320, c_Is, c_Js, c_Vs, c_An, c_Ar, if_bI, rI0, rI1, rIb, if00, if10, lg0, nI_1, nI_add, sub_1, sub_N, if_true, if_false, ite_true, ite_false, g0]
      exact hr
  · refine ⟨S, ⟨Fr_refl _ _ _, hm, hk.1, hk.2⟩, Rc_of rfl rfl (B_X0_build_0 _ _ ?_)⟩
    rw [q_36_1, hk.1, if_neg (by decide)]
/-- X of a law seen before -/
def fxP (P : List (Nat × Nat)) (i k : Nat) : Bool := decide (cvx P k = cvx P i)
theorem isFirstOfItsX_s {P : List (Nat × Nat)} (hP : CvC S P) (hg : PG P) {i : Nat} (hi : i < P.length) : Rc 7 [.ref 36, .int (nI i)] (enc sc S) = some (some (.int (bI (¬ fa_first (fxP P i) i < i))), enc sc S) := by
  obtain ⟨h1, h2, h3⟩ := hP
  have hxi : cvx P i < 256 := (hg _ (cv_mem hi)).1
  have ei := (h3 i hi).1
  refine Rc_of rfl rfl (B_X0_isFirstOfItsX_0 _ _ _ ?_)
  have h := loop_first (F := i) (p := fxP P i) (G := fun k => Rs 7 2 [.ref 36, .int (nI i), .int (nI k)] [] (enc sc S)) (yes := fun _ => (some (.int 0), enc sc S)) (no := (some (.int 1), enc sc S)) ?_ ?_ ?_
  · refine h.trans ?_
    by_cases q : fa_first (fxP P i) i < i
    · rw [if_pos q, bI_f (fun z => z q)]
    · rw [if_neg q, bI_t q]
  · refine B_X0_isFirstOfItsX_2 _ _ _ _ ?_
    simp (disch := first | omega | assumption | exact bI_01 | exact Or.inl rfl | exact Or.inr rfl) only [↓o_0, ↓q_0_0, ↓q_0_1, ↓q_0_2, ↓q_0_3, ↓q_0_4, ↓q_0_5, ↓q_0_6, ↓q_0_7, ↓w_0_7, ↓o_18, ↓q_18_0, ↓w_18_0, ↓q_18_1, ↓q_18_2, ↓q_18_3, ↓q_18_4, ↓a_19, ↓s_19, ↓a_20, ↓s_20, ↓a_21, ↓s_21, ↓a_22, ↓s_22, ↓o_23, ↓q_23_0, ↓w_23_0, ↓q_23_1, ↓w_23_1, ↓o_24, ↓q_24_0, ↓w_24_0, ↓q_24_1, ↓q_24_2, ↓q_24_3, ↓w_24_3, ↓q_24_4, ↓q_24_5, ↓a_25, ↓s_25, ↓a_26, ↓s_26, ↓a_27, ↓s_27, ↓a_28, ↓s_28, ↓o_29, ↓q_29_0, ↓w_29_0, ↓q_29_1, ↓w_29_1, ↓q_29_2, ↓w_29_2, ↓q_29_3, ↓q_29_4, ↓q_29_5, ↓q_29_6, ↓q_29_7, ↓w_29_7, ↓q_29_8, ↓q_29_9, ↓w_29_9, ↓q_29_10, ↓w_29_10, ↓q_29_11, ↓a_30, ↓s_30, ↓a_31, ↓s_31, ↓a_32, ↓s_32, ↓a_33, ↓s_33, ↓a_34, ↓s_34, ↓a_35, ↓s_35, ↓o_36, ↓q_36_0, ↓q_36_1, ↓w_36_1, ↓q_36_2, ↓w_36_2, ↓q_36_3, ↓q_36_4, ↓a_37, ↓s_37, ↓a_38, ↓s_38, ↓o_39, ↓q_39_0, ↓q_39_1, ↓w_39_1, ↓q_39_2, ↓q_39_3, ↓w_39_3, ↓q_39_4, ↓q_39_5, ↓a_40, ↓s_40, ↓a_41, ↓s_41, ↓a_42, ↓s_42, ↓o_43, ↓q_43_0, ↓w_43_0, ↓q_43_1, ↓q_43_2, ↓q_43_3, ↓q_43_4, ↓q_43_5, ↓q_43_6, ↓q_43_7, ↓q_43_8, ↓q_43_9, ↓w_43_9, ↓q_43_10, ↓q_43_11, ↓q_43_12, ↓q_43_13, ↓q_43_14, ↓w_43_14, ↓q_43_15, ↓w_43_15, ↓q_43_16, ↓q_43_17, ↓w_43_17, ↓q_43_18, ↓w_43_18, ↓q_43_19, ↓q_43_20, ↓q_43_21, ↓q_43_22, ↓w_43_22, ↓q_43_23, ↓w_43_23, ↓q_43_24, ↓q_43_25, ↓q_43_26, ↓w_43_26, ↓q_43_27, ↓q_43_28, ↓q_43_29, ↓w_43_29, ↓q_43_30, ↓q_43_31, ↓q_43_32, ↓q_43_33, ↓w_43_33, ↓q_43_34, ↓q_43_35, ↓q_43_36, ↓a_44, ↓s_44, ↓a_45, ↓s_45, ↓a_46, ↓s_46, ↓a_47, ↓s_47, ↓a_48, ↓s_48, ↓a_49, ↓s_49, ↓a_50, ↓s_50, ↓a_51, ↓s_51, ↓a_52, ↓s_52, ↓a_53, ↓s_53, ↓a_54, ↓s_54, ↓a_55, ↓s_55, ↓a_56, ↓s_56, ↓a_57, ↓s_57, ↓a_58, ↓s_58, ↓a_59, ↓s_59, ↓a_60, ↓s_60, ↓a_61, ↓s_61, ↓a_62, ↓s_62, ↓a_63, ↓s_63, ↓a_64, ↓s_64, ↓a_65, ↓s_65, ↓a_66, ↓s_66, ↓a_67, ↓s_67, ↓a_68, ↓s_68, ↓a_69, ↓s_69, ↓a_1, le0_T, le0_F, addm1, sA_1, sA_22, sL_1, sL_21, sF_2, sA_eq, sA_ne, sA_nj, sL_eq, sL_ne, sL_nj, sF_eq, sF_ne, sF_nj, le_T, le_F, lt_T, lt_F, lt0_F, eq_T, eq_F, eq_N, m9_F, m1_F, z_F, z_N, l2, l3, l4, l5, l6, l8, l12, l24, l40, l70, l96, l255, l256, l280, l320, c_Is, c_Js, c_Vs, c_An, c_Ar, if_bI, rI0, rI1, rIb, if00, if10, lg0, nI_1, nI_add, sub_1, sub_N, if_true, if_false, ite_true, ite_false]
  · intro k hk hp
    have ek := (h3 k (by omega)).1
    have hxk : cvx P k < 256 := (hg _ (cv_mem (by omega))).1
    refine B_X0_isFirstOfItsX_2 _ _ _ _ ?_
    simp (disch := first | omega | assumption | exact bI_01 | exact Or.inl rfl | exact Or.inr rfl) only [↓o_0, ↓q_0_0, ↓q_0_1, ↓q_0_2, ↓q_0_3, ↓q_0_4, ↓q_0_5, ↓q_0_6, ↓q_0_7, ↓w_0_7, ↓o_18, ↓q_18_0, ↓w_18_0, ↓q_18_1, ↓q_18_2, ↓q_18_3, ↓q_18_4, ↓a_19, ↓s_19, ↓a_20, ↓s_20, ↓a_21, ↓s_21, ↓a_22, ↓s_22, ↓o_23, ↓q_23_0, ↓w_23_0, ↓q_23_1, ↓w_23_1, ↓o_24, ↓q_24_0, ↓w_24_0, ↓q_24_1, ↓q_24_2, ↓q_24_3, ↓w_24_3, ↓q_24_4, ↓q_24_5, ↓a_25, ↓s_25, ↓a_26, ↓s_26, ↓a_27, ↓s_27, ↓a_28, ↓s_28, ↓o_29, ↓q_29_0, ↓w_29_0, ↓q_29_1, ↓w_29_1, ↓q_29_2, ↓w_29_2, ↓q_29_3, ↓q_29_4, ↓q_29_5, ↓q_29_6, ↓q_29_7, ↓w_29_7, ↓q_29_8, ↓q_29_9, ↓w_29_9, ↓q_29_10, ↓w_29_10, ↓q_29_11, ↓a_30, ↓s_30, ↓a_31, ↓s_31, ↓a_32, ↓s_32, ↓a_33, ↓s_33, ↓a_34, ↓s_34, ↓a_35, ↓s_35, ↓o_36, ↓q_36_0, ↓q_36_1, ↓w_36_1, ↓q_36_2, ↓w_36_2, ↓q_36_3, ↓q_36_4, ↓a_37, ↓s_37, ↓a_38, ↓s_38, ↓o_39, ↓q_39_0, ↓q_39_1, ↓w_39_1, ↓q_39_2, ↓q_39_3, ↓w_39_3, ↓q_39_4, ↓q_39_5, ↓a_40, ↓s_40, ↓a_41, ↓s_41, ↓a_42, ↓s_42, ↓o_43, ↓q_43_0, ↓w_43_0, ↓q_43_1, ↓q_43_2, ↓q_43_3, ↓q_43_4, ↓q_43_5, ↓q_43_6, ↓q_43_7, ↓q_43_8, ↓q_43_9, ↓w_43_9, ↓q_43_10, ↓q_43_11, ↓q_43_12, ↓q_43_13, ↓q_43_14, ↓w_43_14, ↓q_43_15, ↓w_43_15, ↓q_43_16, ↓q_43_17, ↓w_43_17, ↓q_43_18, ↓w_43_18, ↓q_43_19, ↓q_43_20, ↓q_43_21, ↓q_43_22, ↓w_43_22, ↓q_43_23, ↓w_43_23, ↓q_43_24, ↓q_43_25, ↓q_43_26, ↓w_43_26, ↓q_43_27, ↓q_43_28, ↓q_43_29, ↓w_43_29, ↓q_43_30, ↓q_43_31, ↓q_43_32, ↓q_43_33, ↓w_43_33, ↓q_43_34, ↓q_43_35, ↓q_43_36, ↓a_44, ↓s_44, ↓a_45, ↓s_45, ↓a_46, ↓s_46, ↓a_47, ↓s_47, ↓a_48, ↓s_48, ↓a_49, ↓s_49, ↓a_50, ↓s_50, ↓a_51, ↓s_51, ↓a_52, ↓s_52, ↓a_53, ↓s_53, ↓a_54, ↓s_54, ↓a_55, ↓s_55, ↓a_56, ↓s_56, ↓a_57, ↓s_57, ↓a_58, ↓s_58, ↓a_59, ↓s_59, ↓a_60, ↓s_60, ↓a_61, ↓s_61, ↓a_62, ↓s_62, ↓a_63, ↓s_63, ↓a_64, ↓s_64, ↓a_65, ↓s_65, ↓a_66, ↓s_66, ↓a_67, ↓s_67, ↓a_68, ↓s_68, ↓a_69, ↓s_69, ↓a_1, le0_T, le0_F, addm1, sA_1, sA_22, sL_1, sL_21, sF_2, sA_eq, sA_ne, sA_nj, sL_eq, sL_ne, sL_nj, sF_eq, sF_ne, sF_nj, le_T, le_F, lt_T, lt_F, lt0_F, eq_T, eq_F, eq_N, m9_F, m1_F, z_F, z_N, l2, l3, l4, l5, l6, l8, l12, l24, l40, l70, l96, l255, l256, l280, l320, c_Is, c_Js, c_Vs, c_An, c_Ar, if_bI, rI0, rI1, rIb, if00, if10, lg0, nI_1, nI_add, sub_1, sub_N, if_true, if_false, ite_true, ite_false, ei, ek, if_pos (of_decide_eq_true hp)]
  · intro k hk hp r hr
    have ek := (h3 k (by omega)).1
    have hxk : cvx P k < 256 := (hg _ (cv_mem (by omega))).1
    refine B_X0_isFirstOfItsX_2 _ _ _ _ ?_
    simp (disch := first | omega | assumption | exact bI_01 | exact Or.inl rfl | exact Or.inr rfl) only [↓o_0, ↓q_0_0, ↓q_0_1, ↓q_0_2, ↓q_0_3, ↓q_0_4, ↓q_0_5, ↓q_0_6, ↓q_0_7, ↓w_0_7, ↓o_18, ↓q_18_0, ↓w_18_0, ↓q_18_1, ↓q_18_2, ↓q_18_3, ↓q_18_4, ↓a_19, ↓s_19, ↓a_20, ↓s_20, ↓a_21, ↓s_21, ↓a_22, ↓s_22, ↓o_23, ↓q_23_0, ↓w_23_0, ↓q_23_1, ↓w_23_1, ↓o_24, ↓q_24_0, ↓w_24_0, ↓q_24_1, ↓q_24_2, ↓q_24_3, ↓w_24_3, ↓q_24_4, ↓q_24_5, ↓a_25, ↓s_25, ↓a_26, ↓s_26, ↓a_27, ↓s_27, ↓a_28, ↓s_28, ↓o_29, ↓q_29_0, ↓w_29_0, ↓q_29_1, ↓w_29_1, ↓q_29_2, ↓w_29_2, ↓q_29_3, ↓q_29_4, ↓q_29_5, ↓q_29_6, ↓q_29_7, ↓w_29_7, ↓q_29_8, ↓q_29_9, ↓w_29_9, ↓q_29_10, ↓w_29_10, ↓q_29_11, ↓a_30, ↓s_30, ↓a_31, ↓s_31, ↓a_32, ↓s_32, ↓a_33, ↓s_33, ↓a_34, ↓s_34, ↓a_35, ↓s_35, ↓o_36, ↓q_36_0, ↓q_36_1, ↓w_36_1, ↓q_36_2, ↓w_36_2, ↓q_36_3, ↓q_36_4, ↓a_37, ↓s_37, ↓a_38, ↓s_38, ↓o_39, ↓q_39_0, ↓q_39_1, ↓w_39_1, ↓q_39_2, ↓q_39_3, ↓w_39_3, ↓q_39_4, ↓q_39_5, ↓a_40, ↓s_40, ↓a_41, ↓s_41, ↓a_42, ↓s_42, ↓o_43, ↓q_43_0, ↓w_43_0, ↓q_43_1, ↓q_43_2, ↓q_43_3, ↓q_43_4, ↓q_43_5, ↓q_43_6, ↓q_43_7, ↓q_43_8, ↓q_43_9, ↓w_43_9, ↓q_43_10, ↓q_43_11, ↓q_43_12, ↓q_43_13, ↓q_43_14, ↓w_43_14, ↓q_43_15, ↓w_43_15, ↓q_43_16, ↓q_43_17, ↓w_43_17, ↓q_43_18, ↓w_43_18, ↓q_43_19, ↓q_43_20, ↓q_43_21, ↓q_43_22, ↓w_43_22, ↓q_43_23, ↓w_43_23, ↓q_43_24, ↓q_43_25, ↓q_43_26, ↓w_43_26, ↓q_43_27, ↓q_43_28, ↓q_43_29, ↓w_43_29, ↓q_43_30, ↓q_43_31, ↓q_43_32, ↓q_43_33, ↓w_43_33, ↓q_43_34, ↓q_43_35, ↓q_43_36, ↓a_44, ↓s_44, ↓a_45, ↓s_45, ↓a_46, ↓s_46, ↓a_47, ↓s_47, ↓a_48, ↓s_48, ↓a_49, ↓s_49, ↓a_50, ↓s_50, ↓a_51, ↓s_51, ↓a_52, ↓s_52, ↓a_53, ↓s_53, ↓a_54, ↓s_54, ↓a_55, ↓s_55, ↓a_56, ↓s_56, ↓a_57, ↓s_57, ↓a_58, ↓s_58, ↓a_59, ↓s_59, ↓a_60, ↓s_60, ↓a_61, ↓s_61, ↓a_62, ↓s_62, ↓a_63, ↓s_63, ↓a_64, ↓s_64, ↓a_65, ↓s_65, ↓a_66, ↓s_66, ↓a_67, ↓s_67, ↓a_68, ↓s_68, ↓a_69, ↓s_69, ↓a_1, le0_T, le0_F, addm1, sA_1, sA_22, sL_1, sL_21, sF_2, sA_eq, sA_ne, sA_nj, sL_eq, sL_ne, sL_nj, sF_eq, sF_ne, sF_nj, le_T, le_F, lt_T, lt_F, lt0_F, eq_T, eq_F, eq_N, m9_F, m1_F, z_F, z_N, l2, l3, l4, l5, l6, l8, l12, l24, l40, l70, l96, l255, l256, l280, l320, c_Is, c_Js, c_Vs, c_An, c_Ar, if_bI, rI0, rI1, rIb, if00, if10, lg0, nI_1, nI_add, sub_1, sub_N, if_true, if_false, ite_true, ite_false, ei, ek, if_neg (of_decide_eq_false hp)]
    exact hr
/-- X and all that is told by laws with that X -/
def grI (P : List (Nat × Nat)) (i k g : Nat) : Nat := if cvx P k = cvx P i then g ||| 2 ^ cvc P k else g
def gr (P : List (Nat × Nat)) (i : Nat) : Nat := it (grI P i) P.length (cvx P i)
theorem groupOf_s {P : List (Nat × Nat)} (hP : CvC S P) (hg : PG P) {i : Nat} (hi : i < P.length) : Rc 8 [.ref 36, .int (nI i)] (enc sc S) = some (some (.int (nI (gr P i))), enc sc S) := by
  obtain ⟨h1, h2, h3⟩ := hP
  have hxi : cvx P i < 256 := (hg _ (cv_mem hi)).1
  have ei := (h3 i hi).1
  refine Rc_of rfl rfl (B_X0_groupOf_0 _ _ _ ?_)
  simp (disch := first | omega | assumption | exact bI_01 | exact Or.inl rfl | exact Or.inr rfl) only [↓o_0, ↓q_0_0, ↓q_0_1, ↓q_0_2, ↓q_0_3, ↓q_0_4, ↓q_0_5, ↓q_0_6, ↓q_0_7, ↓w_0_7, ↓o_18, ↓q_18_0, ↓w_18_0, ↓q_18_1, ↓q_18_2, ↓q_18_3, ↓q_18_4, ↓a_19, ↓s_19, ↓a_20, ↓s_20, ↓a_21, ↓s_21, ↓a_22, ↓s_22, ↓o_23, ↓q_23_0, ↓w_23_0, ↓q_23_1, ↓w_23_1, ↓o_24, ↓q_24_0, ↓w_24_0, ↓q_24_1, ↓q_24_2, ↓q_24_3, ↓w_24_3, ↓q_24_4, ↓q_24_5, ↓a_25, ↓s_25, ↓a_26, ↓s_26, ↓a_27, ↓s_27, ↓a_28, ↓s_28, ↓o_29, ↓q_29_0, ↓w_29_0, ↓q_29_1, ↓w_29_1, ↓q_29_2, ↓w_29_2, ↓q_29_3, ↓q_29_4, ↓q_29_5, ↓q_29_6, ↓q_29_7, ↓w_29_7, ↓q_29_8, ↓q_29_9, ↓w_29_9, ↓q_29_10, ↓w_29_10, ↓q_29_11, ↓a_30, ↓s_30, ↓a_31, ↓s_31, ↓a_32, ↓s_32, ↓a_33, ↓s_33, ↓a_34, ↓s_34, ↓a_35, ↓s_35, ↓o_36, ↓q_36_0, ↓q_36_1, ↓w_36_1, ↓q_36_2, ↓w_36_2, ↓q_36_3, ↓q_36_4, ↓a_37, ↓s_37, ↓a_38, ↓s_38, ↓o_39, ↓q_39_0, ↓q_39_1, ↓w_39_1, ↓q_39_2, ↓q_39_3, ↓w_39_3, ↓q_39_4, ↓q_39_5, ↓a_40, ↓s_40, ↓a_41, ↓s_41, ↓a_42, ↓s_42, ↓o_43, ↓q_43_0, ↓w_43_0, ↓q_43_1, ↓q_43_2, ↓q_43_3, ↓q_43_4, ↓q_43_5, ↓q_43_6, ↓q_43_7, ↓q_43_8, ↓q_43_9, ↓w_43_9, ↓q_43_10, ↓q_43_11, ↓q_43_12, ↓q_43_13, ↓q_43_14, ↓w_43_14, ↓q_43_15, ↓w_43_15, ↓q_43_16, ↓q_43_17, ↓w_43_17, ↓q_43_18, ↓w_43_18, ↓q_43_19, ↓q_43_20, ↓q_43_21, ↓q_43_22, ↓w_43_22, ↓q_43_23, ↓w_43_23, ↓q_43_24, ↓q_43_25, ↓q_43_26, ↓w_43_26, ↓q_43_27, ↓q_43_28, ↓q_43_29, ↓w_43_29, ↓q_43_30, ↓q_43_31, ↓q_43_32, ↓q_43_33, ↓w_43_33, ↓q_43_34, ↓q_43_35, ↓q_43_36, ↓a_44, ↓s_44, ↓a_45, ↓s_45, ↓a_46, ↓s_46, ↓a_47, ↓s_47, ↓a_48, ↓s_48, ↓a_49, ↓s_49, ↓a_50, ↓s_50, ↓a_51, ↓s_51, ↓a_52, ↓s_52, ↓a_53, ↓s_53, ↓a_54, ↓s_54, ↓a_55, ↓s_55, ↓a_56, ↓s_56, ↓a_57, ↓s_57, ↓a_58, ↓s_58, ↓a_59, ↓s_59, ↓a_60, ↓s_60, ↓a_61, ↓s_61, ↓a_62, ↓s_62, ↓a_63, ↓s_63, ↓a_64, ↓s_64, ↓a_65, ↓s_65, ↓a_66, ↓s_66, ↓a_67, ↓s_67, ↓a_68, ↓s_68, ↓a_69, ↓s_69, ↓a_1, le0_T, le0_F, addm1, sA_1, sA_22, sL_1, sL_21, sF_2, sA_eq, sA_ne, sA_nj, sL_eq, sL_ne, sL_nj, sF_eq, sF_ne, sF_nj, le_T, le_F, lt_T, lt_F, lt0_F, eq_T, eq_F, eq_N, m9_F, m1_F, z_F, z_N, l2, l3, l4, l5, l6, l8, l12, l24, l40, l70, l96, l255, l256, l280, l320, c_Is, c_Js, c_Vs, c_An, c_Ar, if_bI, rI0, rI1, rIb, if00, if10, lg0, nI_1, nI_add, sub_1, sub_N, if_true, if_false, ite_true, ite_false, ei]
  have h := loop_acc (F := P.length) (g := grI P i) (G := fun k g => Rs 8 9 [.ref 36, .int (nI i), .int (nI g), .int (nI k)] [] (enc sc S)) (fin := fun g => (some (.int (nI g)), enc sc S)) (a0 := cvx P i) ?_ ?_
  · exact h
  · intro k g hk r hr
    obtain ⟨ek, ec⟩ := h3 k hk
    have hxk : cvx P k < 256 := (hg _ (cv_mem hk)).1
    have hck : cvc P k < 8 := (hg _ (cv_mem hk)).2
    refine B_X0_groupOf_9 _ _ _ _ _ ?_
    unfold grI at hr
    by_cases q : cvx P k = cvx P i
    · rw [if_pos q] at hr
      simp (disch := first | omega | assumption | exact bI_01 | exact Or.inl rfl | exact Or.inr rfl) only [↓o_0, ↓q_0_0, ↓q_0_1, ↓q_0_2, ↓q_0_3, ↓q_0_4, ↓q_0_5, ↓q_0_6, ↓q_0_7, ↓w_0_7, ↓o_18, ↓q_18_0, ↓w_18_0, ↓q_18_1, ↓q_18_2, ↓q_18_3, ↓q_18_4, ↓a_19, ↓s_19, ↓a_20, ↓s_20, ↓a_21, ↓s_21, ↓a_22, ↓s_22, ↓o_23, ↓q_23_0, ↓w_23_0, ↓q_23_1, ↓w_23_1, ↓o_24, ↓q_24_0, ↓w_24_0, ↓q_24_1, ↓q_24_2, ↓q_24_3, ↓w_24_3, ↓q_24_4, ↓q_24_5, ↓a_25, ↓s_25, ↓a_26, ↓s_26, ↓a_27, ↓s_27, ↓a_28, ↓s_28, ↓o_29, ↓q_29_0, ↓w_29_0, ↓q_29_1, ↓w_29_1, ↓q_29_2, ↓w_29_2, ↓q_29_3, ↓q_29_4, ↓q_29_5, ↓q_29_6, ↓q_29_7, ↓w_29_7, ↓q_29_8, ↓q_29_9, ↓w_29_9, ↓q_29_10, ↓w_29_10, ↓q_29_11, ↓a_30, ↓s_30, ↓a_31, ↓s_31, ↓a_32, ↓s_32, ↓a_33, ↓s_33, ↓a_34, ↓s_34, ↓a_35, ↓s_35, ↓o_36, ↓q_36_0, ↓q_36_1, ↓w_36_1, ↓q_36_2, ↓w_36_2, ↓q_36_3, ↓q_36_4, ↓a_37, ↓s_37, ↓a_38, ↓s_38, ↓o_39, ↓q_39_0, ↓q_39_1, ↓w_39_1, ↓q_39_2, ↓q_39_3, ↓w_39_3, ↓q_39_4, ↓q_39_5, ↓a_40, ↓s_40, ↓a_41, ↓s_41, ↓a_42, ↓s_42, ↓o_43, ↓q_43_0, ↓w_43_0, ↓q_43_1, ↓q_43_2, ↓q_43_3, ↓q_43_4, ↓q_43_5, ↓q_43_6, ↓q_43_7, ↓q_43_8, ↓q_43_9, ↓w_43_9, ↓q_43_10, ↓q_43_11, ↓q_43_12, ↓q_43_13, ↓q_43_14, ↓w_43_14, ↓q_43_15, ↓w_43_15, ↓q_43_16, ↓q_43_17, ↓w_43_17, ↓q_43_18, ↓w_43_18, ↓q_43_19, ↓q_43_20, ↓q_43_21, ↓q_43_22, ↓w_43_22, ↓q_43_23, ↓w_43_23, ↓q_43_24, ↓q_43_25, ↓q_43_26, ↓w_43_26, ↓q_43_27, ↓q_43_28, ↓q_43_29, ↓w_43_29, ↓q_43_30, ↓q_43_31, ↓q_43_32, ↓q_43_33, ↓w_43_33, ↓q_43_34, ↓q_43_35, ↓q_43_36, ↓a_44, ↓s_44, ↓a_45, ↓s_45, ↓a_46, ↓s_46, ↓a_47, ↓s_47, ↓a_48, ↓s_48, ↓a_49, ↓s_49, ↓a_50, ↓s_50, ↓a_51, ↓s_51, ↓a_52, ↓s_52, ↓a_53, ↓s_53, ↓a_54, ↓s_54, ↓a_55, ↓s_55, ↓a_56, ↓s_56, ↓a_57, ↓s_57, ↓a_58, ↓s_58, ↓a_59, ↓s_59, ↓a_60, ↓s_60, ↓a_61, ↓s_61, ↓a_62, ↓s_62, ↓a_63, ↓s_63, ↓a_64, ↓s_64, ↓a_65, ↓s_65, ↓a_66, ↓s_66, ↓a_67, ↓s_67, ↓a_68, ↓s_68, ↓a_69, ↓s_69, ↓a_1, le0_T, le0_F, addm1, sA_1, sA_22, sL_1, sL_21, sF_2, sA_eq, sA_ne, sA_nj, sL_eq, sL_ne, sL_nj, sF_eq, sF_ne, sF_nj, le_T, le_F, lt_T, lt_F, lt0_F, eq_T, eq_F, eq_N, m9_F, m1_F, z_F, z_N, l2, l3, l4, l5, l6, l8, l12, l24, l40, l70, l96, l255, l256, l280, l320, c_Is, c_Js, c_Vs, c_An, c_Ar, if_bI, rI0, rI1, rIb, if00, if10, lg0, nI_1, nI_add, sub_1, sub_N, if_true, if_false, ite_true, ite_false, h1, ei, ek, ec, if_pos q, shl_n, fa_or]
      exact hr
    · rw [if_neg q] at hr
      simp (disch := first | omega | assumption | exact bI_01 | exact Or.inl rfl | exact Or.inr rfl) only [↓o_0, ↓q_0_0, ↓q_0_1, ↓q_0_2, ↓q_0_3, ↓q_0_4, ↓q_0_5, ↓q_0_6, ↓q_0_7, ↓w_0_7, ↓o_18, ↓q_18_0, ↓w_18_0, ↓q_18_1, ↓q_18_2, ↓q_18_3, ↓q_18_4, ↓a_19, ↓s_19, ↓a_20, ↓s_20, ↓a_21, ↓s_21, ↓a_22, ↓s_22, ↓o_23, ↓q_23_0, ↓w_23_0, ↓q_23_1, ↓w_23_1, ↓o_24, ↓q_24_0, ↓w_24_0, ↓q_24_1, ↓q_24_2, ↓q_24_3, ↓w_24_3, ↓q_24_4, ↓q_24_5, ↓a_25, ↓s_25, ↓a_26, ↓s_26, ↓a_27, ↓s_27, ↓a_28, ↓s_28, ↓o_29, ↓q_29_0, ↓w_29_0, ↓q_29_1, ↓w_29_1, ↓q_29_2, ↓w_29_2, ↓q_29_3, ↓q_29_4, ↓q_29_5, ↓q_29_6, ↓q_29_7, ↓w_29_7, ↓q_29_8, ↓q_29_9, ↓w_29_9, ↓q_29_10, ↓w_29_10, ↓q_29_11, ↓a_30, ↓s_30, ↓a_31, ↓s_31, ↓a_32, ↓s_32, ↓a_33, ↓s_33, ↓a_34, ↓s_34, ↓a_35, ↓s_35, ↓o_36, ↓q_36_0, ↓q_36_1, ↓w_36_1, ↓q_36_2, ↓w_36_2, ↓q_36_3, ↓q_36_4, ↓a_37, ↓s_37, ↓a_38, ↓s_38, ↓o_39, ↓q_39_0, ↓q_39_1, ↓w_39_1, ↓q_39_2, ↓q_39_3, ↓w_39_3, ↓q_39_4, ↓q_39_5, ↓a_40, ↓s_40, ↓a_41, ↓s_41, ↓a_42, ↓s_42, ↓o_43, ↓q_43_0, ↓w_43_0, ↓q_43_1, ↓q_43_2, ↓q_43_3, ↓q_43_4, ↓q_43_5, ↓q_43_6, ↓q_43_7, ↓q_43_8, ↓q_43_9, ↓w_43_9, ↓q_43_10, ↓q_43_11, ↓q_43_12, ↓q_43_13, ↓q_43_14, ↓w_43_14, ↓q_43_15, ↓w_43_15, ↓q_43_16, ↓q_43_17, ↓w_43_17, ↓q_43_18, ↓w_43_18, ↓q_43_19, ↓q_43_20, ↓q_43_21, ↓q_43_22, ↓w_43_22, ↓q_43_23, ↓w_43_23, ↓q_43_24, ↓q_43_25, ↓q_43_26, ↓w_43_26, ↓q_43_27, ↓q_43_28, ↓q_43_29, ↓w_43_29, ↓q_43_30, ↓q_43_31, ↓q_43_32, ↓q_43_33, ↓w_43_33, ↓q_43_34, ↓q_43_35, ↓q_43_36, ↓a_44, ↓s_44, ↓a_45, ↓s_45, ↓a_46, ↓s_46, ↓a_47, ↓s_47, ↓a_48, ↓s_48, ↓a_49, ↓s_49, ↓a_50, ↓s_50, ↓a_51, ↓s_51, ↓a_52, ↓s_52, ↓a_53, ↓s_53, ↓a_54, ↓s_54, ↓a_55, ↓s_55, ↓a_56, ↓s_56, ↓a_57, ↓s_57, ↓a_58, ↓s_58, ↓a_59, ↓s_59, ↓a_60, ↓s_60, ↓a_61, ↓s_61, ↓a_62, ↓s_62, ↓a_63, ↓s_63, ↓a_64, ↓s_64, ↓a_65, ↓s_65, ↓a_66, ↓s_66, ↓a_67, ↓s_67, ↓a_68, ↓s_68, ↓a_69, ↓s_69, ↓a_1, le0_T, le0_F, addm1, sA_1, sA_22, sL_1, sL_21, sF_2, sA_eq, sA_ne, sA_nj, sL_eq, sL_ne, sL_nj, sF_eq, sF_ne, sF_nj, le_T, le_F, lt_T, lt_F, lt0_F, eq_T, eq_F, eq_N, m9_F, m1_F, z_F, z_N, l2, l3, l4, l5, l6, l8, l12, l24, l40, l70, l96, l255, l256, l280, l320, c_Is, c_Js, c_Vs, c_An, c_Ar, if_bI, rI0, rI1, rIb, if00, if10, lg0, nI_1, nI_add, sub_1, sub_N, if_true, if_false, ite_true, ite_false, h1, ei, ek, if_neg q]
      exact hr
  · intro g
    refine B_X0_groupOf_9 _ _ _ _ _ ?_
    simp (disch := first | omega | assumption | exact bI_01 | exact Or.inl rfl | exact Or.inr rfl) only [↓o_0, ↓q_0_0, ↓q_0_1, ↓q_0_2, ↓q_0_3, ↓q_0_4, ↓q_0_5, ↓q_0_6, ↓q_0_7, ↓w_0_7, ↓o_18, ↓q_18_0, ↓w_18_0, ↓q_18_1, ↓q_18_2, ↓q_18_3, ↓q_18_4, ↓a_19, ↓s_19, ↓a_20, ↓s_20, ↓a_21, ↓s_21, ↓a_22, ↓s_22, ↓o_23, ↓q_23_0, ↓w_23_0, ↓q_23_1, ↓w_23_1, ↓o_24, ↓q_24_0, ↓w_24_0, ↓q_24_1, ↓q_24_2, ↓q_24_3, ↓w_24_3, ↓q_24_4, ↓q_24_5, ↓a_25, ↓s_25, ↓a_26, ↓s_26, ↓a_27, ↓s_27, ↓a_28, ↓s_28, ↓o_29, ↓q_29_0, ↓w_29_0, ↓q_29_1, ↓w_29_1, ↓q_29_2, ↓w_29_2, ↓q_29_3, ↓q_29_4, ↓q_29_5, ↓q_29_6, ↓q_29_7, ↓w_29_7, ↓q_29_8, ↓q_29_9, ↓w_29_9, ↓q_29_10, ↓w_29_10, ↓q_29_11, ↓a_30, ↓s_30, ↓a_31, ↓s_31, ↓a_32, ↓s_32, ↓a_33, ↓s_33, ↓a_34, ↓s_34, ↓a_35, ↓s_35, ↓o_36, ↓q_36_0, ↓q_36_1, ↓w_36_1, ↓q_36_2, ↓w_36_2, ↓q_36_3, ↓q_36_4, ↓a_37, ↓s_37, ↓a_38, ↓s_38, ↓o_39, ↓q_39_0, ↓q_39_1, ↓w_39_1, ↓q_39_2, ↓q_39_3, ↓w_39_3, ↓q_39_4, ↓q_39_5, ↓a_40, ↓s_40, ↓a_41, ↓s_41, ↓a_42, ↓s_42, ↓o_43, ↓q_43_0, ↓w_43_0, ↓q_43_1, ↓q_43_2, ↓q_43_3, ↓q_43_4, ↓q_43_5, ↓q_43_6, ↓q_43_7, ↓q_43_8, ↓q_43_9, ↓w_43_9, ↓q_43_10, ↓q_43_11, ↓q_43_12, ↓q_43_13, ↓q_43_14, ↓w_43_14, ↓q_43_15, ↓w_43_15, ↓q_43_16, ↓q_43_17, ↓w_43_17, ↓q_43_18, ↓w_43_18, ↓q_43_19, ↓q_43_20, ↓q_43_21, ↓q_43_22, ↓w_43_22, ↓q_43_23, ↓w_43_23, ↓q_43_24, ↓q_43_25, ↓q_43_26, ↓w_43_26, ↓q_43_27, ↓q_43_28, ↓q_43_29, ↓w_43_29, ↓q_43_30, ↓q_43_31, ↓q_43_32, ↓q_43_33, ↓w_43_33, ↓q_43_34, ↓q_43_35, ↓q_43_36, ↓a_44, ↓s_44, ↓a_45, ↓s_45, ↓a_46, ↓s_46, ↓a_47, ↓s_47, ↓a_48, ↓s_48, ↓a_49, ↓s_49, ↓a_50, ↓s_50, ↓a_51, ↓s_51, ↓a_52, ↓s_52, ↓a_53, ↓s_53, ↓a_54, ↓s_54, ↓a_55, ↓s_55, ↓a_56, ↓s_56, ↓a_57, ↓s_57, ↓a_58, ↓s_58, ↓a_59, ↓s_59, ↓a_60, ↓s_60, ↓a_61, ↓s_61, ↓a_62, ↓s_62, ↓a_63, ↓s_63, ↓a_64, ↓s_64, ↓a_65, ↓s_65, ↓a_66, ↓s_66, ↓a_67, ↓s_67, ↓a_68, ↓s_68, ↓a_69, ↓s_69, ↓a_1, le0_T, le0_F, addm1, sA_1, sA_22, sL_1, sL_21, sF_2, sA_eq, sA_ne, sA_nj, sL_eq, sL_ne, sL_nj, sF_eq, sF_ne, sF_nj, le_T, le_F, lt_T, lt_F, lt0_F, eq_T, eq_F, eq_N, m9_F, m1_F, z_F, z_N, l2, l3, l4, l5, l6, l8, l12, l24, l40, l70, l96, l255, l256, l280, l320, c_Is, c_Js, c_Vs, c_An, c_Ar, if_bI, rI0, rI1, rIb, if00, if10, lg0, nI_1, nI_add, sub_1, sub_N, if_true, if_false, ite_true, ite_false, h1]
end CO6
