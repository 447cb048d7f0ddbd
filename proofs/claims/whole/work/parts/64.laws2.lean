/-! THE CALLS law, unlaw, width, told -/
theorem Fr_off {fs : List (Nat × Nat)} {cs : List Nat} {S S' : SS} (h : Fr fs cs S S') {a j : Nat} (q : (a, j) ∉ fs) : S'.1 a j = S.1 a j := h.1 a j q
section LAW2
variable {sc : RE} {S : SS} {n w : Nat} {kd lx ly : Nat → Nat} {dr : Nat → Bool}
theorem takeForceK_s (hl : LawC S n kd lx ly dr) (hw : WiC S w) : ∃ S', (Fr [(29, 2), (29, 9), (36, 1)] [30, 31, 32, 33] S S' ∧ ForC S' w kd lx ly (fo kd dr n) ∧ S'.1 29 9 = 0 ∧ S'.1 36 1 = 0 ∧ ∀ s, s < 256 → S'.2.1 33 s = -1) ∧ Rc 137 [.ref 0] (enc sc S) = some (none, enc sc S') := by
  obtain ⟨S1, ⟨h1, h2, h3, h4⟩, e⟩ := takeForce_s (sc := sc) hl hw
  refine ⟨sF S1 36 1 0, ⟨Fr_tr (Fr_w h1 (by decide) (by decide)) (Fr_sF (by decide)), h2, ?_, sF_eq, h4⟩, Rc_of rfl rfl (B_X7_renewForce_0 _ _ ?_)⟩
  · simp (disch := omega) only [sA_1, sA_22, sL_1, sL_21, sF_2, sA_eq, sA_ne, sA_nj, sL_eq, sL_ne, sL_nj, sF_eq, sF_ne, sF_nj]
    exact h3
  · simp (disch := first | omega | assumption | exact bI_01 | exact Or.inl rfl | exact Or.inr rfl) only [↓reduceIte, ↓if_bI, ↓if10, ↓if00, bI_eq0, not_false_eq_true, not_true_eq_false, and_true, true_and, and_false, false_and, or_true, true_or, or_false, false_or, ↓c_Is, ↓c_Js, ↓c_Vs, ↓c_An, ↓c_Ar, ↓o_0, ↓q_0_0, ↓q_0_1, ↓q_0_2, ↓q_0_3, ↓q_0_4, ↓q_0_5, ↓q_0_6, ↓q_0_7, ↓w_0_7, ↓o_18, ↓q_18_0, ↓w_18_0, ↓q_18_1, ↓q_18_2, ↓q_18_3, ↓q_18_4, ↓a_19, ↓s_19, ↓a_20, ↓s_20, ↓a_21, ↓s_21, ↓a_22, ↓s_22, ↓o_23, ↓q_23_0, ↓w_23_0, ↓q_23_1, ↓w_23_1, ↓o_24, ↓q_24_0, ↓w_24_0, ↓q_24_1, ↓q_24_2, ↓q_24_3, ↓w_24_3, ↓q_24_4, ↓q_24_5, ↓a_25, ↓s_25, ↓a_26, ↓s_26, ↓a_27, ↓s_27, ↓a_28, ↓s_28, ↓o_29, ↓q_29_0, ↓w_29_0, ↓q_29_1, ↓w_29_1, ↓q_29_2, ↓w_29_2, ↓q_29_3, ↓q_29_4, ↓q_29_5, ↓q_29_6, ↓q_29_7, ↓w_29_7, ↓q_29_8, ↓q_29_9, ↓w_29_9, ↓q_29_10, ↓w_29_10, ↓q_29_11, ↓a_30, ↓s_30, ↓a_31, ↓s_31, ↓a_32, ↓s_32, ↓a_33, ↓s_33, ↓a_34, ↓s_34, ↓a_35, ↓s_35, ↓o_36, ↓q_36_0, ↓q_36_1, ↓w_36_1, ↓q_36_2, ↓w_36_2, ↓q_36_3, ↓q_36_4, ↓a_37, ↓s_37, ↓a_38, ↓s_38, ↓o_39, ↓q_39_0, ↓q_39_1, ↓w_39_1, ↓q_39_2, ↓q_39_3, ↓w_39_3, ↓q_39_4, ↓q_39_5, ↓a_40, ↓s_40, ↓a_41, ↓s_41, ↓a_42, ↓s_42, ↓o_43, ↓q_43_0, ↓w_43_0, ↓q_43_1, ↓q_43_2, ↓q_43_3, ↓q_43_4, ↓q_43_5, ↓q_43_6, ↓q_43_7, ↓q_43_8, ↓q_43_9, ↓w_43_9, ↓q_43_10, ↓q_43_11, ↓q_43_12, ↓q_43_13, ↓q_43_14, ↓w_43_14, ↓q_43_15, ↓w_43_15, ↓q_43_16, ↓q_43_17, ↓w_43_17, ↓q_43_18, ↓w_43_18, ↓q_43_19, ↓q_43_20, ↓q_43_21, ↓q_43_22, ↓w_43_22, ↓q_43_23, ↓w_43_23, ↓q_43_24, ↓q_43_25, ↓q_43_26, ↓w_43_26, ↓q_43_27, ↓q_43_28, ↓q_43_29, ↓w_43_29, ↓q_43_30, ↓q_43_31, ↓q_43_32, ↓q_43_33, ↓w_43_33, ↓q_43_34, ↓q_43_35, ↓q_43_36, ↓a_44, ↓s_44, ↓a_45, ↓s_45, ↓a_46, ↓s_46, ↓a_47, ↓s_47, ↓a_48, ↓s_48, ↓a_49, ↓s_49, ↓a_50, ↓s_50, ↓a_51, ↓s_51, ↓a_52, ↓s_52, ↓a_53, ↓s_53, ↓a_54, ↓s_54, ↓a_55, ↓s_55, ↓a_56, ↓s_56, ↓a_57, ↓s_57, ↓a_58, ↓s_58, ↓a_59, ↓s_59, ↓a_60, ↓s_60, ↓a_61, ↓s_61, ↓a_62, ↓s_62, ↓a_63, ↓s_63, ↓a_64, ↓s_64, ↓a_65, ↓s_65, ↓a_66, ↓s_66, ↓a_67, ↓s_67, ↓a_68, ↓s_68, ↓a_69, ↓s_69, ↓a_1, le0_T, le0_F, addm1, sA_1, sA_22, sL_1, sL_21, sF_2, sA_eq, sA_ne, sA_nj, sL_eq, sL_ne, sL_nj, sF_eq, sF_ne, sF_nj, le_T, le_F, lt_T, lt_F, lt0_F, eq_T, eq_F, eq_N, m9_F, m1_F, z_F, z_N, l2, l3, l4, l5, l6, l8, l12, l24, l40, l70, l96, l255, l256, l280, l320, c_Is, c_Js, c_Vs, c_An, c_Ar, if_bI, rI0, rI1, rIb, if00, if10, lg0, nI_1, nI_add, sub_1, sub_N, if_true, if_false, ite_true, ite_false, ge0_T, ge0_F, in_d, in_e, mul_n, a_47, s_47, a_48, s_48, a_49, s_49, a_42, s_42, a_69, s_69, a_59, a_63, a_28, a_50, s_50, a_51, s_51, ↓cV (e)]
/-- one law more -/
theorem LawC_add (hl : LawC S n kd lx ly dr) (hn : n < 40) {k s v : Nat} (hk : k < 6) (hs : s < 256) (hv : v < 256) : LawC (sF (sA (sA (sA S 19 n (nI k)) 20 n (nI s)) 21 n (nI v)) 18 0 (nI (n + 1))) (n + 1) (upN kd n k) (upN lx n s) (upN ly n v) (upN dr n false) := by
  obtain ⟨l1, l2, l3, l4⟩ := hl
  refine ⟨sF_eq, by omega, fun l hl => ?_, fun l h1 h2 => ?_⟩
  · by_cases e : l = n
    · subst e
      rw [upN_eq, upN_eq, upN_eq, upN_eq]
      refine ⟨?_, hk, ?_, hs, ?_, hv, ?_⟩
      · simp (disch := omega) only [sA_1, sA_22, sL_1, sL_21, sF_2, sA_eq, sA_ne, sA_nj, sL_eq, sL_ne, sL_nj, sF_eq, sF_ne, sF_nj]
      · simp (disch := omega) only [sA_1, sA_22, sL_1, sL_21, sF_2, sA_eq, sA_ne, sA_nj, sL_eq, sL_ne, sL_nj, sF_eq, sF_ne, sF_nj]
      · simp (disch := omega) only [sA_1, sA_22, sL_1, sL_21, sF_2, sA_eq, sA_ne, sA_nj, sL_eq, sL_ne, sL_nj, sF_eq, sF_ne, sF_nj]
      · simp (disch := omega) only [sA_1, sA_22, sL_1, sL_21, sF_2, sA_eq, sA_ne, sA_nj, sL_eq, sL_ne, sL_nj, sF_eq, sF_ne, sF_nj]
        rw [l4 l (Nat.le_refl _) hn]
        rfl
    · rw [upN_ne e, upN_ne e, upN_ne e, upN_ne e]
      obtain ⟨a1, a2, a3, a4, a5, a6, a7⟩ := l3 l (by omega)
      refine ⟨?_, a2, ?_, a4, ?_, a6, ?_⟩
      · simp (disch := omega) only [sA_1, sA_22, sL_1, sL_21, sF_2, sA_eq, sA_ne, sA_nj, sL_eq, sL_ne, sL_nj, sF_eq, sF_ne, sF_nj]
        exact a1
      · simp (disch := omega) only [sA_1, sA_22, sL_1, sL_21, sF_2, sA_eq, sA_ne, sA_nj, sL_eq, sL_ne, sL_nj, sF_eq, sF_ne, sF_nj]
        exact a3
      · simp (disch := omega) only [sA_1, sA_22, sL_1, sL_21, sF_2, sA_eq, sA_ne, sA_nj, sL_eq, sL_ne, sL_nj, sF_eq, sF_ne, sF_nj]
        exact a5
      · simp (disch := omega) only [sA_1, sA_22, sL_1, sL_21, sF_2, sA_eq, sA_ne, sA_nj, sL_eq, sL_ne, sL_nj, sF_eq, sF_ne, sF_nj]
        exact a7
  · simp (disch := omega) only [sA_1, sA_22, sL_1, sL_21, sF_2, sA_eq, sA_ne, sA_nj, sL_eq, sL_ne, sL_nj, sF_eq, sF_ne, sF_nj]
    exact l4 l (by omega) h2
theorem LawM_add (hl : LawM S n kd lx ly dr) {k s v : Nat} : LawM (sF (sA (sA (sA (sA S 52 n (nI k)) 53 n (nI s)) 54 n (nI v)) 55 n 0) 43 9 (nI (n + 1))) (n + 1) (upN kd n k) (upN lx n s) (upN ly n v) (upN dr n false) := by
  obtain ⟨l1, l3⟩ := hl
  refine ⟨sF_eq, fun l hl => ?_⟩
  by_cases e : l = n
  · subst e
    rw [upN_eq, upN_eq, upN_eq, upN_eq]
    refine ⟨?_, ?_, ?_, ?_⟩
    · simp (disch := omega) only [sA_1, sA_22, sL_1, sL_21, sF_2, sA_eq, sA_ne, sA_nj, sL_eq, sL_ne, sL_nj, sF_eq, sF_ne, sF_nj]
    · simp (disch := omega) only [sA_1, sA_22, sL_1, sL_21, sF_2, sA_eq, sA_ne, sA_nj, sL_eq, sL_ne, sL_nj, sF_eq, sF_ne, sF_nj]
    · simp (disch := omega) only [sA_1, sA_22, sL_1, sL_21, sF_2, sA_eq, sA_ne, sA_nj, sL_eq, sL_ne, sL_nj, sF_eq, sF_ne, sF_nj]
    · simp (disch := omega) only [sA_1, sA_22, sL_1, sL_21, sF_2, sA_eq, sA_ne, sA_nj, sL_eq, sL_ne, sL_nj, sF_eq, sF_ne, sF_nj]
      rfl
  · rw [upN_ne e, upN_ne e, upN_ne e, upN_ne e]
    obtain ⟨a1, a3, a5, a7⟩ := l3 l (by omega)
    refine ⟨?_, ?_, ?_, ?_⟩
    · simp (disch := omega) only [sA_1, sA_22, sL_1, sL_21, sF_2, sA_eq, sA_ne, sA_nj, sL_eq, sL_ne, sL_nj, sF_eq, sF_ne, sF_nj]
      exact a1
    · simp (disch := omega) only [sA_1, sA_22, sL_1, sL_21, sF_2, sA_eq, sA_ne, sA_nj, sL_eq, sL_ne, sL_nj, sF_eq, sF_ne, sF_nj]
      exact a3
    · simp (disch := omega) only [sA_1, sA_22, sL_1, sL_21, sF_2, sA_eq, sA_ne, sA_nj, sL_eq, sL_ne, sL_nj, sF_eq, sF_ne, sF_nj]
      exact a5
    · simp (disch := omega) only [sA_1, sA_22, sL_1, sL_21, sF_2, sA_eq, sA_ne, sA_nj, sL_eq, sL_ne, sL_nj, sF_eq, sF_ne, sF_nj]
      exact a7
theorem MO_none {F : Nat} {fx fy : Nat → Nat} {m : Nat → Int32} (h : ∀ s, s < 256 → m s = -1) : MO F fx fy m := fun s hs => Or.inl (h s hs)
/-- what a call that adds a law comes to -/
theorem law_add (h : Rel S) (hd : LaD S n w kd lx ly dr) (hn : n < 40) {k s v : Nat} (hk : k < 6) (hs : s < 256) (hv : v < 256) (hV : (k = 4 → ∃ c d, c < 8 ∧ d < 8 ∧ s = 2 ^ c ∧ v = 2 ^ d) ∧ (k = 5 → v < 4) ∧ (k = 1 ∨ k = 3 → v = 0)) : ∃ S1, Rc 137 [.ref 0] (enc sc (sF (sA (sA (sA S 19 n (nI k)) 20 n (nI s)) 21 n (nI v)) 18 0 (nI (n + 1)))) = some (none, enc sc S1) ∧ S1.1 43 9 = nI n ∧ Rel (sF (sA (sA (sA (sA S1 52 n (nI k)) 53 n (nI s)) 54 n (nI v)) 55 n 0) 43 9 (nI (n + 1))) := by
  obtain ⟨⟨l1, l2, l3⟩, ⟨t1, t2, t3⟩, t4, t5, t6⟩ := hd
  have f1 : Fr [(18, 0)] [19, 20, 21] S (sF (sA (sA (sA S 19 n (nI k)) 20 n (nI s)) 21 n (nI v)) 18 0 (nI (n + 1))) := Fr_tr (Fr_sA (by decide)) (Fr_tr (Fr_sA (by decide)) (Fr_tr (Fr_sA (by decide)) (Fr_sF (by decide))))
  have c1 := LawC_add l1 hn hk hs hv
  have w1 : WiC (sF (sA (sA (sA S 19 n (nI k)) 20 n (nI s)) 21 n (nI v)) 18 0 (nI (n + 1))) w := t1
  obtain ⟨S1, ⟨g1, g2, g3, g4, g5⟩, e⟩ := takeForceK_s (sc := sc) c1 w1
  have f2 : Fr [(43, 9)] [52, 53, 54, 55] S1 (sF (sA (sA (sA (sA S1 52 n (nI k)) 53 n (nI s)) 54 n (nI v)) 55 n 0) 43 9 (nI (n + 1))) := Fr_tr (Fr_sA (by decide)) (Fr_tr (Fr_sA (by decide)) (Fr_tr (Fr_sA (by decide)) (Fr_tr (Fr_sA (by decide)) (Fr_sF (by decide)))))
  have f3 : Fr [(18, 0), (29, 2), (29, 9), (36, 1), (43, 9)] [19, 20, 21, 30, 31, 32, 33, 52, 53, 54, 55] S (sF (sA (sA (sA (sA S1 52 n (nI k)) 53 n (nI s)) 54 n (nI v)) 55 n 0) 43 9 (nI (n + 1))) := Fr_tr (Fr_w f1 (by decide) (by decide)) (Fr_tr (Fr_w g1 (by decide) (by decide)) (Fr_w f2 (by decide) (by decide)))
  have f4 := Fr_tr (Fr_w (fs' := [(18, 0), (29, 2), (29, 9), (36, 1)]) (cs' := [19, 20, 21, 30, 31, 32, 33]) f1 (by decide) (by decide)) (Fr_w g1 (by decide) (by decide))
  have m1 : LawM S1 n kd lx ly dr := by
    have e := rs_fr (fb := mF fML) (cb := mC cML) f4 rfl rfl
    have : LawM (rs (mF fML) (mC cML) S1) n kd lx ly dr := by rw [e]; exact l2
    exact this
  refine ⟨S1, e, m1.1, Rel_la h f3 rfl rfl rfl rfl (D_La (n := n + 1) (w := w) (kd := upN kd n k) (lx := upN lx n s) (ly := upN ly n v) (dr := upN dr n false) ⟨⟨?_, LawM_add m1, ?_⟩, ⟨?_, ?_, ?_⟩, ?_, Or.inl ?_, Or.inl ?_⟩)⟩
  · have e := rs_fr (fb := mF [(18, 0)]) (cb := mC [19, 20, 21, 22]) (Fr_tr (Fr_w g1 (fs' := [(29, 2), (29, 9), (36, 1), (43, 9)]) (cs' := [30, 31, 32, 33, 52, 53, 54, 55]) (by decide) (by decide)) (Fr_w f2 (by decide) (by decide))) rfl rfl
    have : LawC (rs (mF [(18, 0)]) (mC [19, 20, 21, 22]) (sF (sA (sA (sA (sA S1 52 n (nI k)) 53 n (nI s)) 54 n (nI v)) 55 n 0) 43 9 (nI (n + 1)))) (n + 1) (upN kd n k) (upN lx n s) (upN ly n v) (upN dr n false) := by rw [e]; exact c1
    exact this
  · intro l hl
    by_cases z : l = n
    · subst z
      rw [upN_eq, upN_eq, upN_eq]
      exact hV
    · rw [upN_ne z, upN_ne z, upN_ne z]
      exact l3 l (by omega)
  · obtain ⟨a1, a2, a3⟩ := t1
    exact ⟨(f3.1 29 0 (by decide)).trans a1, (f3.1 29 1 (by decide)).trans a2, a3⟩
  · exact (f3.1 43 22 (by decide)).trans t2
  · obtain ⟨a1, a2, a3, a4⟩ := g2
    refine ⟨(f2.1 29 2 (by decide)).trans a1, ?_, ?_, ?_⟩
    · rw [(f2.2 30 (by decide)).1]; exact a2
    · rw [(f2.2 31 (by decide)).1]; exact a3
    · rw [(f2.2 32 (by decide)).1]; exact a4
  · rw [(f2.2 33 (by decide)).1]
    exact MO_none g5
  · exact (f2.1 29 9 (by decide)).trans g3
  · exact (f2.1 36 1 (by decide)).trans g4
theorem looksAtY_s {μ : MM} {k : Nat} (hk : k < 6) : Rc 144 [.int (nI k)] μ = some (some (.int (bI (k ≠ 1 ∧ k ≠ 3))), μ) := by
  refine Rc_of rfl rfl (B_X7_looksAtY_0 μ _ ?_)
  rcases (by omega : k = 0 ∨ k = 1 ∨ k = 2 ∨ k = 3 ∨ k = 4 ∨ k = 5) with rfl | rfl | rfl | rfl | rfl | rfl <;> rfl
theorem one_c : ∀ s, s < 256 → pcn s = 1 → ∃ c, c < 8 ∧ s = 2 ^ c := by decide +kernel
theorem one_m : ∀ s, s < 256 → ((nI s ≤ 0) = False ∨ s = 0) ∧ ((nI s &&& (nI s - 1) = 0) ↔ (pcn s = 1 ∨ s = 0)) := by
  intro s hs
  refine ⟨?_, ?_⟩
  · by_cases z : s = 0
    · exact Or.inr z
    · exact Or.inl (le0_F (by omega) (by omega))
  · exact (by decide +kernel : ∀ s, s < 256 → ((nI s &&& (nI s - 1) = 0) ↔ (pcn s = 1 ∨ s = 0))) s hs
theorem isOneColumn_s {μ : MM} {s : Nat} (hs : s < 256) : Rc 143 [.int (nI s)] μ = some (some (.int (bI (pcn s = 1))), μ) := by
  have q : rg (nI s) 256 := (rg_n (by omega) (by decide)).mpr hs
  refine Rc_of rfl rfl (B_X7_isOneColumn_0 μ _ ?_)
  have e : nI (pcn s) = 1 ↔ pcn s = 1 := nI_eq (b := 1) (by unfold pcn; omega) (by decide)
  simp (disch := first | omega | assumption | exact bI_01 | exact Or.inl rfl | exact Or.inr rfl) only [↓reduceIte, ↓if_bI, ↓if10, ↓if00, bI_eq0, not_false_eq_true, not_true_eq_false, and_true, true_and, and_false, false_and, or_true, true_or, or_false, false_or, ↓c_Is, ↓c_Js, ↓c_Vs, ↓c_An, ↓c_Ar, ↓o_0, ↓q_0_0, ↓q_0_1, ↓q_0_2, ↓q_0_3, ↓q_0_4, ↓q_0_5, ↓q_0_6, ↓q_0_7, ↓w_0_7, ↓o_18, ↓q_18_0, ↓w_18_0, ↓q_18_1, ↓q_18_2, ↓q_18_3, ↓q_18_4, ↓a_19, ↓s_19, ↓a_20, ↓s_20, ↓a_21, ↓s_21, ↓a_22, ↓s_22, ↓o_23, ↓q_23_0, ↓w_23_0, ↓q_23_1, ↓w_23_1, ↓o_24, ↓q_24_0, ↓w_24_0, ↓q_24_1, ↓q_24_2, ↓q_24_3, ↓w_24_3, ↓q_24_4, ↓q_24_5, ↓a_25, ↓s_25, ↓a_26, ↓s_26, ↓a_27, ↓s_27, ↓a_28, ↓s_28, ↓o_29, ↓q_29_0, ↓w_29_0, ↓q_29_1, ↓w_29_1, ↓q_29_2, ↓w_29_2, ↓q_29_3, ↓q_29_4, ↓q_29_5, ↓q_29_6, ↓q_29_7, ↓w_29_7, ↓q_29_8, ↓q_29_9, ↓w_29_9, ↓q_29_10, ↓w_29_10, ↓q_29_11, ↓a_30, ↓s_30, ↓a_31, ↓s_31, ↓a_32, ↓s_32, ↓a_33, ↓s_33, ↓a_34, ↓s_34, ↓a_35, ↓s_35, ↓o_36, ↓q_36_0, ↓q_36_1, ↓w_36_1, ↓q_36_2, ↓w_36_2, ↓q_36_3, ↓q_36_4, ↓a_37, ↓s_37, ↓a_38, ↓s_38, ↓o_39, ↓q_39_0, ↓q_39_1, ↓w_39_1, ↓q_39_2, ↓q_39_3, ↓w_39_3, ↓q_39_4, ↓q_39_5, ↓a_40, ↓s_40, ↓a_41, ↓s_41, ↓a_42, ↓s_42, ↓o_43, ↓q_43_0, ↓w_43_0, ↓q_43_1, ↓q_43_2, ↓q_43_3, ↓q_43_4, ↓q_43_5, ↓q_43_6, ↓q_43_7, ↓q_43_8, ↓q_43_9, ↓w_43_9, ↓q_43_10, ↓q_43_11, ↓q_43_12, ↓q_43_13, ↓q_43_14, ↓w_43_14, ↓q_43_15, ↓w_43_15, ↓q_43_16, ↓q_43_17, ↓w_43_17, ↓q_43_18, ↓w_43_18, ↓q_43_19, ↓q_43_20, ↓q_43_21, ↓q_43_22, ↓w_43_22, ↓q_43_23, ↓w_43_23, ↓q_43_24, ↓q_43_25, ↓q_43_26, ↓w_43_26, ↓q_43_27, ↓q_43_28, ↓q_43_29, ↓w_43_29, ↓q_43_30, ↓q_43_31, ↓q_43_32, ↓q_43_33, ↓w_43_33, ↓q_43_34, ↓q_43_35, ↓q_43_36, ↓a_44, ↓s_44, ↓a_45, ↓s_45, ↓a_46, ↓s_46, ↓a_47, ↓s_47, ↓a_48, ↓s_48, ↓a_49, ↓s_49, ↓a_50, ↓s_50, ↓a_51, ↓s_51, ↓a_52, ↓s_52, ↓a_53, ↓s_53, ↓a_54, ↓s_54, ↓a_55, ↓s_55, ↓a_56, ↓s_56, ↓a_57, ↓s_57, ↓a_58, ↓s_58, ↓a_59, ↓s_59, ↓a_60, ↓s_60, ↓a_61, ↓s_61, ↓a_62, ↓s_62, ↓a_63, ↓s_63, ↓a_64, ↓s_64, ↓a_65, ↓s_65, ↓a_66, ↓s_66, ↓a_67, ↓s_67, ↓a_68, ↓s_68, ↓a_69, ↓s_69, ↓a_1, le0_T, le0_F, addm1, sA_1, sA_22, sL_1, sL_21, sF_2, sA_eq, sA_ne, sA_nj, sL_eq, sL_ne, sL_nj, sF_eq, sF_ne, sF_nj, le_T, le_F, lt_T, lt_F, lt0_F, eq_T, eq_F, eq_N, m9_F, m1_F, z_F, z_N, l2, l3, l4, l5, l6, l8, l12, l24, l40, l70, l96, l255, l256, l280, l320, c_Is, c_Js, c_Vs, c_An, c_Ar, if_bI, rI0, rI1, rIb, if00, if10, lg0, nI_1, nI_add, sub_1, sub_N, if_true, if_false, ite_true, ite_false, ge0_T, ge0_F, in_d, in_e, mul_n, a_47, s_47, a_48, s_48, a_49, s_49, a_42, s_42, a_69, s_69, a_59, a_63, a_28, a_50, s_50, a_51, s_51, ↓cI (isSet_s _), ↓if_pos q, ↓cI (bitCount_s hs)]
  by_cases z : pcn s = 1
  · rw [if_pos (e.mpr z), bI_t z]
  · rw [if_neg (fun w => z (e.mp w)), bI_f z]
theorem isOneColumn_x {μ : MM} {x : Int32} (q : ¬ rg x 256) : Rc 143 [.int x] μ = some (some (.int 0), μ) := by
  refine Rc_of rfl rfl (B_X7_isOneColumn_0 μ _ ?_)
  simp (disch := first | omega | assumption | exact bI_01 | exact Or.inl rfl | exact Or.inr rfl) only [↓reduceIte, ↓if_bI, ↓if10, ↓if00, bI_eq0, not_false_eq_true, not_true_eq_false, and_true, true_and, and_false, false_and, or_true, true_or, or_false, false_or, ↓c_Is, ↓c_Js, ↓c_Vs, ↓c_An, ↓c_Ar, ↓o_0, ↓q_0_0, ↓q_0_1, ↓q_0_2, ↓q_0_3, ↓q_0_4, ↓q_0_5, ↓q_0_6, ↓q_0_7, ↓w_0_7, ↓o_18, ↓q_18_0, ↓w_18_0, ↓q_18_1, ↓q_18_2, ↓q_18_3, ↓q_18_4, ↓a_19, ↓s_19, ↓a_20, ↓s_20, ↓a_21, ↓s_21, ↓a_22, ↓s_22, ↓o_23, ↓q_23_0, ↓w_23_0, ↓q_23_1, ↓w_23_1, ↓o_24, ↓q_24_0, ↓w_24_0, ↓q_24_1, ↓q_24_2, ↓q_24_3, ↓w_24_3, ↓q_24_4, ↓q_24_5, ↓a_25, ↓s_25, ↓a_26, ↓s_26, ↓a_27, ↓s_27, ↓a_28, ↓s_28, ↓o_29, ↓q_29_0, ↓w_29_0, ↓q_29_1, ↓w_29_1, ↓q_29_2, ↓w_29_2, ↓q_29_3, ↓q_29_4, ↓q_29_5, ↓q_29_6, ↓q_29_7, ↓w_29_7, ↓q_29_8, ↓q_29_9, ↓w_29_9, ↓q_29_10, ↓w_29_10, ↓q_29_11, ↓a_30, ↓s_30, ↓a_31, ↓s_31, ↓a_32, ↓s_32, ↓a_33, ↓s_33, ↓a_34, ↓s_34, ↓a_35, ↓s_35, ↓o_36, ↓q_36_0, ↓q_36_1, ↓w_36_1, ↓q_36_2, ↓w_36_2, ↓q_36_3, ↓q_36_4, ↓a_37, ↓s_37, ↓a_38, ↓s_38, ↓o_39, ↓q_39_0, ↓q_39_1, ↓w_39_1, ↓q_39_2, ↓q_39_3, ↓w_39_3, ↓q_39_4, ↓q_39_5, ↓a_40, ↓s_40, ↓a_41, ↓s_41, ↓a_42, ↓s_42, ↓o_43, ↓q_43_0, ↓w_43_0, ↓q_43_1, ↓q_43_2, ↓q_43_3, ↓q_43_4, ↓q_43_5, ↓q_43_6, ↓q_43_7, ↓q_43_8, ↓q_43_9, ↓w_43_9, ↓q_43_10, ↓q_43_11, ↓q_43_12, ↓q_43_13, ↓q_43_14, ↓w_43_14, ↓q_43_15, ↓w_43_15, ↓q_43_16, ↓q_43_17, ↓w_43_17, ↓q_43_18, ↓w_43_18, ↓q_43_19, ↓q_43_20, ↓q_43_21, ↓q_43_22, ↓w_43_22, ↓q_43_23, ↓w_43_23, ↓q_43_24, ↓q_43_25, ↓q_43_26, ↓w_43_26, ↓q_43_27, ↓q_43_28, ↓q_43_29, ↓w_43_29, ↓q_43_30, ↓q_43_31, ↓q_43_32, ↓q_43_33, ↓w_43_33, ↓q_43_34, ↓q_43_35, ↓q_43_36, ↓a_44, ↓s_44, ↓a_45, ↓s_45, ↓a_46, ↓s_46, ↓a_47, ↓s_47, ↓a_48, ↓s_48, ↓a_49, ↓s_49, ↓a_50, ↓s_50, ↓a_51, ↓s_51, ↓a_52, ↓s_52, ↓a_53, ↓s_53, ↓a_54, ↓s_54, ↓a_55, ↓s_55, ↓a_56, ↓s_56, ↓a_57, ↓s_57, ↓a_58, ↓s_58, ↓a_59, ↓s_59, ↓a_60, ↓s_60, ↓a_61, ↓s_61, ↓a_62, ↓s_62, ↓a_63, ↓s_63, ↓a_64, ↓s_64, ↓a_65, ↓s_65, ↓a_66, ↓s_66, ↓a_67, ↓s_67, ↓a_68, ↓s_68, ↓a_69, ↓s_69, ↓a_1, le0_T, le0_F, addm1, sA_1, sA_22, sL_1, sL_21, sF_2, sA_eq, sA_ne, sA_nj, sL_eq, sL_ne, sL_nj, sF_eq, sF_ne, sF_nj, le_T, le_F, lt_T, lt_F, lt0_F, eq_T, eq_F, eq_N, m9_F, m1_F, z_F, z_N, l2, l3, l4, l5, l6, l8, l12, l24, l40, l70, l96, l255, l256, l280, l320, c_Is, c_Js, c_Vs, c_An, c_Ar, if_bI, rI0, rI1, rIb, if00, if10, lg0, nI_1, nI_add, sub_1, sub_N, if_true, if_false, ite_true, ite_false, ge0_T, ge0_F, in_d, in_e, mul_n, a_47, s_47, a_48, s_48, a_49, s_49, a_42, s_42, a_69, s_69, a_59, a_63, a_28, a_50, s_50, a_51, s_51, ↓cI (isSet_s _), ↓if_neg q]
theorem isOne_s {μ : MM} {s : Nat} (hs : s < 256) : Rc 187 [.int (nI s)] μ = some (some (.int (bI (pcn s = 1))), μ) := by
  obtain ⟨o1, o2⟩ := one_m s hs
  refine Rc_of rfl rfl (B_X8_isOne_0 μ _ ?_)
  by_cases z : s = 0
  · subst z
    rfl
  · have e1 : ¬ nI s ≤ 0 := by rw [o1.resolve_right z]; exact id
    rw [if_neg e1]
    by_cases z2 : pcn s = 1
    · rw [if_pos (o2.mpr (Or.inl z2)), rI1, bI_t z2]
    · rw [if_neg (fun w => (o2.mp w).elim z2 z), rI0, bI_f z2]
end LAW2
