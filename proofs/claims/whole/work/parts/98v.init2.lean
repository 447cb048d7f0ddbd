/-! NEW OBJECTS: the class's, the reference's -/
section KF
variable {sc : RE} {R D : List RE} {z d e n ci j mi : Nat} {fs : List Value} {K : MM → Option RT} {q : RT}
theorem kf_st {as : List Value} (hl : R.length + 1 = n) (h : n < 1000) (hc : Rc mi (.ref n :: as) (pm sc ((.inr (7, fs) :: R) ++ [.inr (ci, mm_dfl ci)]) (z + d)) = some (none, pm sc ((.inr (7, fs) :: R) ++ D) (z + d + e))) (hj : Nat.blt j fs.length = true) (hK : K (pm sc (.inr (7, fs.set j (.ref n)) :: (R ++ D)) (z + d + e)) = some q) : (if (pm sc (.inr (7, fs) :: R) z).1 < 1000 then (fun μ1 => c_O μ1 (.ref (pm sc (.inr (7, fs) :: R) z).1 :: as) ci (c_V (Rc mi (.ref (pm sc (.inr (7, fs) :: R) z).1 :: as) μ1) fun μ2 => p_F μ2 0 7 j 2 (.ref (pm sc (.inr (7, fs) :: R) z).1) K)) (n_C (pm sc (.inr (7, fs) :: R) z) d (.inr (ci, mm_dfl ci))) else none) = some q := by
  have hl' : (Sum.inr (7, fs) :: R : List RE).length = n := hl
  rw [pm_1, hl']
  exact nw_i hl' h hc (pF_pm (l := []) hj rfl (by decide) hK)
theorem kf_st2 {t : Nat} (hl : R.length + 1 = n) (h : n < 1000) (ht : fs[4]? = some (.ref t)) (hc : Rc mi [.ref n, .ref t] (pm sc ((.inr (7, fs) :: R) ++ [.inr (ci, mm_dfl ci)]) (z + d)) = some (none, pm sc ((.inr (7, fs) :: R) ++ D) (z + d + e))) (hj : Nat.blt j fs.length = true) (hK : K (pm sc (.inr (7, fs.set j (.ref n)) :: (R ++ D)) (z + d + e)) = some q) : (if (pm sc (.inr (7, fs) :: R) z).1 < 1000 then (fun μ1 => g_R μ1 0 7 4 fun a => c_O μ1 [.ref (pm sc (.inr (7, fs) :: R) z).1, .ref a] ci (c_V (Rc mi [.ref (pm sc (.inr (7, fs) :: R) z).1, .ref a] μ1) fun μ2 => p_F μ2 0 7 j 2 (.ref (pm sc (.inr (7, fs) :: R) z).1) K)) (n_C (pm sc (.inr (7, fs) :: R) z) d (.inr (ci, mm_dfl ci))) else none) = some q := by
  have hl' : (Sum.inr (7, fs) :: R : List RE).length = n := hl
  rw [pm_1, hl', if_pos h]
  dsimp only
  rw [nC_pm (by omega)]
  refine (gR_pm (l := []) (by decide) ht).trans ?_
  have e1 := cO_pm (sc := sc) (l := (Sum.inr (7, fs) :: R : List RE)) (ci := ci) (fs := mm_dfl ci) (r := []) (z := z + d) (as := [.ref t]) (X := c_V (Rc mi [.ref n, .ref t] (pm sc ((.inr (7, fs) :: R) ++ [.inr (ci, mm_dfl ci)]) (z + d))) fun μ2 => p_F μ2 0 7 j 2 (.ref n) K) (by omega)
  rw [hl'] at e1
  refine e1.trans ?_
  rw [hc]
  exact pF_pm (l := []) hj rfl (by decide) hK
theorem wQ_pm {o : RE} {f : Nat → Option Nat} {D' : List RE} {i : Nat} (hi : i < 4) (hR : R.length < 900) (hK : K (pm sc (o :: .inl (4, 4, .inr (.inr (.inr (.inr (va_up f i (some (R.length + 2))))))) :: (R ++ .inr (5, fs) :: D')) z) = some q) : w_Q (pm sc (o :: .inl (4, 4, .inr (.inr (.inr (.inr f)))) :: (R ++ .inr (5, fs) :: D')) z) 1 (nI i) (R.length + 2) K = some q := by
  have e1 : (pm sc (o :: .inl (4, 4, .inr (.inr (.inr (.inr f)))) :: (R ++ .inr (5, fs) :: D')) z).2.2 1 = .inl (4, 4, .inr (.inr (.inr (.inr f)))) := pm_at (l := [o]) (by simp)
  have e2 : (pm sc (o :: .inl (4, 4, .inr (.inr (.inr (.inr f)))) :: (R ++ .inr (5, fs) :: D')) z).2.2 (R.length + 2) = .inr (5, fs) := pm_at (l := o :: .inl (4, 4, .inr (.inr (.inr (.inr f)))) :: R) (by simp; omega)
  have e3 := pm_up (sc := sc) (l := [o]) (x := .inl (4, 4, .inr (.inr (.inr (.inr f))))) (r := R ++ .inr (5, fs) :: D') (z := z) (by simp) (.inl (4, 4, .inr (.inr (.inr (.inr (va_up f i (some (R.length + 2))))))))
  have l1 : 1 < (pm sc (o :: .inl (4, 4, .inr (.inr (.inr (.inr f)))) :: (R ++ .inr (5, fs) :: D')) z).1 := by simp [pm]
  have l2' : R.length + 2 < (pm sc (o :: .inl (4, 4, .inr (.inr (.inr (.inr f)))) :: (R ++ .inr (5, fs) :: D')) z).1 := by
    simp only [pm_1, List.length_cons, List.length_append]
    omega
  unfold w_Q
  rw [e1, e2]
  dsimp only
  rw [if_pos ⟨l1, l2', rfl, rfl, mm_in_n hi (by decide)⟩, nI_clamp (by omega)]
  exact (congrArg K e3).trans hK
theorem kt_step {f : Nat → Option Nat} {i : Nat} (hi : i < 4) (hfs : fs[0]? = some (.ref 1)) (hR : R.length < 800) (hK : Rs 92 14 [.ref 0, .int (nI (i + 1))] [] (pm sc (.inr (7, fs) :: .inl (4, 4, .inr (.inr (.inr (.inr (va_up f i (some (R.length + 2))))))) :: (R ++ tabC (R.length + 2))) (z + 7 + 392)) = some q) : Rs 92 14 [.ref 0, .int (nI i)] [] (pm sc (.inr (7, fs) :: .inl (4, 4, .inr (.inr (.inr (.inr f)))) :: R) z) = some q := by
  refine B_X7_init_14 _ _ _ ?_
  rw [if_neg (show ¬ (4 : Int32) ≤ nI i from nI_ge (a := i) (b := 4) (by omega) (by decide))]
  refine (gR_pm (l := []) (by decide) hfs).trans ?_
  refine nw_i (n := R.length + 2) (as := []) (D := tabC (R.length + 2)) (e := 392) rfl (by omega) (tab_i (l := .inr (7, fs) :: .inl (4, 4, .inr (.inr (.inr (.inr f)))) :: R) (by simp; omega)) ?_
  refine wQ_pm hi (by omega) ?_
  rw [nI_1]
  exact hK
theorem kf_end {T : RE} (hR : R.length = 16) : Rs 92 14 [.ref 0, .int (nI 4)] [] (pm sc (.inr (7, [.ref 1, .null, .null, .null, .null, .null, .null, .int 0]) :: T :: R) z) = some (none, pm sc (.inr (7, [.ref 1, .ref 18, .ref 23, .ref 24, .ref 29, .ref 36, .ref 39, .int 0]) :: (T :: R ++ lawsC 18 ++ judC ++ seaC 24 ++ thyC 29 ++ covC 36 29 ++ parC 39 29)) (z + 5 + 160 + 2 + 0 + 6 + 1092 + 12 + 454 + 5 + 640 + 6 + 429)) := by
  refine B_X7_init_14 _ _ _ ?_
  rw [if_pos (show (4 : Int32) ≤ nI 4 by decide)]
  have hT : (T :: R).length = 17 := by simp [hR]
  generalize hU : T :: R = U at *
  refine kf_st (n := 18) (as := []) (D := lawsC 18) (e := 160) (by omega) (by decide) ?_ rfl ?_
  · have e := laws_i (sc := sc) (l := .inr (7, [.ref 1, .null, .null, .null, .null, .null, .null, .int 0]) :: U) (z := z + 5) (by simp; omega)
    rw [List.length_cons, hT] at e
    exact e
  have h1 : (U ++ lawsC 18).length = 22 := by simp [hT, lawsC]
  generalize hU1 : U ++ lawsC 18 = U1 at *
  refine kf_st (n := 23) (as := []) (D := judC) (e := 0) (by omega) (by decide) ?_ rfl ?_
  · have e := jud_i (sc := sc) (l := .inr (7, [.ref 1, .ref 18, .null, .null, .null, .null, .null, .int 0]) :: U1) (z := z + 5 + 160 + 2) (by simp; omega)
    rw [List.length_cons, h1] at e
    exact e
  have h2 : (U1 ++ judC).length = 23 := by simp [h1, judC]
  generalize hU2 : U1 ++ judC = U2 at *
  refine kf_st (n := 24) (as := []) (D := seaC 24) (e := 1092) (by omega) (by decide) ?_ rfl ?_
  · have e := sea_i (sc := sc) (l := .inr (7, [.ref 1, .ref 18, .ref 23, .null, .null, .null, .null, .int 0]) :: U2) (z := z + 5 + 160 + 2 + 0 + 6) (by simp; omega)
    rw [List.length_cons, h2] at e
    exact e
  have h3 : (U2 ++ seaC 24).length = 28 := by simp [h2, seaC]
  generalize hU3 : U2 ++ seaC 24 = U3 at *
  refine kf_st (n := 29) (as := []) (D := thyC 29) (e := 454) (by omega) (by decide) ?_ rfl ?_
  · have e := thy_i (sc := sc) (l := .inr (7, [.ref 1, .ref 18, .ref 23, .ref 24, .null, .null, .null, .int 0]) :: U3) (z := z + 5 + 160 + 2 + 0 + 6 + 1092 + 12) (by simp; omega)
    rw [List.length_cons, h3] at e
    exact e
  have h4 : (U3 ++ thyC 29).length = 35 := by simp [h3, thyC]
  generalize hU4 : U3 ++ thyC 29 = U4 at *
  refine kf_st2 (n := 36) (t := 29) (D := covC 36 29) (e := 640) (by omega) (by decide) rfl ?_ rfl ?_
  · have e := cov_i (sc := sc) (l := .inr (7, [.ref 1, .ref 18, .ref 23, .ref 24, .ref 29, .null, .null, .int 0]) :: U4) (t := 29) (z := z + 5 + 160 + 2 + 0 + 6 + 1092 + 12 + 454 + 5) (by simp; omega)
    rw [List.length_cons, h4] at e
    exact e
  have h5 : (U4 ++ covC 36 29).length = 38 := by simp [h4, covC]
  generalize hU5 : U4 ++ covC 36 29 = U5 at *
  refine kf_st2 (n := 39) (t := 29) (D := parC 39 29) (e := 429) (by omega) (by decide) rfl ?_ rfl ?_
  · have e := par_i (sc := sc) (l := .inr (7, [.ref 1, .ref 18, .ref 23, .ref 24, .ref 29, .ref 36, .null, .int 0]) :: U5) (t := 29) (z := z + 5 + 160 + 2 + 0 + 6 + 1092 + 12 + 454 + 5 + 640 + 6) (by simp; omega)
    rw [List.length_cons, h5] at e
    exact e
  exact pF_pm (l := []) rfl rfl (by decide) rfl
end KF
