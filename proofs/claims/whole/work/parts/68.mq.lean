/-! THE LAWS in force, here and there, by lists alone -/
def mq (S : SS) (w F : Nat) (fx fy : Nat → Nat) (L : List Nat) : Prop := ∃ n kd lx ly dr, MLa S n w kd lx ly dr ∧ F = FN n kd dr ∧ fx = FX w n kd lx dr ∧ fy = FY w n kd ly dr ∧ L = fo kd dr n
def KC (S : SS) (w F : Nat) (fx fy : Nat → Nat) : Prop := S.1 29 9 = 0 ∨ (S.1 29 9 = 1 ∧ KeC S (kl F fx fy (2 ^ w - 1) (2 ^ w)))
def VC (S : SS) (F : Nat) (fx fy : Nat → Nat) : Prop := S.1 36 1 = 0 ∨ (S.1 36 1 = 1 ∧ CvC S (cov F fx fy))
section MQS
variable {sc : RE} {S S' : SS} {w F : Nat} {fx fy : Nat → Nat} {L : List Nat} {fs : List (Nat × Nat)} {cs : List Nat}
theorem mq_fr (hf : Fr fs cs S S') (h1 : offF fML fs = true) (h2 : offC cML cs = true) (h : mq S w F fx fy L) : mq S' w F fx fy L := by
  obtain ⟨n, kd, lx, ly, dr, h3, h4⟩ := h
  exact ⟨n, kd, lx, ly, dr, ML_fr hf h1 h2 h3, h4⟩
theorem mq_w (h : mq S w F fx fy L) : S.1 43 22 = nI w ∧ 1 ≤ w ∧ w ≤ 8 := by
  obtain ⟨n, kd, lx, ly, dr, h3, h4⟩ := h
  exact ⟨h3.2.1, h3.2.2.1, h3.2.2.2.1⟩
theorem mq_F (h : mq S w F fx fy L) : F = L.length ∧ F ≤ 40 := by
  obtain ⟨n, kd, lx, ly, dr, h3, rfl, rfl, rfl, rfl⟩ := h
  refine ⟨rfl, ?_⟩
  have := fo_len kd dr n
  have := h3.2.2.2.2.1
  unfold FN
  omega
theorem mq_y (h : mq S w F fx fy L) : ∀ k, k < F → fy k < 256 := by
  obtain ⟨n, kd, lx, ly, dr, h3, rfl, rfl, rfl, rfl⟩ := h
  exact FY_lt h3.2.2.2.1
theorem sub_all_and (a b : Nat) : sub (a &&& b) b := by
  show (a &&& b) &&& b = a &&& b
  rw [Nat.and_assoc, Nat.and_self]
theorem mq_sub (h : mq S w F fx fy L) : ∀ k, sub (fx k) (2 ^ w - 1) ∧ sub (fy k) (2 ^ w - 1) := by
  obtain ⟨n, kd, lx, ly, dr, h3, rfl, rfl, rfl, rfl⟩ := h
  intro k
  refine ⟨sub_all_and _ _, ?_⟩
  show sub (too w kd ly _) _
  unfold too
  split
  · exact sub_refl _
  · exact sub_all_and _ _
theorem mq_L (h : mq S w F fx fy L) : ∀ k, k < F → L.getD k 0 < 40 := by
  obtain ⟨n, kd, lx, ly, dr, h3, rfl, rfl, rfl, rfl⟩ := h
  intro k hk
  have := fo_n hk
  have := h3.2.2.2.2.1
  omega
theorem closed_q (h : mq S w F fx fy L) {x : Nat} (hx : x < 256) : Rc 212 [.ref 43, .int (nI x)] (enc sc S) = some (some (.int (nI (clo F fx fy x))), enc sc S) := by
  obtain ⟨n, kd, lx, ly, dr, h3, rfl, rfl, rfl, rfl⟩ := h
  exact closed_s h3 hx
theorem adding_q (h : mq S w F fx fy L) {s : Nat} (hs : s < 256) : Rc 211 [.ref 43, .int (nI s)] (enc sc S) = some (some (.int (if nf F fx fy s < F then nI (L.getD (nf F fx fy s) 0) else -1)), enc sc S) := by
  obtain ⟨n, kd, lx, ly, dr, h3, rfl, rfl, rfl, rfl⟩ := h
  exact adding_s h3 hs
theorem to_q (h : mq S w F fx fy L) {k : Nat} (hk : k < F) : Rc 209 [.ref 43, .int (nI (L.getD k 0))] (enc sc S) = some (some (.int (nI (fy k))), enc sc S) := by
  obtain ⟨n, kd, lx, ly, dr, h3, rfl, rfl, rfl, rfl⟩ := h
  exact to_s h3 (fo_n hk)
theorem from_q (h : mq S w F fx fy L) {k : Nat} (hk : k < F) : Rc 208 [.ref 43, .int (nI (L.getD k 0))] (enc sc S) = some (some (.int (nI (fx k))), enc sc S) := by
  obtain ⟨n, kd, lx, ly, dr, h3, rfl, rfl, rfl, rfl⟩ := h
  exact from_s h3 (fo_n hk)
theorem all_q (h : mq S w F fx fy L) : Rc 205 [.ref 43] (enc sc S) = some (some (.int (nI (2 ^ w - 1))), enc sc S) := all_s (mq_w h).1 (mq_w h).2.2
theorem within_q (h : mq S w F fx fy L) (x : Int32) : Rc 206 [.ref 43, .int x] (enc sc S) = some (some (.int (bI (wi x (nI (2 ^ w - 1))))), enc sc S) := isWithinM_s (mq_w h).1 (mq_w h).2.2 x
/-- closures of what is within ALL are within ALL -/
theorem clo_all (h : mq S w F fx fy L) {s : Nat} (hs : sub s (2 ^ w - 1)) : sub (clo F fx fy s) (2 ^ w - 1) := clo_le _ _ _ hs (fun k _ _ => (mq_sub h k).2)
def LQ (S : SS) (w F : Nat) (fx fy : Nat → Nat) (L : List Nat) : Prop := WiC S w ∧ FD S F fx fy ∧ Hl (S.2.1 30) L ∧ F = L.length ∧ mq S w F fx fy L ∧ MO F fx fy (S.2.1 33) ∧ KC S w F fx fy ∧ VC S F fx fy
theorem mF_app {l l' : List (Nat × Nat)} (h : offF (l ++ l') fs = true) : offF l fs = true ∧ offF l' fs = true := by
  unfold offF mF at h
  simp only [List.any_append, Bool.not_or] at h
  have h1 := List.all_eq_true.mp h
  refine ⟨List.all_eq_true.mpr fun p hp => ?_, List.all_eq_true.mpr fun p hp => ?_⟩
  · exact ((Bool.and_eq_true _ _).mp (h1 p hp)).1
  · exact ((Bool.and_eq_true _ _).mp (h1 p hp)).2
theorem mC_app {l l' : List Nat} (h : offC (l ++ l') cs = true) : offC l cs = true ∧ offC l' cs = true := by
  unfold offC mC at h
  simp only [List.any_append, Bool.not_or] at h
  have h1 := List.all_eq_true.mp h
  refine ⟨List.all_eq_true.mpr fun p hp => ?_, List.all_eq_true.mpr fun p hp => ?_⟩
  · exact ((Bool.and_eq_true _ _).mp (h1 p hp)).1
  · exact ((Bool.and_eq_true _ _).mp (h1 p hp)).2
theorem La_q (h : LaR S) : ∃ w F fx fy L, LQ S w F fx fy L ∧ ∀ (S' : SS) (fs : List (Nat × Nat)) (cs : List Nat), Fr fs cs S S' → offF (fLw ++ fT0) fs = true → offC (cLw ++ cT0) cs = true → MO F fx fy (S'.2.1 33) → KC S' w F fx fy → VC S' F fx fy → LaR S' := by
  obtain ⟨n, w, kd, lx, ly, dr, hd⟩ := La_D h
  refine ⟨w, FN n kd dr, FX w n kd lx dr, FY w n kd ly dr, fo kd dr n, ⟨hd.2.1.1, D_FD hd, hd.2.1.2.2.2.1, rfl, ⟨n, kd, lx, ly, dr, D_ML hd, rfl, rfl, rfl, rfl⟩, hd.2.2.1, hd.2.2.2.1, hd.2.2.2.2⟩, ?_⟩
  intro S' fs cs hf h1 h2 hm hk hv
  have a1 := mF_app h1
  have a2 := mC_app h2
  exact D_La ⟨Law2_fr hf a1.1 a2.1 hd.1, Th0_fr hf a1.2 a2.2 hd.2.1, hm, hk, hv⟩
theorem KC_fr (hf : Fr fs cs S S') (h1 : offF fT1 fs = true) (h2 : offC cT1 cs = true) (hj : KC S w F fx fy) : KC S' w F fx fy := by
  have e := rs_fr (fb := mF fT1) (cb := mC cT1) hf h1 h2
  have : KC (rs (mF fT1) (mC cT1) S') w F fx fy := by rw [e]; exact hj
  exact this
theorem VC_fr (hf : Fr fs cs S S') (h1 : offF fT2 fs = true) (h2 : offC cT2 cs = true) (hj : VC S F fx fy) : VC S' F fx fy := by
  have e := rs_fr (fb := mF fT2) (cb := mC cT2) hf h1 h2
  have : VC (rs (mF fT2) (mC cT2) S') F fx fy := by rw [e]; exact hj
  exact this
theorem FDq_fr (hf : Fr fs cs S S') (h1 : offF [(29, 2)] fs = true) (h2 : offC [31, 32] cs = true) (hj : FD S F fx fy) : FD S' F fx fy := by
  have e := rs_fr (fb := mF [(29, 2)]) (cb := mC [31, 32]) hf h1 h2
  have : FD (rs (mF [(29, 2)]) (mC [31, 32]) S') F fx fy := by rw [e]; exact hj
  exact this
theorem WiC_fr (hf : Fr fs cs S S') (h1 : offF [(29, 0), (29, 1)] fs = true) (hj : WiC S w) : WiC S' w := by
  have e := rs_fr (fb := mF [(29, 0), (29, 1)]) (cb := fun _ => false) hf h1 (by induction cs <;> simp [*])
  have : WiC (rs (mF [(29, 0), (29, 1)]) (fun _ => false) S') w := by rw [e]; exact hj
  exact this
end MQS
/-! THE CALL follows -/
section FOL
variable {sc : RE} {S : SS} {w F : Nat} {fx fy : Nat → Nat} {L : List Nat}
theorem cl_suc {x k : Nat} (q : nf F fx fy (cl F fx fy k x) < F) : cl F fx fy (k + 1) x = cl F fx fy k x ||| fy (nf F fx fy (cl F fx fy k x)) := by
  show cst F fx fy (cl F fx fy k x) = _
  unfold cst
  rw [if_pos q]
theorem sn_eq {x y k : Nat} (q : sub y (cl F fx fy k x)) (hk : k ≤ 8) (hno : ∀ j, j < k → ¬ sub y (cl F fx fy j x)) : sn F fx fy x y = k := by
  unfold sn
  by_cases h8 : k = 8
  · subst h8
    have h1 := fa_first_le (fun n => decide (sub y (cl F fx fy n x))) 8
    refine Classical.byContradiction fun z => ?_
    have h2 := fa_first_yes (fun n => decide (sub y (cl F fx fy n x))) 8 (by omega)
    exact hno _ (by omega) (of_decide_eq_true h2)
  · have h1 : fa_first (fun n => decide (sub y (cl F fx fy n x))) 8 < 8 := ff_iff.mpr ⟨k, by omega, decide_eq_true q⟩
    rcases Nat.lt_trichotomy (fa_first (fun n => decide (sub y (cl F fx fy n x))) 8) k with z | z | z
    · exact absurd (of_decide_eq_true (fa_first_yes _ 8 h1)) (hno _ z)
    · exact z
    · exact absurd q (of_decide_eq_false (fa_first_no _ 8 k z))
/-- there: the steps, copied -/
theorem follows_79 {T : List Nat} (hT : Hl (S.2.1 61) T) (hl : T.length ≤ 8) : ∃ S', (Fr [] [60] S S' ∧ Hl (S'.2.1 60) T) ∧ Rs 214 79 [.ref 43, UU, UU, UU, .int (nI T.length), .int 0] [] (enc sc S) = some (some (.int 1), enc sc S') := by
  have key := loop_to (F := T.length) (G := fun k S1 => Rs 214 79 [.ref 43, UU, UU, UU, .int (nI T.length), .int (nI k)] [] (enc sc S1)) (O := fun S' => some (some (.int 1), enc sc S')) (J := fun S' => Fr [] [60] S S' ∧ Hl (S'.2.1 60) T) (I := fun k S1 => Fr [] [60] S S1 ∧ ∀ j, j < k → S1.2.1 60 j = nI (T.getD j 0)) ?_ ?_ S ⟨Fr_refl _ _ _, fun j hj => absurd hj (Nat.not_lt_zero j)⟩
  · obtain ⟨S', g1, g2⟩ := key
    exact ⟨S', g1, g2 _ rfl⟩
  · intro k S1 hk ⟨hf, h1⟩
    left
    have e : S1.2.1 61 k = nI (T.getD k 0) := by rw [(hf.2 61 (by decide)).1]; exact hT k hk
    refine ⟨sA S1 60 k (nI (T.getD k 0)), ⟨Fr_tr hf (Fr_sA (by decide)), fun j hj => ?_⟩, fun r hr => B_X8_follows_79 _ _ _ _ ?_⟩
    · by_cases z : j = k
      · rw [z, sA_eq]
      · rw [sA_nj z]
        exact h1 j (by omega)
    · simp (disch := first | omega | assumption | exact bI_01 | exact Or.inl rfl | exact Or.inr rfl) only [↓reduceIte, ↓if_bI, ↓if10, ↓if00, bI_eq0, not_false_eq_true, not_true_eq_false, and_true, true_and, and_false, false_and, or_true, true_or, or_false, false_or, ↓c_Is, ↓c_Js, ↓c_Vs, ↓c_An, ↓c_Ar, ↓o_0, ↓q_0_0, ↓q_0_1, ↓q_0_2, ↓q_0_3, ↓q_0_4, ↓q_0_5, ↓q_0_6, ↓q_0_7, ↓w_0_7, ↓o_18, ↓q_18_0, ↓w_18_0, ↓q_18_1, ↓q_18_2, ↓q_18_3, ↓q_18_4, ↓a_19, ↓s_19, ↓a_20, ↓s_20, ↓a_21, ↓s_21, ↓a_22, ↓s_22, ↓o_23, ↓q_23_0, ↓w_23_0, ↓q_23_1, ↓w_23_1, ↓o_24, ↓q_24_0, ↓w_24_0, ↓q_24_1, ↓q_24_2, ↓q_24_3, ↓w_24_3, ↓q_24_4, ↓q_24_5, ↓a_25, ↓s_25, ↓a_26, ↓s_26, ↓a_27, ↓s_27, ↓a_28, ↓s_28, ↓o_29, ↓q_29_0, ↓w_29_0, ↓q_29_1, ↓w_29_1, ↓q_29_2, ↓w_29_2, ↓q_29_3, ↓q_29_4, ↓q_29_5, ↓q_29_6, ↓q_29_7, ↓w_29_7, ↓q_29_8, ↓q_29_9, ↓w_29_9, ↓q_29_10, ↓w_29_10, ↓q_29_11, ↓a_30, ↓s_30, ↓a_31, ↓s_31, ↓a_32, ↓s_32, ↓a_33, ↓s_33, ↓a_34, ↓s_34, ↓a_35, ↓s_35, ↓o_36, ↓q_36_0, ↓q_36_1, ↓w_36_1, ↓q_36_2, ↓w_36_2, ↓q_36_3, ↓q_36_4, ↓a_37, ↓s_37, ↓a_38, ↓s_38, ↓o_39, ↓q_39_0, ↓q_39_1, ↓w_39_1, ↓q_39_2, ↓q_39_3, ↓w_39_3, ↓q_39_4, ↓q_39_5, ↓a_40, ↓s_40, ↓a_41, ↓s_41, ↓a_42, ↓s_42, ↓o_43, ↓q_43_0, ↓w_43_0, ↓q_43_1, ↓q_43_2, ↓q_43_3, ↓q_43_4, ↓q_43_5, ↓q_43_6, ↓q_43_7, ↓q_43_8, ↓q_43_9, ↓w_43_9, ↓q_43_10, ↓q_43_11, ↓q_43_12, ↓q_43_13, ↓q_43_14, ↓w_43_14, ↓q_43_15, ↓w_43_15, ↓q_43_16, ↓q_43_17, ↓w_43_17, ↓q_43_18, ↓w_43_18, ↓q_43_19, ↓q_43_20, ↓q_43_21, ↓q_43_22, ↓w_43_22, ↓q_43_23, ↓w_43_23, ↓q_43_24, ↓q_43_25, ↓q_43_26, ↓w_43_26, ↓q_43_27, ↓q_43_28, ↓q_43_29, ↓w_43_29, ↓q_43_30, ↓q_43_31, ↓q_43_32, ↓q_43_33, ↓w_43_33, ↓q_43_34, ↓q_43_35, ↓q_43_36, ↓a_44, ↓s_44, ↓a_45, ↓s_45, ↓a_46, ↓s_46, ↓a_47, ↓s_47, ↓a_48, ↓s_48, ↓a_49, ↓s_49, ↓a_50, ↓s_50, ↓a_51, ↓s_51, ↓a_52, ↓s_52, ↓a_53, ↓s_53, ↓a_54, ↓s_54, ↓a_55, ↓s_55, ↓a_56, ↓s_56, ↓a_57, ↓s_57, ↓a_58, ↓s_58, ↓a_59, ↓s_59, ↓a_60, ↓s_60, ↓a_61, ↓s_61, ↓a_62, ↓s_62, ↓a_63, ↓s_63, ↓a_64, ↓s_64, ↓a_65, ↓s_65, ↓a_66, ↓s_66, ↓a_67, ↓s_67, ↓a_68, ↓s_68, ↓a_69, ↓s_69, ↓a_1, le0_T, le0_F, addm1, sA_1, sA_22, sL_1, sL_21, sF_2, sA_eq, sA_ne, sA_nj, sL_eq, sL_ne, sL_nj, sF_eq, sF_ne, sF_nj, le_T, le_F, lt_T, lt_F, lt0_F, eq_T, eq_F, eq_N, m9_F, m1_F, z_F, z_N, l2, l3, l4, l5, l6, l8, l12, l24, l40, l70, l96, l255, l256, l280, l320, c_Is, c_Js, c_Vs, c_An, c_Ar, if_bI, rI0, rI1, rIb, if00, if10, lg0, nI_1, nI_add, sub_1, sub_N, if_true, if_false, ite_true, ite_false, ge0_T, ge0_F, in_d, in_e, mul_n, a_47, s_47, a_48, s_48, a_49, s_49, a_42, s_42, a_69, s_69, a_59, a_63, a_28, a_50, s_50, a_51, s_51, e]
      exact hr
  · intro S1 ⟨hf, h1⟩
    refine ⟨S1, ⟨hf, h1⟩, fun r hr => B_X8_follows_79 _ _ _ _ ?_⟩
    simp (disch := first | omega | assumption | exact bI_01 | exact Or.inl rfl | exact Or.inr rfl) only [↓reduceIte, ↓if_bI, ↓if10, ↓if00, bI_eq0, not_false_eq_true, not_true_eq_false, and_true, true_and, and_false, false_and, or_true, true_or, or_false, false_or, ↓c_Is, ↓c_Js, ↓c_Vs, ↓c_An, ↓c_Ar, ↓o_0, ↓q_0_0, ↓q_0_1, ↓q_0_2, ↓q_0_3, ↓q_0_4, ↓q_0_5, ↓q_0_6, ↓q_0_7, ↓w_0_7, ↓o_18, ↓q_18_0, ↓w_18_0, ↓q_18_1, ↓q_18_2, ↓q_18_3, ↓q_18_4, ↓a_19, ↓s_19, ↓a_20, ↓s_20, ↓a_21, ↓s_21, ↓a_22, ↓s_22, ↓o_23, ↓q_23_0, ↓w_23_0, ↓q_23_1, ↓w_23_1, ↓o_24, ↓q_24_0, ↓w_24_0, ↓q_24_1, ↓q_24_2, ↓q_24_3, ↓w_24_3, ↓q_24_4, ↓q_24_5, ↓a_25, ↓s_25, ↓a_26, ↓s_26, ↓a_27, ↓s_27, ↓a_28, ↓s_28, ↓o_29, ↓q_29_0, ↓w_29_0, ↓q_29_1, ↓w_29_1, ↓q_29_2, ↓w_29_2, ↓q_29_3, ↓q_29_4, ↓q_29_5, ↓q_29_6, ↓q_29_7, ↓w_29_7, ↓q_29_8, ↓q_29_9, ↓w_29_9, ↓q_29_10, ↓w_29_10, ↓q_29_11, ↓a_30, ↓s_30, ↓a_31, ↓s_31, ↓a_32, ↓s_32, ↓a_33, ↓s_33, ↓a_34, ↓s_34, ↓a_35, ↓s_35, ↓o_36, ↓q_36_0, ↓q_36_1, ↓w_36_1, ↓q_36_2, ↓w_36_2, ↓q_36_3, ↓q_36_4, ↓a_37, ↓s_37, ↓a_38, ↓s_38, ↓o_39, ↓q_39_0, ↓q_39_1, ↓w_39_1, ↓q_39_2, ↓q_39_3, ↓w_39_3, ↓q_39_4, ↓q_39_5, ↓a_40, ↓s_40, ↓a_41, ↓s_41, ↓a_42, ↓s_42, ↓o_43, ↓q_43_0, ↓w_43_0, ↓q_43_1, ↓q_43_2, ↓q_43_3, ↓q_43_4, ↓q_43_5, ↓q_43_6, ↓q_43_7, ↓q_43_8, ↓q_43_9, ↓w_43_9, ↓q_43_10, ↓q_43_11, ↓q_43_12, ↓q_43_13, ↓q_43_14, ↓w_43_14, ↓q_43_15, ↓w_43_15, ↓q_43_16, ↓q_43_17, ↓w_43_17, ↓q_43_18, ↓w_43_18, ↓q_43_19, ↓q_43_20, ↓q_43_21, ↓q_43_22, ↓w_43_22, ↓q_43_23, ↓w_43_23, ↓q_43_24, ↓q_43_25, ↓q_43_26, ↓w_43_26, ↓q_43_27, ↓q_43_28, ↓q_43_29, ↓w_43_29, ↓q_43_30, ↓q_43_31, ↓q_43_32, ↓q_43_33, ↓w_43_33, ↓q_43_34, ↓q_43_35, ↓q_43_36, ↓a_44, ↓s_44, ↓a_45, ↓s_45, ↓a_46, ↓s_46, ↓a_47, ↓s_47, ↓a_48, ↓s_48, ↓a_49, ↓s_49, ↓a_50, ↓s_50, ↓a_51, ↓s_51, ↓a_52, ↓s_52, ↓a_53, ↓s_53, ↓a_54, ↓s_54, ↓a_55, ↓s_55, ↓a_56, ↓s_56, ↓a_57, ↓s_57, ↓a_58, ↓s_58, ↓a_59, ↓s_59, ↓a_60, ↓s_60, ↓a_61, ↓s_61, ↓a_62, ↓s_62, ↓a_63, ↓s_63, ↓a_64, ↓s_64, ↓a_65, ↓s_65, ↓a_66, ↓s_66, ↓a_67, ↓s_67, ↓a_68, ↓s_68, ↓a_69, ↓s_69, ↓a_1, le0_T, le0_F, addm1, sA_1, sA_22, sL_1, sL_21, sF_2, sA_eq, sA_ne, sA_nj, sL_eq, sL_ne, sL_nj, sF_eq, sF_ne, sF_nj, le_T, le_F, lt_T, lt_F, lt0_F, eq_T, eq_F, eq_N, m9_F, m1_F, z_F, z_N, l2, l3, l4, l5, l6, l8, l12, l24, l40, l70, l96, l255, l256, l280, l320, c_Is, c_Js, c_Vs, c_An, c_Ar, if_bI, rI0, rI1, rIb, if00, if10, lg0, nI_1, nI_add, sub_1, sub_N, if_true, if_false, ite_true, ite_false, ge0_T, ge0_F, in_d, in_e, mul_n, a_47, s_47, a_48, s_48, a_49, s_49, a_42, s_42, a_69, s_69, a_59, a_63, a_28, a_50, s_50, a_51, s_51]
    exact hr
theorem followsM_y (h : mq S w F fx fy L) {x y : Nat} (hx : x < 256) (hy : y < 256) (hxy : sub y (clo F fx fy x)) : ∃ S', (Fr [(43, 23)] [60, 61] S S' ∧ S'.1 43 23 = nI (sn F fx fy x y) ∧ Hl (S'.2.1 60) (sl F fx fy x L (sn F fx fy x y))) ∧ Rs 214 24 [.ref 43, UU, .int (nI y), .int (nI x), .int 0, UU] [] (enc sc S) = some (some (.int 1), enc sc S') := by
  have hyy := mq_y h
  have fin : ∀ k S1, k ≤ 8 → Fr [] [61] S S1 → Hl (S1.2.1 61) (sl F fx fy x L k) → (∀ j, j < k → ¬ sub y (cl F fx fy j x)) → sub y (cl F fx fy k x) → ∃ S', (Fr [(43, 23)] [60, 61] S S' ∧ S'.1 43 23 = nI (sn F fx fy x y) ∧ Hl (S'.2.1 60) (sl F fx fy x L (sn F fx fy x y))) ∧ Lt (Rs 214 24 [.ref 43, UU, .int (nI y), .int (nI (cl F fx fy k x)), .int (nI k), UU] [] (enc sc S1)) (some (some (.int 1), enc sc S')) := by
    intro k S1 hk hf ht hno hq
    have e := sn_eq hq hk hno
    obtain ⟨S2, ⟨g1, g2⟩, g3⟩ := follows_79 (sc := sc) (S := sF S1 43 23 (nI k)) (T := sl F fx fy x L k) ht (by rw [sl_len]; exact hk)
    rw [sl_len] at g3
    refine ⟨S2, ⟨Fr_tr (Fr_w hf (by decide) (by decide)) (Fr_tr (Fr_sF (by decide)) (Fr_w g1 (by decide) (by decide))), ?_, ?_⟩, fun r hr => B_X8_follows_24 _ _ _ _ _ ?_⟩
    · rw [e, g1.1 43 23 (by decide), sF_eq]
    · rw [e]; exact g2
    · have hcl := cl_lt hyy (fx := fx) hx k
      have q1 : wi (nI y) (nI (cl F fx fy k x)) := (wi_sub (by omega) (by omega)).mpr hq
      rw [if_pos q1, w_43_23]
      exact g3.trans hr
  have key := loop_to (F := 8) (G := fun k S1 => Rs 214 24 [.ref 43, UU, .int (nI y), .int (nI (cl F fx fy k x)), .int (nI k), UU] [] (enc sc S1)) (O := fun S' => some (some (.int 1), enc sc S')) (J := fun S' => Fr [(43, 23)] [60, 61] S S' ∧ S'.1 43 23 = nI (sn F fx fy x y) ∧ Hl (S'.2.1 60) (sl F fx fy x L (sn F fx fy x y))) (I := fun k S1 => Fr [] [61] S S1 ∧ Hl (S1.2.1 61) (sl F fx fy x L k) ∧ ∀ j, j < k → ¬ sub y (cl F fx fy j x)) ?_ ?_ S ⟨Fr_refl _ _ _, Hl_nil _, fun j hj => absurd hj (Nat.not_lt_zero j)⟩
  · obtain ⟨S', g1, g2⟩ := key
    exact ⟨S', g1, g2 _ rfl⟩
  · intro k S1 hk ⟨hf, ht, hno⟩
    by_cases q : sub y (cl F fx fy k x)
    · right
      exact fin k S1 (by omega) hf ht hno q
    · left
      have q2 : nf F fx fy (cl F fx fy k x) < F := by
        refine Classical.byContradiction fun z => q ?_
        rw [← cl_stop (by omega) (nf_no F fx fy z)]
        exact hxy
      have hcl := cl_lt hyy (fx := fx) hx k
      have q1 : ¬ wi (nI y) (nI (cl F fx fy k x)) := fun z => q ((wi_sub (by omega) (by omega)).mp z)
      have h1 := mq_fr hf rfl rfl h
      have hL := mq_L h _ q2
      have e1 := adding_q (sc := sc) h1 hcl
      rw [if_pos q2] at e1
      refine ⟨sA S1 61 k (nI (L.getD (nf F fx fy (cl F fx fy k x)) 0)), ⟨Fr_tr hf (Fr_sA (by decide)), ?_, ?_⟩, fun r hr => B_X8_follows_24 _ _ _ _ _ ?_⟩
      · rw [sl_succ]
        refine Hl_app ht ?_ ?_
        · intro j hj
          rw [sl_len] at hj
          simp (disch := omega) only [sA_1, sA_22, sL_1, sL_21, sF_2, sA_eq, sA_ne, sA_nj, sL_eq, sL_ne, sL_nj, sF_eq, sF_ne, sF_nj]
        · rw [sl_len]
          simp (disch := omega) only [sA_1, sA_22, sL_1, sL_21, sF_2, sA_eq, sA_ne, sA_nj, sL_eq, sL_ne, sL_nj, sF_eq, sF_ne, sF_nj]
      · intro j hj
        by_cases z : j = k
        · rw [z]; exact q
        · exact hno j (by omega)
      · rw [cl_suc q2] at hr
        simp (disch := first | omega | assumption | exact bI_01 | exact Or.inl rfl | exact Or.inr rfl) only [↓reduceIte, ↓if_bI, ↓if10, ↓if00, bI_eq0, not_false_eq_true, not_true_eq_false, and_true, true_and, and_false, false_and, or_true, true_or, or_false, false_or, ↓c_Is, ↓c_Js, ↓c_Vs, ↓c_An, ↓c_Ar, ↓o_0, ↓q_0_0, ↓q_0_1, ↓q_0_2, ↓q_0_3, ↓q_0_4, ↓q_0_5, ↓q_0_6, ↓q_0_7, ↓w_0_7, ↓o_18, ↓q_18_0, ↓w_18_0, ↓q_18_1, ↓q_18_2, ↓q_18_3, ↓q_18_4, ↓a_19, ↓s_19, ↓a_20, ↓s_20, ↓a_21, ↓s_21, ↓a_22, ↓s_22, ↓o_23, ↓q_23_0, ↓w_23_0, ↓q_23_1, ↓w_23_1, ↓o_24, ↓q_24_0, ↓w_24_0, ↓q_24_1, ↓q_24_2, ↓q_24_3, ↓w_24_3, ↓q_24_4, ↓q_24_5, ↓a_25, ↓s_25, ↓a_26, ↓s_26, ↓a_27, ↓s_27, ↓a_28, ↓s_28, ↓o_29, ↓q_29_0, ↓w_29_0, ↓q_29_1, ↓w_29_1, ↓q_29_2, ↓w_29_2, ↓q_29_3, ↓q_29_4, ↓q_29_5, ↓q_29_6, ↓q_29_7, ↓w_29_7, ↓q_29_8, ↓q_29_9, ↓w_29_9, ↓q_29_10, ↓w_29_10, ↓q_29_11, ↓a_30, ↓s_30, ↓a_31, ↓s_31, ↓a_32, ↓s_32, ↓a_33, ↓s_33, ↓a_34, ↓s_34, ↓a_35, ↓s_35, ↓o_36, ↓q_36_0, ↓q_36_1, ↓w_36_1, ↓q_36_2, ↓w_36_2, ↓q_36_3, ↓q_36_4, ↓a_37, ↓s_37, ↓a_38, ↓s_38, ↓o_39, ↓q_39_0, ↓q_39_1, ↓w_39_1, ↓q_39_2, ↓q_39_3, ↓w_39_3, ↓q_39_4, ↓q_39_5, ↓a_40, ↓s_40, ↓a_41, ↓s_41, ↓a_42, ↓s_42, ↓o_43, ↓q_43_0, ↓w_43_0, ↓q_43_1, ↓q_43_2, ↓q_43_3, ↓q_43_4, ↓q_43_5, ↓q_43_6, ↓q_43_7, ↓q_43_8, ↓q_43_9, ↓w_43_9, ↓q_43_10, ↓q_43_11, ↓q_43_12, ↓q_43_13, ↓q_43_14, ↓w_43_14, ↓q_43_15, ↓w_43_15, ↓q_43_16, ↓q_43_17, ↓w_43_17, ↓q_43_18, ↓w_43_18, ↓q_43_19, ↓q_43_20, ↓q_43_21, ↓q_43_22, ↓w_43_22, ↓q_43_23, ↓w_43_23, ↓q_43_24, ↓q_43_25, ↓q_43_26, ↓w_43_26, ↓q_43_27, ↓q_43_28, ↓q_43_29, ↓w_43_29, ↓q_43_30, ↓q_43_31, ↓q_43_32, ↓q_43_33, ↓w_43_33, ↓q_43_34, ↓q_43_35, ↓q_43_36, ↓a_44, ↓s_44, ↓a_45, ↓s_45, ↓a_46, ↓s_46, ↓a_47, ↓s_47, ↓a_48, ↓s_48, ↓a_49, ↓s_49, ↓a_50, ↓s_50, ↓a_51, ↓s_51, ↓a_52, ↓s_52, ↓a_53, ↓s_53, ↓a_54, ↓s_54, ↓a_55, ↓s_55, ↓a_56, ↓s_56, ↓a_57, ↓s_57, ↓a_58, ↓s_58, ↓a_59, ↓s_59, ↓a_60, ↓s_60, ↓a_61, ↓s_61, ↓a_62, ↓s_62, ↓a_63, ↓s_63, ↓a_64, ↓s_64, ↓a_65, ↓s_65, ↓a_66, ↓s_66, ↓a_67, ↓s_67, ↓a_68, ↓s_68, ↓a_69, ↓s_69, ↓a_1, le0_T, le0_F, addm1, sA_1, sA_22, sL_1, sL_21, sF_2, sA_eq, sA_ne, sA_nj, sL_eq, sL_ne, sL_nj, sF_eq, sF_ne, sF_nj, le_T, le_F, lt_T, lt_F, lt0_F, eq_T, eq_F, eq_N, m9_F, m1_F, z_F, z_N, l2, l3, l4, l5, l6, l8, l12, l24, l40, l70, l96, l255, l256, l280, l320, c_Is, c_Js, c_Vs, c_An, c_Ar, if_bI, rI0, rI1, rIb, if00, if10, lg0, nI_1, nI_add, sub_1, sub_N, if_true, if_false, ite_true, ite_false, ge0_T, ge0_F, in_d, in_e, mul_n, a_47, s_47, a_48, s_48, a_49, s_49, a_42, s_42, a_69, s_69, a_59, a_63, a_28, a_50, s_50, a_51, s_51, ↓if_neg q1, ↓cI (e1), ↓cI (to_q h1 q2), fa_or]
        exact hr
  · intro S1 ⟨hf, ht, hno⟩
    exact fin 8 S1 (Nat.le_refl _) hf ht hno hxy
theorem followsM_n (h : mq S w F fx fy L) {x y : Nat} (hx : x < 256) (hy : y < 256) (hxy : ¬ sub y (clo F fx fy x)) : ∃ S', Fr [] [61] S S' ∧ Rs 214 24 [.ref 43, UU, .int (nI y), .int (nI x), .int 0, UU] [] (enc sc S) = some (some (.int 0), enc sc S') := by
  have hyy := mq_y h
  have hns : ∀ k, k ≤ 8 → ¬ sub y (cl F fx fy k x) := fun k hk z => hxy (sub_trans z (cl_le F fx fy (clo_sub F fx fy x) (clo_Cl F fx fy hyy x) k))
  have fin : ∀ k S1, k ≤ 8 → Fr [] [61] S S1 → ¬ nf F fx fy (cl F fx fy k x) < F → ∃ S', Fr [] [61] S S' ∧ Lt (Rs 214 24 [.ref 43, UU, .int (nI y), .int (nI (cl F fx fy k x)), .int (nI k), UU] [] (enc sc S1)) (some (some (.int 0), enc sc S')) := by
    intro k S1 hk hf hq
    have hcl := cl_lt hyy (fx := fx) hx k
    have q1 : ¬ wi (nI y) (nI (cl F fx fy k x)) := fun z => hns k hk ((wi_sub (by omega) (by omega)).mp z)
    have h1 := mq_fr hf rfl rfl h
    have e1 := adding_q (sc := sc) h1 hcl
    rw [if_neg hq] at e1
    refine ⟨S1, hf, fun r hr => B_X8_follows_24 _ _ _ _ _ ?_⟩
    simp (disch := first | omega | assumption | exact bI_01 | exact Or.inl rfl | exact Or.inr rfl) only [↓reduceIte, ↓if_bI, ↓if10, ↓if00, bI_eq0, not_false_eq_true, not_true_eq_false, and_true, true_and, and_false, false_and, or_true, true_or, or_false, false_or, ↓c_Is, ↓c_Js, ↓c_Vs, ↓c_An, ↓c_Ar, ↓o_0, ↓q_0_0, ↓q_0_1, ↓q_0_2, ↓q_0_3, ↓q_0_4, ↓q_0_5, ↓q_0_6, ↓q_0_7, ↓w_0_7, ↓o_18, ↓q_18_0, ↓w_18_0, ↓q_18_1, ↓q_18_2, ↓q_18_3, ↓q_18_4, ↓a_19, ↓s_19, ↓a_20, ↓s_20, ↓a_21, ↓s_21, ↓a_22, ↓s_22, ↓o_23, ↓q_23_0, ↓w_23_0, ↓q_23_1, ↓w_23_1, ↓o_24, ↓q_24_0, ↓w_24_0, ↓q_24_1, ↓q_24_2, ↓q_24_3, ↓w_24_3, ↓q_24_4, ↓q_24_5, ↓a_25, ↓s_25, ↓a_26, ↓s_26, ↓a_27, ↓s_27, ↓a_28, ↓s_28, ↓o_29, ↓q_29_0, ↓w_29_0, ↓q_29_1, ↓w_29_1, ↓q_29_2, ↓w_29_2, ↓q_29_3, ↓q_29_4, ↓q_29_5, ↓q_29_6, ↓q_29_7, ↓w_29_7, ↓q_29_8, ↓q_29_9, ↓w_29_9, ↓q_29_10, ↓w_29_10, ↓q_29_11, ↓a_30, ↓s_30, ↓a_31, ↓s_31, ↓a_32, ↓s_32, ↓a_33, ↓s_33, ↓a_34, ↓s_34, ↓a_35, ↓s_35, ↓o_36, ↓q_36_0, ↓q_36_1, ↓w_36_1, ↓q_36_2, ↓w_36_2, ↓q_36_3, ↓q_36_4, ↓a_37, ↓s_37, ↓a_38, ↓s_38, ↓o_39, ↓q_39_0, ↓q_39_1, ↓w_39_1, ↓q_39_2, ↓q_39_3, ↓w_39_3, ↓q_39_4, ↓q_39_5, ↓a_40, ↓s_40, ↓a_41, ↓s_41, ↓a_42, ↓s_42, ↓o_43, ↓q_43_0, ↓w_43_0, ↓q_43_1, ↓q_43_2, ↓q_43_3, ↓q_43_4, ↓q_43_5, ↓q_43_6, ↓q_43_7, ↓q_43_8, ↓q_43_9, ↓w_43_9, ↓q_43_10, ↓q_43_11, ↓q_43_12, ↓q_43_13, ↓q_43_14, ↓w_43_14, ↓q_43_15, ↓w_43_15, ↓q_43_16, ↓q_43_17, ↓w_43_17, ↓q_43_18, ↓w_43_18, ↓q_43_19, ↓q_43_20, ↓q_43_21, ↓q_43_22, ↓w_43_22, ↓q_43_23, ↓w_43_23, ↓q_43_24, ↓q_43_25, ↓q_43_26, ↓w_43_26, ↓q_43_27, ↓q_43_28, ↓q_43_29, ↓w_43_29, ↓q_43_30, ↓q_43_31, ↓q_43_32, ↓q_43_33, ↓w_43_33, ↓q_43_34, ↓q_43_35, ↓q_43_36, ↓a_44, ↓s_44, ↓a_45, ↓s_45, ↓a_46, ↓s_46, ↓a_47, ↓s_47, ↓a_48, ↓s_48, ↓a_49, ↓s_49, ↓a_50, ↓s_50, ↓a_51, ↓s_51, ↓a_52, ↓s_52, ↓a_53, ↓s_53, ↓a_54, ↓s_54, ↓a_55, ↓s_55, ↓a_56, ↓s_56, ↓a_57, ↓s_57, ↓a_58, ↓s_58, ↓a_59, ↓s_59, ↓a_60, ↓s_60, ↓a_61, ↓s_61, ↓a_62, ↓s_62, ↓a_63, ↓s_63, ↓a_64, ↓s_64, ↓a_65, ↓s_65, ↓a_66, ↓s_66, ↓a_67, ↓s_67, ↓a_68, ↓s_68, ↓a_69, ↓s_69, ↓a_1, le0_T, le0_F, addm1, sA_1, sA_22, sL_1, sL_21, sF_2, sA_eq, sA_ne, sA_nj, sL_eq, sL_ne, sL_nj, sF_eq, sF_ne, sF_nj, le_T, le_F, lt_T, lt_F, lt0_F, eq_T, eq_F, eq_N, m9_F, m1_F, z_F, z_N, l2, l3, l4, l5, l6, l8, l12, l24, l40, l70, l96, l255, l256, l280, l320, c_Is, c_Js, c_Vs, c_An, c_Ar, if_bI, rI0, rI1, rIb, if00, if10, lg0, nI_1, nI_add, sub_1, sub_N, if_true, if_false, ite_true, ite_false, ge0_T, ge0_F, in_d, in_e, mul_n, a_47, s_47, a_48, s_48, a_49, s_49, a_42, s_42, a_69, s_69, a_59, a_63, a_28, a_50, s_50, a_51, s_51, ↓if_neg q1, ↓cI (e1)]
    exact hr
  have key := loop_to (F := 8) (G := fun k S1 => Rs 214 24 [.ref 43, UU, .int (nI y), .int (nI (cl F fx fy k x)), .int (nI k), UU] [] (enc sc S1)) (O := fun S' => some (some (.int 0), enc sc S')) (J := fun S' => Fr [] [61] S S') (I := fun k S1 => Fr [] [61] S S1) ?_ ?_ S (Fr_refl _ _ _)
  · obtain ⟨S', g1, g2⟩ := key
    exact ⟨S', g1, g2 _ rfl⟩
  · intro k S1 hk hf
    by_cases q2 : nf F fx fy (cl F fx fy k x) < F
    · left
      have hcl := cl_lt hyy (fx := fx) hx k
      have q1 : ¬ wi (nI y) (nI (cl F fx fy k x)) := fun z => hns k (by omega) ((wi_sub (by omega) (by omega)).mp z)
      have h1 := mq_fr hf rfl rfl h
      have hL := mq_L h _ q2
      have e1 := adding_q (sc := sc) h1 hcl
      rw [if_pos q2] at e1
      refine ⟨sA S1 61 k (nI (L.getD (nf F fx fy (cl F fx fy k x)) 0)), Fr_tr hf (Fr_sA (by decide)), fun r hr => B_X8_follows_24 _ _ _ _ _ ?_⟩
      rw [cl_suc q2] at hr
      simp (disch := first | omega | assumption | exact bI_01 | exact Or.inl rfl | exact Or.inr rfl) only [↓reduceIte, ↓if_bI, ↓if10, ↓if00, bI_eq0, not_false_eq_true, not_true_eq_false, and_true, true_and, and_false, false_and, or_true, true_or, or_false, false_or, ↓c_Is, ↓c_Js, ↓c_Vs, ↓c_An, ↓c_Ar, ↓o_0, ↓q_0_0, ↓q_0_1, ↓q_0_2, ↓q_0_3, ↓q_0_4, ↓q_0_5, ↓q_0_6, ↓q_0_7, ↓w_0_7, ↓o_18, ↓q_18_0, ↓w_18_0, ↓q_18_1, ↓q_18_2, ↓q_18_3, ↓q_18_4, ↓a_19, ↓s_19, ↓a_20, ↓s_20, ↓a_21, ↓s_21, ↓a_22, ↓s_22, ↓o_23, ↓q_23_0, ↓w_23_0, ↓q_23_1, ↓w_23_1, ↓o_24, ↓q_24_0, ↓w_24_0, ↓q_24_1, ↓q_24_2, ↓q_24_3, ↓w_24_3, ↓q_24_4, ↓q_24_5, ↓a_25, ↓s_25, ↓a_26, ↓s_26, ↓a_27, ↓s_27, ↓a_28, ↓s_28, ↓o_29, ↓q_29_0, ↓w_29_0, ↓q_29_1, ↓w_29_1, ↓q_29_2, ↓w_29_2, ↓q_29_3, ↓q_29_4, ↓q_29_5, ↓q_29_6, ↓q_29_7, ↓w_29_7, ↓q_29_8, ↓q_29_9, ↓w_29_9, ↓q_29_10, ↓w_29_10, ↓q_29_11, ↓a_30, ↓s_30, ↓a_31, ↓s_31, ↓a_32, ↓s_32, ↓a_33, ↓s_33, ↓a_34, ↓s_34, ↓a_35, ↓s_35, ↓o_36, ↓q_36_0, ↓q_36_1, ↓w_36_1, ↓q_36_2, ↓w_36_2, ↓q_36_3, ↓q_36_4, ↓a_37, ↓s_37, ↓a_38, ↓s_38, ↓o_39, ↓q_39_0, ↓q_39_1, ↓w_39_1, ↓q_39_2, ↓q_39_3, ↓w_39_3, ↓q_39_4, ↓q_39_5, ↓a_40, ↓s_40, ↓a_41, ↓s_41, ↓a_42, ↓s_42, ↓o_43, ↓q_43_0, ↓w_43_0, ↓q_43_1, ↓q_43_2, ↓q_43_3, ↓q_43_4, ↓q_43_5, ↓q_43_6, ↓q_43_7, ↓q_43_8, ↓q_43_9, ↓w_43_9, ↓q_43_10, ↓q_43_11, ↓q_43_12, ↓q_43_13, ↓q_43_14, ↓w_43_14, ↓q_43_15, ↓w_43_15, ↓q_43_16, ↓q_43_17, ↓w_43_17, ↓q_43_18, ↓w_43_18, ↓q_43_19, ↓q_43_20, ↓q_43_21, ↓q_43_22, ↓w_43_22, ↓q_43_23, ↓w_43_23, ↓q_43_24, ↓q_43_25, ↓q_43_26, ↓w_43_26, ↓q_43_27, ↓q_43_28, ↓q_43_29, ↓w_43_29, ↓q_43_30, ↓q_43_31, ↓q_43_32, ↓q_43_33, ↓w_43_33, ↓q_43_34, ↓q_43_35, ↓q_43_36, ↓a_44, ↓s_44, ↓a_45, ↓s_45, ↓a_46, ↓s_46, ↓a_47, ↓s_47, ↓a_48, ↓s_48, ↓a_49, ↓s_49, ↓a_50, ↓s_50, ↓a_51, ↓s_51, ↓a_52, ↓s_52, ↓a_53, ↓s_53, ↓a_54, ↓s_54, ↓a_55, ↓s_55, ↓a_56, ↓s_56, ↓a_57, ↓s_57, ↓a_58, ↓s_58, ↓a_59, ↓s_59, ↓a_60, ↓s_60, ↓a_61, ↓s_61, ↓a_62, ↓s_62, ↓a_63, ↓s_63, ↓a_64, ↓s_64, ↓a_65, ↓s_65, ↓a_66, ↓s_66, ↓a_67, ↓s_67, ↓a_68, ↓s_68, ↓a_69, ↓s_69, ↓a_1, le0_T, le0_F, addm1, sA_1, sA_22, sL_1, sL_21, sF_2, sA_eq, sA_ne, sA_nj, sL_eq, sL_ne, sL_nj, sF_eq, sF_ne, sF_nj, le_T, le_F, lt_T, lt_F, lt0_F, eq_T, eq_F, eq_N, m9_F, m1_F, z_F, z_N, l2, l3, l4, l5, l6, l8, l12, l24, l40, l70, l96, l255, l256, l280, l320, c_Is, c_Js, c_Vs, c_An, c_Ar, if_bI, rI0, rI1, rIb, if00, if10, lg0, nI_1, nI_add, sub_1, sub_N, if_true, if_false, ite_true, ite_false, ge0_T, ge0_F, in_d, in_e, mul_n, a_47, s_47, a_48, s_48, a_49, s_49, a_42, s_42, a_69, s_69, a_59, a_63, a_28, a_50, s_50, a_51, s_51, ↓if_neg q1, ↓cI (e1), ↓cI (to_q h1 q2), fa_or]
      exact hr
    · right
      exact fin k S1 (by omega) hf q2
  · intro S1 hf
    exact fin 8 S1 (Nat.le_refl _) hf (Cl_nf F fx fy (clo_Cl F fx fy hyy x))
theorem follows_o (h : Rel S) (x y : Int32) : Op sc S (Rc 114 [.ref 0, .int x, .int y]) (Rc 214 [.ref 43, .int x, .int y]) := by
  obtain ⟨w, F, fx, fy, L, ⟨q1, q2, q3, q4, q5, q6, q7, q8⟩, hla⟩ := La_q h.2.2.2.2.2.2
  have hw8 := all_lt (mq_w q5).2.2
  by_cases qx : wi x (nI (2 ^ w - 1))
  · by_cases qy : wi y (nI (2 ^ w - 1))
    · obtain ⟨a, ha, rfl, _⟩ := wi_i (by omega) qx
      obtain ⟨b, hb, rfl, _⟩ := wi_i (by omega) qy
      have hc := clo_lt F fx fy (mq_y q5) (s := a) (by omega)
      obtain ⟨S1, hm, e⟩ := closureOf_f (sc := sc) q2 (S1 := S) ⟨Fr_refl _ _ _, q6⟩ (s := a) (by omega)
      have m1 := mq_fr hm.1 rfl rfl q5
      by_cases qs : sub b (clo F fx fy a)
      · have qw : wi (nI b) (nI (clo F fx fy a)) := (wi_sub (by omega) (by omega)).mpr qs
        obtain ⟨S2, ⟨g1, g2, g3⟩, g4⟩ := noteSteps_s (sc := sc) (FDq_fr hm.1 rfl rfl q2) (L := L) (x := a) (y := b) (by rw [(hm.1.2 30 (by decide)).1]; exact q3) q4.symm (by omega) (by omega) qs
        have m2 := mq_fr g1 rfl rfl m1
        obtain ⟨S3, ⟨k1, k2, k3⟩, k4⟩ := followsM_y (sc := sc) m2 (x := a) (y := b) (by omega) (by omega) qs
        have f3 : Fr [(29, 7), (43, 23)] [33, 34, 60, 61] S S3 := Fr_tr (Fr_w hm.1 (by decide) (by decide)) (Fr_tr (Fr_w g1 (by decide) (by decide)) (Fr_w k1 (by decide) (by decide)))
        obtain ⟨r1, r2, r3, r4, r5, r6, r7⟩ := h
        refine ⟨some (.int 1), S2, S3, ⟨TB_fr f3 rfl rfl r1, Fa_fr f3 rfl r2, Ju_fr f3 rfl r3, Se_fr f3 rfl rfl r4, ⟨sl F fx fy a L (sn F fx fy a b), ?_, ?_, ?_, ?_, ?_⟩, Pa_fr f3 rfl rfl r6, hla S3 _ _ f3 rfl rfl ?_ (KC_fr f3 rfl rfl q7) (VC_fr f3 rfl rfl q8)⟩, Rc_of rfl rfl (B_X7_follows_0 _ _ _ _ ?_), Rc_of rfl rfl (B_X8_follows_0 _ _ _ _ ?_)⟩
        · rw [k1.1 29 7 (by decide), sl_len]; exact g2
        · rw [(k1.2 34 (by decide)).1]; exact g3
        · rw [sl_len]; exact k2
        · exact k3
        · rw [sl_len]
          exact fa_first_le _ _
        · rw [(k1.2 33 (by decide)).1, (g1.2 33 (by decide)).1]; exact hm.2
        · simp (disch := first | omega | assumption | exact bI_01 | exact Or.inl rfl | exact Or.inr rfl) only [↓reduceIte, ↓if_bI, ↓if10, ↓if00, bI_eq0, not_false_eq_true, not_true_eq_false, and_true, true_and, and_false, false_and, or_true, true_or, or_false, false_or, ↓c_Is, ↓c_Js, ↓c_Vs, ↓c_An, ↓c_Ar, ↓o_0, ↓q_0_0, ↓q_0_1, ↓q_0_2, ↓q_0_3, ↓q_0_4, ↓q_0_5, ↓q_0_6, ↓q_0_7, ↓w_0_7, ↓o_18, ↓q_18_0, ↓w_18_0, ↓q_18_1, ↓q_18_2, ↓q_18_3, ↓q_18_4, ↓a_19, ↓s_19, ↓a_20, ↓s_20, ↓a_21, ↓s_21, ↓a_22, ↓s_22, ↓o_23, ↓q_23_0, ↓w_23_0, ↓q_23_1, ↓w_23_1, ↓o_24, ↓q_24_0, ↓w_24_0, ↓q_24_1, ↓q_24_2, ↓q_24_3, ↓w_24_3, ↓q_24_4, ↓q_24_5, ↓a_25, ↓s_25, ↓a_26, ↓s_26, ↓a_27, ↓s_27, ↓a_28, ↓s_28, ↓o_29, ↓q_29_0, ↓w_29_0, ↓q_29_1, ↓w_29_1, ↓q_29_2, ↓w_29_2, ↓q_29_3, ↓q_29_4, ↓q_29_5, ↓q_29_6, ↓q_29_7, ↓w_29_7, ↓q_29_8, ↓q_29_9, ↓w_29_9, ↓q_29_10, ↓w_29_10, ↓q_29_11, ↓a_30, ↓s_30, ↓a_31, ↓s_31, ↓a_32, ↓s_32, ↓a_33, ↓s_33, ↓a_34, ↓s_34, ↓a_35, ↓s_35, ↓o_36, ↓q_36_0, ↓q_36_1, ↓w_36_1, ↓q_36_2, ↓w_36_2, ↓q_36_3, ↓q_36_4, ↓a_37, ↓s_37, ↓a_38, ↓s_38, ↓o_39, ↓q_39_0, ↓q_39_1, ↓w_39_1, ↓q_39_2, ↓q_39_3, ↓w_39_3, ↓q_39_4, ↓q_39_5, ↓a_40, ↓s_40, ↓a_41, ↓s_41, ↓a_42, ↓s_42, ↓o_43, ↓q_43_0, ↓w_43_0, ↓q_43_1, ↓q_43_2, ↓q_43_3, ↓q_43_4, ↓q_43_5, ↓q_43_6, ↓q_43_7, ↓q_43_8, ↓q_43_9, ↓w_43_9, ↓q_43_10, ↓q_43_11, ↓q_43_12, ↓q_43_13, ↓q_43_14, ↓w_43_14, ↓q_43_15, ↓w_43_15, ↓q_43_16, ↓q_43_17, ↓w_43_17, ↓q_43_18, ↓w_43_18, ↓q_43_19, ↓q_43_20, ↓q_43_21, ↓q_43_22, ↓w_43_22, ↓q_43_23, ↓w_43_23, ↓q_43_24, ↓q_43_25, ↓q_43_26, ↓w_43_26, ↓q_43_27, ↓q_43_28, ↓q_43_29, ↓w_43_29, ↓q_43_30, ↓q_43_31, ↓q_43_32, ↓q_43_33, ↓w_43_33, ↓q_43_34, ↓q_43_35, ↓q_43_36, ↓a_44, ↓s_44, ↓a_45, ↓s_45, ↓a_46, ↓s_46, ↓a_47, ↓s_47, ↓a_48, ↓s_48, ↓a_49, ↓s_49, ↓a_50, ↓s_50, ↓a_51, ↓s_51, ↓a_52, ↓s_52, ↓a_53, ↓s_53, ↓a_54, ↓s_54, ↓a_55, ↓s_55, ↓a_56, ↓s_56, ↓a_57, ↓s_57, ↓a_58, ↓s_58, ↓a_59, ↓s_59, ↓a_60, ↓s_60, ↓a_61, ↓s_61, ↓a_62, ↓s_62, ↓a_63, ↓s_63, ↓a_64, ↓s_64, ↓a_65, ↓s_65, ↓a_66, ↓s_66, ↓a_67, ↓s_67, ↓a_68, ↓s_68, ↓a_69, ↓s_69, ↓a_1, le0_T, le0_F, addm1, sA_1, sA_22, sL_1, sL_21, sF_2, sA_eq, sA_ne, sA_nj, sL_eq, sL_ne, sL_nj, sF_eq, sF_ne, sF_nj, le_T, le_F, lt_T, lt_F, lt0_F, eq_T, eq_F, eq_N, m9_F, m1_F, z_F, z_N, l2, l3, l4, l5, l6, l8, l12, l24, l40, l70, l96, l255, l256, l280, l320, c_Is, c_Js, c_Vs, c_An, c_Ar, if_bI, rI0, rI1, rIb, if00, if10, lg0, nI_1, nI_add, sub_1, sub_N, if_true, if_false, ite_true, ite_false, ge0_T, ge0_F, in_d, in_e, mul_n, a_47, s_47, a_48, s_48, a_49, s_49, a_42, s_42, a_69, s_69, a_59, a_63, a_28, a_50, s_50, a_51, s_51, ↓cI (isWithinAll_s q1 _), ↓if_pos qx, ↓if_pos qy, ↓cI (e), ↓cI (isWithin_s _ _), ↓if_pos qw, ↓cV (g4)]
        · simp (disch := first | omega | assumption | exact bI_01 | exact Or.inl rfl | exact Or.inr rfl) only [↓reduceIte, ↓if_bI, ↓if10, ↓if00, bI_eq0, not_false_eq_true, not_true_eq_false, and_true, true_and, and_false, false_and, or_true, true_or, or_false, false_or, ↓c_Is, ↓c_Js, ↓c_Vs, ↓c_An, ↓c_Ar, ↓o_0, ↓q_0_0, ↓q_0_1, ↓q_0_2, ↓q_0_3, ↓q_0_4, ↓q_0_5, ↓q_0_6, ↓q_0_7, ↓w_0_7, ↓o_18, ↓q_18_0, ↓w_18_0, ↓q_18_1, ↓q_18_2, ↓q_18_3, ↓q_18_4, ↓a_19, ↓s_19, ↓a_20, ↓s_20, ↓a_21, ↓s_21, ↓a_22, ↓s_22, ↓o_23, ↓q_23_0, ↓w_23_0, ↓q_23_1, ↓w_23_1, ↓o_24, ↓q_24_0, ↓w_24_0, ↓q_24_1, ↓q_24_2, ↓q_24_3, ↓w_24_3, ↓q_24_4, ↓q_24_5, ↓a_25, ↓s_25, ↓a_26, ↓s_26, ↓a_27, ↓s_27, ↓a_28, ↓s_28, ↓o_29, ↓q_29_0, ↓w_29_0, ↓q_29_1, ↓w_29_1, ↓q_29_2, ↓w_29_2, ↓q_29_3, ↓q_29_4, ↓q_29_5, ↓q_29_6, ↓q_29_7, ↓w_29_7, ↓q_29_8, ↓q_29_9, ↓w_29_9, ↓q_29_10, ↓w_29_10, ↓q_29_11, ↓a_30, ↓s_30, ↓a_31, ↓s_31, ↓a_32, ↓s_32, ↓a_33, ↓s_33, ↓a_34, ↓s_34, ↓a_35, ↓s_35, ↓o_36, ↓q_36_0, ↓q_36_1, ↓w_36_1, ↓q_36_2, ↓w_36_2, ↓q_36_3, ↓q_36_4, ↓a_37, ↓s_37, ↓a_38, ↓s_38, ↓o_39, ↓q_39_0, ↓q_39_1, ↓w_39_1, ↓q_39_2, ↓q_39_3, ↓w_39_3, ↓q_39_4, ↓q_39_5, ↓a_40, ↓s_40, ↓a_41, ↓s_41, ↓a_42, ↓s_42, ↓o_43, ↓q_43_0, ↓w_43_0, ↓q_43_1, ↓q_43_2, ↓q_43_3, ↓q_43_4, ↓q_43_5, ↓q_43_6, ↓q_43_7, ↓q_43_8, ↓q_43_9, ↓w_43_9, ↓q_43_10, ↓q_43_11, ↓q_43_12, ↓q_43_13, ↓q_43_14, ↓w_43_14, ↓q_43_15, ↓w_43_15, ↓q_43_16, ↓q_43_17, ↓w_43_17, ↓q_43_18, ↓w_43_18, ↓q_43_19, ↓q_43_20, ↓q_43_21, ↓q_43_22, ↓w_43_22, ↓q_43_23, ↓w_43_23, ↓q_43_24, ↓q_43_25, ↓q_43_26, ↓w_43_26, ↓q_43_27, ↓q_43_28, ↓q_43_29, ↓w_43_29, ↓q_43_30, ↓q_43_31, ↓q_43_32, ↓q_43_33, ↓w_43_33, ↓q_43_34, ↓q_43_35, ↓q_43_36, ↓a_44, ↓s_44, ↓a_45, ↓s_45, ↓a_46, ↓s_46, ↓a_47, ↓s_47, ↓a_48, ↓s_48, ↓a_49, ↓s_49, ↓a_50, ↓s_50, ↓a_51, ↓s_51, ↓a_52, ↓s_52, ↓a_53, ↓s_53, ↓a_54, ↓s_54, ↓a_55, ↓s_55, ↓a_56, ↓s_56, ↓a_57, ↓s_57, ↓a_58, ↓s_58, ↓a_59, ↓s_59, ↓a_60, ↓s_60, ↓a_61, ↓s_61, ↓a_62, ↓s_62, ↓a_63, ↓s_63, ↓a_64, ↓s_64, ↓a_65, ↓s_65, ↓a_66, ↓s_66, ↓a_67, ↓s_67, ↓a_68, ↓s_68, ↓a_69, ↓s_69, ↓a_1, le0_T, le0_F, addm1, sA_1, sA_22, sL_1, sL_21, sF_2, sA_eq, sA_ne, sA_nj, sL_eq, sL_ne, sL_nj, sF_eq, sF_ne, sF_nj, le_T, le_F, lt_T, lt_F, lt0_F, eq_T, eq_F, eq_N, m9_F, m1_F, z_F, z_N, l2, l3, l4, l5, l6, l8, l12, l24, l40, l70, l96, l255, l256, l280, l320, c_Is, c_Js, c_Vs, c_An, c_Ar, if_bI, rI0, rI1, rIb, if00, if10, lg0, nI_1, nI_add, sub_1, sub_N, if_true, if_false, ite_true, ite_false, ge0_T, ge0_F, in_d, in_e, mul_n, a_47, s_47, a_48, s_48, a_49, s_49, a_42, s_42, a_69, s_69, a_59, a_63, a_28, a_50, s_50, a_51, s_51, ↓cI (within_q m2 _), ↓if_pos qx, ↓if_pos qy]
          exact k4
      · have qw : ¬ wi (nI b) (nI (clo F fx fy a)) := fun z => qs ((wi_sub (by omega) (by omega)).mp z)
        obtain ⟨S3, k1, k4⟩ := followsM_n (sc := sc) m1 (x := a) (y := b) (by omega) (by omega) qs
        have f3 : Fr [] [33, 61] S S3 := Fr_tr (Fr_w hm.1 (by decide) (by decide)) (Fr_w k1 (by decide) (by decide))
        refine ⟨some (.int 0), S1, S3, Rel_la h f3 rfl rfl rfl rfl (hla S3 _ _ f3 rfl rfl ?_ (KC_fr f3 rfl rfl q7) (VC_fr f3 rfl rfl q8)), Rc_of rfl rfl (B_X7_follows_0 _ _ _ _ ?_), Rc_of rfl rfl (B_X8_follows_0 _ _ _ _ ?_)⟩
        · rw [(k1.2 33 (by decide)).1]; exact hm.2
        · simp (disch := first | omega | assumption | exact bI_01 | exact Or.inl rfl | exact Or.inr rfl) only [↓reduceIte, ↓if_bI, ↓if10, ↓if00, bI_eq0, not_false_eq_true, not_true_eq_false, and_true, true_and, and_false, false_and, or_true, true_or, or_false, false_or, ↓c_Is, ↓c_Js, ↓c_Vs, ↓c_An, ↓c_Ar, ↓o_0, ↓q_0_0, ↓q_0_1, ↓q_0_2, ↓q_0_3, ↓q_0_4, ↓q_0_5, ↓q_0_6, ↓q_0_7, ↓w_0_7, ↓o_18, ↓q_18_0, ↓w_18_0, ↓q_18_1, ↓q_18_2, ↓q_18_3, ↓q_18_4, ↓a_19, ↓s_19, ↓a_20, ↓s_20, ↓a_21, ↓s_21, ↓a_22, ↓s_22, ↓o_23, ↓q_23_0, ↓w_23_0, ↓q_23_1, ↓w_23_1, ↓o_24, ↓q_24_0, ↓w_24_0, ↓q_24_1, ↓q_24_2, ↓q_24_3, ↓w_24_3, ↓q_24_4, ↓q_24_5, ↓a_25, ↓s_25, ↓a_26, ↓s_26, ↓a_27, ↓s_27, ↓a_28, ↓s_28, ↓o_29, ↓q_29_0, ↓w_29_0, ↓q_29_1, ↓w_29_1, ↓q_29_2, ↓w_29_2, ↓q_29_3, ↓q_29_4, ↓q_29_5, ↓q_29_6, ↓q_29_7, ↓w_29_7, ↓q_29_8, ↓q_29_9, ↓w_29_9, ↓q_29_10, ↓w_29_10, ↓q_29_11, ↓a_30, ↓s_30, ↓a_31, ↓s_31, ↓a_32, ↓s_32, ↓a_33, ↓s_33, ↓a_34, ↓s_34, ↓a_35, ↓s_35, ↓o_36, ↓q_36_0, ↓q_36_1, ↓w_36_1, ↓q_36_2, ↓w_36_2, ↓q_36_3, ↓q_36_4, ↓a_37, ↓s_37, ↓a_38, ↓s_38, ↓o_39, ↓q_39_0, ↓q_39_1, ↓w_39_1, ↓q_39_2, ↓q_39_3, ↓w_39_3, ↓q_39_4, ↓q_39_5, ↓a_40, ↓s_40, ↓a_41, ↓s_41, ↓a_42, ↓s_42, ↓o_43, ↓q_43_0, ↓w_43_0, ↓q_43_1, ↓q_43_2, ↓q_43_3, ↓q_43_4, ↓q_43_5, ↓q_43_6, ↓q_43_7, ↓q_43_8, ↓q_43_9, ↓w_43_9, ↓q_43_10, ↓q_43_11, ↓q_43_12, ↓q_43_13, ↓q_43_14, ↓w_43_14, ↓q_43_15, ↓w_43_15, ↓q_43_16, ↓q_43_17, ↓w_43_17, ↓q_43_18, ↓w_43_18, ↓q_43_19, ↓q_43_20, ↓q_43_21, ↓q_43_22, ↓w_43_22, ↓q_43_23, ↓w_43_23, ↓q_43_24, ↓q_43_25, ↓q_43_26, ↓w_43_26, ↓q_43_27, ↓q_43_28, ↓q_43_29, ↓w_43_29, ↓q_43_30, ↓q_43_31, ↓q_43_32, ↓q_43_33, ↓w_43_33, ↓q_43_34, ↓q_43_35, ↓q_43_36, ↓a_44, ↓s_44, ↓a_45, ↓s_45, ↓a_46, ↓s_46, ↓a_47, ↓s_47, ↓a_48, ↓s_48, ↓a_49, ↓s_49, ↓a_50, ↓s_50, ↓a_51, ↓s_51, ↓a_52, ↓s_52, ↓a_53, ↓s_53, ↓a_54, ↓s_54, ↓a_55, ↓s_55, ↓a_56, ↓s_56, ↓a_57, ↓s_57, ↓a_58, ↓s_58, ↓a_59, ↓s_59, ↓a_60, ↓s_60, ↓a_61, ↓s_61, ↓a_62, ↓s_62, ↓a_63, ↓s_63, ↓a_64, ↓s_64, ↓a_65, ↓s_65, ↓a_66, ↓s_66, ↓a_67, ↓s_67, ↓a_68, ↓s_68, ↓a_69, ↓s_69, ↓a_1, le0_T, le0_F, addm1, sA_1, sA_22, sL_1, sL_21, sF_2, sA_eq, sA_ne, sA_nj, sL_eq, sL_ne, sL_nj, sF_eq, sF_ne, sF_nj, le_T, le_F, lt_T, lt_F, lt0_F, eq_T, eq_F, eq_N, m9_F, m1_F, z_F, z_N, l2, l3, l4, l5, l6, l8, l12, l24, l40, l70, l96, l255, l256, l280, l320, c_Is, c_Js, c_Vs, c_An, c_Ar, if_bI, rI0, rI1, rIb, if00, if10, lg0, nI_1, nI_add, sub_1, sub_N, if_true, if_false, ite_true, ite_false, ge0_T, ge0_F, in_d, in_e, mul_n, a_47, s_47, a_48, s_48, a_49, s_49, a_42, s_42, a_69, s_69, a_59, a_63, a_28, a_50, s_50, a_51, s_51, ↓cI (isWithinAll_s q1 _), ↓if_pos qx, ↓if_pos qy, ↓cI (e), ↓cI (isWithin_s _ _), ↓if_neg qw]
        · simp (disch := first | omega | assumption | exact bI_01 | exact Or.inl rfl | exact Or.inr rfl) only [↓reduceIte, ↓if_bI, ↓if10, ↓if00, bI_eq0, not_false_eq_true, not_true_eq_false, and_true, true_and, and_false, false_and, or_true, true_or, or_false, false_or, ↓c_Is, ↓c_Js, ↓c_Vs, ↓c_An, ↓c_Ar, ↓o_0, ↓q_0_0, ↓q_0_1, ↓q_0_2, ↓q_0_3, ↓q_0_4, ↓q_0_5, ↓q_0_6, ↓q_0_7, ↓w_0_7, ↓o_18, ↓q_18_0, ↓w_18_0, ↓q_18_1, ↓q_18_2, ↓q_18_3, ↓q_18_4, ↓a_19, ↓s_19, ↓a_20, ↓s_20, ↓a_21, ↓s_21, ↓a_22, ↓s_22, ↓o_23, ↓q_23_0, ↓w_23_0, ↓q_23_1, ↓w_23_1, ↓o_24, ↓q_24_0, ↓w_24_0, ↓q_24_1, ↓q_24_2, ↓q_24_3, ↓w_24_3, ↓q_24_4, ↓q_24_5, ↓a_25, ↓s_25, ↓a_26, ↓s_26, ↓a_27, ↓s_27, ↓a_28, ↓s_28, ↓o_29, ↓q_29_0, ↓w_29_0, ↓q_29_1, ↓w_29_1, ↓q_29_2, ↓w_29_2, ↓q_29_3, ↓q_29_4, ↓q_29_5, ↓q_29_6, ↓q_29_7, ↓w_29_7, ↓q_29_8, ↓q_29_9, ↓w_29_9, ↓q_29_10, ↓w_29_10, ↓q_29_11, ↓a_30, ↓s_30, ↓a_31, ↓s_31, ↓a_32, ↓s_32, ↓a_33, ↓s_33, ↓a_34, ↓s_34, ↓a_35, ↓s_35, ↓o_36, ↓q_36_0, ↓q_36_1, ↓w_36_1, ↓q_36_2, ↓w_36_2, ↓q_36_3, ↓q_36_4, ↓a_37, ↓s_37, ↓a_38, ↓s_38, ↓o_39, ↓q_39_0, ↓q_39_1, ↓w_39_1, ↓q_39_2, ↓q_39_3, ↓w_39_3, ↓q_39_4, ↓q_39_5, ↓a_40, ↓s_40, ↓a_41, ↓s_41, ↓a_42, ↓s_42, ↓o_43, ↓q_43_0, ↓w_43_0, ↓q_43_1, ↓q_43_2, ↓q_43_3, ↓q_43_4, ↓q_43_5, ↓q_43_6, ↓q_43_7, ↓q_43_8, ↓q_43_9, ↓w_43_9, ↓q_43_10, ↓q_43_11, ↓q_43_12, ↓q_43_13, ↓q_43_14, ↓w_43_14, ↓q_43_15, ↓w_43_15, ↓q_43_16, ↓q_43_17, ↓w_43_17, ↓q_43_18, ↓w_43_18, ↓q_43_19, ↓q_43_20, ↓q_43_21, ↓q_43_22, ↓w_43_22, ↓q_43_23, ↓w_43_23, ↓q_43_24, ↓q_43_25, ↓q_43_26, ↓w_43_26, ↓q_43_27, ↓q_43_28, ↓q_43_29, ↓w_43_29, ↓q_43_30, ↓q_43_31, ↓q_43_32, ↓q_43_33, ↓w_43_33, ↓q_43_34, ↓q_43_35, ↓q_43_36, ↓a_44, ↓s_44, ↓a_45, ↓s_45, ↓a_46, ↓s_46, ↓a_47, ↓s_47, ↓a_48, ↓s_48, ↓a_49, ↓s_49, ↓a_50, ↓s_50, ↓a_51, ↓s_51, ↓a_52, ↓s_52, ↓a_53, ↓s_53, ↓a_54, ↓s_54, ↓a_55, ↓s_55, ↓a_56, ↓s_56, ↓a_57, ↓s_57, ↓a_58, ↓s_58, ↓a_59, ↓s_59, ↓a_60, ↓s_60, ↓a_61, ↓s_61, ↓a_62, ↓s_62, ↓a_63, ↓s_63, ↓a_64, ↓s_64, ↓a_65, ↓s_65, ↓a_66, ↓s_66, ↓a_67, ↓s_67, ↓a_68, ↓s_68, ↓a_69, ↓s_69, ↓a_1, le0_T, le0_F, addm1, sA_1, sA_22, sL_1, sL_21, sF_2, sA_eq, sA_ne, sA_nj, sL_eq, sL_ne, sL_nj, sF_eq, sF_ne, sF_nj, le_T, le_F, lt_T, lt_F, lt0_F, eq_T, eq_F, eq_N, m9_F, m1_F, z_F, z_N, l2, l3, l4, l5, l6, l8, l12, l24, l40, l70, l96, l255, l256, l280, l320, c_Is, c_Js, c_Vs, c_An, c_Ar, if_bI, rI0, rI1, rIb, if00, if10, lg0, nI_1, nI_add, sub_1, sub_N, if_true, if_false, ite_true, ite_false, ge0_T, ge0_F, in_d, in_e, mul_n, a_47, s_47, a_48, s_48, a_49, s_49, a_42, s_42, a_69, s_69, a_59, a_63, a_28, a_50, s_50, a_51, s_51, ↓cI (within_q m1 _), ↓if_pos qx, ↓if_pos qy]
          exact k4
    · refine ⟨some (.int (-2)), S, S, h, Rc_of rfl rfl (B_X7_follows_0 _ _ _ _ ?_), Rc_of rfl rfl (B_X8_follows_0 _ _ _ _ ?_)⟩
      · simp (disch := first | omega | assumption | exact bI_01 | exact Or.inl rfl | exact Or.inr rfl) only [↓reduceIte, ↓if_bI, ↓if10, ↓if00, bI_eq0, not_false_eq_true, not_true_eq_false, and_true, true_and, and_false, false_and, or_true, true_or, or_false, false_or, ↓c_Is, ↓c_Js, ↓c_Vs, ↓c_An, ↓c_Ar, ↓o_0, ↓q_0_0, ↓q_0_1, ↓q_0_2, ↓q_0_3, ↓q_0_4, ↓q_0_5, ↓q_0_6, ↓q_0_7, ↓w_0_7, ↓o_18, ↓q_18_0, ↓w_18_0, ↓q_18_1, ↓q_18_2, ↓q_18_3, ↓q_18_4, ↓a_19, ↓s_19, ↓a_20, ↓s_20, ↓a_21, ↓s_21, ↓a_22, ↓s_22, ↓o_23, ↓q_23_0, ↓w_23_0, ↓q_23_1, ↓w_23_1, ↓o_24, ↓q_24_0, ↓w_24_0, ↓q_24_1, ↓q_24_2, ↓q_24_3, ↓w_24_3, ↓q_24_4, ↓q_24_5, ↓a_25, ↓s_25, ↓a_26, ↓s_26, ↓a_27, ↓s_27, ↓a_28, ↓s_28, ↓o_29, ↓q_29_0, ↓w_29_0, ↓q_29_1, ↓w_29_1, ↓q_29_2, ↓w_29_2, ↓q_29_3, ↓q_29_4, ↓q_29_5, ↓q_29_6, ↓q_29_7, ↓w_29_7, ↓q_29_8, ↓q_29_9, ↓w_29_9, ↓q_29_10, ↓w_29_10, ↓q_29_11, ↓a_30, ↓s_30, ↓a_31, ↓s_31, ↓a_32, ↓s_32, ↓a_33, ↓s_33, ↓a_34, ↓s_34, ↓a_35, ↓s_35, ↓o_36, ↓q_36_0, ↓q_36_1, ↓w_36_1, ↓q_36_2, ↓w_36_2, ↓q_36_3, ↓q_36_4, ↓a_37, ↓s_37, ↓a_38, ↓s_38, ↓o_39, ↓q_39_0, ↓q_39_1, ↓w_39_1, ↓q_39_2, ↓q_39_3, ↓w_39_3, ↓q_39_4, ↓q_39_5, ↓a_40, ↓s_40, ↓a_41, ↓s_41, ↓a_42, ↓s_42, ↓o_43, ↓q_43_0, ↓w_43_0, ↓q_43_1, ↓q_43_2, ↓q_43_3, ↓q_43_4, ↓q_43_5, ↓q_43_6, ↓q_43_7, ↓q_43_8, ↓q_43_9, ↓w_43_9, ↓q_43_10, ↓q_43_11, ↓q_43_12, ↓q_43_13, ↓q_43_14, ↓w_43_14, ↓q_43_15, ↓w_43_15, ↓q_43_16, ↓q_43_17, ↓w_43_17, ↓q_43_18, ↓w_43_18, ↓q_43_19, ↓q_43_20, ↓q_43_21, ↓q_43_22, ↓w_43_22, ↓q_43_23, ↓w_43_23, ↓q_43_24, ↓q_43_25, ↓q_43_26, ↓w_43_26, ↓q_43_27, ↓q_43_28, ↓q_43_29, ↓w_43_29, ↓q_43_30, ↓q_43_31, ↓q_43_32, ↓q_43_33, ↓w_43_33, ↓q_43_34, ↓q_43_35, ↓q_43_36, ↓a_44, ↓s_44, ↓a_45, ↓s_45, ↓a_46, ↓s_46, ↓a_47, ↓s_47, ↓a_48, ↓s_48, ↓a_49, ↓s_49, ↓a_50, ↓s_50, ↓a_51, ↓s_51, ↓a_52, ↓s_52, ↓a_53, ↓s_53, ↓a_54, ↓s_54, ↓a_55, ↓s_55, ↓a_56, ↓s_56, ↓a_57, ↓s_57, ↓a_58, ↓s_58, ↓a_59, ↓s_59, ↓a_60, ↓s_60, ↓a_61, ↓s_61, ↓a_62, ↓s_62, ↓a_63, ↓s_63, ↓a_64, ↓s_64, ↓a_65, ↓s_65, ↓a_66, ↓s_66, ↓a_67, ↓s_67, ↓a_68, ↓s_68, ↓a_69, ↓s_69, ↓a_1, le0_T, le0_F, addm1, sA_1, sA_22, sL_1, sL_21, sF_2, sA_eq, sA_ne, sA_nj, sL_eq, sL_ne, sL_nj, sF_eq, sF_ne, sF_nj, le_T, le_F, lt_T, lt_F, lt0_F, eq_T, eq_F, eq_N, m9_F, m1_F, z_F, z_N, l2, l3, l4, l5, l6, l8, l12, l24, l40, l70, l96, l255, l256, l280, l320, c_Is, c_Js, c_Vs, c_An, c_Ar, if_bI, rI0, rI1, rIb, if00, if10, lg0, nI_1, nI_add, sub_1, sub_N, if_true, if_false, ite_true, ite_false, ge0_T, ge0_F, in_d, in_e, mul_n, a_47, s_47, a_48, s_48, a_49, s_49, a_42, s_42, a_69, s_69, a_59, a_63, a_28, a_50, s_50, a_51, s_51, ↓cI (isWithinAll_s q1 _), ↓if_pos qx, ↓if_neg qy]
      · simp (disch := first | omega | assumption | exact bI_01 | exact Or.inl rfl | exact Or.inr rfl) only [↓reduceIte, ↓if_bI, ↓if10, ↓if00, bI_eq0, not_false_eq_true, not_true_eq_false, and_true, true_and, and_false, false_and, or_true, true_or, or_false, false_or, ↓c_Is, ↓c_Js, ↓c_Vs, ↓c_An, ↓c_Ar, ↓o_0, ↓q_0_0, ↓q_0_1, ↓q_0_2, ↓q_0_3, ↓q_0_4, ↓q_0_5, ↓q_0_6, ↓q_0_7, ↓w_0_7, ↓o_18, ↓q_18_0, ↓w_18_0, ↓q_18_1, ↓q_18_2, ↓q_18_3, ↓q_18_4, ↓a_19, ↓s_19, ↓a_20, ↓s_20, ↓a_21, ↓s_21, ↓a_22, ↓s_22, ↓o_23, ↓q_23_0, ↓w_23_0, ↓q_23_1, ↓w_23_1, ↓o_24, ↓q_24_0, ↓w_24_0, ↓q_24_1, ↓q_24_2, ↓q_24_3, ↓w_24_3, ↓q_24_4, ↓q_24_5, ↓a_25, ↓s_25, ↓a_26, ↓s_26, ↓a_27, ↓s_27, ↓a_28, ↓s_28, ↓o_29, ↓q_29_0, ↓w_29_0, ↓q_29_1, ↓w_29_1, ↓q_29_2, ↓w_29_2, ↓q_29_3, ↓q_29_4, ↓q_29_5, ↓q_29_6, ↓q_29_7, ↓w_29_7, ↓q_29_8, ↓q_29_9, ↓w_29_9, ↓q_29_10, ↓w_29_10, ↓q_29_11, ↓a_30, ↓s_30, ↓a_31, ↓s_31, ↓a_32, ↓s_32, ↓a_33, ↓s_33, ↓a_34, ↓s_34, ↓a_35, ↓s_35, ↓o_36, ↓q_36_0, ↓q_36_1, ↓w_36_1, ↓q_36_2, ↓w_36_2, ↓q_36_3, ↓q_36_4, ↓a_37, ↓s_37, ↓a_38, ↓s_38, ↓o_39, ↓q_39_0, ↓q_39_1, ↓w_39_1, ↓q_39_2, ↓q_39_3, ↓w_39_3, ↓q_39_4, ↓q_39_5, ↓a_40, ↓s_40, ↓a_41, ↓s_41, ↓a_42, ↓s_42, ↓o_43, ↓q_43_0, ↓w_43_0, ↓q_43_1, ↓q_43_2, ↓q_43_3, ↓q_43_4, ↓q_43_5, ↓q_43_6, ↓q_43_7, ↓q_43_8, ↓q_43_9, ↓w_43_9, ↓q_43_10, ↓q_43_11, ↓q_43_12, ↓q_43_13, ↓q_43_14, ↓w_43_14, ↓q_43_15, ↓w_43_15, ↓q_43_16, ↓q_43_17, ↓w_43_17, ↓q_43_18, ↓w_43_18, ↓q_43_19, ↓q_43_20, ↓q_43_21, ↓q_43_22, ↓w_43_22, ↓q_43_23, ↓w_43_23, ↓q_43_24, ↓q_43_25, ↓q_43_26, ↓w_43_26, ↓q_43_27, ↓q_43_28, ↓q_43_29, ↓w_43_29, ↓q_43_30, ↓q_43_31, ↓q_43_32, ↓q_43_33, ↓w_43_33, ↓q_43_34, ↓q_43_35, ↓q_43_36, ↓a_44, ↓s_44, ↓a_45, ↓s_45, ↓a_46, ↓s_46, ↓a_47, ↓s_47, ↓a_48, ↓s_48, ↓a_49, ↓s_49, ↓a_50, ↓s_50, ↓a_51, ↓s_51, ↓a_52, ↓s_52, ↓a_53, ↓s_53, ↓a_54, ↓s_54, ↓a_55, ↓s_55, ↓a_56, ↓s_56, ↓a_57, ↓s_57, ↓a_58, ↓s_58, ↓a_59, ↓s_59, ↓a_60, ↓s_60, ↓a_61, ↓s_61, ↓a_62, ↓s_62, ↓a_63, ↓s_63, ↓a_64, ↓s_64, ↓a_65, ↓s_65, ↓a_66, ↓s_66, ↓a_67, ↓s_67, ↓a_68, ↓s_68, ↓a_69, ↓s_69, ↓a_1, le0_T, le0_F, addm1, sA_1, sA_22, sL_1, sL_21, sF_2, sA_eq, sA_ne, sA_nj, sL_eq, sL_ne, sL_nj, sF_eq, sF_ne, sF_nj, le_T, le_F, lt_T, lt_F, lt0_F, eq_T, eq_F, eq_N, m9_F, m1_F, z_F, z_N, l2, l3, l4, l5, l6, l8, l12, l24, l40, l70, l96, l255, l256, l280, l320, c_Is, c_Js, c_Vs, c_An, c_Ar, if_bI, rI0, rI1, rIb, if00, if10, lg0, nI_1, nI_add, sub_1, sub_N, if_true, if_false, ite_true, ite_false, ge0_T, ge0_F, in_d, in_e, mul_n, a_47, s_47, a_48, s_48, a_49, s_49, a_42, s_42, a_69, s_69, a_59, a_63, a_28, a_50, s_50, a_51, s_51, ↓cI (within_q q5 _), ↓if_pos qx, ↓if_neg qy]
  · refine ⟨some (.int (-2)), S, S, h, Rc_of rfl rfl (B_X7_follows_0 _ _ _ _ ?_), Rc_of rfl rfl (B_X8_follows_0 _ _ _ _ ?_)⟩
    · simp (disch := first | omega | assumption | exact bI_01 | exact Or.inl rfl | exact Or.inr rfl) only [↓reduceIte, ↓if_bI, ↓if10, ↓if00, bI_eq0, not_false_eq_true, not_true_eq_false, and_true, true_and, and_false, false_and, or_true, true_or, or_false, false_or, ↓c_Is, ↓c_Js, ↓c_Vs, ↓c_An, ↓c_Ar, ↓o_0, ↓q_0_0, ↓q_0_1, ↓q_0_2, ↓q_0_3, ↓q_0_4, ↓q_0_5, ↓q_0_6, ↓q_0_7, ↓w_0_7, ↓o_18, ↓q_18_0, ↓w_18_0, ↓q_18_1, ↓q_18_2, ↓q_18_3, ↓q_18_4, ↓a_19, ↓s_19, ↓a_20, ↓s_20, ↓a_21, ↓s_21, ↓a_22, ↓s_22, ↓o_23, ↓q_23_0, ↓w_23_0, ↓q_23_1, ↓w_23_1, ↓o_24, ↓q_24_0, ↓w_24_0, ↓q_24_1, ↓q_24_2, ↓q_24_3, ↓w_24_3, ↓q_24_4, ↓q_24_5, ↓a_25, ↓s_25, ↓a_26, ↓s_26, ↓a_27, ↓s_27, ↓a_28, ↓s_28, ↓o_29, ↓q_29_0, ↓w_29_0, ↓q_29_1, ↓w_29_1, ↓q_29_2, ↓w_29_2, ↓q_29_3, ↓q_29_4, ↓q_29_5, ↓q_29_6, ↓q_29_7, ↓w_29_7, ↓q_29_8, ↓q_29_9, ↓w_29_9, ↓q_29_10, ↓w_29_10, ↓q_29_11, ↓a_30, ↓s_30, ↓a_31, ↓s_31, ↓a_32, ↓s_32, ↓a_33, ↓s_33, ↓a_34, ↓s_34, ↓a_35, ↓s_35, ↓o_36, ↓q_36_0, ↓q_36_1, ↓w_36_1, ↓q_36_2, ↓w_36_2, ↓q_36_3, ↓q_36_4, ↓a_37, ↓s_37, ↓a_38, ↓s_38, ↓o_39, ↓q_39_0, ↓q_39_1, ↓w_39_1, ↓q_39_2, ↓q_39_3, ↓w_39_3, ↓q_39_4, ↓q_39_5, ↓a_40, ↓s_40, ↓a_41, ↓s_41, ↓a_42, ↓s_42, ↓o_43, ↓q_43_0, ↓w_43_0, ↓q_43_1, ↓q_43_2, ↓q_43_3, ↓q_43_4, ↓q_43_5, ↓q_43_6, ↓q_43_7, ↓q_43_8, ↓q_43_9, ↓w_43_9, ↓q_43_10, ↓q_43_11, ↓q_43_12, ↓q_43_13, ↓q_43_14, ↓w_43_14, ↓q_43_15, ↓w_43_15, ↓q_43_16, ↓q_43_17, ↓w_43_17, ↓q_43_18, ↓w_43_18, ↓q_43_19, ↓q_43_20, ↓q_43_21, ↓q_43_22, ↓w_43_22, ↓q_43_23, ↓w_43_23, ↓q_43_24, ↓q_43_25, ↓q_43_26, ↓w_43_26, ↓q_43_27, ↓q_43_28, ↓q_43_29, ↓w_43_29, ↓q_43_30, ↓q_43_31, ↓q_43_32, ↓q_43_33, ↓w_43_33, ↓q_43_34, ↓q_43_35, ↓q_43_36, ↓a_44, ↓s_44, ↓a_45, ↓s_45, ↓a_46, ↓s_46, ↓a_47, ↓s_47, ↓a_48, ↓s_48, ↓a_49, ↓s_49, ↓a_50, ↓s_50, ↓a_51, ↓s_51, ↓a_52, ↓s_52, ↓a_53, ↓s_53, ↓a_54, ↓s_54, ↓a_55, ↓s_55, ↓a_56, ↓s_56, ↓a_57, ↓s_57, ↓a_58, ↓s_58, ↓a_59, ↓s_59, ↓a_60, ↓s_60, ↓a_61, ↓s_61, ↓a_62, ↓s_62, ↓a_63, ↓s_63, ↓a_64, ↓s_64, ↓a_65, ↓s_65, ↓a_66, ↓s_66, ↓a_67, ↓s_67, ↓a_68, ↓s_68, ↓a_69, ↓s_69, ↓a_1, le0_T, le0_F, addm1, sA_1, sA_22, sL_1, sL_21, sF_2, sA_eq, sA_ne, sA_nj, sL_eq, sL_ne, sL_nj, sF_eq, sF_ne, sF_nj, le_T, le_F, lt_T, lt_F, lt0_F, eq_T, eq_F, eq_N, m9_F, m1_F, z_F, z_N, l2, l3, l4, l5, l6, l8, l12, l24, l40, l70, l96, l255, l256, l280, l320, c_Is, c_Js, c_Vs, c_An, c_Ar, if_bI, rI0, rI1, rIb, if00, if10, lg0, nI_1, nI_add, sub_1, sub_N, if_true, if_false, ite_true, ite_false, ge0_T, ge0_F, in_d, in_e, mul_n, a_47, s_47, a_48, s_48, a_49, s_49, a_42, s_42, a_69, s_69, a_59, a_63, a_28, a_50, s_50, a_51, s_51, ↓cI (isWithinAll_s q1 _), ↓if_neg qx]
    · simp (disch := first | omega | assumption | exact bI_01 | exact Or.inl rfl | exact Or.inr rfl) only [↓reduceIte, ↓if_bI, ↓if10, ↓if00, bI_eq0, not_false_eq_true, not_true_eq_false, and_true, true_and, and_false, false_and, or_true, true_or, or_false, false_or, ↓c_Is, ↓c_Js, ↓c_Vs, ↓c_An, ↓c_Ar, ↓o_0, ↓q_0_0, ↓q_0_1, ↓q_0_2, ↓q_0_3, ↓q_0_4, ↓q_0_5, ↓q_0_6, ↓q_0_7, ↓w_0_7, ↓o_18, ↓q_18_0, ↓w_18_0, ↓q_18_1, ↓q_18_2, ↓q_18_3, ↓q_18_4, ↓a_19, ↓s_19, ↓a_20, ↓s_20, ↓a_21, ↓s_21, ↓a_22, ↓s_22, ↓o_23, ↓q_23_0, ↓w_23_0, ↓q_23_1, ↓w_23_1, ↓o_24, ↓q_24_0, ↓w_24_0, ↓q_24_1, ↓q_24_2, ↓q_24_3, ↓w_24_3, ↓q_24_4, ↓q_24_5, ↓a_25, ↓s_25, ↓a_26, ↓s_26, ↓a_27, ↓s_27, ↓a_28, ↓s_28, ↓o_29, ↓q_29_0, ↓w_29_0, ↓q_29_1, ↓w_29_1, ↓q_29_2, ↓w_29_2, ↓q_29_3, ↓q_29_4, ↓q_29_5, ↓q_29_6, ↓q_29_7, ↓w_29_7, ↓q_29_8, ↓q_29_9, ↓w_29_9, ↓q_29_10, ↓w_29_10, ↓q_29_11, ↓a_30, ↓s_30, ↓a_31, ↓s_31, ↓a_32, ↓s_32, ↓a_33, ↓s_33, ↓a_34, ↓s_34, ↓a_35, ↓s_35, ↓o_36, ↓q_36_0, ↓q_36_1, ↓w_36_1, ↓q_36_2, ↓w_36_2, ↓q_36_3, ↓q_36_4, ↓a_37, ↓s_37, ↓a_38, ↓s_38, ↓o_39, ↓q_39_0, ↓q_39_1, ↓w_39_1, ↓q_39_2, ↓q_39_3, ↓w_39_3, ↓q_39_4, ↓q_39_5, ↓a_40, ↓s_40, ↓a_41, ↓s_41, ↓a_42, ↓s_42, ↓o_43, ↓q_43_0, ↓w_43_0, ↓q_43_1, ↓q_43_2, ↓q_43_3, ↓q_43_4, ↓q_43_5, ↓q_43_6, ↓q_43_7, ↓q_43_8, ↓q_43_9, ↓w_43_9, ↓q_43_10, ↓q_43_11, ↓q_43_12, ↓q_43_13, ↓q_43_14, ↓w_43_14, ↓q_43_15, ↓w_43_15, ↓q_43_16, ↓q_43_17, ↓w_43_17, ↓q_43_18, ↓w_43_18, ↓q_43_19, ↓q_43_20, ↓q_43_21, ↓q_43_22, ↓w_43_22, ↓q_43_23, ↓w_43_23, ↓q_43_24, ↓q_43_25, ↓q_43_26, ↓w_43_26, ↓q_43_27, ↓q_43_28, ↓q_43_29, ↓w_43_29, ↓q_43_30, ↓q_43_31, ↓q_43_32, ↓q_43_33, ↓w_43_33, ↓q_43_34, ↓q_43_35, ↓q_43_36, ↓a_44, ↓s_44, ↓a_45, ↓s_45, ↓a_46, ↓s_46, ↓a_47, ↓s_47, ↓a_48, ↓s_48, ↓a_49, ↓s_49, ↓a_50, ↓s_50, ↓a_51, ↓s_51, ↓a_52, ↓s_52, ↓a_53, ↓s_53, ↓a_54, ↓s_54, ↓a_55, ↓s_55, ↓a_56, ↓s_56, ↓a_57, ↓s_57, ↓a_58, ↓s_58, ↓a_59, ↓s_59, ↓a_60, ↓s_60, ↓a_61, ↓s_61, ↓a_62, ↓s_62, ↓a_63, ↓s_63, ↓a_64, ↓s_64, ↓a_65, ↓s_65, ↓a_66, ↓s_66, ↓a_67, ↓s_67, ↓a_68, ↓s_68, ↓a_69, ↓s_69, ↓a_1, le0_T, le0_F, addm1, sA_1, sA_22, sL_1, sL_21, sF_2, sA_eq, sA_ne, sA_nj, sL_eq, sL_ne, sL_nj, sF_eq, sF_ne, sF_nj, le_T, le_F, lt_T, lt_F, lt0_F, eq_T, eq_F, eq_N, m9_F, m1_F, z_F, z_N, l2, l3, l4, l5, l6, l8, l12, l24, l40, l70, l96, l255, l256, l280, l320, c_Is, c_Js, c_Vs, c_An, c_Ar, if_bI, rI0, rI1, rIb, if00, if10, lg0, nI_1, nI_add, sub_1, sub_N, if_true, if_false, ite_true, ite_false, ge0_T, ge0_F, in_d, in_e, mul_n, a_47, s_47, a_48, s_48, a_49, s_49, a_42, s_42, a_69, s_69, a_59, a_63, a_28, a_50, s_50, a_51, s_51, ↓cI (within_q q5 _), ↓if_neg qx]
end FOL
