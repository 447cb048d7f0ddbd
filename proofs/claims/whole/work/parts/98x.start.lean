/-! THE START: both objects new -/
def S0 : SS := (fun a j => if a = 23 then -9 else if a = 29 then (if j = 0 then 4 else if j = 1 then 15 else 0) else if a = 43 then (if j = 22 then 4 else if j = 14 then -9 else if j = 15 then -9 else 0) else 0, fun a => if a = 33 then (fun i => if i < 256 then -1 else 0) else if a = 44 then fmc else fun _ => 0, fun _ _ => 0)
def tb4 : List RE := [] ++ tabC 2 ++ tabC 6 ++ tabC 10 ++ tabC 14
def l43 (f : Nat → Option Nat) : List RE := .inr (7, [.ref 1, .ref 18, .ref 23, .ref 24, .ref 29, .ref 36, .ref 39, .int 0]) :: (.inl (4, 4, .inr (.inr (.inr (.inr f)))) :: tb4 ++ lawsC 18 ++ judC ++ seaC 24 ++ thyC 29 ++ covC 36 29 ++ parC 39 29)
def f4 : Nat → Option Nat := va_up (va_up (va_up (va_up (fun _ => none) 0 (some 2)) 1 (some 6)) 2 (some 10)) 3 (some 14)
theorem f4_e : f4 = e_t := by
  funext i
  unfold f4 e_t va_up
  by_cases h3 : i = 3
  · simp [h3]
  · by_cases h2 : i = 2
    · simp [h2]
    · by_cases h1 : i = 1
      · simp [h1]
      · by_cases h0 : i = 0
        · simp [h0]
        · simp [h0, h1, h2, h3, show ¬ i < 4 by omega]
section ST
variable {sc : RE}
theorem kf_i : Rc 92 [.ref 0] (pm sc [.inr (7, mm_dfl 7)] 8) = some (none, pm sc (l43 e_t) 4419) := by
  rw [← f4_e]
  refine Rc_of rfl rfl (B_X7_init_0 _ _ ?_)
  refine nA_pm (m := 4) rfl (by decide) ?_
  refine pF_pm (l := []) rfl rfl (by decide) ?_
  refine kt_step (f := fun _ => none) (i := 0) (R := []) (fs := [.ref 1, .null, .null, .null, .null, .null, .null, .int 0]) (z := 12) (by decide) rfl (by decide) ?_
  refine kt_step (f := va_up (fun _ => none) 0 (some 2)) (i := 1) (R := [] ++ tabC 2) (fs := [.ref 1, .null, .null, .null, .null, .null, .null, .int 0]) (z := 411) (by decide) rfl (by decide) ?_
  refine kt_step (f := va_up (va_up (fun _ => none) 0 (some 2)) 1 (some 6)) (i := 2) (R := [] ++ tabC 2 ++ tabC 6) (fs := [.ref 1, .null, .null, .null, .null, .null, .null, .int 0]) (z := 810) (by decide) rfl (by decide) ?_
  refine kt_step (f := va_up (va_up (va_up (fun _ => none) 0 (some 2)) 1 (some 6)) 2 (some 10)) (i := 3) (R := [] ++ tabC 2 ++ tabC 6 ++ tabC 10) (fs := [.ref 1, .null, .null, .null, .null, .null, .null, .int 0]) (z := 1209) (by decide) rfl (by decide) ?_
  exact kf_end (T := .inl (4, 4, .inr (.inr (.inr (.inr f4))))) (R := tb4) (z := 1608) rfl
set_option maxRecDepth 20000 in
theorem cell_0 : ∀ k, k < 70 → ((l43 e_t ++ modC 43 fmc)[k]?).getD (.inr (0, [])) = e_c S0 k shl[k]?
  | 0, _ => rfl
  | 1, _ => rfl
  | 2, _ => rfl
  | 3, _ => rfl
  | 4, _ => rfl
  | 5, _ => rfl
  | 6, _ => rfl
  | 7, _ => rfl
  | 8, _ => rfl
  | 9, _ => rfl
  | 10, _ => rfl
  | 11, _ => rfl
  | 12, _ => rfl
  | 13, _ => rfl
  | 14, _ => rfl
  | 15, _ => rfl
  | 16, _ => rfl
  | 17, _ => rfl
  | 18, _ => rfl
  | 19, _ => rfl
  | 20, _ => rfl
  | 21, _ => rfl
  | 22, _ => rfl
  | 23, _ => rfl
  | 24, _ => rfl
  | 25, _ => rfl
  | 26, _ => rfl
  | 27, _ => rfl
  | 28, _ => rfl
  | 29, _ => rfl
  | 30, _ => rfl
  | 31, _ => rfl
  | 32, _ => rfl
  | 33, _ => rfl
  | 34, _ => rfl
  | 35, _ => rfl
  | 36, _ => rfl
  | 37, _ => rfl
  | 38, _ => rfl
  | 39, _ => rfl
  | 40, _ => rfl
  | 41, _ => rfl
  | 42, _ => rfl
  | 43, _ => rfl
  | 44, _ => rfl
  | 45, _ => rfl
  | 46, _ => rfl
  | 47, _ => rfl
  | 48, _ => rfl
  | 49, _ => rfl
  | 50, _ => rfl
  | 51, _ => rfl
  | 52, _ => rfl
  | 53, _ => rfl
  | 54, _ => rfl
  | 55, _ => rfl
  | 56, _ => rfl
  | 57, _ => rfl
  | 58, _ => rfl
  | 59, _ => rfl
  | 60, _ => rfl
  | 61, _ => rfl
  | 62, _ => rfl
  | 63, _ => rfl
  | 64, _ => rfl
  | 65, _ => rfl
  | 66, _ => rfl
  | 67, _ => rfl
  | 68, _ => rfl
  | 69, _ => rfl
  | k + 70, h => by omega
theorem enc_0 : pm sc (l43 e_t ++ modC 43 fmc) 9957 = enc sc S0 := by
  refine Prod.ext rfl (Prod.ext rfl ?_)
  funext k
  show (if k = SC then sc else ((l43 e_t ++ modC 43 fmc)[k]?).getD (.inr (0, []))) = if k = SC then sc else e_c S0 k shl[k]?
  by_cases q : k = SC
  · rw [if_pos q, if_pos q]
  · rw [if_neg q, if_neg q]
    by_cases h : k < 70
    · exact cell_0 k h
    · rw [List.getElem?_eq_none (show (l43 e_t ++ modC 43 fmc).length ≤ k from Nat.le_trans (show (l43 e_t ++ modC 43 fmc).length ≤ 70 by decide) (by omega)), List.getElem?_eq_none (show shl.length ≤ k from Nat.le_trans (show shl.length ≤ 70 by decide) (by omega))]
      rfl
theorem Rel_0 : Rel S0 := by
  refine ⟨⟨fun t ht => Or.inl ?_, fun t q ht _ => Or.inl ?_, fun q _ => Or.inl rfl⟩, rfl, ⟨rfl, rfl⟩, ⟨[], [], rfl, by decide, rfl, rfl, Hl_nil _, Hl_nil _, Hl_nil _, Hl_nil _⟩, ⟨[], rfl, Hl_nil _, rfl, Hl_nil _, by decide⟩, ⟨[], ⟨rfl, by decide, Hl_nil _⟩, rfl, Hl_nil _, fun d hd => absurd hd (List.not_mem_nil)⟩, ?_⟩
  · rcases (by omega : t = 0 ∨ t = 1 ∨ t = 2 ∨ t = 3) with rfl | rfl | rfl | rfl <;> exact ⟨rfl, rfl⟩
  · rcases (by omega : t = 0 ∨ t = 1 ∨ t = 2 ∨ t = 3) with rfl | rfl | rfl | rfl <;> rfl
  · exact ⟨0, 4, fun _ => 0, fun _ => 0, fun _ => 0, fun _ => false, ⟨rfl, by decide, fun l h => absurd h (Nat.not_lt_zero _), fun l _ _ => rfl⟩, ⟨rfl, fun l h => absurd h (Nat.not_lt_zero _)⟩, fun l h => absurd h (Nat.not_lt_zero _), ⟨rfl, rfl, by decide, by decide⟩, rfl, ⟨rfl, Hl_nil _, Hl_nil _, Hl_nil _⟩, MO_none (fun s hs => if_pos hs), Or.inl rfl, Or.inl rfl⟩
end ST
