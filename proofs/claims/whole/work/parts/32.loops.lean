/-! LOOPS, in general -/
section LOOPS
variable {α : Type}
/-- the first place of a row -/
theorem loop_first {F : Nat} {p : Nat → Bool} {G : Nat → Option RT} {yes : Nat → RT} {no : RT} (hend : G F = some no) (hyes : ∀ k, k < F → p k = true → G k = some (yes k)) (hno : ∀ k, k < F → p k = false → ∀ r, G (k + 1) = some r → G k = some r) : G 0 = some (if fa_first p F < F then yes (fa_first p F) else no) := by
  have key : ∀ d k, k + d = F → (∀ i, i < k → p i = false) → G k = some (if fa_first p F < F then yes (fa_first p F) else no) := by
    intro d
    induction d with
    | zero =>
      intro k hk hp
      have h1 : ¬ fa_first p F < F := by
        intro q
        have := hp _ (by omega : fa_first p F < k)
        rw [fa_first_yes p F q] at this
        cases this
      rw [if_neg h1, show k = F by omega]
      exact hend
    | succ d ih =>
      intro k hk hp
      cases hpk : p k with
      | true =>
        have h1 : fa_first p F = k := by
          rcases Nat.lt_trichotomy (fa_first p F) k with h | h | h
          · have h2 := hp _ h
            have h3 := fa_first_yes p F (by omega)
            rw [h2] at h3
            cases h3
          · exact h
          · have h2 := fa_first_no p F k h
            rw [hpk] at h2
            cases h2
        rw [h1, if_pos (by omega)]
        exact hyes k (by omega) hpk
      | false =>
        refine hno k (by omega) hpk _ (ih (k + 1) (by omega) fun i hi => ?_)
        by_cases h : i = k
        · rw [h]; exact hpk
        · exact hp i (by omega)
  exact key F 0 (by omega) (fun i hi => by omega)
/-- steps counted -/
def it (g : Nat → α → α) : Nat → α → α
  | 0, a => a
  | n + 1, a => g n (it g n a)
theorem loop_inv {F : Nat} {g : Nat → α → α} {G : Nat → α → Option RT} {fin : α → RT} (I : Nat → α → Prop) {a0 : α} (h0 : I 0 a0) (hs : ∀ k a, k < F → I k a → I (k + 1) (g k a) ∧ ∀ r, G (k + 1) (g k a) = some r → G k a = some r) (hend : ∀ a, I F a → G F a = some (fin a)) : G 0 a0 = some (fin (it g F a0)) ∧ I F (it g F a0) := by
  have hI : ∀ k, k ≤ F → I k (it g k a0) := by
    intro k
    induction k with
    | zero => intro _; exact h0
    | succ k ih => intro hk; exact (hs k _ (by omega) (ih (by omega))).1
  have key : ∀ d k, k + d = F → G k (it g k a0) = some (fin (it g F a0)) := by
    intro d
    induction d with
    | zero => intro k hk; rw [show k = F by omega]; exact hend _ (hI F (Nat.le_refl _))
    | succ d ih => intro k hk; exact (hs k _ (by omega) (hI k (by omega))).2 _ (ih (k + 1) (by omega))
  exact ⟨key F 0 (by omega), hI F (Nat.le_refl _)⟩
theorem loop_acc {F : Nat} {g : Nat → α → α} {G : Nat → α → Option RT} {fin : α → RT} {a0 : α} (hs : ∀ k a, k < F → ∀ r, G (k + 1) (g k a) = some r → G k a = some r) (hend : ∀ a, G F a = some (fin a)) : G 0 a0 = some (fin (it g F a0)) :=
  (loop_inv (I := fun _ _ => True) trivial (fun k a hk _ => ⟨trivial, hs k a hk⟩) (fun a _ => hend a)).1
/-- a loop that ends early: g says whether it goes on -/
def itw (g : Nat → α → α ⊕ α) : Nat → Nat → α → α
  | 0, _, a => a
  | n + 1, k, a => match g k a with
    | .inl b => b
    | .inr b => itw g n (k + 1) b
theorem it_inv {g : Nat → α → α} (I : Nat → α → Prop) {a0 : α} (h0 : I 0 a0) {F : Nat} (hs : ∀ k a, k < F → I k a → I (k + 1) (g k a)) : I F (it g F a0) := by
  have hI : ∀ k, k ≤ F → I k (it g k a0) := by
    intro k
    induction k with
    | zero => intro _; exact h0
    | succ k ih => intro hk; exact hs k _ (by omega) (ih (by omega))
  exact hI F (Nat.le_refl _)
end LOOPS
