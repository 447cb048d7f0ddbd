/-! LIKENESS of rows: what it keeps to -/
section LK
variable {sc : RE} {S : SS} {a n : Nat}
/-- rows like in a set -/
def Lk (S : SS) (a n : Nat) (s i j : Nat) : Prop := ∀ c, c < n → s.testBit c = true → lkC S a i j c = true
theorem Lk_wi {s i j : Nat} (h8 : n ≤ 8) (hs : s < 2 ^ n) : wi (nI s) (nI (lkS S a n i j)) ↔ Lk S a n s i j := by
  have hp := pw8 h8
  have hl : lkS S a n i j < 256 := lkS_lt h8
  rw [wi_sub (by omega) (by omega), sub_iff]
  constructor
  · intro h c hc hb
    have := h c hb
    unfold lkS at this
    rw [bs_bit] at this
    exact ((Bool.and_eq_true _ _).mp this).2
  · intro h c hb
    have hc : c < n := bit_lt hb hs
    unfold lkS
    rw [bs_bit, decide_eq_true hc, h c hc hb]
    rfl
theorem alk_sym {lk : Bool} {u v : Option Int64} (h : alk lk u v = true) : alk lk v u = true := by
  cases u <;> cases v <;> simp_all [alk]
theorem alk_tr {lk : Bool} {u v z : Option Int64} (h : alk lk u v = true) (h' : alk lk v z = true) : alk lk u z = true := by
  cases u <;> cases v <;> cases z <;> simp_all [alk]
theorem Lk_sym {s i j : Nat} (h : Lk S a n s i j) : Lk S a n s j i := fun c hc hb => alk_sym (h c hc hb)
theorem Lk_tr {s i j k : Nat} (h : Lk S a n s i j) (h' : Lk S a n s j k) : Lk S a n s i k := fun c hc hb => alk_tr (h c hc hb) (h' c hc hb)
theorem Lk_or {s u i j : Nat} : Lk S a n (s ||| u) i j ↔ (Lk S a n s i j ∧ Lk S a n u i j) := by
  constructor
  · intro h
    exact ⟨fun c hc hb => h c hc (by rw [Nat.testBit_or, hb]; rfl), fun c hc hb => h c hc (by rw [Nat.testBit_or, hb, Bool.or_true])⟩
  · intro h c hc hb
    rw [Nat.testBit_or] at hb
    rcases (Bool.or_eq_true _ _).mp hb with z | z
    · exact h.1 c hc z
    · exact h.2 c hc z
theorem wi_and_self {s n : Nat} (hs : s < 2 ^ n) : nI s &&& nI (2 ^ n - 1) = nI s := by
  rw [fa_and]
  congr 1
  exact sub_pow_lt hs
theorem isLike_w {t m : Nat} (ht : t < 4) (z : TR S t n m) {i j s : Nat} (hi : i < m) (hj : j < m) (hs : s < 2 ^ n) : Rc 185 [.ref 43, .int (nI t), .int (nI i), .int (nI j), .int (nI s)] (enc sc S) = some (some (.int (bI (wi (nI s) (nI (lkS S (2 + 4 * t) n i j))))), enc sc S) := by
  rw [isLike_s ht z hi hj, wi_and_self hs]
/-- the first of those like in a set -/
def fst1 (S : SS) (a n s i : Nat) : Prop := ∀ e, e < i → ¬ Lk S a n s e i
def asg (S : SS) (a n s i j : Nat) : Prop := fst1 S a n s i ∧ i ≤ j ∧ (i = j ∨ Lk S a n s i j)
theorem asg_ex (s j : Nat) : ∃ i, asg S a n s i j := by
  have key : ∀ k i, i + k = j → (∀ e, e < i → ¬ (e = j ∨ Lk S a n s e j)) → ∃ i, asg S a n s i j := by
    intro k
    induction k with
    | zero =>
      intro i hi hno
      have : i = j := by omega
      subst this
      exact ⟨i, fun e he z => hno e he (Or.inr z), Nat.le_refl _, Or.inl rfl⟩
    | succ k ih =>
      intro i hi hno
      by_cases q : i = j ∨ Lk S a n s i j
      · refine ⟨i, fun e he z => hno e he ?_, by omega, q⟩
        rcases q with q | q
        · omega
        · exact Or.inr (Lk_tr z q)
      · refine ih (i + 1) (by omega) fun e he => ?_
        by_cases e1 : e = i
        · rw [e1]; exact q
        · exact hno e (by omega)
  exact key j 0 (by omega) (fun e he => absurd he (Nat.not_lt_zero e))
theorem asg_lt {s i i' j : Nat} (h : asg S a n s i j) (h' : asg S a n s i' j) : ¬ i < i' := by
  intro hlt
  obtain ⟨h1, h2, h3⟩ := h
  obtain ⟨k1, k2, k3⟩ := h'
  have h3' : Lk S a n s i j := h3.resolve_left (by omega)
  rcases k3 with k3 | k3
  · exact k1 i hlt (by rw [k3]; exact h3')
  · exact k1 i hlt (Lk_tr h3' (Lk_sym k3))
theorem asg_un {s i i' j : Nat} (h : asg S a n s i j) (h' : asg S a n s i' j) : i = i' := by
  have := asg_lt h h'
  have := asg_lt h' h
  omega
theorem sm_one {f : Nat → Nat} {m i0 : Nat} (hi : i0 < m) (h1 : f i0 = 1) (h0 : ∀ i, i < m → i ≠ i0 → f i = 0) : sm f m = 1 := by
  have key : ∀ k, k ≤ m → sm f k = if i0 < k then 1 else 0 := by
    intro k
    induction k with
    | zero => intro _; rfl
    | succ k ih =>
      intro hk
      show sm f k + f k = _
      rw [ih (by omega)]
      by_cases e : k = i0
      · subst e
        rw [if_neg (by omega), if_pos (by omega), h1]
      · rw [h0 k (by omega) e]
        by_cases q : i0 < k
        · rw [if_pos q, if_pos (by omega)]
        · rw [if_neg q, if_neg (by omega)]
  rw [key m (Nat.le_refl _), if_pos hi]
theorem sm_const1 : ∀ m, sm (fun _ => 1) m = m
  | 0 => rfl
  | m + 1 => by unfold sm; rw [sm_const1 m]
end LK
