/-! SIGNS chased: it ends -/
theorem cnt_le (p : Nat → Bool) (N : Nat) : fa_cnt p N ≤ N := by
  induction N with
  | zero => exact Nat.le_refl 0
  | succ N ih =>
    cases h : p N with
    | true => rw [fa_cnt_yes h]; omega
    | false => rw [fa_cnt_no h]; omega
theorem cnt_mon2 {p q : Nat → Bool} {N : Nat} (h : ∀ k, k < N → p k = true → q k = true) : fa_cnt p N ≤ fa_cnt q N := by
  induction N with
  | zero => exact Nat.le_refl _
  | succ N ih =>
    have := ih fun k hk => h k (by omega)
    cases hp : p N with
    | true => rw [fa_cnt_yes hp, fa_cnt_yes (h N (by omega) hp)]; omega
    | false =>
      rw [fa_cnt_no hp]
      cases hq : q N with
      | true => rw [fa_cnt_yes hq]; omega
      | false => rw [fa_cnt_no hq]; omega
theorem cnt_lt {p q : Nat → Bool} {N e : Nat} (h : ∀ k, k < N → p k = true → q k = true) (he : e < N) (h1 : p e = false) (h2 : q e = true) : fa_cnt p N < fa_cnt q N := by
  induction N with
  | zero => omega
  | succ N ih =>
    by_cases ee : e = N
    · subst ee
      have := cnt_mon2 (N := e) fun k hk => h k (by omega)
      rw [fa_cnt_no h1, fa_cnt_yes h2]
      omega
    · have := ih (fun k hk => h k (by omega)) (by omega)
      cases hp : p N with
      | true => rw [fa_cnt_yes hp, fa_cnt_yes (h N (by omega) hp)]; omega
      | false =>
        rw [fa_cnt_no hp]
        cases hq : q N with
        | true => rw [fa_cnt_yes hq]; omega
        | false => rw [fa_cnt_no hq]; omega
section ME
variable {P : Nat}
def dsP (P : Nat) (s : Nat → Nat → Nat) (q : Nat) : Bool := decide (fa_first (fun r => decide (s r (q / 12) = q % 12 + 1)) P < P)
def dS (P : Nat) (s : Nat → Nat → Nat) : Nat := fa_cnt (dsP P s) 96
theorem dS_le (s : Nat → Nat → Nat) : dS P s ≤ 96 := cnt_le _ _
theorem dsP_iff {s : Nat → Nat → Nat} {q : Nat} : dsP P s q = true ↔ ∃ r, r < P ∧ s r (q / 12) = q % 12 + 1 := by
  unfold dsP
  rw [decide_eq_true_iff, ff_iff]
  constructor
  · intro ⟨r, h1, h2⟩
    exact ⟨r, h1, of_decide_eq_true h2⟩
  · intro ⟨r, h1, h2⟩
    exact ⟨r, h1, decide_eq_true h2⟩
theorem dS_mg {s : Nat → Nat → Nat} {i j c : Nat} (hi : i < P) (hj : j < P) (hc : c < 8) (h12 : s i c ≤ 12) (hlt : s j c < s i c) : dS P (mg s c (s i c) (s j c)) < dS P s := by
  refine cnt_lt (e := 12 * c + (s i c - 1)) (fun k hk h => ?_) (by omega) ?_ ?_
  · obtain ⟨r, h1, h2⟩ := dsP_iff.mp h
    unfold mg at h2
    by_cases q : k / 12 = c ∧ s r (k / 12) = s i c
    · rw [if_pos q] at h2
      exact dsP_iff.mpr ⟨j, hj, by rw [q.1]; exact h2⟩
    · rw [if_neg q] at h2
      exact dsP_iff.mpr ⟨r, h1, h2⟩
  · cases h : dsP P (mg s c (s i c) (s j c)) (12 * c + (s i c - 1)) with
    | false => rfl
    | true =>
      obtain ⟨r, h1, h2⟩ := dsP_iff.mp h
      have e1 : (12 * c + (s i c - 1)) / 12 = c := by omega
      have e2 : (12 * c + (s i c - 1)) % 12 + 1 = s i c := by omega
      rw [e1, e2] at h2
      unfold mg at h2
      by_cases q : c = c ∧ s r c = s i c
      · rw [if_pos q] at h2
        omega
      · rw [if_neg q] at h2
        exact absurd ⟨rfl, h2⟩ q
  · refine dsP_iff.mpr ⟨i, hi, ?_⟩
    rw [show (12 * c + (s i c - 1)) / 12 = c by omega]
    omega
end ME
