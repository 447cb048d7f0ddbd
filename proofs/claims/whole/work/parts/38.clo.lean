/-! SETS of columns as numbers; closures -/
abbrev sub (a b : Nat) : Prop := a &&& b = a
theorem sub_iff {a b : Nat} : sub a b ↔ ∀ i, a.testBit i = true → b.testBit i = true := by
  constructor
  · intro h i hi
    have h1 : (a &&& b).testBit i = a.testBit i := by rw [h]
    rw [Nat.testBit_and, hi] at h1
    simpa using h1
  · intro h
    apply Nat.eq_of_testBit_eq
    intro i
    rw [Nat.testBit_and]
    cases hi : a.testBit i with
    | false => rfl
    | true => rw [h i hi]; rfl
theorem sub_refl (a : Nat) : sub a a := Nat.and_self a
theorem sub_trans {a b c : Nat} (h : sub a b) (h' : sub b c) : sub a c := sub_iff.mpr fun i hi => sub_iff.mp h' i (sub_iff.mp h i hi)
theorem sub_anti {a b : Nat} (h : sub a b) (h' : sub b a) : a = b := by
  have h1 : a &&& b = a := h
  have h2 : b &&& a = b := h'
  rw [← h1, Nat.and_comm, h2]
theorem sub_orl (a b : Nat) : sub a (a ||| b) := sub_iff.mpr fun i hi => by rw [Nat.testBit_or, hi]; rfl
theorem sub_orr (a b : Nat) : sub b (a ||| b) := sub_iff.mpr fun i hi => by rw [Nat.testBit_or, hi, Bool.or_true]
theorem sub_or {a b c : Nat} (h : sub a c) (h' : sub b c) : sub (a ||| b) c := sub_iff.mpr fun i hi => by
  rw [Nat.testBit_or] at hi
  rcases Bool.or_eq_true _ _ ▸ hi with q | q
  · exact sub_iff.mp h i q
  · exact sub_iff.mp h' i q
theorem sub_0 (a : Nat) : sub 0 a := Nat.zero_and a
theorem sub_lt {a b n : Nat} (h : sub a b) (hb : b < n) : a < n := by
  have h1 : a &&& b = a := h
  have h2 : a &&& b ≤ b := Nat.and_le_right
  omega
theorem not_sub {a b : Nat} (h : ¬ sub a b) : ∃ i, a.testBit i = true ∧ b.testBit i = false := by
  refine Classical.byContradiction fun q => h (sub_iff.mpr fun i hi => ?_)
  cases hb : b.testBit i with
  | true => rfl
  | false => exact absurd ⟨i, hi, hb⟩ q
theorem bit_lt {a i n : Nat} (h : a.testBit i = true) (ha : a < 2 ^ n) : i < n := by
  refine Classical.byContradiction fun q => ?_
  have := Nat.testBit_lt_two_pow (x := a) (i := i) (Nat.lt_of_lt_of_le ha (Nat.pow_le_pow_right (by decide) (by omega)))
  rw [h] at this
  cases this
theorem wi_sub {a b : Nat} (ha : a < 2147483648) (hb : b < 2147483648) : wi (nI a) (nI b) ↔ sub a b := wi_n ha hb
/-- how many members below 8 -/
def pc8 (s : Nat) : Nat := fa_cnt (fun i => s.testBit i) 8
theorem cnt_mono {p q : Nat → Bool} : ∀ {n : Nat}, (∀ i, i < n → p i = true → q i = true) → fa_cnt p n ≤ fa_cnt q n
  | 0, _ => Nat.le_refl _
  | n + 1, h => by
    have ih := cnt_mono (p := p) (q := q) (n := n) (fun i hi => h i (by omega))
    have h1 := h n (by omega)
    unfold fa_cnt
    cases hp : p n with
    | false => simp; omega
    | true => simp [h1 hp]; omega
theorem cnt_strict {p q : Nat → Bool} {j : Nat} : ∀ {n : Nat}, (∀ i, i < n → p i = true → q i = true) → j < n → p j = false → q j = true → fa_cnt p n < fa_cnt q n
  | 0, _, hj, _, _ => by omega
  | n + 1, h, hj, hp, hq => by
    unfold fa_cnt
    by_cases hjn : j = n
    · subst hjn
      have ih := cnt_mono (p := p) (q := q) (n := j) (fun i hi => h i (by omega))
      simp [hp, hq]
      omega
    · have ih := cnt_strict (p := p) (q := q) (j := j) (n := n) (fun i hi => h i (by omega)) (by omega) hp hq
      have h1 := h n (by omega)
      cases hpn : p n with
      | false => simp; omega
      | true => simp [h1 hpn]; omega
theorem pc8_le (s : Nat) : pc8 s ≤ 8 := fa_cnt_le _ _
theorem pc8_lt {s y : Nat} (hy : y < 256) (h : ¬ sub y s) : pc8 s < pc8 (s ||| y) := by
  obtain ⟨i, h1, h2⟩ := not_sub h
  refine cnt_strict (j := i) (fun j _ hj => by rw [Nat.testBit_or, hj]; rfl) (bit_lt (n := 8) h1 hy) h2 ?_
  rw [Nat.testBit_or, h1, Bool.or_true]
-- the laws in force: F of them, from fx to fy
section CLO
variable (F : Nat) (fx fy : Nat → Nat)
def nf (s : Nat) : Nat := fa_first (fun k => decide (sub (fx k) s ∧ ¬ sub (fy k) s)) F
def cst (s : Nat) : Nat := if nf F fx fy s < F then s ||| fy (nf F fx fy s) else s
/-- closed -/
def Cl (s : Nat) : Prop := ∀ k, k < F → sub (fx k) s → sub (fy k) s
def cl (n s : Nat) : Nat := it (fun _ s => cst F fx fy s) n s
def clo (s : Nat) : Nat := cl F fx fy 8 s
theorem nf_yes {s : Nat} (h : nf F fx fy s < F) : sub (fx (nf F fx fy s)) s ∧ ¬ sub (fy (nf F fx fy s)) s := of_decide_eq_true (fa_first_yes _ F h)
theorem nf_no {s : Nat} (h : ¬ nf F fx fy s < F) : Cl F fx fy s := by
  intro k hk hs
  have h1 := fa_first_no (fun k => decide (sub (fx k) s ∧ ¬ sub (fy k) s)) F k (by unfold nf at h; have := fa_first_le (fun k => decide (sub (fx k) s ∧ ¬ sub (fy k) s)) F; omega)
  have h2 := of_decide_eq_false h1
  exact Classical.byContradiction fun q => h2 ⟨hs, q⟩
theorem Cl_nf {s : Nat} (h : Cl F fx fy s) : ¬ nf F fx fy s < F := fun q => (nf_yes F fx fy q).2 (h _ q (nf_yes F fx fy q).1)
theorem cst_Cl {s : Nat} (h : Cl F fx fy s) : cst F fx fy s = s := by unfold cst; rw [if_neg (Cl_nf F fx fy h)]
theorem cst_sub (s : Nat) : sub s (cst F fx fy s) := by
  unfold cst
  split
  · exact sub_orl _ _
  · exact sub_refl _
theorem cst_le {s c : Nat} (h : sub s c) (hc : Cl F fx fy c) : sub (cst F fx fy s) c := by
  unfold cst
  split
  · next q => exact sub_or h (hc _ q (sub_trans (nf_yes F fx fy q).1 h))
  · exact h
theorem cl_sub (s : Nat) : ∀ n, sub s (cl F fx fy n s)
  | 0 => sub_refl _
  | n + 1 => sub_trans (cl_sub s n) (cst_sub F fx fy _)
theorem cl_le {s c : Nat} (h : sub s c) (hc : Cl F fx fy c) : ∀ n, sub (cl F fx fy n s) c
  | 0 => h
  | n + 1 => cst_le F fx fy (cl_le h hc n) hc
theorem cl_pc (hy : ∀ k, k < F → fy k < 256) (s : Nat) : ∀ n, Cl F fx fy (cl F fx fy n s) ∨ n ≤ pc8 (cl F fx fy n s)
  | 0 => Or.inr (Nat.zero_le _)
  | n + 1 => by
    have e : cl F fx fy (n + 1) s = cst F fx fy (cl F fx fy n s) := rfl
    rcases cl_pc hy s n with h | h
    · left
      rw [e, cst_Cl F fx fy h]
      exact h
    · by_cases q : nf F fx fy (cl F fx fy n s) < F
      · right
        have h1 := pc8_lt (hy _ q) (nf_yes F fx fy q).2
        rw [e]
        unfold cst
        rw [if_pos q]
        omega
      · left
        have h1 := nf_no F fx fy q
        rw [e, cst_Cl F fx fy h1]
        exact h1
theorem full_Cl (hy : ∀ k, k < F → fy k < 256) {s : Nat} (h : 8 ≤ pc8 s) : Cl F fx fy s := by
  intro k hk _
  refine Classical.byContradiction fun q => ?_
  have h1 := pc8_lt (hy k hk) q
  have h2 := pc8_le (s ||| fy k)
  omega
theorem clo_Cl (hy : ∀ k, k < F → fy k < 256) (s : Nat) : Cl F fx fy (clo F fx fy s) := by
  rcases cl_pc F fx fy hy s 8 with h | h
  · exact h
  · exact full_Cl F fx fy hy h
theorem clo_sub (s : Nat) : sub s (clo F fx fy s) := cl_sub F fx fy s 8
theorem clo_le {s c : Nat} (h : sub s c) (hc : Cl F fx fy c) : sub (clo F fx fy s) c := cl_le F fx fy h hc 8
theorem clo_lt (hy : ∀ k, k < F → fy k < 256) {s : Nat} (hs : s < 256) : clo F fx fy s < 256 := by
  have h : Cl F fx fy 255 := fun k hk _ => sub_iff.mpr fun i hi => by
    have h1 := bit_lt (n := 8) hi (hy k hk)
    exact (by decide : ∀ i, i < 8 → (255 : Nat).testBit i = true) i h1
  have h2 : sub s 255 := sub_iff.mpr fun i hi => (by decide : ∀ i, i < 8 → (255 : Nat).testBit i = true) i (bit_lt (n := 8) hi hs)
  exact sub_lt (clo_le F fx fy h2 h) (by decide)
theorem clo_mono (hy : ∀ k, k < F → fy k < 256) {s t : Nat} (h : sub s t) : sub (clo F fx fy s) (clo F fx fy t) := clo_le F fx fy (sub_trans h (clo_sub F fx fy t)) (clo_Cl F fx fy hy t)
/-- the least closed one -/
theorem clo_eq (hy : ∀ k, k < F → fy k < 256) {s c : Nat} (h1 : sub s c) (h2 : Cl F fx fy c) (h3 : ∀ d, sub s d → Cl F fx fy d → sub c d) : clo F fx fy s = c := sub_anti (clo_le F fx fy h1 h2) (h3 _ (clo_sub F fx fy s) (clo_Cl F fx fy hy s))
end CLO
