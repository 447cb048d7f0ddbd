/-! SPECS of Table: reads -/
abbrev rg (x : Int32) (n : Nat) : Prop := ¬ x < 0 ∧ ¬ nI n ≤ x
theorem rg_n {k n : Nat} (hk : k < 2147483648) (hn : n < 2147483648) : rg (nI k) n ↔ k < n := by
  constructor
  · intro h
    exact Nat.not_le.mp fun q => h.2 (nI_le q hk)
  · intro h
    exact ⟨nI_pos hk, nI_ge h hn⟩
theorem rg_i {x : Int32} {n : Nat} (hn : n < 2147483648) (h : rg x n) : ∃ j, j < n ∧ x = nI j := by
  rcases pk_ix x hn with q | q | q
  · exact absurd q h.1
  · exact absurd q h.2
  · exact q
/-- a set of columns by its members -/
def bs : Nat → (Nat → Bool) → Nat
  | 0, _ => 0
  | n + 1, p => bs n p ||| (if p n then 2 ^ n else 0)
theorem bs_lt (p : Nat → Bool) : ∀ n, bs n p < 2 ^ n
  | 0 => by simp [bs]
  | n + 1 => by
    have h := bs_lt p n
    unfold bs
    refine or_lt (Nat.lt_trans h (Nat.pow_lt_pow_right (by decide) (by omega))) ?_
    split
    · exact Nat.pow_lt_pow_right (by decide) (by omega)
    · exact Nat.two_pow_pos _
theorem bs_bit (p : Nat → Bool) (c : Nat) : ∀ n, (bs n p).testBit c = (decide (c < n) && p c)
  | 0 => by simp [bs]
  | n + 1 => by
    unfold bs
    rw [Nat.testBit_or, bs_bit p c n]
    by_cases hc : c = n
    · subst hc
      cases hp : p c <;> simp
    · have h2 : (if p n = true then 2 ^ n else 0).testBit c = false := by
        split
        · rw [Nat.testBit_two_pow]; simp [Ne.symm hc]
        · simp
      rw [h2]
      simp only [Bool.or_false]
      congr 1
      exact decide_eq_decide.mpr (by omega)
theorem bs_256 {p : Nat → Bool} {n : Nat} (h : n ≤ 8) : bs n p < 256 := Nat.lt_of_lt_of_le (bs_lt p n) (by rw [show (256 : Nat) = 2 ^ 8 by decide]; exact Nat.pow_le_pow_right (by decide) h)
theorem bs_cong {p q : Nat → Bool} : ∀ {n : Nat}, (∀ c, c < n → p c = q c) → bs n p = bs n q
  | 0, _ => rfl
  | n + 1, h => by
    unfold bs
    rw [bs_cong (n := n) (fun c hc => h c (by omega)), h n (by omega)]
/-- cells -/
def cvI (S : SS) (a i : Nat) : Option Int64 := if S.2.1 (a + 3) i = 0 then none else some (S.2.2 (a + 2) i)
def alk (lk : Bool) (u v : Option Int64) : Bool := match u, v with
  | none, none => lk
  | some x, some y => decide (x = y)
  | _, _ => false
theorem lg0 (x y : Int64) : (lg_cmp x y = (0 : Int32)) = (x = y) := by
  unfold lg_cmp
  by_cases h : x > y
  · rw [if_pos h]
    have : x ≠ y := fun q => by rw [q] at h; exact absurd h (by simp)
    simp [this]
  · rw [if_neg h]
    by_cases h2 : x = y
    · simp [h2]
    · simp [h2]
theorem if00 {A B : Option RT} : (if (0 : Int32) = (0 : Int32) then A else B) = A := if_pos rfl
theorem if10 {A B : Option RT} : (if (1 : Int32) = (0 : Int32) then A else B) = B := if_neg (by decide)
section TAB
variable {sc : RE} {S : SS} {a b : Nat}
theorem areCellsLike_s (ha : IsT a) (hb : IsT b) {i j : Nat} (hi : i < 192) (hj : j < 192) : Rc 153 [.ref a, .int (nI i), .ref b, .int (nI j)] (enc sc S) = some (some (.int (bI (alk (decide (S.1 a 1 ≠ 0)) (cvI S a i) (cvI S b j) = true))), enc sc S) := by
  refine Rc_of rfl rfl (B_X7_areCellsLike_0 _ _ _ _ _ ?_)
  simp only [if00, if10, q_T_6 ha, q_T_6 hb, q_T_5 ha, q_T_5 hb, q_T_1 ha, a_T3 ha hi, a_T3 hb hj, a_T2 ha hi, a_T2 hb hj, rI0, rI1, lg0]
  unfold cvI
  by_cases h1 : S.2.1 (a + 3) i = 0
  · by_cases h2 : S.2.1 (b + 3) j = 0
    · by_cases h3 : S.1 a 1 = 0
      · simp [h1, h2, h3, alk, bI]
      · simp [h1, h2, h3, alk, bI]
    · by_cases h3 : S.1 a 1 = 0 <;> simp [h1, h2, h3, alk, bI]
  · by_cases h2 : S.2.1 (b + 3) j = 0
    · by_cases h3 : S.1 a 1 = 0 <;> simp [h1, h2, h3, alk, bI]
    · by_cases h3 : S.2.2 (a + 2) i = S.2.2 (b + 2) j <;> simp [h1, h2, h3, alk, bI]
theorem columnSet_s (ha : IsT a) {n : Nat} (hn : S.1 a 2 = nI n) (h8 : n ≤ 8) : Rc 54 [.ref a] (enc sc S) = some (some (.int (nI (2 ^ n - 1))), enc sc S) := by
  refine Rc_of rfl rfl (B_X5_columnSet_0 _ _ ?_)
  rw [q_T_2 ha, hn, shl_n (by omega), show (1 : Int32) = nI 1 from rfl, pk_sub Nat.one_le_two_pow]
theorem hasColumns_s (ha : IsT a) {n : Nat} (hn : S.1 a 2 = nI n) (h8 : n ≤ 8) (x : Int32) : Rc 55 [.ref a, .int x] (enc sc S) = some (some (.int (bI (wi x (nI (2 ^ n - 1))))), enc sc S) := by
  refine Rc_of rfl rfl (B_X5_hasColumns_0 _ _ _ ?_)
  rw [o_T ha, columnSet_s ha hn h8, c_Is, isWithin_s, c_Is, rIb]
theorem hasColumn_s (ha : IsT a) {n : Nat} (hn : S.1 a 2 = nI n) (x : Int32) : Rc 52 [.ref a, .int x] (enc sc S) = some (some (.int (bI (rg x n))), enc sc S) := by
  refine Rc_of rfl rfl (B_X5_hasColumn_0 _ _ _ ?_)
  rw [q_T_2 ha, hn, rI0, rI1]
  by_cases h1 : x < 0
  · rw [if_pos h1, bI_f (fun q => q.1 h1)]
  · rw [if_neg h1]
    by_cases h2 : nI n ≤ x
    · rw [if_pos h2, bI_f (fun q => q.2 h2)]
    · rw [if_neg h2, bI_t ⟨h1, h2⟩]
theorem hasRow_s (ha : IsT a) {m : Nat} (hm : S.1 a 3 = nI m) (x : Int32) : Rc 53 [.ref a, .int x] (enc sc S) = some (some (.int (bI (rg x m))), enc sc S) := by
  refine Rc_of rfl rfl (B_X5_hasRow_0 _ _ _ ?_)
  rw [q_T_3 ha, hm, rI0, rI1]
  by_cases h1 : x < 0
  · rw [if_pos h1, bI_f (fun q => q.1 h1)]
  · rw [if_neg h1]
    by_cases h2 : nI m ≤ x
    · rw [if_pos h2, bI_f (fun q => q.2 h2)]
    · rw [if_neg h2, bI_t ⟨h1, h2⟩]
theorem hasValue_s (ha : IsT a) {r c : Nat} (h : 24 * c + r < 192) : Rc 58 [.ref a, .int (nI r), .int (nI c)] (enc sc S) = some (some (.int (bI (¬ S.2.1 (a + 3) (24 * c + r) = 0))), enc sc S) := by
  refine Rc_of rfl rfl (B_X5_hasValue_0 _ _ _ _ ?_)
  rw [q_T_6 ha, cell_s, c_Is, a_T3 ha h, rI0, rI1]
  by_cases h1 : S.2.1 (a + 3) (24 * c + r) = 0
  · rw [if_pos h1, bI_f (fun q => q h1)]
  · rw [if_neg h1, bI_t h1]
theorem valueOf_s (ha : IsT a) {r c : Nat} (h : 24 * c + r < 192) : Rc 59 [.ref a, .int (nI r), .int (nI c)] (enc sc S) = some (some (.long (S.2.2 (a + 2) (24 * c + r))), enc sc S) := by
  refine Rc_of rfl rfl (B_X5_valueOf_0 _ _ _ _ ?_)
  rw [q_T_5 ha, cell_s, c_Is, a_T2 ha h]
/-- missingIn: the set of columns whose cells are missing -/
def misC (S : SS) (a r c : Nat) : Bool := decide (S.2.1 (a + 3) (24 * c + r) = 0)
theorem bs_it (p : Nat → Bool) : ∀ n, it (fun c s => s ||| (if p c then 2 ^ c else 0)) n 0 = bs n p
  | 0 => rfl
  | n + 1 => by unfold it bs; rw [bs_it p n]
theorem missingIn_s (ha : IsT a) {n r : Nat} (hn : S.1 a 2 = nI n) (h8 : n ≤ 8) (hr : r < 24) : Rc 64 [.ref a, .int (nI r)] (enc sc S) = some (some (.int (nI (bs n (misC S a r)))), enc sc S) := by
  refine Rc_of rfl rfl (B_X5_missingIn_0 _ _ _ ?_)
  have h := loop_acc (F := n) (g := fun c s => s ||| (if misC S a r c then 2 ^ c else 0)) (G := fun c s => Rs 64 4 [.ref a, .int (nI r), .int (nI s), .int (nI c)] [] (enc sc S)) (fin := fun s => (some (.int (nI s)), enc sc S)) (a0 := 0) ?_ ?_
  · rw [bs_it] at h
    exact h
  · intro k s hk r' hr'
    refine B_X5_missingIn_4 _ _ _ _ _ ?_
    rw [q_T_2 ha, hn, if_neg (nI_ge (by omega) (by omega)), o_T ha, hasValue_s ha (by omega), c_Is, if_bI, shl_n (by omega), fa_or, nI_1]
    by_cases h1 : S.2.1 (a + 3) (24 * k + r) = 0
    · rw [if_neg (fun q => q h1)]
      simpa [misC, h1] using hr'
    · rw [if_pos h1]
      simpa [misC, h1] using hr'
  · intro s
    refine B_X5_missingIn_4 _ _ _ _ _ ?_
    rw [q_T_2 ha, hn, if_pos (nI_le (by omega) (by omega))]
/-- likeColumns: the set of columns in which two rows are like -/
def lkC (S : SS) (a i j c : Nat) : Bool := alk (decide (S.1 a 1 ≠ 0)) (cvI S a (24 * c + i)) (cvI S a (24 * c + j))
/-- the set in which two rows are like -/
def lkS (S : SS) (a n i j : Nat) : Nat := bs n (lkC S a i j)
theorem lkS_lt {S : SS} {a n i j : Nat} (h : n ≤ 8) : lkS S a n i j < 256 := bs_256 h
theorem likeColumns_s (ha : IsT a) {n i j : Nat} (hn : S.1 a 2 = nI n) (h8 : n ≤ 8) (hi : i < 24) (hj : j < 24) : Rc 65 [.ref a, .int (nI i), .int (nI j)] (enc sc S) = some (some (.int (nI (lkS S a n i j))), enc sc S) := by
  refine Rc_of rfl rfl (B_X5_likeColumns_0 _ _ _ _ ?_)
  have h := loop_acc (F := n) (g := fun c s => s ||| (if lkC S a i j c then 2 ^ c else 0)) (G := fun c s => Rs 65 5 [.ref a, .int (nI i), .int (nI j), .int (nI s), .int (nI c)] [] (enc sc S)) (fin := fun s => (some (.int (nI s)), enc sc S)) (a0 := 0) ?_ ?_
  · rw [bs_it] at h
    exact h
  · intro k s hk r' hr'
    refine B_X5_likeColumns_5 _ _ _ _ _ _ ?_
    rw [q_T_2 ha, hn, if_neg (nI_ge (by omega) (by omega)), cell_s, c_Is, cell_s, c_Is, areCellsLike_s ha ha (by omega) (by omega), c_Is, if_bI, shl_n (by omega), fa_or, nI_1]
    cases h1 : lkC S a i j k with
    | true =>
      rw [if_pos (by unfold lkC at h1; exact h1)]
      simpa [h1] using hr'
    | false =>
      rw [if_neg (by unfold lkC at h1; rw [h1]; decide)]
      simpa [h1] using hr'
  · intro s
    refine B_X5_likeColumns_5 _ _ _ _ _ _ ?_
    rw [q_T_2 ha, hn, if_pos (nI_le (by omega) (by omega))]
theorem areRowsLike_s (ha : IsT a) {n i j : Nat} (hn : S.1 a 2 = nI n) (h8 : n ≤ 8) (hi : i < 24) (hj : j < 24) (x : Int32) : Rc 66 [.ref a, .int (nI i), .int (nI j), .int x] (enc sc S) = some (some (.int (bI (wi x (nI (lkS S a n i j))))), enc sc S) := by
  refine Rc_of rfl rfl (B_X5_areRowsLike_0 _ _ _ _ _ ?_)
  rw [o_T ha, likeColumns_s ha hn h8 hi hj, c_Is, isWithin_s, c_Is, rIb]
/-- hasElderLike -/
def elP (S : SS) (a n r : Nat) (x : Int32) (e : Nat) : Bool := decide (wi x (nI (lkS S a n e r)))
theorem hasElderLike_s (ha : IsT a) {n r : Nat} (hn : S.1 a 2 = nI n) (h8 : n ≤ 8) (hr : r < 24) (x : Int32) : Rc 67 [.ref a, .int (nI r), .int x] (enc sc S) = some (some (.int (bI (fa_first (elP S a n r x) r < r))), enc sc S) := by
  refine Rc_of rfl rfl (B_X5_hasElderLike_0 _ _ _ _ ?_)
  have h := loop_first (F := r) (p := elP S a n r x) (G := fun k => Rs 67 2 [.ref a, .int (nI r), .int x, .int (nI k)] [] (enc sc S)) (yes := fun _ => (some (.int 1), enc sc S)) (no := (some (.int 0), enc sc S)) ?_ ?_ ?_
  · rw [show (0 : Int32) = nI 0 from rfl, h]
    by_cases q : fa_first (elP S a n r x) r < r
    · rw [if_pos q, bI_t q]
    · rw [if_neg q, bI_f q]
  · refine B_X5_hasElderLike_2 _ _ _ _ _ ?_
    rw [if_pos (nI_le (by omega) (by omega)), rI0]
  · intro k hk hp
    refine B_X5_hasElderLike_2 _ _ _ _ _ ?_
    rw [if_neg (nI_ge hk (by omega)), o_T ha, areRowsLike_s ha hn h8 (by omega) hr, c_Is, if_bI, if_pos (of_decide_eq_true hp), rI1]
  · intro k hk hp r' hr'
    refine B_X5_hasElderLike_2 _ _ _ _ _ ?_
    rw [if_neg (nI_ge hk (by omega)), o_T ha, areRowsLike_s ha hn h8 (by omega) hr, c_Is, if_bI, if_neg (of_decide_eq_false hp), nI_1]
    exact hr'
end TAB
