/-! SPECS of Table: writes -/
def bitsC (v : Int64) : Int64 := if lg_cmp (v &&& (9223372036854775807 : Int64)) (9218868437227405312 : Int64) ≤ (0 : Int32) then (if v = (-9223372036854775808 : Int64) then (0 : Int64) else v) else (9221120237041090560 : Int64)
def cutC (l : Nat) (v : Int64) : Int64 := match l with
  | 0 => v.toInt32.toInt8.toInt32.toInt64
  | 1 => v.toInt32.toInt16.toInt32.toInt64
  | 2 => (v.toInt32.toUInt32 % 65536).toInt32.toInt64
  | 3 => v.toInt32.toInt64
  | 5 => bitsC v
  | _ => v
def opS (S : SS) (a : Nat) (lk : Int32) : SS := sF (sF (sF (sF S a 0 1) a 1 lk) a 2 (nI 0)) a 3 (nI 0)
def acS (S : SS) (a n : Nat) (l : Int32) : SS := sF (sA S (a + 1) n l) a 2 (nI (n + 1))
/-- a row of ints with some places made 0 -/
def clr (S : SS) (b : Nat) (p : Nat → Bool) : SS := (S.1, fun a' i => if a' = b ∧ p i = true then 0 else S.2.1 a' i, S.2.2)
theorem clr_sA {S : SS} {b i : Nat} {p q : Nat → Bool} (h : ∀ j, q j = (p j || decide (j = i))) : sA (clr S b p) b i 0 = clr S b q := by
  unfold sA clr
  congr 2
  funext a' j
  by_cases h1 : a' = b
  · by_cases h2 : j = i
    · simp [h1, h2, h]
    · simp [h1, h2, h]
  · simp [h1]
theorem clr_no {S : SS} {b : Nat} {p : Nat → Bool} (h : ∀ j, p j = false) : clr S b p = S := by
  unfold clr
  simp [h]
theorem clr_cong {S : SS} {b : Nat} {p q : Nat → Bool} (h : ∀ j, p j = q j) : clr S b p = clr S b q := by
  rw [show p = q from funext h]
/-- places of new rows -/
def nrP (n r0 k : Nat) (i : Nat) : Bool := decide (i / 24 < n ∧ r0 ≤ i % 24 ∧ i % 24 < r0 + k)
def nrQ (n r0 k c : Nat) (i : Nat) : Bool := decide ((i / 24 < n ∧ r0 ≤ i % 24 ∧ i % 24 < r0 + k) ∨ (i / 24 < c ∧ i % 24 = r0 + k))
def arS (S : SS) (a n m k : Nat) : SS := sF (clr S (a + 3) (nrP n m k)) a 3 (nI (m + k))
section TBW
variable {sc : RE} {S : SS} {a b : Nat} {μ : MM}
theorem bitsOfOneKind_s (v : Int64) : Rc 151 [.long v] μ = some (some (.long (bitsC v)), μ) := by
  refine Rc_of rfl rfl (B_X7_bitsOfOneKind_0 _ _ ?_)
  unfold bitsC
  simp only [lg0]
  split
  · split <;> rfl
  · rfl
theorem cutToLane_s {l : Nat} (hl : l < 6) (v : Int64) : Rc 150 [.int (nI l), .long v] μ = some (some (.long (cutC l v)), μ) := by
  refine Rc_of rfl rfl (B_X7_cutToLane_0 _ _ _ (B_X7_cutToLane_1 _ _ _ ?_))
  rcases (by omega : l = 0 ∨ l = 1 ∨ l = 2 ∨ l = 3 ∨ l = 4 ∨ l = 5) with rfl | rfl | rfl | rfl | rfl | rfl
  · rw [if_pos (by decide)]; rfl
  · rw [if_neg (by decide), if_pos (by decide)]; rfl
  · rw [if_neg (by decide), if_neg (by decide), if_pos (by decide)]; rfl
  · rw [if_neg (by decide), if_neg (by decide), if_neg (by decide), if_pos (by decide)]; rfl
  · rw [if_neg (by decide), if_neg (by decide), if_neg (by decide), if_neg (by decide), if_pos (by decide)]; rfl
  · rw [if_neg (by decide), if_neg (by decide), if_neg (by decide), if_neg (by decide), if_neg (by decide), if_pos (by decide), bitsOfOneKind_s, c_Js]; rfl
theorem open_s (ha : IsT a) {lk : Int32} (hl : lk = 0 ∨ lk = 1) : Rc 49 [.ref a, .int lk] (enc sc S) = some (none, enc sc (opS S a lk)) := by
  refine Rc_of rfl rfl (B_X5_open_0 _ _ _ ?_)
  rw [w_T_0 ha (Or.inr rfl), w_T_1 ha hl, w_T_2 ha, w_T_3 ha]
  rfl
theorem addColumn_s (ha : IsT a) {n : Nat} (hn : S.1 a 2 = nI n) (h8 : n < 8) (l : Int32) : Rc 50 [.ref a, .int l] (enc sc S) = some (some (.int (nI n)), enc sc (acS S a n l)) := by
  refine Rc_of rfl rfl (B_X5_addColumn_0 _ _ _ ?_)
  rw [q_T_4 ha, q_T_2 ha, hn, s_T1 ha h8, q_T_2 ha]
  have h1 : (sA S (a + 1) n l).1 a 2 = nI n := hn
  rw [h1, nI_1, w_T_2 ha, q_T_2 ha]
  have h2 : (sF (sA S (a + 1) n l) a 2 (nI (n + 1))).1 a 2 = nI (n + 1) := by simp [sF]
  rw [h2, show (1 : Int32) = nI 1 from rfl, pk_sub (by omega)]
  rfl
theorem clr_1 {p : Nat → Bool} {b' : Nat} {x y : Nat} : (clr S b' p).1 x y = S.1 x y := rfl
theorem addRows_s (ha : IsT a) {n m k : Nat} (hn : S.1 a 2 = nI n) (h8 : n ≤ 8) (hm : S.1 a 3 = nI m) (h24 : m + k ≤ 24) : Rc 51 [.ref a, .int (nI k)] (enc sc S) = some (some (.int (nI (m + k))), enc sc (arS S a n m k)) := by
  refine Rc_of rfl rfl (B_X5_addRows_0 _ _ _ ?_)
  rw [q_T_3 ha, hm]
  have e0 : clr S (a + 3) (nrP n m 0) = S := clr_no (fun j => by
    simp only [nrP, decide_eq_false_iff_not]
    omega)
  have h := loop_st (F := k) (G := fun r s => Rs 51 5 [.ref a, .int (nI k), .int (nI (m + r)), UU] [] (enc sc s)) (fin := (some (.int (nI (m + k))), enc sc (arS S a n m k))) (fun r => clr S (a + 3) (nrP n m r)) ?_ ?_
  · rw [e0] at h
    exact h
  · intro r hr r' hr'
    refine B_X5_addRows_5 _ _ _ _ ?_
    rw [q_T_3 ha, clr_1, hm, nI_add, if_neg (nI_ge (by omega) (by omega))]
    have e1 : clr S (a + 3) (nrQ n m r 0) = clr S (a + 3) (nrP n m r) := clr_cong fun j => by
      simp only [nrQ, nrP, decide_eq_decide]
      omega
    have e2 : clr S (a + 3) (nrQ n m r n) = clr S (a + 3) (nrP n m (r + 1)) := clr_cong fun j => by
      simp only [nrQ, nrP, decide_eq_decide]
      omega
    have h2 := loop_st (F := n) (G := fun c s => Rs 51 17 [.ref a, .int (nI k), .int (nI (m + r)), .int (nI c)] [] (enc sc s)) (fin := r') (fun c => clr S (a + 3) (nrQ n m r c)) ?_ ?_
    · rw [e1] at h2
      exact h2
    · intro c hc r'' hr''
      refine B_X5_addRows_17 _ _ _ _ _ ?_
      rw [q_T_2 ha, clr_1, hn, if_neg (nI_ge (by omega) (by omega)), q_T_6 ha, cell_s, c_Is, s_T3 ha (by omega) (Or.inl rfl), nI_1]
      rw [clr_sA (q := nrQ n m r (c + 1)) (fun j => by
        rw [Bool.eq_iff_iff]
        simp only [nrQ, Bool.or_eq_true, decide_eq_true_eq]
        omega)]
      exact hr''
    · refine B_X5_addRows_17 _ _ _ _ _ ?_
      rw [q_T_2 ha, clr_1, hn, if_pos (nI_le (by omega) (by omega)), nI_1, e2]
      exact hr'
  · refine B_X5_addRows_5 _ _ _ _ ?_
    rw [q_T_3 ha, clr_1, hm, nI_add, if_pos (nI_le (by omega) (by omega)), q_T_3 ha, clr_1, hm, nI_add, w_T_3 ha, q_T_3 ha]
    have h2 : (sF (clr S (a + 3) (nrP n m k)) a 3 (nI (m + k))).1 a 3 = nI (m + k) := by simp [sF]
    rw [h2]
    rfl
def stS (S : SS) (a i : Nat) (v : Int64) : SS := sA (sL S (a + 2) i v) (a + 3) i 1
theorem store_s (ha : IsT a) {r c l : Nat} (h : 24 * c + r < 192) (hc : c < 8) (hl : S.2.1 (a + 1) c = nI l) (hl6 : l < 6) (v : Int64) : Rc 60 [.ref a, .int (nI r), .int (nI c), .long v] (enc sc S) = some (none, enc sc (stS S a (24 * c + r) (cutC l v))) := by
  refine Rc_of rfl rfl (B_X5_store_0 _ _ _ _ _ ?_)
  simp only [q_T_5 ha, q_T_4 ha, q_T_6 ha, cell_s, c_Is, a_T1 ha hc, hl, cutToLane_s hl6, c_Js, s_T2 ha h, s_T3 ha h (Or.inr rfl)]
  rfl
theorem erase_s (ha : IsT a) {r c : Nat} (h : 24 * c + r < 192) : Rc 61 [.ref a, .int (nI r), .int (nI c)] (enc sc S) = some (some (.int (bI (¬ S.2.1 (a + 3) (24 * c + r) = 0))), enc sc (sA S (a + 3) (24 * c + r) 0)) := by
  refine Rc_of rfl rfl (B_X5_erase_0 _ _ _ _ ?_)
  simp only [o_T ha, hasValue_s ha h, c_Is, q_T_6 ha, cell_s, s_T3 ha h (Or.inl rfl), rIb]
def mvS (S : SS) (a i j n : Nat) : SS := cA (cL S (a + 2) i j n) (a + 3) i j n
theorem moveCells_s (ha : IsT a) {f i t j n : Nat} (h1 : 24 * f + i + n ≤ 192) (h2 : 24 * t + j + n ≤ 192) (hf : ∀ q, q < 192 → S.2.1 (a + 3) q = 0 ∨ S.2.1 (a + 3) q = 1) : Rc 62 [.ref a, .int (nI f), .int (nI i), .int (nI t), .int (nI j), .int (nI n)] (enc sc S) = some (none, enc sc (mvS S a (24 * f + i) (24 * t + j) n)) := by
  refine Rc_of rfl rfl (B_X5_moveCells_0 _ _ _ _ _ _ _ ?_)
  have c1 : ∀ q, q ≤ 192 → (nI q).toNatClampNeg = q ∧ ¬ nI q < 0 := fun q hq => ⟨nI_clamp (by omega), nI_pos (by omega)⟩
  obtain ⟨e1, e2⟩ := c1 (24 * f + i) (by omega)
  obtain ⟨e3, e4⟩ := c1 (24 * t + j) (by omega)
  obtain ⟨e5, e6⟩ := c1 n (by omega)
  simp only [q_T_5 ha, q_T_6 ha, cell_s, c_Is]
  rw [en_cL (T_sh ha).2.2.1 ⟨e2, e4, e6, by rw [e1, e5]; exact h1, by rw [e3, e5]; exact h2⟩, e1, e3, e5]
  simp only [q_T_5 ha, q_T_6 ha, cell_s, c_Is]
  rw [en_cA (S := cL S (a + 2) (24 * f + i) (24 * t + j) n) (T_sh ha).2.2.2 ⟨e2, e4, e6, by rw [e1, e5]; exact h1, by rw [e3, e5]; exact h2⟩ hf, e1, e3, e5]
  rfl
end TBW
