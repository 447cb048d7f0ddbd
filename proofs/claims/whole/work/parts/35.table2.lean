/-! SPECS of Table: counts, lanes, joins (reads) -/
theorem cnt_it (p : Nat → Bool) : ∀ n, it (fun k s => if p k then s + 1 else s) n 0 = fa_cnt p n
  | 0 => rfl
  | n + 1 => by
    unfold it fa_cnt
    rw [cnt_it p n]
    split <;> rfl
/-- the place of a column in a set -/
def pl (s c : Nat) : Nat := pcn (s &&& (2 ^ c - 1))
section TB2
variable {sc : RE} {S : SS} {a b : Nat} {μ : MM}
theorem placeIn_s {s c : Nat} (hs : s < 256) (hc : c < 8) : Rc 147 [.int (nI s), .int (nI c)] μ = some (some (.int (nI (pl s c))), μ) := by
  refine Rc_of rfl rfl (B_X7_placeIn_0 _ _ _ ?_)
  rw [shl_n (by omega), show (1 : Int32) = nI 1 from rfl, pk_sub Nat.one_le_two_pow, fa_and, bitCount_s (Nat.lt_of_le_of_lt Nat.and_le_left hs), c_Is]
  rfl
theorem rowsSeenBefore_s (ha : IsT a) {n m : Nat} (hn : S.1 a 2 = nI n) (h8 : n ≤ 8) (hm : S.1 a 3 = nI m) (h24 : m ≤ 24) (x : Int32) : Rc 68 [.ref a, .int x] (enc sc S) = some (some (.int (nI (fa_cnt (fun r => decide (fa_first (elP S a n r x) r < r)) m))), enc sc S) := by
  refine Rc_of rfl rfl (B_X5_rowsSeenBefore_0 _ _ _ ?_)
  have h := loop_acc (F := m) (g := fun k s => if decide (fa_first (elP S a n k x) k < k) then s + 1 else s) (G := fun k s => Rs 68 4 [.ref a, .int x, .int (nI s), .int (nI k)] [] (enc sc S)) (fin := fun s => (some (.int (nI s)), enc sc S)) (a0 := 0) ?_ ?_
  · rw [cnt_it] at h
    exact h
  · intro k s hk r' hr'
    refine B_X5_rowsSeenBefore_4 _ _ _ _ _ ?_
    rw [q_T_3 ha, hm, if_neg (nI_ge (by omega) (by omega)), o_T ha, hasElderLike_s ha hn h8 (by omega), c_Is, if_bI, nI_1, nI_1]
    by_cases h1 : fa_first (elP S a n k x) k < k
    · rw [if_pos h1]
      simpa [h1] using hr'
    · rw [if_neg h1]
      simpa [h1] using hr'
  · intro s
    refine B_X5_rowsSeenBefore_4 _ _ _ _ _ ?_
    rw [q_T_3 ha, hm, if_pos (nI_le (by omega) (by omega))]
/-- how many later rows are like one -/
def latC (S : SS) (a n m : Nat) (x : Int32) (r : Nat) : Nat := fa_cnt (fun k => decide (wi x (nI (lkS S a n r (r + 1 + k))))) (m - (r + 1))
theorem laterLike_s (ha : IsT a) {n m r : Nat} (hn : S.1 a 2 = nI n) (h8 : n ≤ 8) (hm : S.1 a 3 = nI m) (h24 : m ≤ 24) (hr : r < m) (x : Int32) : Rc 71 [.ref a, .int (nI r), .int x] (enc sc S) = some (some (.int (nI (latC S a n m x r))), enc sc S) := by
  refine Rc_of rfl rfl (B_X5_laterLike_0 _ _ _ _ ?_)
  have h := loop_acc (F := m - (r + 1)) (g := fun k s => if decide (wi x (nI (lkS S a n r (r + 1 + k)))) then s + 1 else s) (G := fun k s => Rs 71 7 [.ref a, .int (nI r), .int x, .int (nI s), .int (nI (r + 1 + k))] [] (enc sc S)) (fin := fun s => (some (.int (nI s)), enc sc S)) (a0 := 0) ?_ ?_
  · rw [cnt_it] at h
    rw [nI_1]
    exact h
  · intro k s hk r' hr'
    refine B_X5_laterLike_7 _ _ _ _ _ _ ?_
    rw [q_T_3 ha, hm, if_neg (nI_ge (by omega) (by omega)), o_T ha, areRowsLike_s ha hn h8 (by omega) (by omega), c_Is, if_bI, nI_1, nI_1]
    by_cases h1 : wi x (nI (lkS S a n r (r + 1 + k)))
    · rw [if_pos h1]
      have h2 : wi x (nI (lkS S a n r (r + 1 + k))) := h1
      rw [if_pos (decide_eq_true h2)] at hr'
      exact hr'
    · rw [if_neg h1]
      have h2 : ¬ wi x (nI (lkS S a n r (r + 1 + k))) := h1
      rw [if_neg (by rw [decide_eq_true_eq]; exact h2)] at hr'
      exact hr'
  · intro s
    refine B_X5_laterLike_7 _ _ _ _ _ _ ?_
    rw [q_T_3 ha, hm, if_pos (nI_le (by omega) (by omega))]
def mtsG (S : SS) (a n m : Nat) (x y : Int32) (f : Nat) (k acc : Nat) : Nat := if k = 0 ∨ wi x (nI (lkS S a n f (f + k))) then max acc (1 + latC S a n m (x ||| y) (f + k)) else acc
def mtsC (S : SS) (a n m : Nat) (x y : Int32) (f : Nat) : Nat := it (mtsG S a n m x y f) (m - f) 0
theorem latC_le {n m : Nat} {x : Int32} {r : Nat} : latC S a n m x r ≤ m := Nat.le_trans (fa_cnt_le _ _) (by omega)
theorem max_n {p q : Nat} (hp : p < 2147483648) (hq : q < 2147483648) : (if nI p < nI q then nI q else nI p) = nI (max p q) := by
  by_cases h : p < q
  · rw [if_pos (nI_lt h hq), Nat.max_eq_right (by omega)]
  · rw [if_neg (nI_nlt (by omega) hp), Nat.max_eq_left (by omega)]
theorem mostThatStay_s (ha : IsT a) {n m f : Nat} (hn : S.1 a 2 = nI n) (h8 : n ≤ 8) (hm : S.1 a 3 = nI m) (h24 : m ≤ 24) (hf : f < m) (x y : Int32) : Rc 70 [.ref a, .int (nI f), .int x, .int y] (enc sc S) = some (some (.int (nI (mtsC S a n m x y f))), enc sc S) ∧ mtsC S a n m x y f ≤ 25 := by
  have h := loop_inv (F := m - f) (g := mtsG S a n m x y f) (G := fun k s => Rs 70 6 [.ref a, .int (nI f), .int x, .int y, .int (nI s), .int (nI (f + k))] [] (enc sc S)) (fin := fun s => (some (.int (nI s)), enc sc S)) (a0 := 0) (fun _ s => s ≤ 25) (by omega) ?_ ?_
  · refine ⟨Rc_of rfl rfl (B_X5_mostThatStay_0 _ _ _ _ _ h.1), h.2⟩
  · intro k s hk hs
    have hl : latC S a n m (x ||| y) (f + k) ≤ m := latC_le
    refine ⟨by unfold mtsG; split <;> omega, fun r' hr' => ?_⟩
    refine B_X5_mostThatStay_6 _ _ _ _ _ _ _ ?_
    rw [q_T_3 ha, hm, if_neg (nI_ge (by omega) (by omega))]
    simp only [o_T ha, laterLike_s ha hn h8 hm h24 (show f + k < m by omega), areRowsLike_s ha hn h8 (show f < 24 by omega) (show f + k < 24 by omega), c_Is, if_bI, nI_1]
    rw [show (1 : Int32) + nI (latC S a n m (x ||| y) (f + k)) = nI (1 + latC S a n m (x ||| y) (f + k)) from nI_add 1 _, max_n (by omega) (by omega)]
    unfold mtsG at hr'
    by_cases h0 : k = 0
    · rw [if_pos (by rw [h0, Nat.add_zero])]
      rw [if_pos (Or.inl h0)] at hr'
      exact hr'
    · rw [if_neg (fun q => by have := nI_inj (by omega) (by omega) q; omega)]
      by_cases h1 : wi x (nI (lkS S a n f (f + k)))
      · rw [if_pos h1]
        rw [if_pos (Or.inr h1)] at hr'
        exact hr'
      · rw [if_neg h1]
        rw [if_neg (fun q => q.elim h0 h1)] at hr'
        exact hr'
  · intro s hs
    refine B_X5_mostThatStay_6 _ _ _ _ _ _ _ ?_
    rw [q_T_3 ha, hm, if_pos (nI_le (by omega) (by omega))]
def rloG (S : SS) (a n m : Nat) (x y : Int32) (k acc : Nat) : Nat := if fa_first (elP S a n k x) k < k then acc else acc + mtsC S a n m x y k
theorem rowsToLeaveOut_s (ha : IsT a) {n m : Nat} (hn : S.1 a 2 = nI n) (h8 : n ≤ 8) (hm : S.1 a 3 = nI m) (h24 : m ≤ 24) (x y : Int32) : Rc 69 [.ref a, .int x, .int y] (enc sc S) = some (some (.int (nI m - nI (it (rloG S a n m x y) m 0))), enc sc S) := by
  refine Rc_of rfl rfl (B_X5_rowsToLeaveOut_0 _ _ _ _ ?_)
  have h := loop_acc (F := m) (g := rloG S a n m x y) (G := fun k s => Rs 69 5 [.ref a, .int x, .int y, .int (nI s), .int (nI k)] [] (enc sc S)) (fin := fun s => (some (.int (nI m - nI s)), enc sc S)) (a0 := 0) ?_ ?_
  · exact h
  · intro k s hk r' hr'
    refine B_X5_rowsToLeaveOut_5 _ _ _ _ _ _ ?_
    rw [q_T_3 ha, hm, if_neg (nI_ge (by omega) (by omega))]
    simp only [o_T ha, hasElderLike_s ha hn h8 (show k < 24 by omega), c_Is, if_bI, (mostThatStay_s ha hn h8 hm h24 hk x y).1, nI_1, nI_add]
    unfold rloG at hr'
    by_cases h1 : fa_first (elP S a n k x) k < k
    · rw [if_pos h1] at hr' ⊢
      exact hr'
    · rw [if_neg h1] at hr' ⊢
      exact hr'
  · intro s
    refine B_X5_rowsToLeaveOut_5 _ _ _ _ _ _ ?_
    rw [q_T_3 ha, hm, if_pos (nI_le (by omega) (by omega)), q_T_3 ha, hm]
/-- lanes of two tables differ at a column of a set -/
def hloP (S : SS) (a b s : Nat) (c : Nat) : Bool := s.testBit c && decide (S.2.1 (a + 1) c ≠ S.2.1 (b + 1) c)
theorem hasLanesOf_s (ha : IsT a) (hb : IsT b) {n s : Nat} (hn : S.1 a 2 = nI n) (h8 : n ≤ 8) (hs : s < 256) : Rc 72 [.ref a, .ref b, .int (nI s)] (enc sc S) = some (some (.int (bI (¬ fa_first (hloP S a b s) n < n))), enc sc S) := by
  refine Rc_of rfl rfl (B_X5_hasLanesOf_0 _ _ _ _ ?_)
  have h := loop_first (F := n) (p := hloP S a b s) (G := fun k => Rs 72 2 [.ref a, .ref b, .int (nI s), .int (nI k)] [] (enc sc S)) (yes := fun _ => (some (.int 0), enc sc S)) (no := (some (.int 1), enc sc S)) ?_ ?_ ?_
  · rw [show (0 : Int32) = nI 0 from rfl, h]
    by_cases q : fa_first (hloP S a b s) n < n
    · rw [if_pos q, bI_f (fun z => z q)]
    · rw [if_neg q, bI_t q]
  · refine B_X5_hasLanesOf_2 _ _ _ _ _ ?_
    rw [q_T_2 ha, hn, if_pos (nI_le (by omega) (by omega)), rI1]
  · intro k hk hp
    obtain ⟨p1, p2⟩ := and2 hp
    refine B_X5_hasLanesOf_2 _ _ _ _ _ ?_
    rw [q_T_2 ha, hn, if_neg (nI_ge (by omega) (by omega)), hasBit_s (by omega) (by omega), c_Is, if_bI, if_pos p1, q_T_4 ha, a_T1 ha (by omega), q_T_4 hb, a_T1 hb (by omega), if_neg (of_decide_eq_true p2), rI0]
  · intro k hk hp r' hr'
    refine B_X5_hasLanesOf_2 _ _ _ _ _ ?_
    rw [q_T_2 ha, hn, if_neg (nI_ge (by omega) (by omega)), hasBit_s (by omega) (by omega), c_Is, if_bI, nI_1]
    by_cases h1 : s.testBit k = true
    · rw [if_pos h1, q_T_4 ha, a_T1 ha (by omega), q_T_4 hb, a_T1 hb (by omega), if_pos (by simpa [hloP, h1] using hp)]
      exact hr'
    · rw [if_neg h1]
      exact hr'
end TB2
