/-! SPECS of Table: values within, joins (reads), small writes -/
theorem loop_st {α : Type} {F : Nat} {G : Nat → α → Option RT} {fin : RT} (st : Nat → α) (hs : ∀ k, k < F → ∀ r, G (k + 1) (st (k + 1)) = some r → G k (st k) = some r) (hend : G F (st F) = some fin) : G 0 (st 0) = some fin := by
  have key : ∀ d k, k + d = F → G k (st k) = some fin := by
    intro d
    induction d with
    | zero => intro k hk; rw [show k = F by omega]; exact hend
    | succ d ih => intro k hk; exact hs k (by omega) _ (ih (k + 1) (by omega))
  exact key F 0 (by omega)
section TB3
variable {sc : RE} {S : SS} {a b : Nat} {μ : MM}
/-- the columns in which two rows have the same values -/
def svC (S : SS) (a b i j c : Nat) : Bool := match cvI S a (24 * c + i), cvI S b (24 * c + j) with
  | some x, some y => decide (x = y)
  | _, _ => false
theorem sameValues_s (ha : IsT a) (hb : IsT b) {n i j : Nat} (hn : S.1 a 2 = nI n) (h8 : n ≤ 8) (hi : i < 24) (hj : j < 24) : Rc 74 [.ref a, .int (nI i), .ref b, .int (nI j)] (enc sc S) = some (some (.int (nI (bs n (svC S a b i j)))), enc sc S) := by
  refine Rc_of rfl rfl (B_X5_sameValues_0 _ _ _ _ _ ?_)
  have h := loop_acc (F := n) (g := fun c s => s ||| (if svC S a b i j c then 2 ^ c else 0)) (G := fun c s => Rs 74 6 [.ref a, .int (nI i), .ref b, .int (nI j), .int (nI s), .int (nI c), UU] [] (enc sc S)) (fin := fun s => (some (.int (nI s)), enc sc S)) (a0 := 0) ?_ ?_
  · rw [bs_it] at h
    exact h
  · intro k s hk r' hr'
    refine B_X5_sameValues_6 _ _ _ _ _ _ _ ?_
    rw [q_T_2 ha, hn, if_neg (nI_ge (by omega) (by omega))]
    simp only [o_T ha, o_T hb, hasValue_s ha (show 24 * k + i < 192 by omega), hasValue_s hb (show 24 * k + j < 192 by omega), valueOf_s ha (show 24 * k + i < 192 by omega), valueOf_s hb (show 24 * k + j < 192 by omega), c_Is, c_Js, if_bI, if00, if10, lg0, nI_1, shl_n (show k < 31 by omega), fa_or]
    by_cases h1 : S.2.1 (a + 3) (24 * k + i) = 0
    · rw [if_neg (fun q => q h1)]
      simpa [svC, cvI, h1] using hr'
    · rw [if_pos h1]
      by_cases h2 : S.2.1 (b + 3) (24 * k + j) = 0
      · rw [if_neg (fun q => q h2)]
        simpa [svC, cvI, h1, h2] using hr'
      · rw [if_pos h2]
        by_cases h3 : S.2.2 (a + 2) (24 * k + i) = S.2.2 (b + 2) (24 * k + j)
        · rw [if_pos h3]
          simpa [svC, cvI, h1, h2, h3] using hr'
        · rw [if_neg h3]
          simpa [svC, cvI, h1, h2, h3] using hr'
  · intro s
    refine B_X5_sameValues_6 _ _ _ _ _ _ _ ?_
    rw [q_T_2 ha, hn, if_pos (nI_le (by omega) (by omega))]
theorem hasValuesOf_s (ha : IsT a) (hb : IsT b) {n m j : Nat} (hn : S.1 a 2 = nI n) (h8 : n ≤ 8) (hm : S.1 a 3 = nI m) (h24 : m ≤ 24) (hj : j < 24) (x : Int32) : Rc 73 [.ref a, .ref b, .int (nI j), .int x] (enc sc S) = some (some (.int (bI (fa_first (fun i => decide (wi x (nI (bs n (svC S a b i j))))) m < m))), enc sc S) := by
  refine Rc_of rfl rfl (B_X5_hasValuesOf_0 _ _ _ _ _ ?_)
  have h := loop_first (F := m) (p := fun i => decide (wi x (nI (bs n (svC S a b i j))))) (G := fun k => Rs 73 3 [.ref a, .ref b, .int (nI j), .int x, .int (nI k)] [] (enc sc S)) (yes := fun _ => (some (.int 1), enc sc S)) (no := (some (.int 0), enc sc S)) ?_ ?_ ?_
  · refine h.trans ?_
    by_cases q : fa_first (fun i => decide (wi x (nI (bs n (svC S a b i j))))) m < m
    · rw [if_pos q, bI_t q]
    · rw [if_neg q, bI_f q]
  · refine B_X5_hasValuesOf_3 _ _ _ _ _ _ ?_
    rw [q_T_3 ha, hm, if_pos (nI_le (by omega) (by omega)), rI0]
  · intro k hk hp
    refine B_X5_hasValuesOf_3 _ _ _ _ _ _ ?_
    rw [q_T_3 ha, hm, if_neg (nI_ge (by omega) (by omega))]
    simp only [o_T ha, sameValues_s ha hb hn h8 (show k < 24 by omega) hj, isWithin_s, c_Is, if_bI, rI1]
    rw [if_pos (of_decide_eq_true hp)]
  · intro k hk hp r' hr'
    refine B_X5_hasValuesOf_3 _ _ _ _ _ _ ?_
    rw [q_T_3 ha, hm, if_neg (nI_ge (by omega) (by omega))]
    simp only [o_T ha, sameValues_s ha hb hn h8 (show k < 24 by omega) hj, isWithin_s, c_Is, if_bI, rI1, nI_1]
    rw [if_neg (of_decide_eq_false hp)]
    exact hr'
theorem pl_lt : ∀ s, s < 256 → ∀ c, c < 8 → s.testBit c = true → pl s c < 8 := by decide +kernel
theorem pl_pc : ∀ s, s < 256 → ∀ c, c < 8 → s.testBit c = true → pl s c < pcn s := by decide +kernel
def hclP (S : SS) (a b x y : Nat) (c : Nat) : Bool := (x &&& y).testBit c && decide (S.2.1 (a + 1) (pl x c) ≠ S.2.1 (b + 1) (pl y c))
theorem haveCommonLanes_s (ha : IsT a) (hb : IsT b) {x y : Nat} (hx : x < 256) (hy : y < 256) : Rc 154 [.ref a, .int (nI x), .ref b, .int (nI y)] (enc sc S) = some (some (.int (bI (¬ fa_first (hclP S a b x y) 8 < 8))), enc sc S) := by
  have hxy : x &&& y < 256 := Nat.lt_of_le_of_lt Nat.and_le_left hx
  refine Rc_of rfl rfl (B_X7_haveCommonLanes_0 _ _ _ _ _ ?_)
  have h := loop_first (F := 8) (p := hclP S a b x y) (G := fun k => Rs 154 3 [.ref a, .int (nI x), .ref b, .int (nI y), .int (nI k)] [] (enc sc S)) (yes := fun _ => (some (.int 0), enc sc S)) (no := (some (.int 1), enc sc S)) ?_ ?_ ?_
  · rw [show (0 : Int32) = nI 0 from rfl, h]
    by_cases q : fa_first (hclP S a b x y) 8 < 8
    · rw [if_pos q, bI_f (fun z => z q)]
    · rw [if_neg q, bI_t q]
  · refine B_X7_haveCommonLanes_3 _ _ _ _ _ _ ?_
    rw [if_pos (show (8 : Int32) ≤ nI 8 by decide), rI1]
  · intro k hk hp
    obtain ⟨p1, p2⟩ := and2 hp
    have p3 := p1
    rw [Nat.testBit_and] at p3
    obtain ⟨p3, p4⟩ := and2 p3
    refine B_X7_haveCommonLanes_3 _ _ _ _ _ _ ?_
    rw [show (8 : Int32) = nI 8 from rfl, if_neg (nI_ge hk (by omega)), fa_and, hasBit_s (by omega) (by omega), c_Is, if_bI, if_pos p1]
    simp only [q_T_4 ha, q_T_4 hb, placeIn_s hx hk, placeIn_s hy hk, c_Is, a_T1 ha (pl_lt x hx k hk p3), a_T1 hb (pl_lt y hy k hk p4)]
    rw [if_neg (of_decide_eq_true p2), rI0]
  · intro k hk hp r' hr'
    refine B_X7_haveCommonLanes_3 _ _ _ _ _ _ ?_
    rw [show (8 : Int32) = nI 8 from rfl, if_neg (nI_ge hk (by omega)), fa_and, hasBit_s (by omega) (by omega), c_Is, if_bI, nI_1]
    by_cases p1 : (x &&& y).testBit k = true
    · have p3 := p1
      rw [Nat.testBit_and] at p3
      obtain ⟨p3, p4⟩ := and2 p3
      rw [if_pos p1]
      simp only [q_T_4 ha, q_T_4 hb, placeIn_s hx hk, placeIn_s hy hk, c_Is, a_T1 ha (pl_lt x hx k hk p3), a_T1 hb (pl_lt y hy k hk p4)]
      rw [if_pos (by simpa [hclP, p1] using hp)]
      exact hr'
    · rw [if_neg p1]
      exact hr'
/-- rows that do not meet at a common column -/
def drmP (S : SS) (a b x y i j : Nat) (c : Nat) : Bool := (x &&& y).testBit c && !alk (decide (S.1 a 1 ≠ 0)) (cvI S a (24 * pl x c + i)) (cvI S b (24 * pl y c + j))
theorem doRowsMeet_s (ha : IsT a) (hb : IsT b) {x y i j : Nat} (hx : x < 256) (hy : y < 256) (hi : i < 24) (hj : j < 24) : Rc 155 [.ref a, .int (nI i), .int (nI x), .ref b, .int (nI j), .int (nI y)] (enc sc S) = some (some (.int (bI (¬ fa_first (drmP S a b x y i j) 8 < 8))), enc sc S) := by
  have hxy : x &&& y < 256 := Nat.lt_of_le_of_lt Nat.and_le_left hx
  refine Rc_of rfl rfl (B_X7_doRowsMeet_0 _ _ _ _ _ _ _ ?_)
  have h := loop_first (F := 8) (p := drmP S a b x y i j) (G := fun k => Rs 155 3 [.ref a, .int (nI i), .int (nI x), .ref b, .int (nI j), .int (nI y), .int (nI k), UU, UU] [] (enc sc S)) (yes := fun _ => (some (.int 0), enc sc S)) (no := (some (.int 1), enc sc S)) ?_ ?_ ?_
  · rw [show (0 : Int32) = nI 0 from rfl, h]
    by_cases q : fa_first (drmP S a b x y i j) 8 < 8
    · rw [if_pos q, bI_f (fun z => z q)]
    · rw [if_neg q, bI_t q]
  · refine B_X7_doRowsMeet_3 _ _ _ _ _ _ _ _ ?_
    rw [if_pos (show (8 : Int32) ≤ nI 8 by decide), rI1]
  · intro k hk hp
    obtain ⟨p1, p2⟩ := and2 hp
    have p3 := p1
    rw [Nat.testBit_and] at p3
    obtain ⟨p3, p4⟩ := and2 p3
    have q1 := pl_lt x hx k hk p3
    have q2 := pl_lt y hy k hk p4
    refine B_X7_doRowsMeet_3 _ _ _ _ _ _ _ _ ?_
    rw [show (8 : Int32) = nI 8 from rfl, if_neg (nI_ge hk (by omega)), fa_and, hasBit_s (by omega) (by omega), c_Is, if_bI, if_pos p1]
    simp only [placeIn_s hx hk, placeIn_s hy hk, c_Is, cell_s, areCellsLike_s ha hb (show 24 * pl x k + i < 192 by omega) (show 24 * pl y k + j < 192 by omega), if_bI, rI0]
    rw [if_neg (by simpa using p2)]
  · intro k hk hp r' hr'
    refine B_X7_doRowsMeet_3 _ _ _ _ _ _ _ _ ?_
    rw [show (8 : Int32) = nI 8 from rfl, if_neg (nI_ge hk (by omega)), fa_and, hasBit_s (by omega) (by omega), c_Is, if_bI, nI_1]
    by_cases p1 : (x &&& y).testBit k = true
    · have p3 := p1
      rw [Nat.testBit_and] at p3
      obtain ⟨p3, p4⟩ := and2 p3
      have q1 := pl_lt x hx k hk p3
      have q2 := pl_lt y hy k hk p4
      rw [if_pos p1]
      simp only [placeIn_s hx hk, placeIn_s hy hk, c_Is, cell_s, areCellsLike_s ha hb (show 24 * pl x k + i < 192 by omega) (show 24 * pl y k + j < 192 by omega), if_bI, rI0]
      rw [if_pos (by simpa [drmP, p1] using hp)]
      exact hr'
    · rw [if_neg p1]
      exact hr'
/-- how many pairs meet -/
def jrI (S : SS) (a b x y i : Nat) (j s : Nat) : Nat := if fa_first (drmP S a b x y i j) 8 < 8 then s else s + 1
def jrG (S : SS) (a b x y m2 : Nat) (i acc : Nat) : Nat := it (jrI S a b x y i) m2 acc
theorem it_succ {α : Type} (g : Nat → α → α) (n : Nat) (s : α) : it g (n + 1) s = g n (it g n s) := rfl
theorem joinedRows_s (ha : IsT a) (hb : IsT b) {x y m m2 : Nat} (hx : x < 256) (hy : y < 256) (hm : S.1 a 3 = nI m) (h24 : m ≤ 24) (hm2 : S.1 b 3 = nI m2) (h242 : m2 ≤ 24) : Rc 156 [.ref a, .int (nI x), .ref b, .int (nI y)] (enc sc S) = some (some (.int (nI (it (jrG S a b x y m2) m 0))), enc sc S) := by
  refine Rc_of rfl rfl (B_X7_joinedRows_0 _ _ _ _ _ ?_)
  have h := loop_acc (F := m) (g := jrG S a b x y m2) (G := fun i s => Rs 156 6 [.ref a, .int (nI x), .ref b, .int (nI y), .int (nI s), .int (nI i), UU] [] (enc sc S)) (fin := fun s => (some (.int (nI s)), enc sc S)) (a0 := 0) ?_ ?_
  · exact h
  · intro i s hi r' hr'
    refine B_X7_joinedRows_6 _ _ _ _ _ _ _ ?_
    rw [q_T_3 ha, hm, if_neg (nI_ge (by omega) (by omega))]
    refine loop_st (F := m2) (G := fun j s => Rs 156 18 [.ref a, .int (nI x), .ref b, .int (nI y), .int (nI s), .int (nI i), .int (nI j)] [] (enc sc S)) (fun j => it (jrI S a b x y i) j s) ?_ ?_
    · intro j hj r'' hr''
      refine B_X7_joinedRows_18 _ _ _ _ _ _ _ _ ?_
      rw [q_T_3 hb, hm2, if_neg (nI_ge (by omega) (by omega)), doRowsMeet_s ha hb hx hy (by omega) (by omega), c_Is, if_bI, nI_1, nI_1]
      rw [it_succ] at hr''
      unfold jrI at hr''
      by_cases q : fa_first (drmP S a b x y i j) 8 < 8
      · rw [if_neg (fun z => z q)]
        rw [if_pos q] at hr''
        exact hr''
      · rw [if_pos q]
        rw [if_neg q] at hr''
        exact hr''
    · refine B_X7_joinedRows_18 _ _ _ _ _ _ _ _ ?_
      rw [q_T_3 hb, hm2, if_pos (nI_le (by omega) (by omega)), nI_1]
      exact hr'
  · intro s
    refine B_X7_joinedRows_6 _ _ _ _ _ _ _ ?_
    rw [q_T_3 ha, hm, if_pos (nI_le (by omega) (by omega))]
end TB3
