/-! THE LAW'S LOOP -/
abbrev scr (L : Nat) (xs : Nat → Int32) : RE := .inl (0, L, .inl xs)
section LL
variable {sc : RE} {S : SS} {L i : Nat} {xs : Nat → Int32} {K : Int32 → Option RT}
theorem ex_of {X Y : Option RT} {v : Option Value} (hXY : ∀ r, X = some r → Y = some r) (h : ∃ S1, X = some (v, enc sc S1)) : ∃ S1, Y = some (v, enc sc S1) := by
  obtain ⟨S1, e⟩ := h
  exact ⟨S1, hXY _ e⟩
theorem op_n {C M : MM → Option RT} (h : Op sc S C M) (hk : ∀ v μ', C (enc sc S) = some (v, μ') → ∃ x : Int32, v = some (.int x)) : ∃ y S1 S', Rel S' ∧ C (enc sc S) = some (some (.int y), enc sc S1) ∧ M (enc sc S1) = some (some (.int y), enc sc S') := by
  obtain ⟨v, S1, S', h1, h2, h3⟩ := h
  obtain ⟨x, rfl⟩ := hk _ _ h2
  exact ⟨x, S1, S', h1, h2, h3⟩
theorem op_j {C M : MM → Option RT} (h : Op sc S C M) (hk : ∀ v μ', C (enc sc S) = some (v, μ') → ∃ x : Int64, v = some (.long x)) : ∃ y S1 S', Rel S' ∧ C (enc sc S) = some (some (.long y), enc sc S1) ∧ M (enc sc S1) = some (some (.long y), enc sc S') := by
  obtain ⟨v, S1, S', h1, h2, h3⟩ := h
  obtain ⟨x, rfl⟩ := hk _ _ h2
  exact ⟨x, S1, S', h1, h2, h3⟩
theorem enc_SC {s : RE} : (enc s S).2.2 SC = s := by simp [enc]
theorem an_SC : a_n (enc (scr L xs) S) SC K = K (nI L) := by
  unfold a_n
  rw [enc_SC]
  dsimp only
  rw [if_pos (Or.inr rfl)]
  rfl
theorem aI_SC (h : i < L) (hL : L ≤ 3584) : a_I (enc (scr L xs) S) SC (nI i) K = K (xs i) := by
  unfold a_I
  rw [enc_SC]
  dsimp only
  rw [if_pos ⟨Or.inr rfl, rfl, mm_in_n h (by omega)⟩, nI_clamp (by omega)]
theorem aS1 (h : i + 1 < L) (hL : L ≤ 3584) : a_I (enc (scr L xs) S) SC (nI i + (1 : Int32)) K = K (xs (i + 1)) := by
  rw [show (1 : Int32) = nI 1 from rfl, nI_add]
  exact aI_SC h hL
theorem aS2 (h : i + 2 < L) (hL : L ≤ 3584) : a_I (enc (scr L xs) S) SC (nI i + (2 : Int32)) K = K (xs (i + 2)) := by
  rw [show (2 : Int32) = nI 2 from rfl, nI_add]
  exact aI_SC h hL
theorem aS3 (h : i + 3 < L) (hL : L ≤ 3584) : a_I (enc (scr L xs) S) SC (nI i + (3 : Int32)) K = K (xs (i + 3)) := by
  rw [show (3 : Int32) = nI 3 from rfl, nI_add]
  exact aI_SC h hL
theorem aS4 (h : i + 4 < L) (hL : L ≤ 3584) : a_I (enc (scr L xs) S) SC (nI i + (4 : Int32)) K = K (xs (i + 4)) := by
  rw [show (4 : Int32) = nI 4 from rfl, nI_add]
  exact aI_SC h hL
theorem aS5 (h : i + 5 < L) (hL : L ≤ 3584) : a_I (enc (scr L xs) S) SC (nI i + (5 : Int32)) K = K (xs (i + 5)) := by
  rw [show (5 : Int32) = nI 5 from rfl, nI_add]
  exact aI_SC h hL
theorem aS6 (h : i + 6 < L) (hL : L ≤ 3584) : a_I (enc (scr L xs) S) SC (nI i + (6 : Int32)) K = K (xs (i + 6)) := by
  rw [show (6 : Int32) = nI 6 from rfl, nI_add]
  exact aI_SC h hL
set_option maxRecDepth 50000 in
set_option maxHeartbeats 4000000 in
theorem law_step (hL : L ≤ 3584) (hi : i + 7 ≤ L) (h : Rel S) (fin : ∀ S', Rel S' → ∃ S1, Rs 252 1494 [.ref SC, .ref 0, .ref 43, .int (nI i)] [] (enc (scr L xs) S') = some (some (.int 1), enc (scr L xs) S1)) (s0 : Int32) : ∃ S1, Rs 252 33 [.ref SC, .ref 0, .ref 43, .int (nI i)] [.int s0] (enc (scr L xs) S) = some (some (.int 1), enc (scr L xs) S1) := by
  have h1 : i + 1 < L := by omega
  have h2 : i + 2 < L := by omega
  have h3 : i + 3 < L := by omega
  have h4 : i + 4 < L := by omega
  have h5 : i + 5 < L := by omega
  have h6 : i + 6 < L := by omega
  refine ex_of (fun r => B_L_law_33 (r := r) _ _ _ _ _ _) ?_
  by_cases c0 : s0 = 0
  · rw [if_pos c0]
    clear c0
    by_cases z : xs (i + 2) = 0
    · obtain ⟨y, T1, T2, hR, e1, e2⟩ := op_n (table_o (sc := scr L xs) h (xs (i + 1)) 0 (by decide)) (fun v μ' q => Rc_I (kI _ (by decide)) q)
      obtain ⟨T3, e⟩ := fin T2 hR
      refine ⟨T3, ?_⟩
      simp only [↓aS1 h1 hL, ↓aS2 h2 hL, ↓if_pos z]
      refine B_L_law_231 _ _ _ _ _ _ _ _ ?_
      simp only [↓o_0, ↓cI e1, ↓aS1 h1 hL, ↓aS2 h2 hL, ↓if_pos z]
      refine B_L_law_253 _ _ _ _ _ _ _ _ _ ?_
      simp only [↓o_43, ↓cI e2, ↓reduceIte]
      exact e
    · obtain ⟨y, T1, T2, hR, e1, e2⟩ := op_n (table_o (sc := scr L xs) h (xs (i + 1)) 1 (by decide)) (fun v μ' q => Rc_I (kI _ (by decide)) q)
      obtain ⟨T3, e⟩ := fin T2 hR
      refine ⟨T3, ?_⟩
      simp only [↓aS1 h1 hL, ↓aS2 h2 hL, ↓if_neg z]
      refine B_L_law_231 _ _ _ _ _ _ _ _ ?_
      simp only [↓o_0, ↓cI e1, ↓aS1 h1 hL, ↓aS2 h2 hL, ↓if_neg z]
      refine B_L_law_253 _ _ _ _ _ _ _ _ _ ?_
      simp only [↓o_43, ↓cI e2, ↓reduceIte]
      exact e
  rw [if_neg c0]
  by_cases c1 : s0 = 1
  · rw [if_pos c1]
    clear c0 c1
    obtain ⟨y, T1, T2, hR, e1, e2⟩ := op_n (drop_o (sc := scr L xs) h (xs (i + 1))) (fun v μ' q => Rc_I (kI _ (by decide)) q)
    obtain ⟨T3, e⟩ := fin T2 hR
    refine ⟨T3, ?_⟩
    simp only [↓o_0, ↓cI e1, ↓o_43, ↓cI e2, ↓reduceIte, ↓aS1 h1 hL]
    exact e
  rw [if_neg c1]
  by_cases c2 : s0 = 2
  · rw [if_pos c2]
    clear c0 c1 c2
    obtain ⟨y, T1, T2, hR, e1, e2⟩ := op_n (column_o (sc := scr L xs) h (xs (i + 1)) (xs (i + 2))) (fun v μ' q => Rc_I (kI _ (by decide)) q)
    obtain ⟨T3, e⟩ := fin T2 hR
    refine ⟨T3, ?_⟩
    simp only [↓o_0, ↓cI e1, ↓o_43, ↓cI e2, ↓reduceIte, ↓aS1 h1 hL, ↓aS2 h2 hL]
    exact e
  rw [if_neg c2]
  by_cases c3 : s0 = 3
  · rw [if_pos c3]
    clear c0 c1 c2 c3
    obtain ⟨y, T1, T2, hR, e1, e2⟩ := op_n (rows_o (sc := scr L xs) h (xs (i + 1)) (xs (i + 2))) (fun v μ' q => Rc_I (kI _ (by decide)) q)
    obtain ⟨T3, e⟩ := fin T2 hR
    refine ⟨T3, ?_⟩
    simp only [↓o_0, ↓cI e1, ↓o_43, ↓cI e2, ↓reduceIte, ↓aS1 h1 hL, ↓aS2 h2 hL]
    exact e
  rw [if_neg c3]
  by_cases c4 : s0 = 4
  · rw [if_pos c4]
    clear c0 c1 c2 c3 c4
    obtain ⟨y, T1, T2, hR, e1, e2⟩ := op_n (put_o (sc := scr L xs) h (xs (i + 1)) (xs (i + 2)) (xs (i + 3)) ((((xs (i + 4)).toInt64) <<< (((32 : Int32)).toInt64 &&& 63)) ||| (((xs (i + 5)).toInt64) &&& (4294967295 : Int64)))) (fun v μ' q => Rc_I (kI _ (by decide)) q)
    obtain ⟨T3, e⟩ := fin T2 hR
    refine ⟨T3, ?_⟩
    simp only [↓o_0, ↓cI e1, ↓o_43, ↓cI e2, ↓reduceIte, ↓aS1 h1 hL, ↓aS2 h2 hL, ↓aS3 h3 hL, ↓aS4 h4 hL, ↓aS5 h5 hL]
    exact e
  rw [if_neg c4]
  by_cases c5 : s0 = 5
  · rw [if_pos c5]
    clear c0 c1 c2 c3 c4 c5
    obtain ⟨y, T1, T2, hR, e1, e2⟩ := op_n (miss_o (sc := scr L xs) h (xs (i + 1)) (xs (i + 2)) (xs (i + 3))) (fun v μ' q => Rc_I (kI _ (by decide)) q)
    obtain ⟨T3, e⟩ := fin T2 hR
    refine ⟨T3, ?_⟩
    simp only [↓o_0, ↓cI e1, ↓o_43, ↓cI e2, ↓reduceIte, ↓aS1 h1 hL, ↓aS2 h2 hL, ↓aS3 h3 hL]
    exact e
  rw [if_neg c5]
  by_cases c6 : s0 = 6
  · rw [if_pos c6]
    clear c0 c1 c2 c3 c4 c5 c6
    obtain ⟨y, T1, T2, hR, e1, e2⟩ := op_j (at_o (sc := scr L xs) h (xs (i + 1)) (xs (i + 2)) (xs (i + 3)) (xs (i + 4))) (fun v μ' q => Rc_J kJ q)
    obtain ⟨T3, e⟩ := fin T2 hR
    refine ⟨T3, ?_⟩
    simp only [↓o_0, ↓cJ e1, ↓o_43, ↓cJ e2, ↓lg0, ↓reduceIte, ↓aS1 h1 hL, ↓aS2 h2 hL, ↓aS3 h3 hL, ↓aS4 h4 hL]
    exact e
  rw [if_neg c6]
  by_cases c7 : s0 = 7
  · rw [if_pos c7]
    clear c0 c1 c2 c3 c4 c5 c6 c7
    obtain ⟨y, T1, T2, hR, e1, e2⟩ := op_n (copy_o (sc := scr L xs) h (xs (i + 1)) (xs (i + 2)) (xs (i + 3)) (xs (i + 4)) (xs (i + 5)) (xs (i + 6))) (fun v μ' q => Rc_I (kI _ (by decide)) q)
    obtain ⟨T3, e⟩ := fin T2 hR
    refine ⟨T3, ?_⟩
    simp only [↓o_0, ↓cI e1, ↓o_43, ↓cI e2, ↓reduceIte, ↓aS1 h1 hL, ↓aS2 h2 hL, ↓aS3 h3 hL, ↓aS4 h4 hL, ↓aS5 h5 hL, ↓aS6 h6 hL]
    exact e
  rw [if_neg c7]
  by_cases c8 : s0 = 8
  · rw [if_pos c8]
    clear c0 c1 c2 c3 c4 c5 c6 c7 c8
    obtain ⟨y, T1, T2, hR, e1, e2⟩ := op_n (about_o (sc := scr L xs) h (xs (i + 1)) (xs (i + 2))) (fun v μ' q => Rc_I (kI _ (by decide)) q)
    obtain ⟨T3, e⟩ := fin T2 hR
    refine ⟨T3, ?_⟩
    simp only [↓o_0, ↓cI e1, ↓o_43, ↓cI e2, ↓reduceIte, ↓aS1 h1 hL, ↓aS2 h2 hL]
    exact e
  rw [if_neg c8]
  by_cases c9 : s0 = 9
  · rw [if_pos c9]
    clear c0 c1 c2 c3 c4 c5 c6 c7 c8 c9
    obtain ⟨y, T1, T2, hR, e1, e2⟩ := op_n (like_o (sc := scr L xs) h (xs (i + 1)) (xs (i + 2)) (xs (i + 3)) (xs (i + 4))) (fun v μ' q => Rc_I (kI _ (by decide)) q)
    obtain ⟨T3, e⟩ := fin T2 hR
    refine ⟨T3, ?_⟩
    simp only [↓o_0, ↓cI e1, ↓o_43, ↓cI e2, ↓reduceIte, ↓aS1 h1 hL, ↓aS2 h2 hL, ↓aS3 h3 hL, ↓aS4 h4 hL]
    exact e
  rw [if_neg c9]
  by_cases c10 : s0 = 10
  · rw [if_pos c10]
    clear c0 c1 c2 c3 c4 c5 c6 c7 c8 c9 c10
    obtain ⟨y, T1, T2, hR, e1, e2⟩ := op_n (law_o (sc := scr L xs) h (xs (i + 1)) (xs (i + 2)) (xs (i + 3))) (fun v μ' q => Rc_I (kI _ (by decide)) q)
    obtain ⟨T3, e⟩ := fin T2 hR
    refine ⟨T3, ?_⟩
    simp only [↓o_0, ↓cI e1, ↓o_43, ↓cI e2, ↓reduceIte, ↓aS1 h1 hL, ↓aS2 h2 hL, ↓aS3 h3 hL]
    exact e
  rw [if_neg c10]
  by_cases c11 : s0 = 11
  · rw [if_pos c11]
    clear c0 c1 c2 c3 c4 c5 c6 c7 c8 c9 c10 c11
    obtain ⟨y, T1, T2, hR, e1, e2⟩ := op_n (unlaw_o (sc := scr L xs) h (xs (i + 1))) (fun v μ' q => Rc_I (kI _ (by decide)) q)
    obtain ⟨T3, e⟩ := fin T2 hR
    refine ⟨T3, ?_⟩
    simp only [↓o_0, ↓cI e1, ↓o_43, ↓cI e2, ↓reduceIte, ↓aS1 h1 hL]
    exact e
  rw [if_neg c11]
  by_cases c12 : s0 = 12
  · rw [if_pos c12]
    clear c0 c1 c2 c3 c4 c5 c6 c7 c8 c9 c10 c11 c12
    obtain ⟨y, T1, T2, hR, e1, e2⟩ := op_n (say_o (sc := scr L xs) h (xs (i + 1)) (xs (i + 2)) (xs (i + 3))) (fun v μ' q => Rc_I (kI _ (by decide)) q)
    obtain ⟨T3, e⟩ := fin T2 hR
    refine ⟨T3, ?_⟩
    simp only [↓o_0, ↓cI e1, ↓o_43, ↓cI e2, ↓reduceIte, ↓aS1 h1 hL, ↓aS2 h2 hL, ↓aS3 h3 hL]
    exact e
  rw [if_neg c12]
  by_cases c13 : s0 = 13
  · rw [if_pos c13]
    clear c0 c1 c2 c3 c4 c5 c6 c7 c8 c9 c10 c11 c12 c13
    obtain ⟨y, T1, T2, hR, e1, e2⟩ := op_n (hold_o (sc := scr L xs) h (xs (i + 1)) (xs (i + 2))) (fun v μ' q => Rc_I (kI _ (by decide)) q)
    obtain ⟨T3, e⟩ := fin T2 hR
    refine ⟨T3, ?_⟩
    simp only [↓o_0, ↓cI e1, ↓o_43, ↓cI e2, ↓reduceIte, ↓aS1 h1 hL, ↓aS2 h2 hL]
    exact e
  rw [if_neg c13]
  by_cases c14 : s0 = 14
  · rw [if_pos c14]
    clear c0 c1 c2 c3 c4 c5 c6 c7 c8 c9 c10 c11 c12 c13 c14
    obtain ⟨y, T1, T2, hR, e1, e2⟩ := op_n (broken_o (sc := scr L xs) h (xs (i + 1))) (fun v μ' q => Rc_I (kI _ (by decide)) q)
    obtain ⟨T3, e⟩ := fin T2 hR
    refine ⟨T3, ?_⟩
    simp only [↓o_0, ↓cI e1, ↓o_43, ↓cI e2, ↓reduceIte, ↓aS1 h1 hL]
    exact e
  rw [if_neg c14]
  by_cases c15 : s0 = 15
  · rw [if_pos c15]
    clear c0 c1 c2 c3 c4 c5 c6 c7 c8 c9 c10 c11 c12 c13 c14 c15
    obtain ⟨y, T1, T2, hR, e1, e2⟩ := op_n (find_o (sc := scr L xs) h (xs (i + 1))) (fun v μ' q => Rc_I (kI _ (by decide)) q)
    obtain ⟨T3, e⟩ := fin T2 hR
    refine ⟨T3, ?_⟩
    simp only [↓o_0, ↓cI e1, ↓o_43, ↓cI e2, ↓reduceIte, ↓aS1 h1 hL]
    exact e
  rw [if_neg c15]
  by_cases c16 : s0 = 16
  · rw [if_pos c16]
    clear c0 c1 c2 c3 c4 c5 c6 c7 c8 c9 c10 c11 c12 c13 c14 c15 c16
    obtain ⟨y, T1, T2, hR, e1, e2⟩ := op_n (found_o (sc := scr L xs) h (xs (i + 1)) (xs (i + 2))) (fun v μ' q => Rc_I (kI _ (by decide)) q)
    obtain ⟨T3, e⟩ := fin T2 hR
    refine ⟨T3, ?_⟩
    simp only [↓o_0, ↓cI e1, ↓o_43, ↓cI e2, ↓reduceIte, ↓aS1 h1 hL, ↓aS2 h2 hL]
    exact e
  rw [if_neg c16]
  by_cases c17 : s0 = 17
  · rw [if_pos c17]
    clear c0 c1 c2 c3 c4 c5 c6 c7 c8 c9 c10 c11 c12 c13 c14 c15 c16 c17
    obtain ⟨y, T1, T2, hR, e1, e2⟩ := op_n (misses_o (sc := scr L xs) h (xs (i + 1)) (xs (i + 2)) (xs (i + 3))) (fun v μ' q => Rc_I (kI _ (by decide)) q)
    obtain ⟨T3, e⟩ := fin T2 hR
    refine ⟨T3, ?_⟩
    simp only [↓o_0, ↓cI e1, ↓o_43, ↓cI e2, ↓reduceIte, ↓aS1 h1 hL, ↓aS2 h2 hL, ↓aS3 h3 hL]
    exact e
  rw [if_neg c17]
  by_cases c18 : s0 = 18
  · rw [if_pos c18]
    clear c0 c1 c2 c3 c4 c5 c6 c7 c8 c9 c10 c11 c12 c13 c14 c15 c16 c17 c18
    obtain ⟨y, T1, T2, hR, e1, e2⟩ := op_n (twice_o (sc := scr L xs) h (xs (i + 1)) (xs (i + 2)) (xs (i + 3))) (fun v μ' q => Rc_I (kI _ (by decide)) q)
    obtain ⟨T3, e⟩ := fin T2 hR
    refine ⟨T3, ?_⟩
    simp only [↓o_0, ↓cI e1, ↓o_43, ↓cI e2, ↓reduceIte, ↓aS1 h1 hL, ↓aS2 h2 hL, ↓aS3 h3 hL]
    exact e
  rw [if_neg c18]
  by_cases c19 : s0 = 19
  · rw [if_pos c19]
    clear c0 c1 c2 c3 c4 c5 c6 c7 c8 c9 c10 c11 c12 c13 c14 c15 c16 c17 c18 c19
    obtain ⟨y, T1, T2, hR, e1, e2⟩ := op_n (width_o (sc := scr L xs) h (xs (i + 1))) (fun v μ' q => Rc_I (kI _ (by decide)) q)
    obtain ⟨T3, e⟩ := fin T2 hR
    refine ⟨T3, ?_⟩
    simp only [↓o_0, ↓cI e1, ↓o_43, ↓cI e2, ↓reduceIte, ↓aS1 h1 hL]
    exact e
  rw [if_neg c19]
  by_cases c20 : s0 = 20
  · rw [if_pos c20]
    clear c0 c1 c2 c3 c4 c5 c6 c7 c8 c9 c10 c11 c12 c13 c14 c15 c16 c17 c18 c19 c20
    obtain ⟨y, T1, T2, hR, e1, e2⟩ := op_n (closure_o (sc := scr L xs) h (xs (i + 1))) (fun v μ' q => Rc_I (kI _ (by decide)) q)
    obtain ⟨T3, e⟩ := fin T2 hR
    refine ⟨T3, ?_⟩
    simp only [↓o_0, ↓cI e1, ↓o_43, ↓cI e2, ↓reduceIte, ↓aS1 h1 hL]
    exact e
  rw [if_neg c20]
  by_cases c21 : s0 = 21
  · rw [if_pos c21]
    clear c0 c1 c2 c3 c4 c5 c6 c7 c8 c9 c10 c11 c12 c13 c14 c15 c16 c17 c18 c19 c20 c21
    obtain ⟨y, T1, T2, hR, e1, e2⟩ := op_n (follows_o (sc := scr L xs) h (xs (i + 1)) (xs (i + 2))) (fun v μ' q => Rc_I (kI _ (by decide)) q)
    obtain ⟨T3, e⟩ := fin T2 hR
    refine ⟨T3, ?_⟩
    simp only [↓o_0, ↓cI e1, ↓o_43, ↓cI e2, ↓reduceIte, ↓aS1 h1 hL, ↓aS2 h2 hL]
    exact e
  rw [if_neg c21]
  by_cases c22 : s0 = 22
  · rw [if_pos c22]
    clear c0 c1 c2 c3 c4 c5 c6 c7 c8 c9 c10 c11 c12 c13 c14 c15 c16 c17 c18 c19 c20 c21 c22
    obtain ⟨y, T1, T2, hR, e1, e2⟩ := op_n (step_o (sc := scr L xs) h (xs (i + 1))) (fun v μ' q => Rc_I (kI _ (by decide)) q)
    obtain ⟨T3, e⟩ := fin T2 hR
    refine ⟨T3, ?_⟩
    simp only [↓o_0, ↓cI e1, ↓o_43, ↓cI e2, ↓reduceIte, ↓aS1 h1 hL]
    exact e
  rw [if_neg c22]
  by_cases c23 : s0 = 23
  · rw [if_pos c23]
    clear c0 c1 c2 c3 c4 c5 c6 c7 c8 c9 c10 c11 c12 c13 c14 c15 c16 c17 c18 c19 c20 c21 c22 c23
    obtain ⟨y, T1, T2, hR, e1, e2⟩ := op_n (keys_o (sc := scr L xs) h ) (fun v μ' q => Rc_I (kI _ (by decide)) q)
    obtain ⟨T3, e⟩ := fin T2 hR
    refine ⟨T3, ?_⟩
    simp only [↓o_0, ↓cI e1, ↓o_43, ↓cI e2, ↓reduceIte]
    exact e
  rw [if_neg c23]
  by_cases c24 : s0 = 24
  · rw [if_pos c24]
    clear c0 c1 c2 c3 c4 c5 c6 c7 c8 c9 c10 c11 c12 c13 c14 c15 c16 c17 c18 c19 c20 c21 c22 c23 c24
    obtain ⟨y, T1, T2, hR, e1, e2⟩ := op_n (key_o (sc := scr L xs) h (xs (i + 1))) (fun v μ' q => Rc_I (kI _ (by decide)) q)
    obtain ⟨T3, e⟩ := fin T2 hR
    refine ⟨T3, ?_⟩
    simp only [↓o_0, ↓cI e1, ↓o_43, ↓cI e2, ↓reduceIte, ↓aS1 h1 hL]
    exact e
  rw [if_neg c24]
  by_cases c25 : s0 = 25
  · rw [if_pos c25]
    clear c0 c1 c2 c3 c4 c5 c6 c7 c8 c9 c10 c11 c12 c13 c14 c15 c16 c17 c18 c19 c20 c21 c22 c23 c24 c25
    obtain ⟨y, T1, T2, hR, e1, e2⟩ := op_n (prime_o (sc := scr L xs) h ) (fun v μ' q => Rc_I (kI _ (by decide)) q)
    obtain ⟨T3, e⟩ := fin T2 hR
    refine ⟨T3, ?_⟩
    simp only [↓o_0, ↓cI e1, ↓o_43, ↓cI e2, ↓reduceIte]
    exact e
  rw [if_neg c25]
  by_cases c26 : s0 = 26
  · rw [if_pos c26]
    clear c0 c1 c2 c3 c4 c5 c6 c7 c8 c9 c10 c11 c12 c13 c14 c15 c16 c17 c18 c19 c20 c21 c22 c23 c24 c25 c26
    obtain ⟨y, T1, T2, hR, e1, e2⟩ := op_n (cover_o (sc := scr L xs) h ) (fun v μ' q => Rc_I (kI _ (by decide)) q)
    obtain ⟨T3, e⟩ := fin T2 hR
    refine ⟨T3, ?_⟩
    simp only [↓o_0, ↓cI e1, ↓o_43, ↓cI e2, ↓reduceIte]
    exact e
  rw [if_neg c26]
  by_cases c27 : s0 = 27
  · rw [if_pos c27]
    clear c0 c1 c2 c3 c4 c5 c6 c7 c8 c9 c10 c11 c12 c13 c14 c15 c16 c17 c18 c19 c20 c21 c22 c23 c24 c25 c26 c27
    obtain ⟨y, T1, T2, hR, e1, e2⟩ := op_n (covered_o (sc := scr L xs) h (xs (i + 1)) (xs (i + 2))) (fun v μ' q => Rc_I (kI _ (by decide)) q)
    obtain ⟨T3, e⟩ := fin T2 hR
    refine ⟨T3, ?_⟩
    simp only [↓o_0, ↓cI e1, ↓o_43, ↓cI e2, ↓reduceIte, ↓aS1 h1 hL, ↓aS2 h2 hL]
    exact e
  rw [if_neg c27]
  by_cases c28 : s0 = 28
  · rw [if_pos c28]
    clear c0 c1 c2 c3 c4 c5 c6 c7 c8 c9 c10 c11 c12 c13 c14 c15 c16 c17 c18 c19 c20 c21 c22 c23 c24 c25 c26 c27 c28
    obtain ⟨y, T1, T2, hR, e1, e2⟩ := op_n (third_o (sc := scr L xs) h ) (fun v μ' q => Rc_I (kI _ (by decide)) q)
    obtain ⟨T3, e⟩ := fin T2 hR
    refine ⟨T3, ?_⟩
    simp only [↓o_0, ↓cI e1, ↓o_43, ↓cI e2, ↓reduceIte]
    exact e
  rw [if_neg c28]
  by_cases c29 : s0 = 29
  · rw [if_pos c29]
    clear c0 c1 c2 c3 c4 c5 c6 c7 c8 c9 c10 c11 c12 c13 c14 c15 c16 c17 c18 c19 c20 c21 c22 c23 c24 c25 c26 c27 c28 c29
    obtain ⟨y, T1, T2, hR, e1, e2⟩ := op_n (strict_o (sc := scr L xs) h ) (fun v μ' q => Rc_I (kI _ (by decide)) q)
    obtain ⟨T3, e⟩ := fin T2 hR
    refine ⟨T3, ?_⟩
    simp only [↓o_0, ↓cI e1, ↓o_43, ↓cI e2, ↓reduceIte]
    exact e
  rw [if_neg c29]
  by_cases c30 : s0 = 30
  · rw [if_pos c30]
    clear c0 c1 c2 c3 c4 c5 c6 c7 c8 c9 c10 c11 c12 c13 c14 c15 c16 c17 c18 c19 c20 c21 c22 c23 c24 c25 c26 c27 c28 c29 c30
    obtain ⟨y, T1, T2, hR, e1, e2⟩ := op_n (part_o (sc := scr L xs) h (xs (i + 1))) (fun v μ' q => Rc_I (kI _ (by decide)) q)
    obtain ⟨T3, e⟩ := fin T2 hR
    refine ⟨T3, ?_⟩
    simp only [↓o_0, ↓cI e1, ↓o_43, ↓cI e2, ↓reduceIte, ↓aS1 h1 hL]
    exact e
  rw [if_neg c30]
  by_cases c31 : s0 = 31
  · rw [if_pos c31]
    clear c0 c1 c2 c3 c4 c5 c6 c7 c8 c9 c10 c11 c12 c13 c14 c15 c16 c17 c18 c19 c20 c21 c22 c23 c24 c25 c26 c27 c28 c29 c30 c31
    obtain ⟨y, T1, T2, hR, e1, e2⟩ := op_n (unpart_o (sc := scr L xs) h ) (fun v μ' q => Rc_I (kI _ (by decide)) q)
    obtain ⟨T3, e⟩ := fin T2 hR
    refine ⟨T3, ?_⟩
    simp only [↓o_0, ↓cI e1, ↓o_43, ↓cI e2, ↓reduceIte]
    exact e
  rw [if_neg c31]
  by_cases c32 : s0 = 32
  · rw [if_pos c32]
    clear c0 c1 c2 c3 c4 c5 c6 c7 c8 c9 c10 c11 c12 c13 c14 c15 c16 c17 c18 c19 c20 c21 c22 c23 c24 c25 c26 c27 c28 c29 c30 c31 c32
    obtain ⟨y, T1, T2, hR, e1, e2⟩ := op_n (parted_o (sc := scr L xs) h (xs (i + 1))) (fun v μ' q => Rc_I (kI _ (by decide)) q)
    obtain ⟨T3, e⟩ := fin T2 hR
    refine ⟨T3, ?_⟩
    simp only [↓o_0, ↓cI e1, ↓o_43, ↓cI e2, ↓reduceIte, ↓aS1 h1 hL]
    exact e
  rw [if_neg c32]
  by_cases c33 : s0 = 33
  · rw [if_pos c33]
    clear c0 c1 c2 c3 c4 c5 c6 c7 c8 c9 c10 c11 c12 c13 c14 c15 c16 c17 c18 c19 c20 c21 c22 c23 c24 c25 c26 c27 c28 c29 c30 c31 c32 c33
    obtain ⟨y, T1, T2, hR, e1, e2⟩ := op_n (form_o (sc := scr L xs) h (xs (i + 1))) (fun v μ' q => Rc_I (kI _ (by decide)) q)
    obtain ⟨T3, e⟩ := fin T2 hR
    refine ⟨T3, ?_⟩
    simp only [↓o_0, ↓cI e1, ↓o_43, ↓cI e2, ↓reduceIte, ↓aS1 h1 hL]
    exact e
  rw [if_neg c33]
  by_cases c34 : s0 = 34
  · rw [if_pos c34]
    clear c0 c1 c2 c3 c4 c5 c6 c7 c8 c9 c10 c11 c12 c13 c14 c15 c16 c17 c18 c19 c20 c21 c22 c23 c24 c25 c26 c27 c28 c29 c30 c31 c32 c33 c34
    obtain ⟨y, T1, T2, hR, e1, e2⟩ := op_n (lossless_o (sc := scr L xs) h ) (fun v μ' q => Rc_I (kI _ (by decide)) q)
    obtain ⟨T3, e⟩ := fin T2 hR
    refine ⟨T3, ?_⟩
    simp only [↓o_0, ↓cI e1, ↓o_43, ↓cI e2, ↓reduceIte]
    exact e
  rw [if_neg c34]
  by_cases c35 : s0 = 35
  · rw [if_pos c35]
    clear c0 c1 c2 c3 c4 c5 c6 c7 c8 c9 c10 c11 c12 c13 c14 c15 c16 c17 c18 c19 c20 c21 c22 c23 c24 c25 c26 c27 c28 c29 c30 c31 c32 c33 c34 c35
    obtain ⟨y, T1, T2, hR, e1, e2⟩ := op_n (lack_o (sc := scr L xs) h ) (fun v μ' q => Rc_I (kI _ (by decide)) q)
    obtain ⟨T3, e⟩ := fin T2 hR
    refine ⟨T3, ?_⟩
    simp only [↓o_0, ↓cI e1, ↓o_43, ↓cI e2, ↓reduceIte]
    exact e
  rw [if_neg c35]
  by_cases c36 : s0 = 36
  · rw [if_pos c36]
    clear c0 c1 c2 c3 c4 c5 c6 c7 c8 c9 c10 c11 c12 c13 c14 c15 c16 c17 c18 c19 c20 c21 c22 c23 c24 c25 c26 c27 c28 c29 c30 c31 c32 c33 c34 c35 c36
    obtain ⟨y, T1, T2, hR, e1, e2⟩ := op_n (keeps_o (sc := scr L xs) h (xs (i + 1))) (fun v μ' q => Rc_I (kI _ (by decide)) q)
    obtain ⟨T3, e⟩ := fin T2 hR
    refine ⟨T3, ?_⟩
    simp only [↓o_0, ↓cI e1, ↓o_43, ↓cI e2, ↓reduceIte, ↓aS1 h1 hL]
    exact e
  rw [if_neg c36]
  by_cases c37 : s0 = 37
  · rw [if_pos c37]
    clear c0 c1 c2 c3 c4 c5 c6 c7 c8 c9 c10 c11 c12 c13 c14 c15 c16 c17 c18 c19 c20 c21 c22 c23 c24 c25 c26 c27 c28 c29 c30 c31 c32 c33 c34 c35 c36 c37
    obtain ⟨y, T1, T2, hR, e1, e2⟩ := op_n (project_o (sc := scr L xs) h (xs (i + 1)) (xs (i + 2)) (xs (i + 3))) (fun v μ' q => Rc_I (kI _ (by decide)) q)
    obtain ⟨T3, e⟩ := fin T2 hR
    refine ⟨T3, ?_⟩
    simp only [↓o_0, ↓cI e1, ↓o_43, ↓cI e2, ↓reduceIte, ↓aS1 h1 hL, ↓aS2 h2 hL, ↓aS3 h3 hL]
    exact e
  rw [if_neg c37]
  by_cases c38 : s0 = 38
  · rw [if_pos c38]
    clear c0 c1 c2 c3 c4 c5 c6 c7 c8 c9 c10 c11 c12 c13 c14 c15 c16 c17 c18 c19 c20 c21 c22 c23 c24 c25 c26 c27 c28 c29 c30 c31 c32 c33 c34 c35 c36 c37 c38
    obtain ⟨y, T1, T2, hR, e1, e2⟩ := op_n (join_o (sc := scr L xs) h (xs (i + 1)) (xs (i + 2)) (xs (i + 3)) (xs (i + 4)) (xs (i + 5))) (fun v μ' q => Rc_I (kI _ (by decide)) q)
    obtain ⟨T3, e⟩ := fin T2 hR
    refine ⟨T3, ?_⟩
    simp only [↓o_0, ↓cI e1, ↓o_43, ↓cI e2, ↓reduceIte, ↓aS1 h1 hL, ↓aS2 h2 hL, ↓aS3 h3 hL, ↓aS4 h4 hL, ↓aS5 h5 hL]
    exact e
  rw [if_neg c38]
  by_cases c39 : s0 = 39
  · rw [if_pos c39]
    clear c0 c1 c2 c3 c4 c5 c6 c7 c8 c9 c10 c11 c12 c13 c14 c15 c16 c17 c18 c19 c20 c21 c22 c23 c24 c25 c26 c27 c28 c29 c30 c31 c32 c33 c34 c35 c36 c37 c38 c39
    obtain ⟨y, T1, T2, hR, e1, e2⟩ := op_n (fault_o (sc := scr L xs) h ) (fun v μ' q => Rc_I (kI _ (by decide)) q)
    obtain ⟨T3, e⟩ := fin T2 hR
    refine ⟨T3, ?_⟩
    simp only [↓o_0, ↓cI e1, ↓o_43, ↓cI e2, ↓reduceIte]
    exact e
  rw [if_neg c39]
  by_cases c40 : s0 = 40
  · rw [if_pos c40]
    clear c0 c1 c2 c3 c4 c5 c6 c7 c8 c9 c10 c11 c12 c13 c14 c15 c16 c17 c18 c19 c20 c21 c22 c23 c24 c25 c26 c27 c28 c29 c30 c31 c32 c33 c34 c35 c36 c37 c38 c39 c40
    obtain ⟨y, T1, T2, hR, e1, e2⟩ := op_n (told_o (sc := scr L xs) h (xs (i + 1))) (fun v μ' q => Rc_I (kI _ (by decide)) q)
    obtain ⟨T3, e⟩ := fin T2 hR
    refine ⟨T3, ?_⟩
    simp only [↓o_0, ↓cI e1, ↓o_43, ↓cI e2, ↓reduceIte, ↓aS1 h1 hL]
    exact e
  rw [if_neg c40]
  exact fin S h
theorem law_loop (hL : L ≤ 3584) (h7 : 7 ≤ L) : ∀ N k S, Rel S → 7 * k ≤ L → L < 7 * k + 7 * N + 7 → ∃ S1, Rs 252 18 [.ref SC, .ref 0, .ref 43, .int (nI (7 * k))] [] (enc (scr L xs) S) = some (some (.int 1), enc (scr L xs) S1) := by
  have hs : nI L - 7 = nI (L - 7) := sub_N (a := L) (b := 7) h7
  have stop : ∀ k S, 7 * k ≤ L → L < 7 * k + 7 → ∃ S1, Rs 252 18 [.ref SC, .ref 0, .ref 43, .int (nI (7 * k))] [] (enc (scr L xs) S) = some (some (.int 1), enc (scr L xs) S1) := by
    intro k S hk hlt
    refine ⟨S, B_L_law_18 _ _ _ _ _ ?_⟩
    rw [an_SC, hs, if_pos (of_eq_true (lt_T (by omega) (by omega)))]
    rfl
  intro N
  induction N with
  | zero => intro k S _ hk hlt; exact stop k S hk (by omega)
  | succ N ih =>
    intro k S h hk hlt
    by_cases q : L < 7 * k + 7
    · exact stop k S hk q
    · refine ex_of (fun r => B_L_law_18 (r := r) _ _ _ _ _) ?_
      rw [an_SC, hs, if_neg (of_eq_false (lt_F (a := L - 7) (b := 7 * k) (by omega) (by omega))), aI_SC (by omega) hL]
      refine law_step hL (by omega) h (fun S' hR => ?_) _
      obtain ⟨S1, e⟩ := ih (k + 1) S' hR (by omega) (by omega)
      refine ⟨S1, B_L_law_1494 _ _ _ _ _ ?_⟩
      rw [show nI (7 * k) + 7 = nI (7 * (k + 1)) by rw [show (7 : Int32) = nI 7 from rfl, nI_add, Nat.mul_add]]
      exact e
theorem law_fin (hL : L ≤ 3584) : ∃ S1, Rs 252 18 [.ref SC, .ref 0, .ref 43, .int 0] [] (enc (scr L xs) S0) = some (some (.int 1), enc (scr L xs) S1) := by
  by_cases h7 : 7 ≤ L
  · exact law_loop hL h7 L 0 S0 Rel_0 (by omega) (by omega)
  · refine ⟨S0, B_L_law_18 _ _ _ _ _ ?_⟩
    have e : nI L - 7 < 0 := by
      rcases (by omega : L = 0 ∨ L = 1 ∨ L = 2 ∨ L = 3 ∨ L = 4 ∨ L = 5 ∨ L = 6) with rfl | rfl | rfl | rfl | rfl | rfl | rfl <;> decide
    rw [an_SC, if_pos e]
    rfl
theorem law_run (hL : L ≤ 3584) : ∃ S1, Rs 252 0 [.ref SC, UU, UU, UU] [] (pm (scr L xs) [] 0) = some (some (.int 1), enc (scr L xs) S1) := by
  obtain ⟨S1, e⟩ := law_fin (xs := xs) hL
  rw [← enc_0] at e
  refine ⟨S1, B_L_law_0 _ _ ?_⟩
  refine nw_i (l := []) (n := 0) (as := []) (D := l43 e_t) (z := 0) (d := 8) (e := 4411) rfl (by decide) kf_i ?_
  refine nw_i (l := l43 e_t) (n := 43) (as := []) (z := 4419) (d := 37) (D := modC 43 fmc) (e := 5501) rfl (by decide) (mod_i (l := l43 e_t) (by decide)) ?_
  exact e
end LL
