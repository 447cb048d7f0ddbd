/-! SPECS of Theory: closures, with what is kept of them -/
theorem first_cong {p q : Nat → Bool} : ∀ {n : Nat}, (∀ k, k < n → p k = q k) → fa_first p n = fa_first q n := by
  intro n h
  have key : ∀ p q : Nat → Bool, (∀ k, k < n → p k = q k) → fa_first p n ≤ fa_first q n := by
    intro p q h
    refine Classical.byContradiction fun c => ?_
    have c : fa_first q n < fa_first p n := by omega
    have h1 := fa_first_le p n
    have h2 := fa_first_no p n _ c
    have h3 := fa_first_yes q n (by omega)
    rw [h _ (by omega), h3] at h2
    cases h2
  exact Nat.le_antisymm (key p q h) (key q p fun k hk => (h k hk).symm)
/-- the registers of the laws in force -/
def FD (S : SS) (F : Nat) (fx fy : Nat → Nat) : Prop := S.1 29 2 = nI F ∧ F ≤ 40 ∧ ∀ k, k < F → S.2.1 31 k = nI (fx k) ∧ fx k < 256 ∧ S.2.1 32 k = nI (fy k) ∧ fy k < 256
/-- the kept closures laid into a state -/
def w33 (S : SS) (m : Nat → Int32) : SS := (S.1, fun a i => if a = 33 then m i else S.2.1 a i, S.2.2)
def MO (F : Nat) (fx fy : Nat → Nat) (m : Nat → Int32) : Prop := ∀ s, s < 256 → m s = -1 ∨ m s = nI (clo F fx fy s)
theorem w33_self (S : SS) : w33 S (S.2.1 33) = S := by
  unfold w33
  have : (fun a i => if a = 33 then S.2.1 33 i else S.2.1 a i) = S.2.1 := by
    funext a i
    by_cases h : a = 33
    · rw [if_pos h, h]
    · rw [if_neg h]
  rw [this]
theorem w33_sA (S : SS) (m : Nat → Int32) (i : Nat) (x : Int32) : sA (w33 S m) 33 i x = w33 S (upd m i x) := by
  unfold w33 sA upd
  congr 2
  funext a j
  by_cases h : a = 33
  · by_cases h2 : j = i <;> simp [h, h2]
  · simp [h]
theorem w33_w33 (S : SS) (m m' : Nat → Int32) : w33 (w33 S m) m' = w33 S m' := by
  unfold w33
  congr 2
  funext a i
  by_cases h : a = 33 <;> simp [h]
theorem w33_ne {S : SS} {m : Nat → Int32} {a : Nat} (h : a ≠ 33) : (w33 S m).2.1 a = S.2.1 a := by
  funext i
  simp [w33, h]
theorem w33_at {S : SS} {m : Nat → Int32} {i : Nat} : (w33 S m).2.1 33 i = m i := by simp [w33]
theorem FD_w33 {S : SS} {F : Nat} {fx fy : Nat → Nat} (h : FD S F fx fy) (m : Nat → Int32) : FD (w33 S m) F fx fy := by
  refine ⟨h.1, h.2.1, fun k hk => ?_⟩
  rw [w33_ne (by decide), w33_ne (by decide)]
  exact h.2.2 k hk
theorem FD_y {S : SS} {F : Nat} {fx fy : Nat → Nat} (h : FD S F fx fy) : ∀ k, k < F → fy k < 256 := fun k hk => (h.2.2 k hk).2.2.2
section THE
variable {sc : RE} {S : SS} {F : Nat} {fx fy : Nat → Nat}
theorem nextForce_n (h : FD S F fx fy) {s : Nat} (hs : s < 256) : Rc 83 [.ref 29, .int (nI s)] (enc sc S) = some (some (.int (if nf F fx fy s < F then nI (nf F fx fy s) else -9)), enc sc S) := by
  rw [nextForce_s h.1 h.2.1]
  have e : fa_first (nfP S (nI s)) F = nf F fx fy s := first_cong fun k hk => by
    obtain ⟨h1, h2, h3, h4⟩ := h.2.2 k hk
    unfold nfP
    rw [decide_eq_decide, h1, h3, wi_sub (by omega) (by omega), wi_sub (by omega) (by omega)]
  unfold nfA
  rw [e]
theorem cl_stop {s n : Nat} (hn : n ≤ 8) (hc : Cl F fx fy (cl F fx fy n s)) : clo F fx fy s = cl F fx fy n s := by
  have : ∀ d, cl F fx fy (n + d) s = cl F fx fy n s := by
    intro d
    induction d with
    | zero => rfl
    | succ d ih =>
      show cst F fx fy (cl F fx fy (n + d) s) = _
      rw [ih]
      exact cst_Cl F fx fy hc
  have h := this (8 - n)
  rw [show n + (8 - n) = 8 by omega] at h
  exact h
theorem MO_upd {m : Nat → Int32} (h : MO F fx fy m) {s : Nat} : MO F fx fy (upd m s (nI (clo F fx fy s))) := by
  intro t ht
  by_cases q : t = s
  · subst q; exact Or.inr (by simp [upd])
  · have := h t ht
    simpa [upd, q] using this
theorem cl_lt (hy : ∀ k, k < F → fy k < 256) {s : Nat} (hs : s < 256) (n : Nat) : cl F fx fy n s < 256 := by
  have h : Cl F fx fy 255 := fun k hk _ => sub_iff.mpr fun i hi => by
    have h1 := bit_lt (n := 8) hi (hy k hk)
    exact (by decide : ∀ i, i < 8 → (255 : Nat).testBit i = true) i h1
  have h2 : sub s 255 := sub_iff.mpr fun i hi => (by decide : ∀ i, i < 8 → (255 : Nat).testBit i = true) i (bit_lt (n := 8) hi hs)
  exact sub_lt (cl_le F fx fy h2 h n) (by decide)
theorem closureOf_s (h : FD S F fx fy) {m : Nat → Int32} (hm : MO F fx fy m) {s : Nat} (hs : s < 256) : ∃ m', MO F fx fy m' ∧ Rc 84 [.ref 29, .int (nI s)] (enc sc (w33 S m)) = some (some (.int (nI (clo F fx fy s))), enc sc (w33 S m')) := by
  have hy := FD_y h
  have hcl : clo F fx fy s < 256 := clo_lt F fx fy hy hs
  rcases hm s hs with h1 | h1
  · refine ⟨upd m s (nI (clo F fx fy s)), MO_upd hm, Rc_of rfl rfl (B_X6_closureOf_0 _ _ _ ?_)⟩
    rw [q_29_6, a_33 hs, w33_at, h1, if_pos rfl]
    have key : ∀ d n, n + d = 8 → Rs 84 21 [.ref 29, .int (nI s), .int (nI (cl F fx fy n s)), .int (nI n), UU] [] (enc sc (w33 S m)) = some (some (.int (nI (clo F fx fy s))), enc sc (w33 S (upd m s (nI (clo F fx fy s))))) := by
      intro d
      induction d with
      | zero =>
        intro n hn
        refine B_X6_closureOf_21 _ _ _ _ _ ?_
        rw [show (8 : Int32) = nI 8 from rfl, if_pos (nI_le (by omega) (by omega)), q_29_6, s_33 hs, show n = 8 by omega, w33_sA]
        rfl
      | succ d ih =>
        intro n hn
        refine B_X6_closureOf_21 _ _ _ _ _ ?_
        rw [show (8 : Int32) = nI 8 from rfl, if_neg (nI_ge (by omega) (by omega)), o_29, nextForce_n (FD_w33 h m) (cl_lt hy hs n), c_Is]
        by_cases q : nf F fx fy (cl F fx fy n s) < F
        · obtain ⟨g1, g2, g3, g4⟩ := h.2.2 _ q
          have h40 := h.2.1
          rw [if_pos q, if_neg (m9_ne _ (by omega)), q_29_5, a_32 (by omega), w33_ne (by decide), g3, fa_or, nI_1]
          have e : cl F fx fy (n + 1) s = cl F fx fy n s ||| fy (nf F fx fy (cl F fx fy n s)) := by
            show cst F fx fy (cl F fx fy n s) = _
            unfold cst
            rw [if_pos q]
          rw [← e]
          exact ih (n + 1) (by omega)
        · rw [if_neg q, if_pos rfl, q_29_6, s_33 hs, w33_sA, cl_stop (by omega) (nf_no F fx fy q)]
    exact key 8 0 (by omega)
  · refine ⟨m, hm, Rc_of rfl rfl (B_X6_closureOf_0 _ _ _ ?_)⟩
    rw [q_29_6, a_33 hs, w33_at, h1, if_neg (m1_ne _ (by omega)), q_29_6, a_33 hs, w33_at, h1]
theorem tellsAllOf_s (h : FD S F fx fy) {m : Nat → Int32} (hm : MO F fx fy m) {s t : Nat} (hs : s < 256) (ht : t < 256) : ∃ m', MO F fx fy m' ∧ Rc 86 [.ref 29, .int (nI s), .int (nI t)] (enc sc (w33 S m)) = some (some (.int (bI (sub t (clo F fx fy s)))), enc sc (w33 S m')) := by
  obtain ⟨m', h1, h2⟩ := closureOf_s (sc := sc) h hm hs
  have hcl : clo F fx fy s < 256 := clo_lt F fx fy (FD_y h) hs
  refine ⟨m', h1, Rc_of rfl rfl (B_X6_tellsAllOf_0 _ _ _ _ ?_)⟩
  rw [o_29, h2, c_Is, isWithin_s, c_Is, rIb, bI_iff (wi_sub (by omega) (by omega))]
/-- loops over a kept state -/
theorem loop_mem {α : Type} {I : α → Prop} {N : Nat} {p : Nat → Bool} {G : Nat → α → Option RT} {yes : Nat → α → RT} {no : α → RT} (hend : ∀ m, I m → ∃ m', I m' ∧ G N m = some (no m')) (hyes : ∀ k m, k < N → I m → p k = true → ∃ m', I m' ∧ G k m = some (yes k m')) (hno : ∀ k m, k < N → I m → p k = false → ∃ m', I m' ∧ ∀ r, G (k + 1) m' = some r → G k m = some r) : ∀ m, I m → ∃ m', I m' ∧ G 0 m = some (if fa_first p N < N then yes (fa_first p N) m' else no m') := by
  have key : ∀ d k, k + d = N → (∀ i, i < k → p i = false) → ∀ m, I m → ∃ m', I m' ∧ G k m = some (if fa_first p N < N then yes (fa_first p N) m' else no m') := by
    intro d
    induction d with
    | zero =>
      intro k hk hp m hm
      have h1 : ¬ fa_first p N < N := by
        intro q
        have := hp _ (by omega : fa_first p N < k)
        rw [fa_first_yes p N q] at this
        cases this
      obtain ⟨m', g1, g2⟩ := hend m hm
      refine ⟨m', g1, ?_⟩
      rw [if_neg h1, show k = N by omega]
      exact g2
    | succ d ih =>
      intro k hk hp m hm
      cases hpk : p k with
      | true =>
        have h1 : fa_first p N = k := by
          rcases Nat.lt_trichotomy (fa_first p N) k with h | h | h
          · have h2 := hp _ h
            have h3 := fa_first_yes p N (by omega)
            rw [h2] at h3
            cases h3
          · exact h
          · have h2 := fa_first_no p N k h
            rw [hpk] at h2
            cases h2
        obtain ⟨m', g1, g2⟩ := hyes k m (by omega) hm hpk
        refine ⟨m', g1, ?_⟩
        rw [h1, if_pos (by omega)]
        exact g2
      | false =>
        obtain ⟨m1, g1, g2⟩ := hno k m (by omega) hm hpk
        obtain ⟨m', g3, g4⟩ := ih (k + 1) (by omega) (fun i hi => by
          by_cases h : i = k
          · rw [h]; exact hpk
          · exact hp i (by omega)) m1 g1
        exact ⟨m', g3, g2 _ g4⟩
  intro m hm
  exact key N 0 (by omega) (fun i hi => by omega) m hm
/-- s without column c -/
def wo (s c : Nat) : Nat := s &&& (2 ^ c ^^^ 2147483647)
theorem wo_n {s c : Nat} (hs : s < 256) (hc : c < 8) : nI s &&& (((1 : Int32) <<< (nI c &&& 31)) ^^^ (-1 : Int32)) = nI (wo s c) := by
  rw [shl_n (by omega), andn_n (by omega) (Nat.lt_of_lt_of_le (Nat.pow_lt_pow_right (by decide) hc) (by decide))]
  rfl
theorem wo_lt {s c : Nat} (hs : s < 256) : wo s c < 256 := Nat.lt_of_le_of_lt Nat.and_le_left hs
/-- s tells all of t, and no longer does without any one of its columns -/
def lfP (F : Nat) (fx fy : Nat → Nat) (s t c : Nat) : Bool := s.testBit c && decide (sub t (clo F fx fy (wo s c)))
def lf (F : Nat) (fx fy : Nat → Nat) (s t : Nat) : Prop := sub t (clo F fx fy s) ∧ ∀ c, c < 8 → lfP F fx fy s t c = false
theorem isLeastFor_s (h : FD S F fx fy) {m : Nat → Int32} (hm : MO F fx fy m) {s t : Nat} (hs : s < 256) (ht : t < 256) : ∃ m', MO F fx fy m' ∧ ∃ v, (v = 0 ∨ v = 1) ∧ (v = 1 ↔ lf F fx fy s t) ∧ Rc 87 [.ref 29, .int (nI s), .int (nI t)] (enc sc (w33 S m)) = some (some (.int v), enc sc (w33 S m')) := by
  obtain ⟨m1, h1, h2⟩ := tellsAllOf_s (sc := sc) h hm hs ht
  by_cases q : sub t (clo F fx fy s)
  · obtain ⟨m', h3, h4⟩ := loop_mem (I := MO F fx fy) (N := 8) (p := lfP F fx fy s t) (G := fun c m => Rs 87 13 [.ref 29, .int (nI s), .int (nI t), .int (nI c)] [] (enc sc (w33 S m))) (yes := fun _ m => (some (.int 0), enc sc (w33 S m))) (no := fun m => (some (.int 1), enc sc (w33 S m))) (fun m hm => ⟨m, hm, B_X6_isLeastFor_13 _ _ _ _ _ (by
        rw [show (8 : Int32) = nI 8 from rfl, if_pos (nI_le (by omega) (by omega)), rI1])⟩) (fun c m hc hm hp => by
        obtain ⟨p1, p2⟩ := and2 hp
        obtain ⟨m', g1, g2⟩ := tellsAllOf_s (sc := sc) h hm (wo_lt (c := c) hs) ht
        refine ⟨m', g1, B_X6_isLeastFor_13 _ _ _ _ _ ?_⟩
        rw [show (8 : Int32) = nI 8 from rfl, if_neg (nI_ge hc (by omega)), hasBit_s (by omega) (by omega), c_Is, if_bI, if_pos p1, wo_n hs hc, o_29, g2, c_Is, if_bI, if_pos (of_decide_eq_true p2), rI0]) (fun c m hc hm hp => by
        by_cases p1 : s.testBit c = true
        · obtain ⟨m', g1, g2⟩ := tellsAllOf_s (sc := sc) h hm (wo_lt (c := c) hs) ht
          refine ⟨m', g1, fun r hr => B_X6_isLeastFor_13 _ _ _ _ _ ?_⟩
          rw [show (8 : Int32) = nI 8 from rfl, if_neg (nI_ge hc (by omega)), hasBit_s (by omega) (by omega), c_Is, if_bI, if_pos p1, wo_n hs hc, o_29, g2, c_Is, if_bI, if_neg (by simpa [lfP, p1] using hp), nI_1]
          exact hr
        · refine ⟨m, hm, fun r hr => B_X6_isLeastFor_13 _ _ _ _ _ ?_⟩
          rw [show (8 : Int32) = nI 8 from rfl, if_neg (nI_ge hc (by omega)), hasBit_s (by omega) (by omega), c_Is, if_bI, if_neg p1, nI_1]
          exact hr) m1 h1
    refine ⟨m', h3, ?_⟩
    have start : ∀ r, Rs 87 13 [.ref 29, .int (nI s), .int (nI t), .int (nI 0)] [] (enc sc (w33 S m1)) = some r → Rc 87 [.ref 29, .int (nI s), .int (nI t)] (enc sc (w33 S m)) = some r := by
      intro r hr
      refine Rc_of rfl rfl (B_X6_isLeastFor_0 _ _ _ _ ?_)
      rw [o_29, h2, c_Is, if_bI, if_pos q]
      exact hr
    by_cases c8 : fa_first (lfP F fx fy s t) 8 < 8
    · rw [if_pos c8] at h4
      refine ⟨0, Or.inl rfl, ⟨fun z => absurd z (by decide), fun z => ?_⟩, start _ h4⟩
      have := z.2 _ c8
      rw [fa_first_yes _ 8 c8] at this
      cases this
    · rw [if_neg c8] at h4
      refine ⟨1, Or.inr rfl, ⟨fun _ => ⟨q, fun c hc => ?_⟩, fun _ => rfl⟩, start _ h4⟩
      exact fa_first_no _ 8 c (by have := fa_first_le (lfP F fx fy s t) 8; omega)
  · refine ⟨m1, h1, 0, Or.inl rfl, ⟨fun z => absurd z (by decide), fun z => absurd z.1 q⟩, Rc_of rfl rfl (B_X6_isLeastFor_0 _ _ _ _ ?_)⟩
    rw [o_29, h2, c_Is, if_bI, if_neg q, rI0]
end THE
