/-! NEW OBJECTS: memory as a row of cells, being made -/
def pm (sc : RE) (l : List RE) (z : Nat) : MM := (l.length, z, fun k => if k = SC then sc else (l[k]?).getD (.inr (0, [])))
section PM
variable {sc : RE} {l r : List RE} {z ci j tc d n a : Nat} {fs : List Value} {v : Value} {K : MM → Option RT} {x : RE}
theorem pm_1 : (pm sc l z).1 = l.length := rfl
theorem pm_at (h : l.length < 1000) : (pm sc (l ++ x :: r) z).2.2 l.length = x := by
  have : ¬ l.length = SC := by unfold SC; omega
  simp [pm, this]
theorem pm_up (h : l.length < 1000) (y : RE) : (((pm sc (l ++ x :: r) z).1, (pm sc (l ++ x :: r) z).2.1, va_up (pm sc (l ++ x :: r) z).2.2 l.length y) : MM) = pm sc (l ++ y :: r) z := by
  have hs : ¬ l.length = SC := by unfold SC; omega
  unfold pm
  refine Prod.ext ?_ (Prod.ext rfl ?_)
  · simp
  · funext k
    unfold va_up
    dsimp only
    by_cases e : k = l.length
    · subst e
      simp [hs]
    · rw [if_neg e]
      by_cases q : k = SC
      · rw [if_pos q, if_pos q]
      · rw [if_neg q, if_neg q]
        by_cases lt : k < l.length
        · rw [List.getElem?_append_left lt, List.getElem?_append_left lt]
        · obtain ⟨p, hp⟩ : ∃ p, k - l.length = p + 1 := ⟨k - l.length - 1, by omega⟩
          rw [List.getElem?_append_right (by omega), List.getElem?_append_right (by omega), hp, List.getElem?_cons_succ, List.getElem?_cons_succ]
theorem nC_pm (h : l.length < 1000) : n_C (pm sc l z) d x = pm sc (l ++ [x]) (z + d) := by
  have hs : ¬ l.length = SC := by unfold SC; omega
  unfold n_C pm
  refine Prod.ext ?_ (Prod.ext rfl ?_)
  · simp
  · funext k
    unfold va_up
    dsimp only
    by_cases e : k = l.length
    · subst e
      simp [hs]
    · rw [if_neg e]
      by_cases q : k = SC
      · rw [if_pos q, if_pos q]
      · rw [if_neg q, if_neg q]
        by_cases lt : k < l.length
        · rw [List.getElem?_append_left lt]
        · rw [List.getElem?_append_right (by omega), List.getElem?_eq_none (by omega), List.getElem?_eq_none (by simp; omega)]
def nok (n : Int32) (m : Nat) : Bool := decide (¬ n < 0) && Nat.beq n.toNatClampNeg m && Nat.ble m 10000
theorem nA_pm {tg m : Nat} {n : Int32} {e : vp_A} (hn : nok n m = true) (h : l.length < 1000) {q : RT} (hK : K (pm sc (l ++ [.inl (tg, e)]) (z + m)) = some q) : n_A (pm sc l z) tg n e K = some q := by
  obtain ⟨h1, h2⟩ := (Bool.and_eq_true _ _).mp hn
  obtain ⟨h3, h4⟩ := (Bool.and_eq_true _ _).mp h1
  have h5 := Nat.eq_of_beq_eq_true h4
  have h6 := Nat.le_of_ble_eq_true h2
  unfold n_A
  rw [if_pos ⟨of_decide_eq_true h3, by omega, h⟩, nC_pm h, h5]
  exact hK
theorem pF_pm (hj : Nat.blt j fs.length = true) (hv : p_ok tc v = true) (h : l.length < 1000) {q : RT} (hK : K (pm sc (l ++ .inr (ci, fs.set j v) :: r) z) = some q) : p_F (pm sc (l ++ .inr (ci, fs) :: r) z) l.length ci j tc v K = some q := by
  have hl : l.length < (pm sc (l ++ .inr (ci, fs) :: r) z).1 := by simp [pm]
  unfold p_F
  rw [pm_at h]
  dsimp only
  rw [if_pos ⟨hl, rfl, Nat.le_of_ble_eq_true hj, hv⟩, pm_up h]
  exact hK
theorem gR_pm {y : Nat} {K : Nat → Option RT} (h : l.length < 1000) (hj : fs[j]? = some (.ref y)) : g_R (pm sc (l ++ .inr (ci, fs) :: r) z) l.length ci j K = K y := by
  have hl : l.length < (pm sc (l ++ .inr (ci, fs) :: r) z).1 := by simp [pm]
  unfold g_R
  rw [pm_at h]
  dsimp only
  rw [if_pos ⟨hl, rfl⟩, hj]
theorem cO_pm {as : List Value} {X : Option RT} (h : l.length < 1000) : c_O (pm sc (l ++ .inr (ci, fs) :: r) z) (.ref l.length :: as) ci X = X := by
  have hl : l.length < (pm sc (l ++ .inr (ci, fs) :: r) z).1 := by simp [pm]
  unfold c_O
  dsimp only
  rw [pm_at h]
  dsimp only
  rw [if_pos ⟨hl, rfl⟩]
theorem wI_pm {i n : Nat} {f : Nat → Int32} {y : Int32} (hi : i < n) (hn : n < 2147483648) (h : l.length < 1000) {q : RT} (hK : K (pm sc (l ++ .inl (0, n, .inl (upd f i y)) :: r) z) = some q) : w_I (pm sc (l ++ .inl (0, n, .inl f) :: r) z) l.length (nI i) y K = some q := by
  have hl : l.length < (pm sc (l ++ .inl (0, n, .inl f) :: r) z).1 := by simp [pm]
  unfold w_I
  rw [pm_at h]
  dsimp only
  rw [if_pos ⟨hl, rfl, mm_in_n hi hn⟩, pm_up h, nI_clamp (by omega)]
  exact hK
/-- a new object by its constructor -/
theorem nw_i {mi e : Nat} {D : List RE} {as : List Value} (hn : l.length = n) (h : n < 1000) (hc : Rc mi (.ref n :: as) (pm sc (l ++ [.inr (ci, mm_dfl ci)]) (z + d)) = some (none, pm sc (l ++ D) (z + d + e))) {q : RT} (hK : K (pm sc (l ++ D) (z + d + e)) = some q) : (if n < 1000 then (fun μ1 => c_O μ1 (.ref n :: as) ci (c_V (Rc mi (.ref n :: as) μ1) K)) (n_C (pm sc l z) d (.inr (ci, mm_dfl ci))) else none) = some q := by
  subst hn
  rw [if_pos h]
  dsimp only
  rw [nC_pm h, cO_pm h, hc]
  exact hK
theorem fill_pm {f : Nat → Int32} {y : Int32} (h : l.length < 1000) : Rc 251 [.ref l.length, .int y] (pm sc (l ++ .inl (0, 256, .inl f) :: r) z) = some (none, pm sc (l ++ .inl (0, 256, .inl (fun i => if i < 256 then y else f i)) :: r) z) := by
  refine Rc_of rfl rfl (B_J7_fill_53178_0 _ _ _ ?_)
  have hl : l.length < (pm sc (l ++ .inl (0, 256, .inl f) :: r) z).1 := by simp [pm]
  unfold a_n
  rw [pm_at h]
  dsimp only
  rw [if_pos (Or.inl ⟨hl, by decide⟩)]
  have hh := loop_st (F := 256) (G := fun k (m : Nat → Int32) => Rs 251 5 [.ref l.length, .int y, .int (nI k), .int (nI 256)] [] (pm sc (l ++ .inl (0, 256, .inl m) :: r) z)) (fin := (none, pm sc (l ++ .inl (0, 256, .inl (fun i => if i < 256 then y else f i)) :: r) z)) (fun k i => if i < k then y else f i) ?_ ?_
  · have e : (fun i => if i < 0 then y else f i) = f := by
      simp only [Nat.not_lt_zero, if_false]
    rw [e] at hh
    exact hh
  · intro k hk q hq
    refine B_J7_fill_53178_5 _ _ _ _ _ ?_
    rw [if_neg (nI_ge (by omega) (by decide))]
    refine wI_pm hk (by decide) h ?_
    have e : upd (fun i => if i < k then y else f i) k y = fun i => if i < k + 1 then y else f i := by
      funext i
      unfold upd
      by_cases q : i = k
      · simp [q]
      · by_cases q2 : i < k
        · simp [q, q2, show i < k + 1 by omega]
        · simp [q, q2, show ¬ i < k + 1 by omega]
    rw [e, nI_1]
    exact hq
  · refine B_J7_fill_53178_5 _ _ _ _ _ ?_
    rw [if_pos (nI_le (Nat.le_refl _) (by decide))]
end PM
abbrev zI (n : Nat) : RE := .inl (0, n, .inl (fun _ => 0))
abbrev zJ (n : Nat) : RE := .inl (1, n, .inr (.inl (fun _ => 0)))
abbrev zY (n : Nat) : RE := .inl (2, n, .inl (fun _ => 0))
abbrev zB (n : Nat) : RE := .inl (3, n, .inl (fun _ => 0))
def tabC (n : Nat) : List RE := [.inr (5, [.int 0, .int 0, .int 0, .int 0, .ref (n + 1), .ref (n + 2), .ref (n + 3)]), zI 8, zJ 192, zY 192]
def lawsC (n : Nat) : List RE := [.inr (2, [.int 0, .ref (n + 1), .ref (n + 2), .ref (n + 3), .ref (n + 4)]), zI 40, zI 40, zI 40, zB 40]
def judC : List RE := [.inr (1, [.int (-9), .int (-9)])]
def seaC (n : Nat) : List RE := [.inr (4, [.int 0, .ref (n + 1), .ref (n + 2), .int 0, .ref (n + 3), .ref (n + 4)]), zI 280, zI 280, zI 276, zB 256]
def thyC (n : Nat) : List RE := [.inr (6, [.int 4, .int 15, .int 0, .ref (n + 1), .ref (n + 2), .ref (n + 3), .ref (n + 4), .int 0, .ref (n + 5), .int 0, .int 0, .ref (n + 6)]), zI 40, zI 40, zI 40, .inl (0, 256, .inl (fun i => if i < 256 then -1 else 0)), zI 8, zI 70]
def covC (n t : Nat) : List RE := [.inr (0, [.ref t, .int 0, .int 0, .ref (n + 1), .ref (n + 2)]), zI 320, zI 320]
def parC (n t : Nat) : List RE := [.inr (3, [.ref t, .int 0, .ref (n + 1), .int 0, .ref (n + 2), .ref (n + 3)]), zI 12, zI 321, zI 96]
section CO
variable {sc : RE} {l : List RE} {z t : Nat}
theorem tab_i (h : l.length < 900) : Rc 48 [.ref l.length] (pm sc (l ++ [.inr (5, mm_dfl 5)]) z) = some (none, pm sc (l ++ tabC l.length) (z + 392)) := by
  refine Rc_of rfl rfl (B_X5_init_0 _ _ ?_)
  refine nA_pm (m := 8) rfl (by simp; omega) ?_
  simp only [List.length_append, List.length_cons, List.length_nil, List.append_assoc, List.cons_append, List.nil_append, Nat.add_assoc, Nat.reduceAdd, pm_1]
  refine pF_pm rfl rfl (by omega) ?_
  refine nA_pm (m := 192) rfl (by simp; omega) ?_
  simp only [List.length_append, List.length_cons, List.length_nil, List.append_assoc, List.cons_append, List.nil_append, Nat.add_assoc, Nat.reduceAdd, pm_1]
  refine pF_pm rfl rfl (by omega) ?_
  refine nA_pm (m := 192) rfl (by simp; omega) ?_
  simp only [List.length_append, List.length_cons, List.length_nil, List.append_assoc, List.cons_append, List.nil_append, Nat.add_assoc, Nat.reduceAdd, pm_1]
  refine pF_pm rfl rfl (by omega) ?_
  rfl
theorem laws_i (h : l.length < 900) : Rc 19 [.ref l.length] (pm sc (l ++ [.inr (2, mm_dfl 2)]) z) = some (none, pm sc (l ++ lawsC l.length) (z + 160)) := by
  refine Rc_of rfl rfl (B_X2_init_0 _ _ ?_)
  refine nA_pm (m := 40) rfl (by simp; omega) ?_
  simp only [List.length_append, List.length_cons, List.length_nil, List.append_assoc, List.cons_append, List.nil_append, Nat.add_assoc, Nat.reduceAdd, pm_1]
  refine pF_pm rfl rfl (by omega) ?_
  refine nA_pm (m := 40) rfl (by simp; omega) ?_
  simp only [List.length_append, List.length_cons, List.length_nil, List.append_assoc, List.cons_append, List.nil_append, Nat.add_assoc, Nat.reduceAdd, pm_1]
  refine pF_pm rfl rfl (by omega) ?_
  refine nA_pm (m := 40) rfl (by simp; omega) ?_
  simp only [List.length_append, List.length_cons, List.length_nil, List.append_assoc, List.cons_append, List.nil_append, Nat.add_assoc, Nat.reduceAdd, pm_1]
  refine pF_pm rfl rfl (by omega) ?_
  refine nA_pm (m := 40) rfl (by simp; omega) ?_
  simp only [List.length_append, List.length_cons, List.length_nil, List.append_assoc, List.cons_append, List.nil_append, Nat.add_assoc, Nat.reduceAdd, pm_1]
  refine pF_pm rfl rfl (by omega) ?_
  rfl
theorem jud_i (h : l.length < 900) : Rc 9 [.ref l.length] (pm sc (l ++ [.inr (1, mm_dfl 1)]) z) = some (none, pm sc (l ++ judC) z) := by
  refine Rc_of rfl rfl (B_X1_init_0 _ _ ?_)
  refine pF_pm rfl rfl (by omega) ?_
  refine pF_pm rfl rfl (by omega) ?_
  rfl
theorem sea_i (h : l.length < 900) : Rc 41 [.ref l.length] (pm sc (l ++ [.inr (4, mm_dfl 4)]) z) = some (none, pm sc (l ++ seaC l.length) (z + 1092)) := by
  refine Rc_of rfl rfl (B_X4_init_0 _ _ ?_)
  refine nA_pm (m := 280) rfl (by simp; omega) ?_
  simp only [List.length_append, List.length_cons, List.length_nil, List.append_assoc, List.cons_append, List.nil_append, Nat.add_assoc, Nat.reduceAdd, pm_1]
  refine pF_pm rfl rfl (by omega) ?_
  refine nA_pm (m := 280) rfl (by simp; omega) ?_
  simp only [List.length_append, List.length_cons, List.length_nil, List.append_assoc, List.cons_append, List.nil_append, Nat.add_assoc, Nat.reduceAdd, pm_1]
  refine pF_pm rfl rfl (by omega) ?_
  refine nA_pm (m := 276) rfl (by simp; omega) ?_
  simp only [List.length_append, List.length_cons, List.length_nil, List.append_assoc, List.cons_append, List.nil_append, Nat.add_assoc, Nat.reduceAdd, pm_1]
  refine pF_pm rfl rfl (by omega) ?_
  refine nA_pm (m := 256) rfl (by simp; omega) ?_
  simp only [List.length_append, List.length_cons, List.length_nil, List.append_assoc, List.cons_append, List.nil_append, Nat.add_assoc, Nat.reduceAdd, pm_1]
  refine pF_pm rfl rfl (by omega) ?_
  rfl
theorem thy_i (h : l.length < 900) : Rc 78 [.ref l.length] (pm sc (l ++ [.inr (6, mm_dfl 6)]) z) = some (none, pm sc (l ++ thyC l.length) (z + 454)) := by
  refine Rc_of rfl rfl (B_X6_init_0 _ _ ?_)
  refine pF_pm rfl rfl (by omega) ?_
  refine pF_pm rfl rfl (by omega) ?_
  refine nA_pm (m := 40) rfl (by simp; omega) ?_
  simp only [List.length_append, List.length_cons, List.length_nil, List.append_assoc, List.cons_append, List.nil_append, Nat.add_assoc, Nat.reduceAdd, pm_1]
  refine pF_pm rfl rfl (by omega) ?_
  refine nA_pm (m := 40) rfl (by simp; omega) ?_
  simp only [List.length_append, List.length_cons, List.length_nil, List.append_assoc, List.cons_append, List.nil_append, Nat.add_assoc, Nat.reduceAdd, pm_1]
  refine pF_pm rfl rfl (by omega) ?_
  refine nA_pm (m := 40) rfl (by simp; omega) ?_
  simp only [List.length_append, List.length_cons, List.length_nil, List.append_assoc, List.cons_append, List.nil_append, Nat.add_assoc, Nat.reduceAdd, pm_1]
  refine pF_pm rfl rfl (by omega) ?_
  refine nA_pm (m := 256) rfl (by simp; omega) ?_
  simp only [List.length_append, List.length_cons, List.length_nil, List.append_assoc, List.cons_append, List.nil_append, Nat.add_assoc, Nat.reduceAdd, pm_1]
  refine pF_pm rfl rfl (by omega) ?_
  refine nA_pm (m := 8) rfl (by simp; omega) ?_
  simp only [List.length_append, List.length_cons, List.length_nil, List.append_assoc, List.cons_append, List.nil_append, Nat.add_assoc, Nat.reduceAdd, pm_1]
  refine pF_pm rfl rfl (by omega) ?_
  refine nA_pm (m := 70) rfl (by simp; omega) ?_
  simp only [List.length_append, List.length_cons, List.length_nil, List.append_assoc, List.cons_append, List.nil_append, Nat.add_assoc, Nat.reduceAdd, pm_1]
  refine pF_pm rfl rfl (by omega) ?_
  rw [gR_pm (y := l.length + 4) (by omega) rfl]
  have e := fill_pm (sc := sc) (l := l ++ [.inr (6, [.int 4, .int 15, .int 0, .ref (l.length + 1), .ref (l.length + 2), .ref (l.length + 3), .ref (l.length + 4), .int 0, .ref (l.length + 5), .int 0, .int 0, .ref (l.length + 6)]), zI 40, zI 40, zI 40]) (r := [zI 8, zI 70]) (z := z + 454) (f := fun _ => 0) (y := -1) (by simp; omega)
  simp only [List.length_append, List.length_cons, List.length_nil, List.append_assoc, List.cons_append, List.nil_append] at e
  refine (cV e).trans ?_
  rfl
theorem cov_i (h : l.length < 900) : Rc 0 [.ref l.length, .ref t] (pm sc (l ++ [.inr (0, mm_dfl 0)]) z) = some (none, pm sc (l ++ covC l.length t) (z + 640)) := by
  refine Rc_of rfl rfl (B_X0_init_0 _ _ _ ?_)
  refine nA_pm (m := 320) rfl (by simp; omega) ?_
  simp only [List.length_append, List.length_cons, List.length_nil, List.append_assoc, List.cons_append, List.nil_append, Nat.add_assoc, Nat.reduceAdd, pm_1]
  refine pF_pm rfl rfl (by omega) ?_
  refine nA_pm (m := 320) rfl (by simp; omega) ?_
  simp only [List.length_append, List.length_cons, List.length_nil, List.append_assoc, List.cons_append, List.nil_append, Nat.add_assoc, Nat.reduceAdd, pm_1]
  refine pF_pm rfl rfl (by omega) ?_
  refine pF_pm rfl rfl (by omega) ?_
  rfl
theorem par_i (h : l.length < 900) : Rc 23 [.ref l.length, .ref t] (pm sc (l ++ [.inr (3, mm_dfl 3)]) z) = some (none, pm sc (l ++ parC l.length t) (z + 429)) := by
  refine Rc_of rfl rfl (B_X3_init_0 _ _ _ ?_)
  refine nA_pm (m := 12) rfl (by simp; omega) ?_
  simp only [List.length_append, List.length_cons, List.length_nil, List.append_assoc, List.cons_append, List.nil_append, Nat.add_assoc, Nat.reduceAdd, pm_1]
  refine pF_pm rfl rfl (by omega) ?_
  refine nA_pm (m := 321) rfl (by simp; omega) ?_
  simp only [List.length_append, List.length_cons, List.length_nil, List.append_assoc, List.cons_append, List.nil_append, Nat.add_assoc, Nat.reduceAdd, pm_1]
  refine pF_pm rfl rfl (by omega) ?_
  refine nA_pm (m := 96) rfl (by simp; omega) ?_
  simp only [List.length_append, List.length_cons, List.length_nil, List.append_assoc, List.cons_append, List.nil_append, Nat.add_assoc, Nat.reduceAdd, pm_1]
  refine pF_pm rfl rfl (by omega) ?_
  refine pF_pm rfl rfl (by omega) ?_
  rfl
end CO
