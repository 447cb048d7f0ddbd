/-! NEW OBJECTS: the reference's -/
section MO
variable {sc : RE} {l : List RE} {z : Nat} {q : RT}
def modA : List RE := [zI 4, zB 4, zI 32, zJ 768, zB 768, zJ 24, zB 24, zI 40, zI 40, zI 40, zB 40, zI 276, zI 600, zI 600, zB 256, zI 40, zI 40, zI 256, zI 256, zI 320, zI 320, zB 320, zI 12, zI 321, zI 96]
def modC (n : Nat) (f : Nat → Int32) : List RE := .inr (8, [.int 0, .ref (n + 1), .ref (n + 2), .ref (n + 3), .ref (n + 4), .ref (n + 5), .ref (n + 6), .ref (n + 7), .ref (n + 8), .int 0, .ref (n + 9), .ref (n + 10), .ref (n + 11), .ref (n + 12), .int (-9), .int (-9), .ref (n + 13), .int 0, .int 0, .ref (n + 14), .ref (n + 15), .ref (n + 16), .int 4, .int 0, .ref (n + 17), .ref (n + 18), .int 0, .ref (n + 19), .ref (n + 20), .int 0, .ref (n + 21), .ref (n + 22), .ref (n + 23), .int 0, .ref (n + 24), .ref (n + 25), .ref (n + 26)]) :: .inl (0, 4, .inl f) :: modA
def modF (n : Nat) : List Value := [.int 0, .ref (n + 1), .ref (n + 2), .ref (n + 3), .ref (n + 4), .ref (n + 5), .ref (n + 6), .ref (n + 7), .ref (n + 8), .int 0, .ref (n + 9), .ref (n + 10), .ref (n + 11), .ref (n + 12), .int 0, .int 0, .ref (n + 13), .int 0, .int 0, .ref (n + 14), .ref (n + 15), .ref (n + 16), .int 0, .int 0, .ref (n + 17), .ref (n + 18), .int 0, .ref (n + 19), .ref (n + 20), .int 0, .ref (n + 21), .ref (n + 22), .ref (n + 23), .int 0, .ref (n + 24), .ref (n + 25), .ref (n + 26)]
def fmc : Nat → Int32 := upd (upd (upd (upd (fun _ => 0) 0 (-1)) 1 (-1)) 2 (-1)) 3 (-1)
theorem mo_step {f : Nat → Int32} {i : Nat} {r : List RE} (hi : i < 4) (h : l.length < 900) (hK : Rs 157 223 [.ref l.length, .int (nI (i + 1))] [] (pm sc (l ++ .inr (8, modF l.length) :: .inl (0, 4, .inl (upd f i (-1))) :: r) z) = some q) : Rs 157 223 [.ref l.length, .int (nI i)] [] (pm sc (l ++ .inr (8, modF l.length) :: .inl (0, 4, .inl f) :: r) z) = some q := by
  refine B_X8_init_223 _ _ _ ?_
  rw [if_neg (show ¬ (4 : Int32) ≤ nI i from nI_ge (a := i) (b := 4) (by omega) (by decide)), gR_pm (y := l.length + 1) (by omega) rfl]
  have e1 : l ++ .inr (8, modF l.length) :: .inl (0, 4, .inl f) :: r = (l ++ [.inr (8, modF l.length)]) ++ .inl (0, 4, .inl f) :: r := by simp
  have e2 : (l ++ [(.inr (8, modF l.length) : RE)]).length = l.length + 1 := by simp
  rw [e1, ← e2]
  refine wI_pm hi (by decide) (by rw [e2]; omega) ?_
  rw [nI_1, List.append_assoc]
  exact hK
theorem dfl8 : mm_dfl 8 = [.int 0, .null, .null, .null, .null, .null, .null, .null, .null, .int 0, .null, .null, .null, .null, .int 0, .int 0, .null, .int 0, .int 0, .null, .null, .null, .int 0, .int 0, .null, .null, .int 0, .null, .null, .int 0, .null, .null, .null, .int 0, .null, .null, .null] := rfl
set_option maxRecDepth 20000 in
theorem mod_i (h : l.length < 900) : Rc 157 [.ref l.length] (pm sc (l ++ [.inr (8, mm_dfl 8)]) z) = some (none, pm sc (l ++ modC l.length fmc) (z + 5501)) := by
  rw [dfl8]
  refine Rc_of rfl rfl (B_X8_init_0 _ _ ?_)
  refine nA_pm (m := 4) rfl (by simp; omega) ?_
  simp only [List.length_append, List.length_cons, List.length_nil, List.append_assoc, List.cons_append, List.nil_append, Nat.add_assoc, Nat.reduceAdd, pm_1]
  refine pF_pm rfl rfl (by omega) ?_
  simp only [List.set_cons_succ, List.set_cons_zero]
  refine nA_pm (m := 4) rfl (by simp; omega) ?_
  simp only [List.length_append, List.length_cons, List.length_nil, List.append_assoc, List.cons_append, List.nil_append, Nat.add_assoc, Nat.reduceAdd, pm_1]
  refine pF_pm rfl rfl (by omega) ?_
  simp only [List.set_cons_succ, List.set_cons_zero]
  refine B_X8_init_18 _ _ ?_
  refine nA_pm (m := 4) rfl (by simp; omega) ?_
  simp only [List.length_append, List.length_cons, List.length_nil, List.append_assoc, List.cons_append, List.nil_append, Nat.add_assoc, Nat.reduceAdd, pm_1]
  refine pF_pm rfl rfl (by omega) ?_
  simp only [List.set_cons_succ, List.set_cons_zero]
  refine nA_pm (m := 32) rfl (by simp; omega) ?_
  simp only [List.length_append, List.length_cons, List.length_nil, List.append_assoc, List.cons_append, List.nil_append, Nat.add_assoc, Nat.reduceAdd, pm_1]
  refine pF_pm rfl rfl (by omega) ?_
  simp only [List.set_cons_succ, List.set_cons_zero]
  refine B_X8_init_33 _ _ ?_
  refine nA_pm (m := 768) rfl (by simp; omega) ?_
  simp only [List.length_append, List.length_cons, List.length_nil, List.append_assoc, List.cons_append, List.nil_append, Nat.add_assoc, Nat.reduceAdd, pm_1]
  refine pF_pm rfl rfl (by omega) ?_
  simp only [List.set_cons_succ, List.set_cons_zero]
  refine nA_pm (m := 768) rfl (by simp; omega) ?_
  simp only [List.length_append, List.length_cons, List.length_nil, List.append_assoc, List.cons_append, List.nil_append, Nat.add_assoc, Nat.reduceAdd, pm_1]
  refine pF_pm rfl rfl (by omega) ?_
  simp only [List.set_cons_succ, List.set_cons_zero]
  refine B_X8_init_51 _ _ ?_
  refine nA_pm (m := 24) rfl (by simp; omega) ?_
  simp only [List.length_append, List.length_cons, List.length_nil, List.append_assoc, List.cons_append, List.nil_append, Nat.add_assoc, Nat.reduceAdd, pm_1]
  refine pF_pm rfl rfl (by omega) ?_
  simp only [List.set_cons_succ, List.set_cons_zero]
  refine nA_pm (m := 24) rfl (by simp; omega) ?_
  simp only [List.length_append, List.length_cons, List.length_nil, List.append_assoc, List.cons_append, List.nil_append, Nat.add_assoc, Nat.reduceAdd, pm_1]
  refine pF_pm rfl rfl (by omega) ?_
  simp only [List.set_cons_succ, List.set_cons_zero]
  refine B_X8_init_67 _ _ ?_
  refine nA_pm (m := 40) rfl (by simp; omega) ?_
  simp only [List.length_append, List.length_cons, List.length_nil, List.append_assoc, List.cons_append, List.nil_append, Nat.add_assoc, Nat.reduceAdd, pm_1]
  refine pF_pm rfl rfl (by omega) ?_
  simp only [List.set_cons_succ, List.set_cons_zero]
  refine nA_pm (m := 40) rfl (by simp; omega) ?_
  simp only [List.length_append, List.length_cons, List.length_nil, List.append_assoc, List.cons_append, List.nil_append, Nat.add_assoc, Nat.reduceAdd, pm_1]
  refine pF_pm rfl rfl (by omega) ?_
  simp only [List.set_cons_succ, List.set_cons_zero]
  refine B_X8_init_83 _ _ ?_
  refine nA_pm (m := 40) rfl (by simp; omega) ?_
  simp only [List.length_append, List.length_cons, List.length_nil, List.append_assoc, List.cons_append, List.nil_append, Nat.add_assoc, Nat.reduceAdd, pm_1]
  refine pF_pm rfl rfl (by omega) ?_
  simp only [List.set_cons_succ, List.set_cons_zero]
  refine nA_pm (m := 40) rfl (by simp; omega) ?_
  simp only [List.length_append, List.length_cons, List.length_nil, List.append_assoc, List.cons_append, List.nil_append, Nat.add_assoc, Nat.reduceAdd, pm_1]
  refine pF_pm rfl rfl (by omega) ?_
  simp only [List.set_cons_succ, List.set_cons_zero]
  refine B_X8_init_99 _ _ ?_
  refine nA_pm (m := 276) rfl (by simp; omega) ?_
  simp only [List.length_append, List.length_cons, List.length_nil, List.append_assoc, List.cons_append, List.nil_append, Nat.add_assoc, Nat.reduceAdd, pm_1]
  refine pF_pm rfl rfl (by omega) ?_
  simp only [List.set_cons_succ, List.set_cons_zero]
  refine nA_pm (m := 600) rfl (by simp; omega) ?_
  simp only [List.length_append, List.length_cons, List.length_nil, List.append_assoc, List.cons_append, List.nil_append, Nat.add_assoc, Nat.reduceAdd, pm_1]
  refine pF_pm rfl rfl (by omega) ?_
  simp only [List.set_cons_succ, List.set_cons_zero]
  refine B_X8_init_117 _ _ ?_
  refine nA_pm (m := 600) rfl (by simp; omega) ?_
  simp only [List.length_append, List.length_cons, List.length_nil, List.append_assoc, List.cons_append, List.nil_append, Nat.add_assoc, Nat.reduceAdd, pm_1]
  refine pF_pm rfl rfl (by omega) ?_
  simp only [List.set_cons_succ, List.set_cons_zero]
  refine nA_pm (m := 256) rfl (by simp; omega) ?_
  simp only [List.length_append, List.length_cons, List.length_nil, List.append_assoc, List.cons_append, List.nil_append, Nat.add_assoc, Nat.reduceAdd, pm_1]
  refine pF_pm rfl rfl (by omega) ?_
  simp only [List.set_cons_succ, List.set_cons_zero]
  refine B_X8_init_135 _ _ ?_
  refine nA_pm (m := 40) rfl (by simp; omega) ?_
  simp only [List.length_append, List.length_cons, List.length_nil, List.append_assoc, List.cons_append, List.nil_append, Nat.add_assoc, Nat.reduceAdd, pm_1]
  refine pF_pm rfl rfl (by omega) ?_
  simp only [List.set_cons_succ, List.set_cons_zero]
  refine nA_pm (m := 40) rfl (by simp; omega) ?_
  simp only [List.length_append, List.length_cons, List.length_nil, List.append_assoc, List.cons_append, List.nil_append, Nat.add_assoc, Nat.reduceAdd, pm_1]
  refine pF_pm rfl rfl (by omega) ?_
  simp only [List.set_cons_succ, List.set_cons_zero]
  refine B_X8_init_151 _ _ ?_
  refine nA_pm (m := 256) rfl (by simp; omega) ?_
  simp only [List.length_append, List.length_cons, List.length_nil, List.append_assoc, List.cons_append, List.nil_append, Nat.add_assoc, Nat.reduceAdd, pm_1]
  refine pF_pm rfl rfl (by omega) ?_
  simp only [List.set_cons_succ, List.set_cons_zero]
  refine nA_pm (m := 256) rfl (by simp; omega) ?_
  simp only [List.length_append, List.length_cons, List.length_nil, List.append_assoc, List.cons_append, List.nil_append, Nat.add_assoc, Nat.reduceAdd, pm_1]
  refine pF_pm rfl rfl (by omega) ?_
  simp only [List.set_cons_succ, List.set_cons_zero]
  refine B_X8_init_169 _ _ ?_
  refine nA_pm (m := 320) rfl (by simp; omega) ?_
  simp only [List.length_append, List.length_cons, List.length_nil, List.append_assoc, List.cons_append, List.nil_append, Nat.add_assoc, Nat.reduceAdd, pm_1]
  refine pF_pm rfl rfl (by omega) ?_
  simp only [List.set_cons_succ, List.set_cons_zero]
  refine nA_pm (m := 320) rfl (by simp; omega) ?_
  simp only [List.length_append, List.length_cons, List.length_nil, List.append_assoc, List.cons_append, List.nil_append, Nat.add_assoc, Nat.reduceAdd, pm_1]
  refine pF_pm rfl rfl (by omega) ?_
  simp only [List.set_cons_succ, List.set_cons_zero]
  refine B_X8_init_187 _ _ ?_
  refine nA_pm (m := 320) rfl (by simp; omega) ?_
  simp only [List.length_append, List.length_cons, List.length_nil, List.append_assoc, List.cons_append, List.nil_append, Nat.add_assoc, Nat.reduceAdd, pm_1]
  refine pF_pm rfl rfl (by omega) ?_
  simp only [List.set_cons_succ, List.set_cons_zero]
  refine nA_pm (m := 12) rfl (by simp; omega) ?_
  simp only [List.length_append, List.length_cons, List.length_nil, List.append_assoc, List.cons_append, List.nil_append, Nat.add_assoc, Nat.reduceAdd, pm_1]
  refine pF_pm rfl rfl (by omega) ?_
  simp only [List.set_cons_succ, List.set_cons_zero]
  refine B_X8_init_204 _ _ ?_
  refine nA_pm (m := 321) rfl (by simp; omega) ?_
  simp only [List.length_append, List.length_cons, List.length_nil, List.append_assoc, List.cons_append, List.nil_append, Nat.add_assoc, Nat.reduceAdd, pm_1]
  refine pF_pm rfl rfl (by omega) ?_
  simp only [List.set_cons_succ, List.set_cons_zero]
  refine nA_pm (m := 96) rfl (by simp; omega) ?_
  simp only [List.length_append, List.length_cons, List.length_nil, List.append_assoc, List.cons_append, List.nil_append, Nat.add_assoc, Nat.reduceAdd, pm_1]
  refine pF_pm rfl rfl (by omega) ?_
  simp only [List.set_cons_succ, List.set_cons_zero]
  refine B_X8_init_221 _ _ ?_
  refine mo_step (i := 0) (r := modA) (by decide) h ?_
  refine mo_step (i := 1) (r := modA) (by decide) h ?_
  refine mo_step (i := 2) (r := modA) (by decide) h ?_
  refine mo_step (i := 3) (r := modA) (by decide) h ?_
  refine B_X8_init_223 _ _ _ ?_
  rw [if_pos (show (4 : Int32) ≤ nI (3 + 1) by decide)]
  refine pF_pm rfl rfl (by omega) ?_
  refine pF_pm rfl rfl (by omega) ?_
  refine B_X8_init_252 _ _ ?_
  exact pF_pm rfl rfl (by omega) rfl
end MO
