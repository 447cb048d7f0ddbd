/-! the tables, as facts -/
def mw_z : List (List ((Nat × Nat × Nat × Nat) × Nat)) := [mw_t_0.zipIdx 0, mw_t_1.zipIdx 16, mw_t_2.zipIdx 32, mw_t_3.zipIdx 48, mw_t_4.zipIdx 64, mw_t_5.zipIdx 80, mw_t_6.zipIdx 96, mw_t_7.zipIdx 112, mw_t_8.zipIdx 128, mw_t_9.zipIdx 144, mw_t_10.zipIdx 160, mw_t_11.zipIdx 176, mw_t_12.zipIdx 192, mw_t_13.zipIdx 208, mw_t_14.zipIdx 224, mw_t_15.zipIdx 240]
theorem mw_z_c : ∀ l ∈ mw_z, l.all mw_c = true := by
  intro l hl
  simp only [mw_z, List.mem_cons, List.not_mem_nil, or_false] at hl
  rcases hl with rfl | rfl | rfl | rfl | rfl | rfl | rfl | rfl | rfl | rfl | rfl | rfl | rfl | rfl | rfl | rfl
  · exact mw_ok0
  · exact mw_ok1
  · exact mw_ok2
  · exact mw_ok3
  · exact mw_ok4
  · exact mw_ok5
  · exact mw_ok6
  · exact mw_ok7
  · exact mw_ok8
  · exact mw_ok9
  · exact mw_ok10
  · exact mw_ok11
  · exact mw_ok12
  · exact mw_ok13
  · exact mw_ok14
  · exact mw_ok15
theorem mw_of (l : List (Nat × Nat × Nat × Nat)) (k : Nat) {cs : List (Option Cond)} (h : l.map (fun q => lw_tbl[q.1]?) = cs) (h2 : (l.zipIdx k).map (fun q => some (Cond.code (mm_Y q.2) (mm_B q.2) (mm_L q.2) (mm_R q.2))) = cs) : ∀ q ∈ l.zipIdx k, lw_tbl[q.1.1]? = some (.code (mm_Y q.2) (mm_B q.2) (mm_L q.2) (mm_R q.2)) := by
  have h3 : (l.zipIdx k).map (fun q => lw_tbl[q.1.1]?) = l.map (fun q => lw_tbl[q.1]?) := by
    have : (fun q : (Nat × Nat × Nat × Nat) × Nat => lw_tbl[q.1.1]?) = (fun q : Nat × Nat × Nat × Nat => lw_tbl[q.1]?) ∘ Prod.fst := rfl
    rw [this, ← List.map_map, List.zipIdx_map_fst]
  exact List.map_inj_left.mp (h3.trans (h.trans h2.symm))
def mw_d (q : (Nat × Nat × Nat × Nat) × Nat) : Prop := lw_tbl[q.1.1]? = some (.code (mm_Y q.2) (mm_B q.2) (mm_L q.2) (mm_R q.2))
theorem mw_z_d : ∀ l ∈ mw_z, ∀ q ∈ l, mw_d q := by
  intro l hl
  simp only [mw_z, List.mem_cons, List.not_mem_nil, or_false] at hl
  rcases hl with rfl | rfl | rfl | rfl | rfl | rfl | rfl | rfl | rfl | rfl | rfl | rfl | rfl | rfl | rfl | rfl
  · exact mw_of _ _ mc_ok0 rfl
  · exact mw_of _ _ mc_ok1 rfl
  · exact mw_of _ _ mc_ok2 rfl
  · exact mw_of _ _ mc_ok3 rfl
  · exact mw_of _ _ mc_ok4 rfl
  · exact mw_of _ _ mc_ok5 rfl
  · exact mw_of _ _ mc_ok6 rfl
  · exact mw_of _ _ mc_ok7 rfl
  · exact mw_of _ _ mc_ok8 rfl
  · exact mw_of _ _ mc_ok9 rfl
  · exact mw_of _ _ mc_ok10 rfl
  · exact mw_of _ _ mc_ok11 rfl
  · exact mw_of _ _ mc_ok12 rfl
  · exact mw_of _ _ mc_ok13 rfl
  · exact mw_of _ _ mc_ok14 rfl
  · exact mw_of _ _ mc_ok15 rfl
theorem mw_z_n : ((List.range mm_cnt).all fun j => mw_z.any fun l => l.any fun q => q.2 == j) = true := by decide +kernel
theorem mem_tbl {i : Nat} {w : Cond} (h : lw_tbl[i]? = some w) : w ∈ lw_tbl := List.mem_of_getElem? h
/-- what the tables hold of a method -/
theorem mw_at {j : Nat} (hj : j < mm_cnt) : Cond.code (mm_Y j) (mm_B j) (mm_L j) (mm_R j) ∈ tG ∧ Cond.initialized (mm_Y j).cls ∈ tG ∧
    (mm_k j = 2 → Cond.static (mm_Y j) ∈ tG) ∧ (mm_k j = 4 → Cond.instanceMethod (mm_Y j) ∈ tG ∧ (mm_Y j).name = "<init>" ∧ mm_R j = none) ∧ (mm_k j = 0 → Cond.instanceMethod (mm_Y j) ∈ tG ∧ Cond.selects (mm_Y j).cls (mm_Y j) (mm_Y j) ∈ tG) ∧
    (mm_Y j).cls = cN (mm_own j) ∧ (mm_Y j).cls ≠ "java/lang/invoke/MethodHandle" ∧ (mm_Y j).cls ≠ "java/lang/invoke/VarHandle" ∧ plainName (mm_Y j).cls = true ∧ (parseMethodDescriptor (mm_Y j).desc).map (fun d => d.parameters.length) = some (mm_A j) := by
  have h0 := List.all_eq_true.mp mw_z_n j (List.mem_range.mpr hj)
  obtain ⟨l, hl, h1⟩ := List.any_eq_true.mp h0
  obtain ⟨q, hq, h2⟩ := List.any_eq_true.mp h1
  have hqj : q.2 = j := by simpa using h2
  have hd := mw_z_d l hl q hq
  have hc := List.all_eq_true.mp (mw_z_c l hl) q hq
  unfold mw_d at hd
  unfold mw_c at hc
  rw [hqj] at hd hc
  simp only [Bool.and_eq_true, decide_eq_true_eq] at hc
  obtain ⟨c1, c2, c3⟩ := hc
  refine ⟨tG_of (mem_tbl hd) rfl, tG_of (mem_tbl c1) rfl, fun hk => ?_, fun hk => ?_, fun hk => ?_, c3⟩
  · rw [hk] at c2
    exact tG_of (mem_tbl (of_decide_eq_true c2)) rfl
  · rw [hk] at c2
    simp only [Bool.and_eq_true, decide_eq_true_eq] at c2
    exact ⟨tG_of (mem_tbl c2.1) rfl, c2.2⟩
  · rw [hk] at c2
    simp only [Bool.and_eq_true, decide_eq_true_eq] at c2
    exact ⟨tG_of (mem_tbl c2.1) rfl, tG_of (mem_tbl c2.2) rfl⟩
theorem fl_at {o x c k : Nat} (h : fl_h o x c k = true) : Cond.fieldLink (cN o) x (tT c k).1 (tT c k).2.1 (tT c k).2.2.1 ∈ tG ∧ c < 9 ∧ k < tN c := by
  obtain ⟨q, hq, h1⟩ := List.any_eq_true.mp h
  simp only [Bool.and_eq_true, beq_iff_eq] at h1
  obtain ⟨rfl, rfl, rfl, rfl⟩ := h1
  have hc := List.all_eq_true.mp fl_ok q hq
  unfold fl_c at hc
  simp only [Bool.and_eq_true, decide_eq_true_eq] at hc
  exact ⟨tG_of (mem_tbl hc.1) rfl, hc.2⟩
theorem ml_at {o x j n : Nat} (h : ml_h o x j n = true) : (n = 0 → Cond.methodLink (cN o) x (mm_Y j) ∈ tG) ∧ (n = 1 → Cond.methodLinkNest (cN o) x (mm_Y j) "KeyFinder" ∈ nW) ∧ j < mm_cnt := by
  obtain ⟨q, hq, h1⟩ := List.any_eq_true.mp h
  simp only [Bool.and_eq_true, beq_iff_eq] at h1
  obtain ⟨rfl, rfl, rfl, rfl⟩ := h1
  have hc := List.all_eq_true.mp ml_ok q hq
  unfold ml_c at hc
  simp only [Bool.and_eq_true, decide_eq_true_eq] at hc
  refine ⟨fun hn => ?_, fun hn => ?_, hc.2⟩
  · have h2 := hc.1
    unfold ml_w at h2
    rw [hn] at h2
    exact tG_of (mem_tbl h2) rfl
  · have h2 := hc.1
    unfold ml_w at h2
    rw [hn] at h2
    exact List.mem_filter.mpr ⟨mem_tbl h2, rfl⟩
theorem ol_at {o x : Nat} (h : ol_h o x = true) : Cond.methodLink (cN o) x objectInit ∈ tG := by
  obtain ⟨q, hq, h1⟩ := List.any_eq_true.mp h
  simp only [Bool.and_eq_true, beq_iff_eq] at h1
  obtain ⟨rfl, rfl⟩ := h1
  have hc := List.all_eq_true.mp ol_ok q hq
  unfold ol_c at hc
  exact tG_of (mem_tbl (of_decide_eq_true hc)) rfl
theorem cl_at {o x c : Nat} (h : cl_h o x c = true) : Cond.classLink (cN o) x (cN c) ∈ tG ∧ c < 9 := by
  obtain ⟨q, hq, h1⟩ := List.any_eq_true.mp h
  simp only [Bool.and_eq_true, beq_iff_eq] at h1
  obtain ⟨rfl, rfl, rfl⟩ := h1
  have hc := List.all_eq_true.mp cl_ok q hq
  unfold cl_c at hc
  simp only [Bool.and_eq_true, decide_eq_true_eq] at hc
  exact ⟨tG_of (mem_tbl hc.1) rfl, hc.2⟩
theorem nt_at {o x k : Nat} (h : nt_h o x k = true) : Cond.methodLink (cN o) x (if k = 6 then arraycopyName else if k = 7 then l2d_n else if k = 14 then Lib.Math.max.name else Lib.Math.min.name) ∈ tG := by
  obtain ⟨q, hq, h1⟩ := List.any_eq_true.mp h
  simp only [Bool.and_eq_true, beq_iff_eq] at h1
  obtain ⟨rfl, rfl, rfl⟩ := h1
  have hc := List.all_eq_true.mp nt_ok q hq
  unfold nt_c at hc
  exact tG_of (mem_tbl (of_decide_eq_true hc)) rfl
theorem ki_at {o x : Nat} {v : Int32} (h : k_h o x (.int v) = true) : Cond.constant (cN o) x v ∈ tG := by
  obtain ⟨q, hq, h1⟩ := List.any_eq_true.mp h
  simp only [Bool.and_eq_true, beq_iff_eq, decide_eq_true_eq] at h1
  obtain ⟨rfl, rfl, rfl⟩ := h1
  have hc := List.all_eq_true.mp ki_ok q hq
  unfold ki_c at hc
  exact tG_of (mem_tbl (of_decide_eq_true hc)) rfl
theorem kl_at {o x : Nat} {v : Int64} (h : k_h o x (.long v) = true) : Cond.constantLong (cN o) x v ∈ tG := by
  obtain ⟨q, hq, h1⟩ := List.any_eq_true.mp h
  simp only [Bool.and_eq_true, beq_iff_eq, decide_eq_true_eq] at h1
  obtain ⟨rfl, rfl, rfl⟩ := h1
  have hc := List.all_eq_true.mp kl_ok q hq
  unfold kl_c at hc
  exact tG_of (mem_tbl (of_decide_eq_true hc)) rfl
theorem vw_at : ∀ {c : Nat}, c < 9 → vwCl[c]? = some (cN c, tT c, tN c)
  | 0, _ => rfl
  | 1, _ => rfl
  | 2, _ => rfl
  | 3, _ => rfl
  | 4, _ => rfl
  | 5, _ => rfl
  | 6, _ => rfl
  | 7, _ => rfl
  | 8, _ => rfl
  | _ + 9, h => absurd h (by omega)
theorem ty_at : ∀ {c : Nat}, c < 9 → ∀ k, k < tN c → parseFieldDescriptor (tT c k).2.2.1 = some (tTy c k)
  | 0, _ => tyX0_ok
  | 1, _ => tyX1_ok
  | 2, _ => tyX2_ok
  | 3, _ => tyX3_ok
  | 4, _ => tyX4_ok
  | 5, _ => tyX5_ok
  | 6, _ => tyX6_ok
  | 7, _ => tyX7_ok
  | 8, _ => tyX8_ok
  | _ + 9, h => absurd h (by omega)
theorem nm_at : ∀ {c : Nat}, c < 9 → ∀ i, i < tN c → ∀ j, j < tN c → i ≠ j → (tT c i).2.1 ≠ (tT c j).2.1
  | 0, _ => nmX0
  | 1, _ => nmX1
  | 2, _ => nmX2
  | 3, _ => nmX3
  | 4, _ => nmX4
  | 5, _ => nmX5
  | 6, _ => nmX6
  | 7, _ => nmX7
  | 8, _ => nmX8
  | _ + 9, h => absurd h (by omega)
theorem uw_0 : (u_ws (cN 0) (tT 0) (tN 0)).all (fun w => decide (w ∈ lw_tbl)) = true := by decide +kernel
theorem uw_1 : (u_ws (cN 1) (tT 1) (tN 1)).all (fun w => decide (w ∈ lw_tbl)) = true := by decide +kernel
theorem uw_2 : (u_ws (cN 2) (tT 2) (tN 2)).all (fun w => decide (w ∈ lw_tbl)) = true := by decide +kernel
theorem uw_3 : (u_ws (cN 3) (tT 3) (tN 3)).all (fun w => decide (w ∈ lw_tbl)) = true := by decide +kernel
theorem uw_4 : (u_ws (cN 4) (tT 4) (tN 4)).all (fun w => decide (w ∈ lw_tbl)) = true := by decide +kernel
theorem uw_5 : (u_ws (cN 5) (tT 5) (tN 5)).all (fun w => decide (w ∈ lw_tbl)) = true := by decide +kernel
theorem uw_6 : (u_ws (cN 6) (tT 6) (tN 6)).all (fun w => decide (w ∈ lw_tbl)) = true := by decide +kernel
theorem uw_7 : (u_ws (cN 7) (tT 7) (tN 7)).all (fun w => decide (w ∈ lw_tbl)) = true := by decide +kernel
theorem uw_8 : (u_ws (cN 8) (tT 8) (tN 8)).all (fun w => decide (w ∈ lw_tbl)) = true := by decide +kernel
theorem uw_g {C : String} {T : u_T} {N : Nat} (h : (u_ws C T N).all (fun w => decide (w ∈ lw_tbl)) = true) : ∀ w ∈ u_ws C T N, w ∈ tG := by
  intro w hw
  have h1 := of_decide_eq_true (List.all_eq_true.mp h w hw)
  refine tG_of h1 ?_
  obtain ⟨k, -, rfl⟩ := List.mem_map.mp hw
  unfold u_lay
  split <;> rfl
theorem uw_at : ∀ {c : Nat}, c < 9 → ∀ w ∈ u_ws (cN c) (tT c) (tN c), w ∈ tG
  | 0, _ => uw_g uw_0
  | 1, _ => uw_g uw_1
  | 2, _ => uw_g uw_2
  | 3, _ => uw_g uw_3
  | 4, _ => uw_g uw_4
  | 5, _ => uw_g uw_5
  | 6, _ => uw_g uw_6
  | 7, _ => uw_g uw_7
  | 8, _ => uw_g uw_8
  | _ + 9, h => absurd h (by omega)
theorem cw_at {c : Nat} (hc : c < 9) : Cond.instantiable (cN c) (tN c) ∈ tG ∧ Cond.initialized (cN c) ∈ tG := by
  have h1 : ∃ q ∈ cw_t.zipIdx 0, q.2 = c := by
    match c, hc with
    | 0, _ => exact ⟨_, List.mem_of_getElem? (i := 0) rfl, rfl⟩
    | 1, _ => exact ⟨_, List.mem_of_getElem? (i := 1) rfl, rfl⟩
    | 2, _ => exact ⟨_, List.mem_of_getElem? (i := 2) rfl, rfl⟩
    | 3, _ => exact ⟨_, List.mem_of_getElem? (i := 3) rfl, rfl⟩
    | 4, _ => exact ⟨_, List.mem_of_getElem? (i := 4) rfl, rfl⟩
    | 5, _ => exact ⟨_, List.mem_of_getElem? (i := 5) rfl, rfl⟩
    | 6, _ => exact ⟨_, List.mem_of_getElem? (i := 6) rfl, rfl⟩
    | 7, _ => exact ⟨_, List.mem_of_getElem? (i := 7) rfl, rfl⟩
    | 8, _ => exact ⟨_, List.mem_of_getElem? (i := 8) rfl, rfl⟩
    | _ + 9, h => exact absurd h (by omega)
  obtain ⟨q, hq, rfl⟩ := h1
  have h2 := List.all_eq_true.mp cw_ok q hq
  unfold cw_c at h2
  simp only [Bool.and_eq_true, decide_eq_true_eq] at h2
  exact ⟨tG_of (mem_tbl h2.1) rfl, tG_of (mem_tbl h2.2) rfl⟩
theorem nat_w : ([Cond.instanceMethod objectInit, Cond.code objectInit ⟨#[0xb1]⟩ 1 none, Cond.native arraycopyName, Cond.static arraycopyName, Cond.initialized "java/lang/System", Cond.native l2d_n, Cond.static l2d_n, Cond.initialized "java/lang/Double", Cond.static Lib.Math.max.name, Cond.static Lib.Math.min.name, Cond.initialized "java/lang/Math", Cond.code Lib.Math.max.name Lib.Math.max.code 2 (some .int), Cond.code Lib.Math.min.name Lib.Math.min.code 2 (some .int), Cond.arrayClass .int, Cond.arrayClass .long, Cond.arrayClass .byte, Cond.arrayClass .boolean] : List Cond).all (fun w => decide (w ∈ lw_tbl) && goodWord w) = true := by decide +kernel
theorem nat_at {w : Cond} (h : w ∈ ([Cond.instanceMethod objectInit, Cond.code objectInit ⟨#[0xb1]⟩ 1 none, Cond.native arraycopyName, Cond.static arraycopyName, Cond.initialized "java/lang/System", Cond.native l2d_n, Cond.static l2d_n, Cond.initialized "java/lang/Double", Cond.static Lib.Math.max.name, Cond.static Lib.Math.min.name, Cond.initialized "java/lang/Math", Cond.code Lib.Math.max.name Lib.Math.max.code 2 (some .int), Cond.code Lib.Math.min.name Lib.Math.min.code 2 (some .int), Cond.arrayClass .int, Cond.arrayClass .long, Cond.arrayClass .byte, Cond.arrayClass .boolean] : List Cond)) : w ∈ tG := by
  have h1 := List.all_eq_true.mp nat_w w h
  simp only [Bool.and_eq_true, decide_eq_true_eq] at h1
  exact tG_of h1.1 h1.2
theorem goodG : ∀ w ∈ tG, w ∈ tG ∧ ((w.onTables && w.keeps) = true ∨ ∃ ty, w = .arrayClass ty) := fun _ h => ⟨h, good_of_word (List.mem_filter.mp h).2⟩
theorem goodWs {j : Nat} (hj : j < mm_cnt) : GoodIn tG (m_ws j) := by
  intro w hw
  rcases List.mem_cons.mp hw with rfl | h
  · exact goodG _ (mw_at hj).1
  · exact goodG _ h
