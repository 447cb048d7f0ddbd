/-! SOUND, first part: the pure machine's cells beside the heap's -/
noncomputable def mm_run : Nat → Nat → KK
  | 0, _ => fun _ _ _ _ => none
  | n + 1, mi => fun pc ls st μ => match mm_E mi pc with
    | none => none
    | some (i, nx, r1, r2, r3, r4, cv) => mm_stp (mm_run n mi) (fun mj as μ' => cond (Nat.ble (l_ex as).length (mm_L mj)) (mm_run n mj 0 (l_pad (mm_L mj) (l_ex as)) [] μ') none) pc i nx r1 r2 r3 r4 cv ls st μ
def v_s (b sb : Nat) : Value → Value
  | .ref a => .ref (if a = SC then sb else b + a)
  | v => v
theorem v_cat (b sb : Nat) (v : Value) : (v_s b sb v).category = v.category := by cases v <;> rfl
def a_s (b sb : Nat) (x : vp_A) : vp_A := match x with
  | (n, .inr (.inr (.inr (.inr f)))) => (n, .inr (.inr (.inr (.inr (fun j => (f j).map (fun x => if x = SC then sb else b + x))))))
  | x => x
def e_s (b sb : Nat) (dA : Nat → ClassId) (x : RE) : va_E := match x with
  | .inl (t, a) => .inl (dA t, a_s b sb a)
  | .inr (c, fs) => .inr (c, fs.map (v_s b sb))
def m_W (b sb : Nat) (dA : Nat → ClassId) (μ : MM) : va_W := (List.range μ.1).map (fun k => (b + k, e_s b sb dA (μ.2.2 k)))
def m_ty (dA : Nat → ClassId) : List (ClassId × FieldType) := [(dA 0, .int), (dA 1, .long), (dA 2, .byte), (dA 3, .boolean), (dA 4, .object RX5)]
theorem m_W_at {b sb : Nat} {dA : Nat → ClassId} {μ : MM} {k : Nat} (h : k < μ.1) : (m_W b sb dA μ)[k]? = some (b + k, e_s b sb dA (μ.2.2 k)) := by
  simp [m_W, List.getElem?_map, List.getElem?_range h]
theorem m_W_set {b sb : Nat} {dA : Nat → ClassId} {μ : MM} {k : Nat} (e : RE) (h : k < μ.1) : (m_W b sb dA μ).set k (b + k, e_s b sb dA e) = m_W b sb dA (μ.1, μ.2.1, va_up μ.2.2 k e) := by
  apply List.ext_getElem?
  intro j
  by_cases hj : j < μ.1
  · rw [m_W_at (μ := (μ.1, μ.2.1, va_up μ.2.2 k e)) hj, List.getElem?_set]
    by_cases hk : k = j
    · subst hk
      simp [m_W, h, va_up]
    · rw [if_neg hk, m_W_at hj]
      simp [va_up, Ne.symm hk]
  · have h1 : ((m_W b sb dA μ).set k (b + k, e_s b sb dA e)).length ≤ j := by simp [m_W]; omega
    have h2 : (m_W b sb dA (μ.1, μ.2.1, va_up μ.2.2 k e)).length ≤ j := by simp [m_W]; omega
    rw [List.getElem?_eq_none h1, List.getElem?_eq_none h2]
theorem m_W_push {b sb : Nat} {dA : Nat → ClassId} {μ : MM} (sz : Nat) (e : RE) : m_W b sb dA μ ++ [(b + μ.1, e_s b sb dA e)] = m_W b sb dA (n_C μ sz e) := by
  have h1 : (n_C μ sz e).1 = μ.1 + 1 := rfl
  unfold m_W
  rw [h1, List.range_succ, List.map_append]
  congr 1
  · apply List.map_congr_left
    intro k hk
    have hk' := List.mem_range.mp hk
    simp [n_C, va_up, Nat.ne_of_lt hk']
  · simp [n_C, va_up]
theorem m_W_D (b sb : Nat) (dA : Nat → ClassId) (μ : MM) : va_D (fun q => b ≤ q) (m_W b sb dA μ) := by
  have key : ∀ (i : Nat) (p : Nat × va_E), (m_W b sb dA μ)[i]? = some p → p.1 = b + i := by
    intro i p h
    by_cases hi : i < μ.1
    · rw [m_W_at hi] at h
      cases h
      rfl
    · rw [List.getElem?_eq_none (by simp [m_W]; omega)] at h
      cases h
  refine ⟨fun i j p q hp hq hpq => ?_, fun k q hq => ?_⟩
  · have h1 := key i p hp
    have h2 := key j q hq
    omega
  · have h1 := key k q hq
    show b ≤ q.1
    omega
def m_I (b sb L : Nat) (xs : Nat → Int32) (dC : Nat → ClassId) (dI : Nat → Nat → Nat) (dA : Nat → ClassId) (μ : MM) (H : Heap) : Prop :=
  va_P (dC, dI) vwCl (m_W b sb dA μ) H ∧ μ.1 ≤ 1000 ∧ μ.2.2 SC = .inl (0, L, .inl xs)
def m_Lo (b sb : Nat) (ls : List Value) (mls : Array Slot) : Prop := mls.size = ls.length ∧ lv_wf mls ∧ ∀ (i : Nat) (v : Value), ls[i]? = some v → v ≠ UU → mls[i]? = some (.val (v_s b sb v))
def m_lv (b sb : Nat) (ls : List Value) : List (Nat × Value) := (List.range ls.length).filterMap (fun i => match ls[i]? with
  | some v => if v = UU then none else some (i, v_s b sb v)
  | none => none)
theorem m_lv_in {b sb : Nat} {ls : List Value} {i : Nat} {v : Value} (h : ls[i]? = some v) (hv : v ≠ UU) : (i, v_s b sb v) ∈ m_lv b sb ls := by
  refine List.mem_filterMap.mpr ⟨i, List.mem_range.mpr (List.getElem?_eq_some_iff.mp h).1, ?_⟩
  simp [h, hv]
theorem m_Lo.has {b sb : Nat} {ls : List Value} {mls : Array Slot} (h : m_Lo b sb ls mls) : lv_has mls ls.length (m_lv b sb ls) := by
  refine ⟨h.1, h.2.1, fun q hq => ?_⟩
  obtain ⟨i, -, hi⟩ := List.mem_filterMap.mp hq
  cases hv : ls[i]? with
  | none => simp [hv] at hi
  | some v =>
    simp only [hv] at hi
    by_cases hu : v = UU
    · simp [hu] at hi
    · simp only [hu, if_false, Option.some.injEq] at hi
      subst hi
      exact h.2.2 i v hv hu
theorem m_clr_len (ls : List Value) (i : Nat) : (l_clr ls i).length = ls.length := by
  cases i with
  | zero => rfl
  | succ j =>
    simp only [l_clr]
    split <;> simp
theorem m_clr_at {ls : List Value} {i j : Nat} {v : Value} (h : (l_clr ls i)[j]? = some v) (hv : v ≠ UU) : ls[j]? = some v ∧ (j + 1 = i → v.category ≠ 2) := by
  cases i with
  | zero => exact ⟨h, fun q => absurd q (by omega)⟩
  | succ k =>
    simp only [l_clr] at h
    have hset : ∀ w : Value, ls[k]? = some w → w.category = 2 → (ls.set k UU)[j]? = some v → ls[j]? = some v ∧ (j + 1 = k + 1 → v.category ≠ 2) := by
      intro w hw hc hh
      by_cases hjk : k = j
      · subst hjk
        have hl := (List.getElem?_eq_some_iff.mp hw).1
        simp [List.getElem?_set, hl] at hh
        exact absurd hh.symm hv
      · rw [List.getElem?_set, if_neg hjk] at hh
        exact ⟨hh, fun q => absurd q (by omega)⟩
    split at h
    · next x hx => exact hset _ hx rfl h
    · next x hx => exact hset _ hx rfl h
    · next h1 h2 =>
      refine ⟨h, fun q => ?_⟩
      have : j = k := by omega
      subst this
      intro hc
      cases v with
      | long x => exact h1 x h
      | double x => exact h2 x h
      | _ => simp [Value.category] at hc
theorem m_Lo_s1 {b sb : Nat} {ls : List Value} {mls mls' : Array Slot} {i : Nat} {v w : Value} (hw : v_s b sb v = w) (hn : mls'.size = ls.length) (h' : lv_has mls' ls.length ((i, w) :: (m_lv b sb ls).filter (fun q => !(q.1 == i) && !(q.1 + 1 == i && q.2.category == 2)))) : m_Lo b sb ((l_clr ls i).set i v) mls' := by
  subst hw
  refine ⟨by simp [m_clr_len, hn], h'.2.1, fun j u hu hne => ?_⟩
  have hlen : ((l_clr ls i).set i v).length = ls.length := by simp [m_clr_len]
  by_cases hij : i = j
  · subst hij
    rw [List.getElem?_set] at hu
    by_cases hl : i < (l_clr ls i).length
    · simp [hl] at hu
      subst hu
      exact h'.2.2 (i, v_s b sb v) List.mem_cons_self
    · simp [hl] at hu
  · rw [List.getElem?_set, if_neg hij] at hu
    obtain ⟨h1, h2⟩ := m_clr_at hu hne
    refine h'.2.2 (j, v_s b sb u) (List.mem_cons_of_mem _ (List.mem_filter.mpr ⟨m_lv_in h1 hne, ?_⟩))
    simp only [v_cat]
    by_cases hc : j + 1 = i
    · simp [Ne.symm hij, hc, h2 hc]
    · simp [Ne.symm hij, hc]
theorem m_Lo_s2 {b sb : Nat} {ls : List Value} {mls' : Array Slot} {i : Nat} {v w : Value} (hw : v_s b sb v = w) (hn : mls'.size = ls.length) (h' : lv_has mls' ls.length ((i, w) :: (m_lv b sb ls).filter (fun q => !(q.1 == i) && (!(q.1 == i + 1) && !(q.1 + 1 == i && q.2.category == 2))))) : m_Lo b sb (((l_clr ls i).set i v).set (i + 1) UU) mls' := by
  subst hw
  refine ⟨by simp [m_clr_len, hn], h'.2.1, fun j u hu hne => ?_⟩
  have hlen : ((l_clr ls i).set i v).length = ls.length := by simp [m_clr_len]
  by_cases hij1 : i + 1 = j
  · subst hij1
    rw [List.getElem?_set] at hu
    by_cases hl : i + 1 < ((l_clr ls i).set i v).length
    · simp only [hl, if_true, Option.some.injEq] at hu
      exact absurd hu.symm hne
    · simp [hl] at hu
      exact absurd hu.2.symm hne
  rw [List.getElem?_set, if_neg hij1] at hu
  by_cases hij : i = j
  · subst hij
    rw [List.getElem?_set] at hu
    by_cases hl : i < (l_clr ls i).length
    · simp [hl] at hu
      subst hu
      exact h'.2.2 (i, v_s b sb v) List.mem_cons_self
    · simp [hl] at hu
  · rw [List.getElem?_set, if_neg hij] at hu
    obtain ⟨h1, h2⟩ := m_clr_at hu hne
    refine h'.2.2 (j, v_s b sb u) (List.mem_cons_of_mem _ (List.mem_filter.mpr ⟨m_lv_in h1 hne, ?_⟩))
    simp only [v_cat]
    by_cases hc : j + 1 = i
    · simp [Ne.symm hij, Ne.symm hij1, hc, h2 hc]
    · simp [Ne.symm hij, Ne.symm hij1, hc]
theorem m_ex_map (b sb : Nat) : ∀ as : List Value, (lg_sl (as.map (v_s b sb))).length = (l_ex as).length
  | [] => rfl
  | v :: t => by
    have ih := m_ex_map b sb t
    have e : lg_sl ((v :: t).map (v_s b sb)) = (if (v_s b sb v).category = 2 then [Slot.val (v_s b sb v), Slot.second] else [Slot.val (v_s b sb v)]) ++ lg_sl (t.map (v_s b sb)) := by simp [lg_sl]
    rw [e, List.length_append, ih]
    cases v <;> simp [l_ex, v_s, Value.category] <;> omega
theorem m_pad_at : ∀ (n : Nat) (ls : List Value) (i : Nat) (v : Value), (l_pad n ls)[i]? = some v → v ≠ UU → ls[i]? = some v
  | 0, _, i, v, h, _ => by simp [l_pad] at h
  | n + 1, [], i, v, h, hv => by
    cases i with
    | zero => simp [l_pad] at h; exact absurd h.symm hv
    | succ j =>
      simp [l_pad] at h
      have := m_pad_at n [] j v h hv
      simp at this
  | n + 1, x :: t, i, v, h, hv => by
    cases i with
    | zero => simpa [l_pad] using h
    | succ j =>
      simp [l_pad] at h
      simpa using m_pad_at n t j v h hv
theorem m_pad_len : ∀ (n : Nat) (ls : List Value), (l_pad n ls).length = n
  | 0, _ => rfl
  | n + 1, [] => by simp [l_pad, m_pad_len n []]
  | n + 1, x :: t => by simp [l_pad, m_pad_len n t]
theorem m_ex_at (b sb : Nat) : ∀ (as : List Value) (k i : Nat) (v : Value), (l_ex as)[i]? = some v → v ≠ UU → (k + i, v_s b sb v) ∈ lv_args k (as.map (v_s b sb))
  | [], k, i, v, h, _ => by simp [l_ex] at h
  | x :: t, k, i, v, h, hv => by
    have one : ∀ y : Value, y.category ≠ 2 → l_ex (y :: t) = y :: l_ex t → (l_ex (y :: t))[i]? = some v → (k + i, v_s b sb v) ∈ lv_args k ((y :: t).map (v_s b sb)) := by
      intro y hy he hh
      rw [he] at hh
      simp only [List.map_cons, lv_args, v_cat, hy, if_false]
      cases i with
      | zero =>
        simp at hh
        subst hh
        exact List.mem_cons_self
      | succ j =>
        simp at hh
        have := m_ex_at b sb t (k + 1) j v hh hv
        rw [show k + (j + 1) = k + 1 + j by omega]
        exact List.mem_cons_of_mem _ this
    have two : ∀ y : Value, y.category = 2 → l_ex (y :: t) = y :: UU :: l_ex t → (l_ex (y :: t))[i]? = some v → (k + i, v_s b sb v) ∈ lv_args k ((y :: t).map (v_s b sb)) := by
      intro y hy he hh
      rw [he] at hh
      simp only [List.map_cons, lv_args, v_cat, hy, if_true]
      match i, hh with
      | 0, hh =>
        simp at hh
        subst hh
        exact List.mem_cons_self
      | 1, hh =>
        simp at hh
        exact absurd hh.symm hv
      | j + 2, hh =>
        simp at hh
        have := m_ex_at b sb t (k + 2) j v hh hv
        rw [show k + (j + 2) = k + 2 + j by omega]
        exact List.mem_cons_of_mem _ this
    cases x with
    | long y => exact two _ rfl rfl h
    | double y => exact two _ rfl rfl h
    | int y => exact one _ (by simp [Value.category]) rfl h
    | float y => exact one _ (by simp [Value.category]) rfl h
    | null => exact one _ (by simp [Value.category]) rfl h
    | ref y => exact one _ (by simp [Value.category]) rfl h
    | retAddr y => exact one _ (by simp [Value.category]) rfl h
/-- the frame at a method's start -/
theorem m_entry (b sb : Nat) (as : List Value) (n : Nat) (h : (l_ex as).length ≤ n) : m_Lo b sb (l_pad n (l_ex as)) ((lg_sl (as.map (v_s b sb)) ++ List.replicate (n - (lg_sl (as.map (v_s b sb))).length) Slot.unset).toArray) := by
  have h0 := lv_entry (as.map (v_s b sb)) (n := n) (by rw [m_ex_map]; exact h)
  refine ⟨by rw [h0.1, m_pad_len], h0.2.1, fun i v hv hne => ?_⟩
  have := m_ex_at b sb as 0 i v (m_pad_at _ _ _ _ hv hne) hne
  simpa using h0.2.2 _ this
