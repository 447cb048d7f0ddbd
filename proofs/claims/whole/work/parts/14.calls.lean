/-! SOUND, sixth part: new cells and calls -/
section NEW
variable {l : Launch} {b sb L : Nat} {xs : Nat → Int32} {dC : Nat → ClassId} {dI : Nat → Nat → Nat} {dA : Nat → ClassId} {mi pc : Nat} {ls st : List Value} {μ : MM} {r : RT}
/-- a step that makes a cell -/
theorem g_new {nx sz : Nat} {ls st st' : List Value} (ex : RE) (hN : μ.1 < 1000) (hG : m_G l b sb L xs dC dI dA mi nx ls st' (n_C μ sz ex) r)
    (hs : ∀ (p : Program) (e : Env) (R : Room) (s : State) (m : MethodId) (args : Array Value) (below : List Frame) (meth : Method) (c : Code), m_C b sb L xs dC dI dA p R s m args meth c mi → ∀ (H : Heap) (locs : List Loc) (cells slots : Nat) (Q : State → Prop) (mls : Array Slot), cells + 1 ≤ R.cells → slots + sz ≤ R.slots → H.size = b + μ.1 →
      (∀ H1 : Heap, va_at (dC, dI) vwCl (b + μ.1, e_s b sb dA ex) H1 → H1.size = b + μ.1 + 1 → (∀ q, q < b + μ.1 → H1[q]? = H[q]?) → W p l e R s m args below meth c H1 locs (cells + 1) (slots + sz) Q (F0 m nx mls (st'.map (v_s b sb)))) → W p l e R s m args below meth c H locs cells slots Q (F0 m pc mls (st.map (v_s b sb)))) : m_G l b sb L xs dC dI dA mi pc ls st μ r := by
  have hm := hG.1
  have e1 : (n_C μ sz ex).1 = μ.1 + 1 := rfl
  have e2 : (n_C μ sz ex).2.1 = μ.2.1 + sz := rfl
  rw [e1, e2] at hm
  refine ⟨by omega, fun p e R s m args below meth c hC k0 s0 mls H locs Q h0 h1 h2 h3 h4 hI hS hLo hn hret => ?_⟩
  obtain ⟨hP, hm2, hsc⟩ := hI
  refine W_sz h0 h1 hP hS fun hsz => ?_
  refine hs p e R s m args below meth c hC H locs _ _ Q mls (by omega) (by omega) hsz fun H1 hat hz1 hk => ?_
  have hP1 : va_P (dC, dI) vwCl (m_W b sb dA (n_C μ sz ex)) H1 := by
    rw [← m_W_push sz ex]
    refine va_P.app (hP.kept fun k q hq => hk q.1 ?_) ?_
    · have := (hP k q hq).lt
      omega
    · intro k q hq
      have hz : k < 1 := (List.getElem?_eq_some_iff.mp hq).1
      rw [show k = 0 by omega] at hq
      cases hq
      exact hat
  have K := hG.2 p e R s m args below meth c hC k0 s0 mls H1 locs Q h0 (by rw [e1]; omega) (by rw [e2]; omega) h3 h4 ⟨hP1, by rw [e1]; omega, ?_⟩ ⟨by rw [hz1]; have := hS.1; omega, fun q g1 g2 => ?_, hS.2.2⟩ hLo hn hret
  · rw [e1, e2] at K
    rw [show μ.1 - k0 + 1 = μ.1 + 1 - k0 by omega, show μ.2.1 - s0 + sz = μ.2.1 + sz - s0 by omega]
    exact K
  · show va_up μ.2.2 μ.1 ex SC = _
    rw [va_up, if_neg (by unfold SC; omega)]
    exact hsc
  · have g3 := hS.1
    rw [hk q (by omega)]
    exact hS.2.1 q g1 g2
theorem dfl_at : ∀ {c : Nat}, c < 9 → ∀ j, j < tN c → defaultValue (tTy c j) = vp_V (mm_dfl c) j := by
  intro c hc j hj
  match c, hc with
  | 0, _ => exact (by decide +kernel : ∀ j, j < tN 0 → defaultValue (tTy 0 j) = vp_V (mm_dfl 0) j) j hj
  | 1, _ => exact (by decide +kernel : ∀ j, j < tN 1 → defaultValue (tTy 1 j) = vp_V (mm_dfl 1) j) j hj
  | 2, _ => exact (by decide +kernel : ∀ j, j < tN 2 → defaultValue (tTy 2 j) = vp_V (mm_dfl 2) j) j hj
  | 3, _ => exact (by decide +kernel : ∀ j, j < tN 3 → defaultValue (tTy 3 j) = vp_V (mm_dfl 3) j) j hj
  | 4, _ => exact (by decide +kernel : ∀ j, j < tN 4 → defaultValue (tTy 4 j) = vp_V (mm_dfl 4) j) j hj
  | 5, _ => exact (by decide +kernel : ∀ j, j < tN 5 → defaultValue (tTy 5 j) = vp_V (mm_dfl 5) j) j hj
  | 6, _ => exact (by decide +kernel : ∀ j, j < tN 6 → defaultValue (tTy 6 j) = vp_V (mm_dfl 6) j) j hj
  | 7, _ => exact (by decide +kernel : ∀ j, j < tN 7 → defaultValue (tTy 7 j) = vp_V (mm_dfl 7) j) j hj
  | 8, _ => exact (by decide +kernel : ∀ j, j < tN 8 → defaultValue (tTy 8 j) = vp_V (mm_dfl 8) j) j hj
  | _ + 9, h => exact absurd h (by omega)
theorem dfl_s : ∀ {c : Nat}, c < 9 → (mm_dfl c).map (v_s b sb) = mm_dfl c
  | 0, _ => rfl
  | 1, _ => rfl
  | 2, _ => rfl
  | 3, _ => rfl
  | 4, _ => rfl
  | 5, _ => rfl
  | 6, _ => rfl
  | 7, _ => rfl
  | 8, _ => rfl
  | _ + 9, h => absurd h (by omega)
theorem i_new {ci x : Nat} (hd : decode (mm_B mi) pc = .ok (.new x, 3)) (hcl : cl_h (mm_own mi) x ci = true) (hN : μ.1 < 1000) (hG : m_G l b sb L xs dC dI dA mi (pc + 3) ls (.ref μ.1 :: st) (n_C μ (tN ci) (.inr (ci, mm_dfl ci))) r) : m_G l b sb L xs dC dI dA mi pc ls st μ r := by
  obtain ⟨hw, hc9⟩ := cl_at hcl
  obtain ⟨hw2, hw3⟩ := cw_at hc9
  refine g_new _ hN hG fun p e R s m args below meth c hC H locs cells slots Q mls h1 h2 hz kk => ?_
  obtain ⟨hx, hb, hml, hr, hown, hlk, hnm, hts, hK, -⟩ := hC
  have hKn := hK.2.2.1 ci _ (vw_at hc9)
  refine W.newcK hx hb hown (hts _ hw) (hts _ hw2) (hts _ hw3) rfl hd h1 h2 hKn.2.1 hz fun H1 kC hkC e1 z1 o1 => ?_
  have K := kk H1 ⟨_, vw_at hc9, by
    show t_OB _ _ _ _ _ (vp_V ((mm_dfl ci).map (v_s b sb)))
    rw [dfl_s hc9]
    exact (u_born (tTy ci) hts (uw_at hc9) hKn hkC e1 (ty_at hc9)).to (dfl_at hc9)⟩ z1 o1
  have h3 : (Value.ref μ.1 :: st).map (v_s b sb) = .ref (b + μ.1) :: st.map (v_s b sb) := by rw [List.map_cons, v_ref (by omega)]
  rw [h3] at K
  exact K
theorem mm_zero_i {ty : ArrayType} (h : (mm_zero ty).1 < 4) : Cond.arrayClass (newarray.typeOf ty) ∈ tG ∧ (m_ty dA)[(mm_zero ty).1]? = some (dA (mm_zero ty).1, newarray.typeOf ty) ∧ (∀ (c : ClassId) (n : Nat), vp_cell c (a_s b sb ((mm_zero ty).2 n)) = arrV c n (fun _ => defaultValue (newarray.typeOf ty))) ∧ componentBytes (newarray.typeOf ty) ≤ 8 ∧ ((mm_zero ty).1 < 4 → refKind (newarray.typeOf ty) = false) := by
  cases ty with
  | int => exact ⟨nat_at (by simp [newarray.typeOf]), rfl, fun c n => rfl, by decide, fun _ => rfl⟩
  | long => exact ⟨nat_at (by simp [newarray.typeOf]), rfl, fun c n => rfl, by decide, fun _ => rfl⟩
  | byte => exact ⟨nat_at (by simp [newarray.typeOf]), rfl, fun c n => rfl, by decide, fun _ => rfl⟩
  | boolean => exact ⟨nat_at (by simp [newarray.typeOf]), rfl, fun c n => rfl, by decide, fun _ => rfl⟩
  | _ => exact absurd h (by decide)
theorem va_RA_find {U : State} {cA : ClassId} {ty : FieldType} (h : va_RA U cA ty) : U.vm.findClass ("[" ++ ty.toString) = some cA := by
  cases ty with
  | object C =>
    obtain ⟨kA, comp, h1, h2, h3, h4⟩ := h
    exact h4
  | _ => exact h
theorem i_newarray {ty : ArrayType} {n : Int32} {t : List Value} (hd : decode (mm_B mi) pc = .ok (.newarray ty, 2)) (hty : (mm_zero ty).1 < 4) (hn0 : ¬ n < 0) (hn1 : n.toNatClampNeg ≤ 10000) (hN : μ.1 < 1000) (hG : m_G l b sb L xs dC dI dA mi (pc + 2) ls (.ref μ.1 :: t) (n_C μ n.toNatClampNeg (.inl ((mm_zero ty).1, (mm_zero ty).2 n.toNatClampNeg))) r) : m_G l b sb L xs dC dI dA mi pc ls (.int n :: t) μ r := by
  obtain ⟨hw, ht, hcell, hcb, -⟩ := mm_zero_i (b := b) (sb := sb) (dA := dA) hty
  refine g_new _ hN hG fun p e R s m args below meth c hC H locs cells slots Q mls h1 h2 hz kk => ?_
  obtain ⟨hx, hb, hml, hr, hown, hlk, hnm, hts, hK, -⟩ := hC
  refine va_newaK hx hb (hts _ hw) rfl hd rfl hn0 rfl (Nat.le_trans (Nat.mul_le_mul hn1 hcb) (by decide)) h1 h2 hz fun H1 cA e1 z1 o1 hAr hNm => ?_
  have hcA : cA = dA (mm_zero ty).1 := by
    have h5 := va_RA_find (hK.2.2.2 _ _ ht).2
    exact Option.some.inj (hNm.symm.trans h5)
  subst hcA
  have K := kk H1 (by
    show H1[b + μ.1]? = some (vp_cell _ _)
    rw [hcell]
    exact e1) z1 o1
  have h3 : (Value.ref μ.1 :: t).map (v_s b sb) = .ref (b + μ.1) :: t.map (v_s b sb) := by rw [List.map_cons, v_ref (by omega)]
  rw [h3] at K
  exact K
theorem i_anewarray {x : Nat} {n : Int32} {t : List Value} (hd : decode (mm_B mi) pc = .ok (.anewarray x, 3)) (hcl : cl_h (mm_own mi) x 5 = true) (hn0 : ¬ n < 0) (hn1 : n.toNatClampNeg ≤ 10000) (hN : μ.1 < 1000) (hG : m_G l b sb L xs dC dI dA mi (pc + 3) ls (.ref μ.1 :: t) (n_C μ n.toNatClampNeg (.inl (4, n.toNatClampNeg, .inr (.inr (.inr (.inr (fun _ => none))))))) r) : m_G l b sb L xs dC dI dA mi pc ls (.int n :: t) μ r := by
  obtain ⟨hw, -⟩ := cl_at hcl
  refine g_new _ hN hG fun p e R s m args below meth c hC H locs cells slots Q mls h1 h2 hz kk => ?_
  obtain ⟨hx, hb, hml, hr, hown, hlk, hnm, hts, hK, -⟩ := hC
  refine W.anew hx hb hown (hts _ hw) (va_AO.use hK.2.1) rfl hd rfl hn0 (by omega) h1 h2 fun cA kA comp f1 f2 f3 f4 => ?_
  have hcA : cA = dA 4 := by
    have h5 := va_RA_find (hK.2.2.2 4 (dA 4, .object RX5) rfl).2
    exact Option.some.inj (f1.symm.trans h5)
  subst hcA
  generalize hH1 : H.push ({ cls := dA 4, slots := Array.replicate n.toNatClampNeg .null, vm := .none } : Cell) = H1
  have z1 : H1.size = H.size + 1 := by rw [← hH1, Array.size_push]
  have e1 : H1[H.size]? = some (arrV (dA 4) n.toNatClampNeg (fun _ => .null)) := by rw [← hH1, Array.getElem?_push_size, ← arrV_new]
  have o1 : ∀ q : Nat, q < H.size → H1[q]? = H[q]? := fun q hq => by rw [← hH1, Array.getElem?_push, if_neg (Nat.ne_of_lt hq)]
  rw [hz] at z1 e1 o1
  have K := kk H1 (by
    show H1[b + μ.1]? = some (vp_cell _ _)
    exact e1) z1 o1
  have h3 : (Value.ref μ.1 :: t).map (v_s b sb) = .ref (b + μ.1) :: t.map (v_s b sb) := by rw [List.map_cons, v_ref (by omega)]
  rw [h3] at K
  rw [hz]
  exact K
end NEW
