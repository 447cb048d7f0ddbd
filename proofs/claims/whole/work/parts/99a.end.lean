/-! THE CLAIM OUT OF ONE WALK OF THE LAW'S BODY. Your part is whole_start (and what it stands on); all else here is the same for every law, but numbers. -/
def R_law : String := "KeyFinderLaw"
def lw_P (b : Addr) (xs : List Int32) (args : Array Value) (s : State) : Prop := args = #[.ref b] ∧ s.IntsAt b xs ∧ xs.length ≤ 3584 ∧ (Jvm.Cond.and given_1 narrow_1).before args s = true
/-- what a walk over the start with the record d0 says of its end, said of the start itself -/
theorem lw_closed {s t : State} {o : Outcome} {d0 : Drawn} {L : List Loc} {k n : Nat} (hd0 : s.drawn.sameBut d0 lw_cs) (hv : ∃ v, o = .returned v) (hW : (s.setDrawn d0).WarmedH t.vm) (hs : (s.setDrawn d0).sameButNew ({ t with vm := s.vm } : State) L k n) : State.butDraws s t lw_cs (fun t1 => Framed s o t1 L k n) := by
  have h2 : t.drawn = d0 := congrArg State.drawn hs.1
  refine ⟨⟨hv, hW, State.sameButNew.setDrawn hs s.drawn⟩, ?_, by decide⟩
  rw [h2]
  exact hd0
def lw_Q (_ : Array Value) (s : State) (o : Outcome) (t : State) : Prop := o = .returned (some (.int 1)) ∧ State.butDraws s t lw_cs (fun t1 => Framed s o t1 [] 600000 7302250)
def lw_Z (below : List Frame) (a : Array Value) (s : State) : State → Prop := fun t => ∃ o, t.status = .running ∧ Ended t below o ∧ lw_Q a s o t
/-- the law's own end, with 1 on the stack, nothing written that was there before, its room as the claim has it; d0: the record of draws at this point (at the entry s.drawn: begin with 'refine W.base ?_' and 'have hd0 := Drawn.sameBut.refl s.drawn lw_cs') -/
theorem lw_ret {p : Program} {l : Launch} {e : Env} {s : State} {m : MethodId} {below : List Frame} {meth : Method} {c : Code} {b : Nat} {d0 : Drawn} (hd0 : s.drawn.sameBut d0 lw_cs) (hx : p.tables.exec = Jvm.exec) (hb : c.code = code) (hr : meth.sig.returnType = ret) (hlocks : meth.locks = false) {pc : Nat} {H : Heap} {ls : Array Slot} (hdg : decode code pc = .ok (.ireturn, 1)) : W p l e room_1 (s.setDrawn d0) m #[Value.ref b] below meth c H [] 600000 7302250 (lw_Z below #[Value.ref b] s) (F0 m pc ls [.int 1]) := by
  intro T hT X
  obtain ⟨fs, hret, hrun, hended, hW, hframe⟩ := X.leave (v := some (.int 1)) (hlocks := hlocks) (fun h => by rw [hr] at h; cases h)
  have hmeth' : T.vm.method? m = some meth := X.method'
  refine ⟨T.setFrames fs, ?_, .returned (some (.int 1)), hrun, hended, rfl, lw_closed hd0 ⟨_, rfl⟩ hW hframe⟩
  jvm_step X.here [X.here.top, hx, hb, hdg, hmeth', hr, ret, narrow_b1]
  (try refine ⟨rfl, ?_⟩); (try refine ⟨rfl, ?_⟩)
  first | (intro acts; rw [hret _ acts rfl rfl rfl]) | rw [hret _ _ rfl rfl rfl]
  exact Steps.refl _
/-- what holds at the law's entry: the machine, the code, the tables' words (any of lw_tbl by 'hts w (by decide +kernel)'), the script of L ints xs at the cell b, what the Statement gives of the start (any of its parts by flat_of_before) -/
def lw_At (p : Program) (s : State) (m : MethodId) (meth : Method) (c : Code) (b L : Nat) (xs : Nat → Int32) : Prop :=
  p.tables.exec = Jvm.exec ∧ c.code = code ∧ meth.sig.returnType = ret ∧ c.maxLocals = 4 ∧ s.vm.findClass R_law = some m.cls ∧ (∀ w ∈ lw_tbl, w.before #[Value.ref b] s = true) ∧ va_X b L xs s s.heap ∧ b < s.heap.size ∧ meth.locks = false ∧ (Jvm.Cond.and given_1 narrow_1).before #[Value.ref b] s = true
/-- the start of the pure machine: no cell, and the script -/
def mu0 (L : Nat) (xs : Nat → Int32) : MM := (0, 0, fun k => if k = SC then .inl (0, L, .inl xs) else .inr (0, []))
theorem tbl_nW {w : Cond} (h : w ∈ nW) : w ∈ lw_tbl ∧ w.onTables = true := by
  obtain ⟨h1, h2⟩ := List.mem_filter.mp h
  refine ⟨h1, ?_⟩
  cases w with
  | methodLinkNest a i x hh => rfl
  | _ => simp [isNest] at h2
theorem tbl_ao : Cond.arrayOver (.object RX5) ∈ lw_tbl := List.mem_of_getElem? (i := 66) (by decide +kernel)
theorem law_n : mm_B 252 = code ∧ mm_L 252 = 4 ∧ mm_R 252 = some .boolean ∧ cN (mm_own 252) = R_law ∧ (mm_Y 252).name = "law" ∧ mm_F 252 ≤ 9 ∧ mm_O 252 ≤ 364 := ⟨rfl, rfl, rfl, rfl, rfl, by decide, by decide⟩
set_option maxHeartbeats 4000000 in
theorem whole_of (hrun : ∀ (L : Nat) (xs : Nat → Int32), L ≤ 3584 → ∃ (n : Nat) (μ' : MM), mm_run n 252 0 [.ref SC, UU, UU, UU] [] (mu0 L xs) = some (some (.int 1), μ') ∧ μ'.1 ≤ 600000 ∧ μ'.2.1 ≤ 7302250)
    {p : Program} {e : Env} {s : State} {m : MethodId} {below : List Frame} {meth : Method} {c : Code} (l : Launch) {b L : Nat} {xs : Nat → Int32} (hL : L ≤ 3584) (C0 : lw_At p s m meth c b L xs) (hname : meth.name = "law") : W p l e room_1 s m #[Value.ref b] below meth c s.heap [] 0 0 (lw_Z below #[Value.ref b] s) (entryFrame m ([Value.ref b] : List Value).toArray 4) := by
  obtain ⟨hx, hb, hr, hml, hown, hts, hX, hbl, hlocks, hgv⟩ := C0
  obtain ⟨n, μ', hr0, hc1, hc2⟩ := hrun L xs hL
  have htG : ∀ w ∈ tG, w.before #[Value.ref b] s = true := fun w hw => hts w (List.mem_filter.mp hw).1
  have kn : ∀ k, ∃ (cC : ClassId) (iS : Nat → Nat), k < 9 → u_Kn s (cN k) (tT k) (tN k) cC iS := by
    intro k
    by_cases hk : k < 9
    · obtain ⟨cC, iS, h⟩ := u_known htG (uw_at hk) (htG _ (cw_at hk).1)
      exact ⟨cC, iS, fun _ => h⟩
    · exact ⟨0, fun _ => 0, fun h => absurd h hk⟩
  have arr : ∀ {ty : FieldType}, (Cond.arrayClass ty).before #[Value.ref b] s = true → refKind ty = false → ∃ cA : ClassId, ArrOfT s cA ty ∧ va_RA s cA ty := by
    intro ty h hk
    obtain ⟨cA, kA, comp, h1, h2, h3⟩ := Cond.arrayClass_spec h
    refine ⟨cA, fun n z => ⟨fun k h => (by cases h), kA, h2, comp, h3⟩, ?_⟩
    cases ty with
    | object C => simp [refKind] at hk
    | _ => exact h1
  obtain ⟨a0, A0⟩ := arr (htG _ (nat_at (w := .arrayClass .int) (by simp))) rfl
  obtain ⟨a1, A1⟩ := arr (htG _ (nat_at (w := .arrayClass .long) (by simp))) rfl
  obtain ⟨a2, A2⟩ := arr (htG _ (nat_at (w := .arrayClass .byte) (by simp))) rfl
  obtain ⟨a3, A3⟩ := arr (htG _ (nat_at (w := .arrayClass .boolean) (by simp))) rfl
  obtain ⟨a4, A4⟩ : ∃ cA : ClassId, ArrOfT s cA (.object RX5) ∧ va_RA s cA (.object RX5) := by
    obtain ⟨comp, cA, kA, h1, h2, h3, h4, h5⟩ := Cond.arrayOver_spec (hts _ tbl_ao)
    exact ⟨cA, fun n z => ⟨fun k h => (by cases h), kA, h3, comp, h4⟩, kA, comp, h3, h4, h1, h5⟩
  obtain ⟨dA, e0, e1, e2, e3, e4⟩ : ∃ dA : Nat → ClassId, dA 0 = a0 ∧ dA 1 = a1 ∧ dA 2 = a2 ∧ dA 3 = a3 ∧ dA 4 = a4 := ⟨fun k => if k = 0 then a0 else if k = 1 then a1 else if k = 2 then a2 else if k = 3 then a3 else a4, rfl, rfl, rfl, rfl, rfl⟩
  have hK : va_K (fun k => (kn k).choose, fun k => (kn k).choose_spec.choose) vwCl (m_ty dA) s := by
    refine ⟨fun k q hq => ?_, fun k q hq => ?_⟩
    · have hk : k < 9 := (List.getElem?_eq_some_iff.mp hq).1
      rw [vw_at hk] at hq
      cases hq
      exact (kn k).choose_spec.choose_spec hk
    · match k, hq with
      | 0, hq => cases hq; rw [e0]; exact A0
      | 1, hq => cases hq; rw [e1]; exact A1
      | 2, hq => cases hq; rw [e2]; exact A2
      | 3, hq => cases hq; rw [e3]; exact A3
      | 4, hq => cases hq; rw [e4]; exact A4
      | k + 5, hq => simp [m_ty] at hq
  obtain ⟨n1, n2, n3, n4, n5, n6, n7⟩ := law_n
  have hC : m_C s.heap.size b L xs _ _ dA p room_1 s m #[Value.ref b] meth c 252 := ⟨hx, by rw [n1]; exact hb, by rw [n2]; exact hml, by rw [n3]; exact hr, by rw [n4]; exact hown, hlocks, by rw [n5]; exact hname, htG, ⟨fun w hw => va_Nw.of (tbl_nW hw).2 (hts _ (tbl_nW hw).1), va_AO.of (hts _ tbl_ao), hK⟩, n6, n7, hX, hbl, Nat.le_refl _⟩
  have hG := run_sound (l := l) (b := s.heap.size) (sb := b) (L := L) (xs := xs) (dC := fun k => (kn k).choose) (dI := fun k => (kn k).choose_spec.choose) (dA := dA) hbl n 252 0 _ [] (mu0 L xs) _ hr0
  rw [lg_entry_eq]
  have hent : m_Lo s.heap.size b [.ref SC, UU, UU, UU] ((lg_sl ([Value.ref b] : List Value) ++ List.replicate (4 - (lg_sl ([Value.ref b] : List Value)).length) Slot.unset).toArray) := by
    have h := m_entry s.heap.size b [.ref SC] 4 (by decide)
    have h2 : ([Value.ref SC] : List Value).map (v_s s.heap.size b) = [Value.ref b] := by rw [List.map_cons, v_scr]; rfl
    rw [h2] at h
    exact h
  have K := hG.2 p e room_1 s m #[Value.ref b] below meth c hC 0 0 _ s.heap [] (lw_Z below #[Value.ref b] s) (by omega) (Nat.le_refl _) (Nat.le_refl _) hc1 hc2 ⟨fun k q hq => by simp [m_W, mu0] at hq, by show 0 ≤ 1000; omega, by simp [mu0]⟩ va_S.rf hent rfl ?_
  · exact K
  intro pc' mls' H' locs' i hd hR hI hS
  have hi : i = .ireturn := by
    rcases hR with ⟨h, -⟩ | ⟨-, x, h, -⟩ | ⟨-, h | ⟨x, h⟩, -⟩ | ⟨-, h, -⟩
    · exact h
    · cases h
    · cases h
    · cases h
    · cases h
  subst hi
  rw [n1] at hd
  refine va_forget (fun q hq => hS.2.2 q hq) ?_
  refine W.widen (k := 600000) (n := 7302250) hc1 hc2 ?_
  exact lw_ret (d0 := s.drawn) (Drawn.sameBut.refl s.drawn lw_cs) hx hb hr hlocks hd
