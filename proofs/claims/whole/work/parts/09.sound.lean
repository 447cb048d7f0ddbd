/-! SOUND, second part: what a run of the pure machine says of the machine -/
def isNest : Cond → Bool
  | .methodLinkNest .. => true
  | _ => false
def nW : List Cond := lw_tbl.filter isNest
def m_K (dC : Nat → ClassId) (dI : Nat → Nat → Nat) (dA : Nat → ClassId) (U : State) : Prop := (∀ w ∈ nW, va_Nw w U) ∧ va_AO RX5 U ∧ va_K (dC, dI) vwCl (m_ty dA) U
theorem m_K.warm {dC : Nat → ClassId} {dI : Nat → Nat → Nat} {dA : Nat → ClassId} {s U : State} (hW : s.WarmedH U.vm) (h : m_K dC dI dA s) : m_K dC dI dA U := by
  refine ⟨fun w hw => ?_, h.2.1.moved hW.alike, h.2.2.moved hW.alike⟩
  have h1 := h.1 w hw
  have h2 := (List.mem_filter.mp hw).2
  cases w with
  | methodLinkNest a i x hh => exact va_Nw.warmM hW h1
  | _ => simp [isNest] at h2
theorem m_K.same {dC : Nat → ClassId} {dI : Nat → Nat → Nat} {dA : Nat → ClassId} {s U : State} (hv : s.vm = U.vm) (h : m_K dC dI dA s) : m_K dC dI dA U := by
  have ha : s.vm.Alike U.vm := by rw [← hv]; exact Vm.Alike.refl _
  refine ⟨fun w hw => ?_, h.2.1.moved ha, h.2.2.moved ha⟩
  have h1 := h.1 w hw
  have h2 := (List.mem_filter.mp hw).2
  cases w with
  | methodLinkNest a i x hh => exact va_Nw.same rfl hv h1
  | _ => simp [isNest] at h2
/-- what stays the same while a method runs -/
def m_C (b sb L : Nat) (xs : Nat → Int32) (dC : Nat → ClassId) (dI : Nat → Nat → Nat) (dA : Nat → ClassId) (p : Program) (R : Room) (s : State) (m : MethodId) (args : Array Value) (meth : Method) (c : Code) (mi : Nat) : Prop :=
  p.tables.exec = Jvm.exec ∧ c.code = mm_B mi ∧ c.maxLocals = mm_L mi ∧ meth.sig.returnType = mm_R mi ∧ s.vm.findClass (cN (mm_own mi)) = some m.cls ∧ meth.locks = false ∧ meth.name = (mm_Y mi).name ∧ (∀ w ∈ tG, w.before args s = true) ∧
  m_K dC dI dA s ∧ mm_F mi ≤ R.frames ∧ mm_O mi ≤ R.locals ∧ va_X sb L xs s s.heap ∧ sb < b ∧ b ≤ s.heap.size
/-- a method's end -/
def m_R (i : Instr) (v : Option Value) (ret : Option FieldType) : Prop :=
  (i = .ireturn ∧ ∃ x, v = some (.int x) ∧ (ret = some .int ∨ (ret = some .boolean ∧ (x = 0 ∨ x = 1)))) ∨ (i = .lreturn ∧ ∃ x, v = some (.long x) ∧ ret = some .long) ∨ (i = .areturn ∧ (v = some .null ∨ ∃ a, v = some (.ref a)) ∧ r_code ret = 3) ∨ (i = .return_ ∧ v = none ∧ ret = none)
def m_G (l : Launch) (b sb L : Nat) (xs : Nat → Int32) (dC : Nat → ClassId) (dI : Nat → Nat → Nat) (dA : Nat → ClassId) (mi pc : Nat) (ls st : List Value) (μ : MM) (r : RT) : Prop :=
  (μ.1 ≤ r.2.1 ∧ μ.2.1 ≤ r.2.2.1) ∧ ∀ (p : Program) (e : Env) (R : Room) (s : State) (m : MethodId) (args : Array Value) (below : List Frame) (meth : Method) (c : Code), m_C b sb L xs dC dI dA p R s m args meth c mi →
    ∀ (k0 s0 : Nat) (mls : Array Slot) (H : Heap) (locs : List Loc) (Q : State → Prop), s.heap.size = b + k0 → k0 ≤ μ.1 → s0 ≤ μ.2.1 → r.2.1 - k0 ≤ R.cells → r.2.2.1 - s0 ≤ R.slots → m_I b sb L xs dC dI dA μ H → va_S (fun q => b ≤ q) s.heap H locs → m_Lo b sb ls mls → ls.length = mm_L mi →
    (∀ (pc' : Nat) (mls' : Array Slot) (H' : Heap) (locs' : List Loc) (i : Instr), decode (mm_B mi) pc' = .ok (i, 1) → m_R i r.1 (mm_R mi) → m_I b sb L xs dC dI dA r.2 H' → va_S (fun q => b ≤ q) s.heap H' locs' → W p l e R s m args below meth c H' locs' (r.2.1 - k0) (r.2.2.1 - s0) Q (F0 m pc' mls' (r.1.toList.map (v_s b sb)))) →
    W p l e R s m args below meth c H locs (μ.1 - k0) (μ.2.1 - s0) Q (F0 m pc mls (st.map (v_s b sb)))
section SND
variable {l : Launch} {b sb L : Nat} {xs : Nat → Int32} {dC : Nat → ClassId} {dI : Nat → Nat → Nat} {dA : Nat → ClassId}
/-- a step that leaves the heap alone -/
theorem g_step {mi pc nx : Nat} {ls ls' st st' : List Value} {μ : MM} {r : RT} (hG : m_G l b sb L xs dC dI dA mi nx ls' st' μ r) (hl : ls'.length = ls.length)
    (hs : ∀ (p : Program) (e : Env) (R : Room) (s : State) (m : MethodId) (args : Array Value) (below : List Frame) (meth : Method) (c : Code), m_C b sb L xs dC dI dA p R s m args meth c mi → ∀ (H : Heap) (locs : List Loc) (cells slots : Nat) (Q : State → Prop) (mls : Array Slot), m_Lo b sb ls mls → ls.length = mm_L mi → cells ≤ R.cells → slots ≤ R.slots → m_I b sb L xs dC dI dA μ H → va_S (fun q => b ≤ q) s.heap H locs →
      (∀ mls' : Array Slot, m_Lo b sb ls' mls' → W p l e R s m args below meth c H locs cells slots Q (F0 m nx mls' (st'.map (v_s b sb)))) → W p l e R s m args below meth c H locs cells slots Q (F0 m pc mls (st.map (v_s b sb)))) : m_G l b sb L xs dC dI dA mi pc ls st μ r := by
  refine ⟨hG.1, fun p e R s m args below meth c hC k0 s0 mls H locs Q h0 h1 h2 h3 h4 hI hS hLo hn hret => ?_⟩
  have hm := hG.1
  refine hs p e R s m args below meth c hC H locs _ _ Q mls hLo hn (by omega) (by omega) hI hS fun mls' hLo' => ?_
  exact hG.2 p e R s m args below meth c hC k0 s0 mls' H locs Q h0 h1 h2 h3 h4 hI hS hLo' (hl.trans hn) hret
/-- a step that writes a cell -/
theorem g_write {mi pc nx : Nat} {ls st st' : List Value} {μ : MM} {r : RT} (k : Nat) (ex : RE) (hk : k < μ.1) (hG : m_G l b sb L xs dC dI dA mi nx ls st' (μ.1, μ.2.1, va_up μ.2.2 k ex) r)
    (hs : ∀ (p : Program) (e : Env) (R : Room) (s : State) (m : MethodId) (args : Array Value) (below : List Frame) (meth : Method) (c : Code), m_C b sb L xs dC dI dA p R s m args meth c mi → ∀ (H : Heap) (locs : List Loc) (cells slots : Nat) (Q : State → Prop) (mls : Array Slot), m_Lo b sb ls mls → ls.length = mm_L mi → va_P (dC, dI) vwCl (m_W b sb dA μ) H → va_D (fun q => b ≤ q) (m_W b sb dA μ) → va_S (fun q => b ≤ q) s.heap H locs → μ.1 ≤ 1000 →
      (∀ (H1 : Heap) (locs1 : List Loc), va_P (dC, dI) vwCl ((m_W b sb dA μ).set k (b + k, e_s b sb dA ex)) H1 → va_D (fun q => b ≤ q) ((m_W b sb dA μ).set k (b + k, e_s b sb dA ex)) → va_S (fun q => b ≤ q) s.heap H1 locs1 → W p l e R s m args below meth c H1 locs1 cells slots Q (F0 m nx mls (st'.map (v_s b sb)))) → W p l e R s m args below meth c H locs cells slots Q (F0 m pc mls (st.map (v_s b sb)))) : m_G l b sb L xs dC dI dA mi pc ls st μ r := by
  refine ⟨hG.1, fun p e R s m args below meth c hC k0 s0 mls H locs Q h0 h1 h2 h3 h4 hI hS hLo hn hret => ?_⟩
  obtain ⟨hP, hc, hsc⟩ := hI
  refine hs p e R s m args below meth c hC H locs _ _ Q mls hLo hn hP (m_W_D b sb dA μ) hS hc fun H1 locs1 hP1 _ hS1 => ?_
  rw [m_W_set ex hk] at hP1
  refine hG.2 p e R s m args below meth c hC k0 s0 mls H1 locs1 Q h0 h1 h2 h3 h4 ⟨hP1, hc, ?_⟩ hS1 hLo hn hret
  show va_up μ.2.2 k ex SC = _
  rw [va_up, if_neg (by unfold SC; omega)]
  exact hsc
/-- how large the heap is -/
theorem W_sz {p : Program} {e : Env} {R : Room} {s : State} {m : MethodId} {args : Array Value} {below : List Frame} {meth : Method} {c : Code} {H : Heap} {locs : List Loc} {slots k0 : Nat} {Q : State → Prop} {g : JFrame} {μ : MM} (h0 : s.heap.size = b + k0) (h1 : k0 ≤ μ.1) (hP : va_P (dC, dI) vwCl (m_W b sb dA μ) H) (hS : va_S (fun q => b ≤ q) s.heap H locs)
    (h : H.size = b + μ.1 → W p l e R s m args below meth c H locs (μ.1 - k0) slots Q g) : W p l e R s m args below meth c H locs (μ.1 - k0) slots Q g := by
  intro T hT X
  refine h ?_ T hT X
  have h2 := X.heapSize
  rw [hT, h0] at h2
  have h3 : b + μ.1 ≤ H.size := by
    rcases Nat.eq_zero_or_pos μ.1 with hz | hz
    · have := hS.1
      omega
    · have := (hP (μ.1 - 1) _ (m_W_at (by omega))).lt
      simp only at this
      omega
  omega
/-- what a contract of a method says -/
def m_P (b sb L : Nat) (xs : Nat → Int32) (dC : Nat → ClassId) (dI : Nat → Nat → Nat) (dA : Nat → ClassId) (μ : MM) (U : State) : Prop := m_I b sb L xs dC dI dA μ U.heap ∧ m_K dC dI dA U ∧ va_X sb L xs U U.heap ∧ U.heap.size = b + μ.1
def m_Q (b sb L : Nat) (xs : Nat → Int32) (dC : Nat → ClassId) (dI : Nat → Nat → Nat) (dA : Nat → ClassId) (r : RT) : Array Value → State → Outcome → State → Prop := fun _ st o t => o = .returned (r.1.map (v_s b sb)) ∧ m_I b sb L xs dC dI dA r.2 t.heap ∧ st.heap.size ≤ t.heap.size ∧ ∀ q : Nat, q < st.heap.size → ¬ b ≤ q → t.heap[q]? = st.heap[q]?
def m_ws (j : Nat) : List Cond := Cond.code (mm_Y j) (mm_B j) (mm_L j) (mm_R j) :: tG
def m_rm (j : Nat) (μ : MM) (r : RT) : Room := { frames := mm_F j, cells := r.2.1 - μ.1, slots := r.2.2.1 - μ.2.1, locals := mm_O j }
theorem m_met {j : Nat} {as : List Value} {μ : MM} {r : RT} (hsb : sb < b) (hle : (l_ex as).length ≤ mm_L j) (hpl : plainName (mm_Y j).cls = true) (hco : (mm_Y j).cls = cN (mm_own j)) (hG : m_G l b sb L xs dC dI dA j 0 (l_pad (mm_L j) (l_ex as)) [] μ r) :
    Met l (mm_Y j) (m_ws j) (m_rm j μ r) (va_Pc (as.map (v_s b sb)) (m_P b sb L xs dC dI dA μ)) (m_Q b sb L xs dC dI dA r) (r.2.1 - μ.1) (r.2.2.1 - μ.2.1) (fun q => b ≤ q) := by
  refine Met.ofW (cc := mm_B j) (maxL := mm_L j) (ret := mm_R j) hpl rfl ?_
  intro p e s m args below meth c s₁ B hml hv
  obtain ⟨rfl, hI, hK, hX, hsz⟩ := hv
  have hts := atoms_spec (ws := m_ws j) B.pre
  have hown : s.vm.findClass (mm_Y j).cls = some m.cls := findClass_of_methodNamed B.named
  rw [hco] at hown
  have hC : m_C b sb L xs dC dI dA p (headSpec (m_ws j) (m_rm j μ r)).room s m (as.map (v_s b sb)).toArray meth c j :=
    ⟨B.exec, B.bytes, hml, B.returns, hown, B.notSynchronized, (name_of_methodNamed B.named B.method).1, fun w hw => hts w (List.mem_cons_of_mem _ hw), hK, Nat.le_refl _, Nat.le_refl _, hX, hsb, by rw [hsz]; omega⟩
  rw [lg_entry_eq]
  have hlocks := B.notSynchronized
  have K := hG.2 p e _ s m _ below meth c hC μ.1 μ.2.1 _ s.heap [] (MQ below (m_Q b sb L xs dC dI dA r) (as.map (v_s b sb)).toArray s (r.2.1 - μ.1) (r.2.2.1 - μ.2.1) (fun q => b ≤ q)) hsz (Nat.le_refl _) (Nat.le_refl _) (Nat.le_refl _) (Nat.le_refl _) hI va_S.rf (m_entry b sb as (mm_L j) hle) (m_pad_len _ _) ?_
  · simpa using K
  intro pc' mls' H' locs' i hd hR hI' hS'
  have hq : ∀ (v : Option Value), r.1 = v → ∀ t : State, t.heap = H' → m_Q b sb L xs dC dI dA r (as.map (v_s b sb)).toArray s (.returned (v.map (v_s b sb))) t := by
    intro v hv t ht
    refine ⟨by rw [hv], by rw [ht]; exact hI', by rw [ht]; exact hS'.1, fun q h1 h2 => by rw [ht]; exact hS'.2.1 q h1 h2⟩
  rcases hR with ⟨rfl, x, hx, hr⟩ | ⟨rfl, x, hx, hr⟩ | ⟨rfl, hx, hr⟩ | ⟨rfl, hx, hr⟩
  · rw [hx]
    rcases hr with hr | ⟨hr, h01⟩
    · exact W.iret (v := x) B.exec B.bytes (B.returns.trans hr) (fun t ht _ => hq _ hx t ht) hS'.2.2 hd
    · refine W.zret (v := x) (ty := .boolean) B.exec B.bytes (B.returns.trans hr) ?_ (fun t ht _ => hq _ hx t ht) hS'.2.2 hd
      rcases h01 with rfl | rfl <;> decide
  · rw [hx]
    exact W.lret (v := x) B.exec B.bytes (B.returns.trans hr) (fun t ht _ => hq _ hx t ht) hS'.2.2 hd
  · cases hrt : mm_R j with
    | none => rw [hrt] at hr; cases hr
    | some ft =>
      rw [hrt] at hr
      have hft : (∃ n, ft = .object n) ∨ ∃ t, ft = .array t := by
        cases ft with
        | object n => exact Or.inl ⟨n, rfl⟩
        | array t => exact Or.inr ⟨t, rfl⟩
        | _ => simp [r_code] at hr
      rcases hx with hx | ⟨a, hx⟩
      · rw [hx]
        exact W.aret (v := .null) B.exec B.bytes (B.returns.trans hrt) hft (Or.inl rfl) (fun t ht _ => hq _ hx t ht) hS'.2.2 hd
      · rw [hx]
        exact W.aret (v := v_s b sb (.ref a)) B.exec B.bytes (B.returns.trans hrt) hft (Or.inr ⟨_, rfl⟩) (fun t ht _ => hq _ hx t ht) hS'.2.2 hd
  · rw [hx]
    exact W.vret B.exec B.bytes (B.returns.trans hr) (fun t ht _ => hq _ hx t ht) hS'.2.2 hd
theorem m_blind (av : List Value) (μ : MM) : FrameBlind (va_Pc av (m_P b sb L xs dC dI dA μ)) := by
  intro a U g mk h
  obtain ⟨h1, hI, hK, hX, hz⟩ := h
  exact ⟨h1, hI, m_K.same (s := U) (U := U.calling g mk a) rfl hK, va_X.moved (u := U) (U := U.calling g mk a) (Vm.Alike.refl U.vm) hX, hz⟩
/-- behind a call -/
theorem m_after {p : Program} {e : Env} {R : Room} {s : State} {m : MethodId} {args a : Array Value} {below : List Frame} {meth : Method} {c : Code} {H : Heap} {locs : List Loc} {cells slots mc ms : Nat} {Q : State → Prop} {g : JFrame} {rest : List Value} {r : RT}
    (hr : va_Run p l e R s m args below meth c H locs cells slots mc ms g rest (m_Q b sb L xs dC dI dA r a) (fun q => b ≤ q)) (hS : va_S (fun q => b ≤ q) s.heap H locs)
    (kk : ∀ (H1 : Heap) (locs1 : List Loc), m_I b sb L xs dC dI dA r.2 H1 → va_S (fun q => b ≤ q) s.heap H1 locs1 → W p l e R s m args below meth c H1 locs1 (cells + mc) (slots + ms) Q { g with pc := g.pc + 3, stack := (r.1.map (v_s b sb)).toList ++ rest }) : W p l e R s m args below meth c H locs cells slots Q g := by
  intro T hT X
  obtain ⟨v, st₀, t, T', L', h0, X', hL, e1, e2, ⟨hv, hI, hz, hk⟩, st⟩ := hr T hT X
  have hv' : v = r.1.map (v_s b sb) := by cases hv; rfl
  subst hv'
  rw [h0] at hz hk
  obtain ⟨t2, a1, b1⟩ := kk T'.heap (locs ++ L') (by rw [e1]; exact hI)
    ⟨Nat.le_trans hS.1 (by rw [e1]; exact hz), fun q h1 h2 => by rw [e1, hk q (Nat.lt_of_lt_of_le h1 hS.1) h2]; exact hS.2.1 q h1 h2, fun q hq => by
      rcases List.mem_append.mp hq with h | h
      · exact hS.2.2 q h
      · exact hL q h⟩ T' rfl X'
  exact ⟨t2, st t2 a1, b1⟩
end SND
