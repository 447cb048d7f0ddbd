/-! SIGNS chased: any order comes to the same -/
section CH
variable {P F : Nat} {fx fy : Nat → Nat} {L : List Nat}
/-- part r has column c -/
def hasC (L : List Nat) (r c : Nat) : Prop := (L.getD r 0).testBit c = true
def EQc (L : List Nat) (F : Nat) (fx fy : Nat → Nat) (Q : Nat → Nat → Nat → Prop) : Prop := (∀ c r r', r < L.length → r' < L.length → hasC L r c → hasC L r' c → Q c r r') ∧ (∀ c r, Q c r r) ∧ (∀ c r r', Q c r r' → Q c r' r) ∧ (∀ c r r' r'', Q c r r' → Q c r' r'' → Q c r r'') ∧ ∀ k r r' c, k < F → r < L.length → r' < L.length → (∀ d, d < 8 → (fx k).testBit d = true → Q d r r') → c < 8 → (fy k).testBit c = true → Q c r r'
def EQ (L : List Nat) (F : Nat) (fx fy : Nat → Nat) (c r r' : Nat) : Prop := ∀ Q, EQc L F fx fy Q → Q c r r'
theorem EQ_ini {c r r' : Nat} (h1 : r < L.length) (h2 : r' < L.length) (h3 : hasC L r c) (h4 : hasC L r' c) : EQ L F fx fy c r r' := fun _ hQ => hQ.1 c r r' h1 h2 h3 h4
theorem EQ_rfl {c r : Nat} : EQ L F fx fy c r r := fun _ hQ => hQ.2.1 c r
theorem EQ_sym {c r r' : Nat} (h : EQ L F fx fy c r r') : EQ L F fx fy c r' r := fun Q hQ => hQ.2.2.1 c r r' (h Q hQ)
theorem EQ_tr {c r r' r'' : Nat} (h : EQ L F fx fy c r r') (h' : EQ L F fx fy c r' r'') : EQ L F fx fy c r r'' := fun Q hQ => hQ.2.2.2.1 c r r' r'' (h Q hQ) (h' Q hQ)
theorem EQ_law {k r r' c : Nat} (hk : k < F) (h1 : r < L.length) (h2 : r' < L.length) (h : ∀ d, d < 8 → (fx k).testBit d = true → EQ L F fx fy d r r') (hc : c < 8) (hb : (fy k).testBit c = true) : EQ L F fx fy c r r' := fun Q hQ => hQ.2.2.2.2 k r r' c hk h1 h2 (fun d hd hb => h d hd hb Q hQ) hc hb
/-- what holds of signs all along -/
def SgI (L : List Nat) (F : Nat) (fx fy : Nat → Nat) (s : Nat → Nat → Nat) : Prop := (∀ r c, r < L.length → c < 8 → s r c ≤ 12) ∧ (∀ r c, r < L.length → c < 8 → hasC L r c → s r c = 0) ∧ (∀ r c, r < L.length → c < 8 → s r c = 0 → ∃ r', r' < L.length ∧ hasC L r' c) ∧ ∀ r r' c, r < L.length → r' < L.length → c < 8 → s r c = s r' c → EQ L F fx fy c r r'
/-- signs made one -/
def mg (s : Nat → Nat → Nat) (c a b : Nat) (r d : Nat) : Nat := if d = c ∧ s r d = a then b else s r d
def sg0 (L : List Nat) (r c : Nat) : Nat := if (L.getD r 0).testBit c = true then 0 else r + 1
theorem SgI_0 (h12 : L.length ≤ 12) : SgI L F fx fy (sg0 L) := by
  refine ⟨fun r c hr hc => ?_, fun r c hr hc h => if_pos h, fun r c hr hc h => ?_, fun r r' c hr hr' hc h => ?_⟩
  · unfold sg0
    split <;> omega
  · unfold sg0 at h
    by_cases q : (L.getD r 0).testBit c = true
    · exact ⟨r, hr, q⟩
    · rw [if_neg q] at h
      omega
  · unfold sg0 at h
    by_cases q : (L.getD r 0).testBit c = true
    · by_cases q' : (L.getD r' 0).testBit c = true
      · exact EQ_ini hr hr' q q'
      · rw [if_pos q, if_neg q'] at h
        omega
    · by_cases q' : (L.getD r' 0).testBit c = true
      · rw [if_neg q, if_pos q'] at h
        omega
      · rw [if_neg q, if_neg q'] at h
        have : r = r' := by omega
        rw [this]
        exact EQ_rfl
theorem SgI_mg {s : Nat → Nat → Nat} {i j c : Nat} (h : SgI L F fx fy s) (hi : i < L.length) (hj : j < L.length) (hc : c < 8) (hE : EQ L F fx fy c i j) (hlt : s j c < s i c) : SgI L F fx fy (mg s c (s i c) (s j c)) := by
  obtain ⟨h1, h2, h3, h4⟩ := h
  refine ⟨fun r d hr hd => ?_, fun r d hr hd hh => ?_, fun r d hr hd hh => ?_, fun r r' d hr hr' hd hh => ?_⟩
  · unfold mg
    split
    · exact h1 j c hj hc
    · exact h1 r d hr hd
  · unfold mg
    have := h2 r d hr hd hh
    rw [if_neg (fun z => by
      have := z.2
      omega)]
    exact this
  · unfold mg at hh
    by_cases q : d = c ∧ s r d = s i c
    · rw [if_pos q] at hh
      rw [q.1]
      exact h3 j c hj hc hh
    · rw [if_neg q] at hh
      exact h3 r d hr hd hh
  · unfold mg at hh
    by_cases q : d = c ∧ s r d = s i c
    · obtain ⟨rfl, q2⟩ := q
      have e1 : EQ L F fx fy d r i := h4 r i d hr hi hd q2
      by_cases q' : s r' d = s i d
      · exact h4 r r' d hr hr' hd (q2.trans q'.symm)
      · rw [if_pos ⟨rfl, q2⟩, if_neg (fun z => q' z.2)] at hh
        exact EQ_tr e1 (EQ_tr hE (h4 j r' d hj hr' hd hh))
    · rw [if_neg q] at hh
      by_cases q' : d = c ∧ s r' d = s i c
      · obtain ⟨rfl, q2⟩ := q'
        rw [if_pos ⟨rfl, q2⟩] at hh
        exact EQ_tr (h4 r j d hr hj hd hh) (EQ_tr (EQ_sym hE) (h4 i r' d hi hr' hd q2.symm))
      · rw [if_neg q'] at hh
        exact h4 r r' d hr hr' hd hh
/-- nothing is left to be made one -/
def Sgc (L : List Nat) (F : Nat) (fx fy : Nat → Nat) (s : Nat → Nat → Nat) : Prop := ∀ k r r', k < F → r < L.length → r' < L.length → (∀ d, d < 8 → (fx k).testBit d = true → s r d = s r' d) → ∀ c, c < 8 → (fy k).testBit c = true → s r c = s r' c
theorem Sgc_E {s : Nat → Nat → Nat} (h : SgI L F fx fy s) (hcl : Sgc L F fx fy s) {c r r' : Nat} (e : EQ L F fx fy c r r') (hc : c < 8) : s r c = s r' c := by
  refine e (fun c r r' => c < 8 → s r c = s r' c) ⟨?_, fun _ _ _ => rfl, fun _ _ _ ih hc => (ih hc).symm, fun _ _ _ _ ih1 ih2 hc => (ih1 hc).trans (ih2 hc), ?_⟩ hc
  · intro c r r' hr hr' b b' hc
    rw [h.2.1 _ _ hr hc b, h.2.1 _ _ hr' hc b']
  · intro k r r' c hk hr hr' ih hc' bt _
    exact hcl _ _ _ hk hr hr' (fun d hd b => ih d hd b hd) _ hc' bt
theorem Sg_0 {s : Nat → Nat → Nat} (h : SgI L F fx fy s) (hcl : Sgc L F fx fy s) {c r : Nat} (hr : r < L.length) (hc : c < 8) : s r c = 0 ↔ ∃ r', r' < L.length ∧ hasC L r' c ∧ EQ L F fx fy c r r' := by
  constructor
  · intro z
    obtain ⟨r', h1, h2⟩ := h.2.2.1 r c hr hc z
    exact ⟨r', h1, h2, h.2.2.2 r r' c hr h1 hc (by rw [z, h.2.1 r' c h1 hc h2])⟩
  · intro ⟨r', h1, h2, h3⟩
    rw [Sgc_E h hcl h3 hc]
    exact h.2.1 r' c h1 hc h2
end CH
