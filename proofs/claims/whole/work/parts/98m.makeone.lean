/-! SIGNS, here: two rows made one in a column -/
section MK
variable {sc : RE} {S : SS} {L : List Nat} {F : Nat} {fx fy : Nat → Nat} {s : Nat → Nat → Nat}
/-- from signs to signs: what was one stays one, and what changes makes fewer -/
def Sgt (P : Nat) (s s' : Nat → Nat → Nat) : Prop := (∀ r r' c, s r c = s r' c → s' r c = s' r' c) ∧ dS P s' ≤ dS P s ∧ ((∀ r c, s' r c = s r c) ∨ dS P s' < dS P s)
theorem Sgt_refl {P : Nat} : Sgt P s s := ⟨fun _ _ _ h => h, Nat.le_refl _, Or.inl fun _ _ => rfl⟩
theorem Sgt_tr {P : Nat} {s' s'' : Nat → Nat → Nat} (h : Sgt P s s') (h' : Sgt P s' s'') : Sgt P s s'' := by
  obtain ⟨a1, a2, a3⟩ := h
  obtain ⟨b1, b2, b3⟩ := h'
  refine ⟨fun r r' c e => b1 r r' c (a1 r r' c e), Nat.le_trans b2 a2, ?_⟩
  rcases a3 with a3 | a3
  · rcases b3 with b3 | b3
    · exact Or.inl fun r c => (b3 r c).trans (a3 r c)
    · exact Or.inr (by omega)
  · exact Or.inr (by omega)
theorem mg_mono {c a b : Nat} {r r' d : Nat} (h : s r d = s r' d) : mg s c a b r d = mg s c a b r' d := by
  unfold mg
  rw [h]
theorem mg_one {i j c : Nat} (h : SgI L F fx fy s) (hi : i < L.length) (hj : j < L.length) (hc : c < 8) (hE : EQ L F fx fy c i j) : SgI L F fx fy (mg s c (Nat.max (s i c) (s j c)) (Nat.min (s i c) (s j c))) ∧ Sgt L.length s (mg s c (Nat.max (s i c) (s j c)) (Nat.min (s i c) (s j c))) ∧ mg s c (Nat.max (s i c) (s j c)) (Nat.min (s i c) (s j c)) i c = mg s c (Nat.max (s i c) (s j c)) (Nat.min (s i c) (s j c)) j c ∧ (¬ s i c = s j c → dS L.length (mg s c (Nat.max (s i c) (s j c)) (Nat.min (s i c) (s j c))) < dS L.length s) := by
  rcases Nat.lt_trichotomy (s i c) (s j c) with q | q | q
  · have e1 : Nat.max (s i c) (s j c) = s j c := Nat.max_eq_right (by omega)
    have e2 : Nat.min (s i c) (s j c) = s i c := Nat.min_eq_left (by omega)
    rw [e1, e2]
    have hd := dS_mg (P := L.length) hj hi hc (h.1 j c hj hc) q
    refine ⟨SgI_mg h hj hi hc (EQ_sym hE) q, ⟨fun _ _ _ e => mg_mono e, by omega, Or.inr hd⟩, ?_, fun _ => hd⟩
    unfold mg
    rw [if_neg (fun z => by omega), if_pos ⟨rfl, rfl⟩]
  · have e1 : Nat.max (s i c) (s j c) = s i c := Nat.max_eq_left (by omega)
    have e2 : Nat.min (s i c) (s j c) = s i c := Nat.min_eq_left (by omega)
    rw [e1, e2]
    have e : mg s c (s i c) (s i c) = s := by
      funext r d
      unfold mg
      split
      · next z => rw [z.2]
      · rfl
    rw [e]
    exact ⟨h, Sgt_refl, q, fun z => absurd q z⟩
  · have e1 : Nat.max (s i c) (s j c) = s i c := Nat.max_eq_left (by omega)
    have e2 : Nat.min (s i c) (s j c) = s j c := Nat.min_eq_right (by omega)
    rw [e1, e2]
    have hd := dS_mg (P := L.length) hi hj hc (h.1 i c hi hc) q
    refine ⟨SgI_mg h hi hj hc hE q, ⟨fun _ _ _ e => mg_mono e, by omega, Or.inr hd⟩, ?_, fun _ => hd⟩
    unfold mg
    rw [if_pos ⟨rfl, rfl⟩, if_neg (fun z => by omega)]
end MK
