/-! MEMORY as registers: ints of objects, rows of ints, rows of longs; all else stands still -/
abbrev SS : Type := (Nat → Nat → Int32) × (Nat → Nat → Int32) × (Nat → Nat → Int64)
def shl : List ((Nat × List (Option Nat)) ⊕ (Nat × Nat)) := [.inl (7, [some 1, some 18, some 23, some 24, some 29, some 36, some 39, none]), .inr (4, 4), .inl (5, [none, none, none, none, some 3, some 4, some 5]), .inr (0, 8), .inr (1, 192), .inr (2, 192), .inl (5, [none, none, none, none, some 7, some 8, some 9]), .inr (0, 8), .inr (1, 192), .inr (2, 192), .inl (5, [none, none, none, none, some 11, some 12, some 13]), .inr (0, 8), .inr (1, 192), .inr (2, 192), .inl (5, [none, none, none, none, some 15, some 16, some 17]), .inr (0, 8), .inr (1, 192), .inr (2, 192), .inl (2, [none, some 19, some 20, some 21, some 22]), .inr (0, 40), .inr (0, 40), .inr (0, 40), .inr (3, 40), .inl (1, [none, none]), .inl (4, [none, some 25, some 26, none, some 27, some 28]), .inr (0, 280), .inr (0, 280), .inr (0, 276), .inr (3, 256), .inl (6, [none, none, none, some 30, some 31, some 32, some 33, none, some 34, none, none, some 35]), .inr (0, 40), .inr (0, 40), .inr (0, 40), .inr (0, 256), .inr (0, 8), .inr (0, 70), .inl (0, [some 29, none, none, some 37, some 38]), .inr (0, 320), .inr (0, 320), .inl (3, [some 29, none, some 40, none, some 41, some 42]), .inr (0, 12), .inr (0, 321), .inr (0, 96), .inl (8, [none, some 44, some 45, some 46, some 47, some 48, some 49, some 50, some 51, none, some 52, some 53, some 54, some 55, none, none, some 56, none, none, some 57, some 58, some 59, none, none, some 60, some 61, none, some 62, some 63, none, some 64, some 65, some 66, none, some 67, some 68, some 69]), .inr (0, 4), .inr (0, 4), .inr (3, 4), .inr (0, 32), .inr (1, 768), .inr (3, 768), .inr (1, 24), .inr (3, 24), .inr (0, 40), .inr (0, 40), .inr (0, 40), .inr (3, 40), .inr (0, 276), .inr (0, 600), .inr (0, 600), .inr (3, 256), .inr (0, 40), .inr (0, 40), .inr (0, 256), .inr (0, 256), .inr (0, 320), .inr (0, 320), .inr (3, 320), .inr (0, 12), .inr (0, 321), .inr (0, 96)]
def e_f (S : SS) (k : Nat) : Nat → List (Option Nat) → List Value
  | _, [] => []
  | j, some r :: t => .ref r :: e_f S k (j + 1) t
  | j, none :: t => .int (S.1 k j) :: e_f S k (j + 1) t
def e_t : Nat → Option Nat := fun i => if i < 4 then some (2 + 4 * i) else none
def e_c (S : SS) (k : Nat) (x : Option ((Nat × List (Option Nat)) ⊕ (Nat × Nat))) : RE := match x with
  | some (.inl (ci, fs)) => .inr (ci, e_f S k 0 fs)
  | some (.inr (1, n)) => .inl (1, n, .inr (.inl (S.2.2 k)))
  | some (.inr (4, n)) => .inl (4, n, .inr (.inr (.inr (.inr e_t))))
  | some (.inr (t, n)) => .inl (t, n, .inl (S.2.1 k))
  | none => .inr (0, [])
def enc (sc : RE) (S : SS) : MM := (70, 9957, fun k => if k = SC then sc else e_c S k shl[k]?)
def sF (S : SS) (a j : Nat) (x : Int32) : SS := (fun a' j' => if a' = a ∧ j' = j then x else S.1 a' j', S.2)
def sA (S : SS) (a i : Nat) (x : Int32) : SS := (S.1, fun a' i' => if a' = a ∧ i' = i then x else S.2.1 a' i', S.2.2)
def sL (S : SS) (a i : Nat) (x : Int64) : SS := (S.1, S.2.1, fun a' i' => if a' = a ∧ i' = i then x else S.2.2 a' i')
def cA (S : SS) (a i j n : Nat) : SS := (S.1, fun a' => if a' = a then va_cpy (S.2.1 a) (S.2.1 a) i j n else S.2.1 a', S.2.2)
def cL (S : SS) (a i j n : Nat) : SS := (S.1, S.2.1, fun a' => if a' = a then va_cpy (S.2.2 a) (S.2.2 a) i j n else S.2.2 a')
theorem shl_lt {k : Nat} {x : (Nat × List (Option Nat)) ⊕ (Nat × Nat)} (h : shl[k]? = some x) : k < 70 ∧ k ≠ SC := by
  have h1 : k < 70 := (List.getElem?_eq_some_iff.mp h).1
  exact ⟨h1, by unfold SC; omega⟩
section ENC
variable {sc : RE} {S : SS} {k : Nat}
theorem e_f_at (S : SS) (k : Nat) : ∀ (fs : List (Option Nat)) (j0 j : Nat), (e_f S k j0 fs)[j]? = (fs[j]?).map (fun o => match o with
    | some r => Value.ref r
    | none => Value.int (S.1 k (j0 + j)))
  | [], j0, j => by simp [e_f]
  | some r :: t, j0, 0 => by simp [e_f]
  | none :: t, j0, 0 => by simp [e_f]
  | some r :: t, j0, j + 1 => by
    have := e_f_at S k t (j0 + 1) j
    simp only [e_f, List.getElem?_cons_succ, this]
    rw [show j0 + 1 + j = j0 + (j + 1) by omega]
  | none :: t, j0, j + 1 => by
    have := e_f_at S k t (j0 + 1) j
    simp only [e_f, List.getElem?_cons_succ, this]
    rw [show j0 + 1 + j = j0 + (j + 1) by omega]
theorem e_f_ext {S S' : SS} {k : Nat} (fs : List (Option Nat)) (j0 : Nat) (h : ∀ j, S.1 k j = S'.1 k j) : e_f S k j0 fs = e_f S' k j0 fs := by
  apply List.ext_getElem?
  intro j
  rw [e_f_at, e_f_at, h]
theorem e_f_set {fs : List (Option Nat)} {j : Nat} (x : Int32) (h : fs[j]? = some none) : (e_f S k 0 fs).set j (.int x) = e_f (sF S k j x) k 0 fs := by
  apply List.ext_getElem?
  intro i
  rw [List.getElem?_set, e_f_at, e_f_at]
  by_cases hi : j = i
  · subst hi
    have hl : j < (e_f S k 0 fs).length := by
      have h2 := e_f_at S k fs 0 j
      rw [h] at h2
      exact (List.getElem?_eq_some_iff.mp h2).1
    simp [hl, h, sF]
  · have hne : ¬ (0 + i = j) := by omega
    have hne2 : ¬ (i = j) := fun q => hi q.symm
    simp [hi, sF, hne2]
theorem enc_at (h : k ≠ SC) : (enc sc S).2.2 k = e_c S k shl[k]? := by
  simp [enc, h]
theorem enc_up {S' : SS} (hk : k ≠ SC) (h : ∀ a, a ≠ k → e_c S' a shl[a]? = e_c S a shl[a]?) {x : RE} (hx : e_c S' k shl[k]? = x) : ((enc sc S).1, (enc sc S).2.1, va_up (enc sc S).2.2 k x) = enc sc S' := by
  unfold enc
  congr 2
  funext a
  unfold va_up
  by_cases ha : a = k
  · subst ha
    simp [hk, hx]
  · simp only [ha, if_false]
    split
    · rfl
    · rw [h a ha]
theorem e_c_F {a : Nat} {x : Option ((Nat × List (Option Nat)) ⊕ (Nat × Nat))} {S S' : SS} (h1 : ∀ j, S.1 a j = S'.1 a j) (h2 : S.2.1 a = S'.2.1 a) (h3 : S.2.2 a = S'.2.2 a) : e_c S a x = e_c S' a x := by
  unfold e_c
  split
  · rw [e_f_ext _ _ h1]
  · rw [h3]
  · rfl
  · rw [h2]
  · rfl
theorem en_gI {ci j : Nat} {fs : List (Option Nat)} (hk : shl[k]? = some (.inl (ci, fs))) (hj : fs[j]? = some none) (K : Int32 → Option RT) : g_I (enc sc S) k ci j K = K (S.1 k j) := by
  obtain ⟨h1, h2⟩ := shl_lt hk
  have e1 : (e_f S k 0 fs)[j]? = some (.int (S.1 k j)) := by rw [e_f_at, hj]; simp
  unfold g_I
  rw [enc_at h2, hk]
  simp only [e_c, e1]
  rw [if_pos ⟨h1, trivial⟩]
theorem en_gR {ci j r : Nat} {fs : List (Option Nat)} (hk : shl[k]? = some (.inl (ci, fs))) (hj : fs[j]? = some (some r)) (K : Nat → Option RT) : g_R (enc sc S) k ci j K = K r := by
  obtain ⟨h1, h2⟩ := shl_lt hk
  have e1 : (e_f S k 0 fs)[j]? = some (.ref r) := by rw [e_f_at, hj]; simp
  unfold g_R
  rw [enc_at h2, hk]
  simp only [e_c, e1]
  rw [if_pos ⟨h1, trivial⟩]
theorem en_pF {ci j tc : Nat} {fs : List (Option Nat)} {x : Int32} (hk : shl[k]? = some (.inl (ci, fs))) (hj : fs[j]? = some none) (hx : p_ok tc (.int x) = true) (K : MM → Option RT) : p_F (enc sc S) k ci j tc (.int x) K = K (enc sc (sF S k j x)) := by
  obtain ⟨h1, h2⟩ := shl_lt hk
  have e1 : (e_f S k 0 fs)[j]? = some (.int (S.1 k j)) := by rw [e_f_at, hj]; simp
  have e2 := (List.getElem?_eq_some_iff.mp e1).1
  unfold p_F
  rw [enc_at h2, hk]
  simp only [e_c]
  rw [if_pos ⟨h1, trivial, e2, hx⟩, enc_up (S' := sF S k j x) h2]
  · intro a ha
    exact e_c_F (fun i => by simp [sF, ha]) rfl rfl
  · rw [hk]
    simp only [e_c]
    rw [e_f_set x hj]
theorem e_c_I {t n : Nat} (h1 : t ≠ 1) (h4 : t ≠ 4) : e_c S k (some (.inr (t, n))) = .inl (t, n, .inl (S.2.1 k)) := by
  unfold e_c
  split
  · next h => cases h
  · next h => cases h; exact absurd rfl h1
  · next h => cases h; exact absurd rfl h4
  · next h => cases h; rfl
  · next h => cases h
theorem en_aI {n : Nat} {i : Int32} (hk : shl[k]? = some (.inr (0, n))) (hi : mm_in i n = true) (K : Int32 → Option RT) : a_I (enc sc S) k i K = K (S.2.1 k i.toNatClampNeg) := by
  obtain ⟨h1, h2⟩ := shl_lt hk
  unfold a_I
  rw [enc_at h2, hk, e_c_I (by decide) (by decide)]
  simp only
  rw [if_pos ⟨Or.inl h1, trivial, hi⟩]
theorem en_aB {t n : Nat} {i : Int32} (hk : shl[k]? = some (.inr (t, n))) (ht : t = 2 ∨ t = 3) (hi : mm_in i n = true) (K : Int32 → Option RT) : a_B (enc sc S) k i K = K (S.2.1 k i.toNatClampNeg) := by
  obtain ⟨h1, h2⟩ := shl_lt hk
  unfold a_B
  rw [enc_at h2, hk, e_c_I (by omega) (by omega)]
  simp only
  rw [if_pos ⟨h1, ht, hi⟩]
theorem en_aL {n : Nat} {i : Int32} (hk : shl[k]? = some (.inr (1, n))) (hi : mm_in i n = true) (K : Int64 → Option RT) : a_L (enc sc S) k i K = K (S.2.2 k i.toNatClampNeg) := by
  obtain ⟨h1, h2⟩ := shl_lt hk
  unfold a_L
  rw [enc_at h2, hk]
  simp only [e_c]
  rw [if_pos ⟨h1, trivial, hi⟩]
theorem en_aQ {i : Int32} (hi : mm_in i 4 = true) (K : Nat → Option RT) : a_Q (enc sc S) 1 i K = K (2 + 4 * i.toNatClampNeg) := by
  have hk : shl[1]? = some (.inr (4, 4)) := rfl
  obtain ⟨h1, h2⟩ := shl_lt hk
  have h4 : i.toNatClampNeg < 4 := by
    have := mm_in_i hi
    exact Nat.not_le.mp fun q => this (Or.inr q)
  unfold a_Q
  rw [enc_at h2, hk]
  simp only [e_c]
  rw [if_pos ⟨h1, trivial, hi⟩]
  simp [e_t, h4]
theorem en_wI {n : Nat} {i x : Int32} (hk : shl[k]? = some (.inr (0, n))) (hi : mm_in i n = true) (K : MM → Option RT) : w_I (enc sc S) k i x K = K (enc sc (sA S k i.toNatClampNeg x)) := by
  obtain ⟨h1, h2⟩ := shl_lt hk
  unfold w_I
  rw [enc_at h2, hk, e_c_I (by decide) (by decide)]
  simp only
  rw [if_pos ⟨h1, trivial, hi⟩, enc_up (S' := sA S k i.toNatClampNeg x) h2]
  · intro a ha
    exact e_c_F (fun _ => rfl) (by funext q; simp [sA, ha]) rfl
  · rw [hk, e_c_I (by decide) (by decide)]
    congr 4
    funext q
    simp [sA, upd]
theorem en_wB {t n : Nat} {i x : Int32} (hk : shl[k]? = some (.inr (t, n))) (ht : t = 2 ∨ t = 3) (hi : mm_in i n = true) (hx : x = 0 ∨ x = 1) (K : MM → Option RT) : w_B (enc sc S) k i x K = K (enc sc (sA S k i.toNatClampNeg x)) := by
  obtain ⟨h1, h2⟩ := shl_lt hk
  have hn : vp_nar (if t = 2 then .byte else .boolean) x = x := by
    rcases ht with rfl | rfl <;> rcases hx with rfl | rfl <;> decide
  unfold w_B
  rw [enc_at h2, hk, e_c_I (by omega) (by omega)]
  simp only
  rw [if_pos ⟨h1, ht, hi⟩, hn, enc_up (S' := sA S k i.toNatClampNeg x) h2]
  · intro a ha
    exact e_c_F (fun _ => rfl) (by funext q; simp [sA, ha]) rfl
  · rw [hk, e_c_I (by omega) (by omega)]
    congr 4
    funext q
    simp [sA, upd]
theorem en_wL {n : Nat} {i : Int32} {x : Int64} (hk : shl[k]? = some (.inr (1, n))) (hi : mm_in i n = true) (K : MM → Option RT) : w_L (enc sc S) k i x K = K (enc sc (sL S k i.toNatClampNeg x)) := by
  obtain ⟨h1, h2⟩ := shl_lt hk
  unfold w_L
  rw [enc_at h2, hk]
  simp only [e_c]
  rw [if_pos ⟨h1, trivial, hi⟩, enc_up (S' := sL S k i.toNatClampNeg x) h2]
  · intro a ha
    exact e_c_F (fun _ => rfl) rfl (by funext q; simp [sL, ha])
  · rw [hk]
    simp only [e_c]
    congr 5
    funext q
    simp [sL, vp_updL]
theorem en_cL {m : Nat} {i j n : Int32} (hk : shl[k]? = some (.inr (1, m))) (h : ¬ i < 0 ∧ ¬ j < 0 ∧ ¬ n < 0 ∧ i.toNatClampNeg + n.toNatClampNeg ≤ m ∧ j.toNatClampNeg + n.toNatClampNeg ≤ m) (K : MM → Option RT) : c_L (enc sc S) k k i j n K = K (enc sc (cL S k i.toNatClampNeg j.toNatClampNeg n.toNatClampNeg)) := by
  obtain ⟨h1, h2⟩ := shl_lt hk
  unfold c_L
  rw [enc_at h2, hk]
  simp only [e_c]
  rw [if_pos ⟨trivial, h1, trivial, h⟩, enc_up (S' := cL S k i.toNatClampNeg j.toNatClampNeg n.toNatClampNeg) h2]
  · intro a ha
    exact e_c_F (fun _ => rfl) rfl (by simp [cL, ha])
  · rw [hk]
    simp only [e_c]
    simp [cL]
theorem en_cA {m : Nat} {i j n : Int32} (hk : shl[k]? = some (.inr (2, m))) (h : ¬ i < 0 ∧ ¬ j < 0 ∧ ¬ n < 0 ∧ i.toNatClampNeg + n.toNatClampNeg ≤ m ∧ j.toNatClampNeg + n.toNatClampNeg ≤ m) (hf : ∀ q, q < m → S.2.1 k q = 0 ∨ S.2.1 k q = 1) (K : MM → Option RT) : c_L (enc sc S) k k i j n K = K (enc sc (cA S k i.toNatClampNeg j.toNatClampNeg n.toNatClampNeg)) := by
  obtain ⟨h1, h2⟩ := shl_lt hk
  unfold c_L
  rw [enc_at h2, hk, e_c_I (by decide) (by decide)]
  simp only
  rw [if_pos ⟨trivial, h1, trivial, h.1, h.2.1, h.2.2.1, h.2.2.2.1, h.2.2.2.2, fun q hq => by
    rcases hf (i.toNatClampNeg + q) (by omega) with e | e <;> rw [e] <;> decide⟩, enc_up (S' := cA S k i.toNatClampNeg j.toNatClampNeg n.toNatClampNeg) h2]
  · intro a ha
    exact e_c_F (fun _ => rfl) (by simp [cA, ha]) rfl
  · rw [hk, e_c_I (by decide) (by decide)]
    simp [cA]
theorem en_cO {ci : Nat} {fs : List (Option Nat)} {t : List Value} {q : Option RT} (hk : shl[k]? = some (.inl (ci, fs))) : c_O (enc sc S) (.ref k :: t) ci q = q := by
  obtain ⟨h1, h2⟩ := shl_lt hk
  unfold c_O
  simp only
  rw [enc_at h2, hk]
  simp only [e_c]
  rw [if_pos ⟨h1, trivial⟩]
end ENC
