/-! BLOCKS that begin with a switch -/
def swc : List Int32 → List Int → (Nat → Option RT) → Nat → Int32 → Option RT → Option RT
  | c :: ks, o :: os, k, pc, x, d => if x = c then k ((pc : Int) + o).toNat else swc ks os k pc x d
  | _, _, _, _, _, d => d
def sw_ok : List Int32 → Int → Bool
  | [], _ => true
  | c :: t, lo => decide (c.toInt = lo) && sw_ok t (lo + 1)
theorem swc_eq (k : Nat → Option RT) (pc : Nat) (x : Int32) (d : Option RT) : ∀ (ks : List Int32) (os : List Int) (lo : Int), sw_ok ks lo = true → ks.length = os.length → swc ks os k pc x d = (if x.toInt < lo ∨ lo + ks.length ≤ x.toInt then d else match os[(x.toInt - lo).toNat]? with
    | some o => k ((pc : Int) + o).toNat
    | none => none)
  | [], os, lo, _, hl => by
    rw [if_pos (by simp; omega)]
    cases os with
    | nil => rfl
    | cons o os => simp at hl
  | c :: t, [], lo, _, hl => by simp at hl
  | c :: t, o :: os, lo, h, hl => by
    obtain ⟨h1, h2⟩ := and2 h
    have h1 := of_decide_eq_true h1
    have ih := swc_eq k pc x d t os (lo + 1) h2 (by simpa using hl)
    unfold swc
    by_cases hx : x = c
    · subst hx
      rw [if_pos rfl, if_neg (by simp; omega)]
      rw [show (x.toInt - lo).toNat = 0 by omega]
      rfl
    · rw [if_neg hx, ih]
      have hne : x.toInt ≠ lo := fun q => hx (Int32.toInt_inj.mp (q.trans h1.symm))
      by_cases hc : x.toInt < lo ∨ lo + (c :: t).length ≤ x.toInt
      · rw [if_pos hc, if_pos (by simp at hc; omega)]
      · rw [if_neg hc, if_neg (by simp at hc; omega)]
        rw [show (x.toInt - lo).toNat = (x.toInt - (lo + 1)).toNat + 1 by simp at hc; omega]
        rfl
theorem bk_sw {mi pc nx r1 r2 r3 r4 : Nat} {cv : Value} {ls t : List Value} {μ : MM} {r : RT} {x : Int32} {d lo hi : Int} {offs : Array Int} (k : Nat) (stop : List (Nat × List Bool)) (he : mm_E mi pc = some (.tableswitch d lo hi offs, nx, r1, r2, r3, r4, cv)) {ks : List Int32} (hks : sw_ok ks lo = true ∧ ks.length = offs.toList.length ∧ hi + 1 = lo + ks.length)
    (h : swc ks offs.toList (fun p => b_K stop mi (bk k stop mi) p ls t μ) pc x (b_K stop mi (bk k stop mi) ((pc : Int) + d).toNat ls t μ) = some r) : Rs mi pc ls (.int x :: t) μ = some r := by
  refine bk_s (k + 1) stop ?_
  unfold bk
  rw [he]
  show mm_sw pc d lo hi offs.toList x (fun p => b_K stop mi (bk k stop mi) p ls t μ) = some r
  rw [swc_eq _ _ _ _ ks offs.toList lo hks.1 hks.2.1] at h
  unfold mm_sw
  have hh := hks.2.2
  by_cases hc : x.toInt < lo ∨ lo + ks.length ≤ x.toInt
  · rw [if_pos hc] at h
    rw [if_pos (by omega)]
    exact h
  · rw [if_neg hc] at h
    rw [if_neg (by omega)]
    cases ho : offs.toList[(x.toInt - lo).toNat]? with
    | none => rw [ho] at h; cases h
    | some o =>
      simp only [ho] at h ⊢
      exact h
theorem Rc_of {j : Nat} {as ls : List Value} {μ : MM} {r : RT} (hle : Nat.ble (l_ex as).length (mm_L j) = true) (hls : l_pad (mm_L j) (l_ex as) = ls) (h : Rs j 0 ls [] μ = some r) : Rc j as μ = some r := by
  subst hls
  unfold Rc
  rw [hle]
  exact h
