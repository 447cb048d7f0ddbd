/-! VALUES: cut to lanes, here and there -/
section VAL
variable {sc : RE} {S : SS} {μ : MM}
theorem char_l (v : Int64) : (v.toInt32.toUInt32 % 65536).toInt32.toInt64 = v &&& 65535 := by
  obtain ⟨n, hn, rfl⟩ := wb_of v
  have h1 : ((lN n).toInt32.toUInt32 % 65536).toInt32 = nI (n % 65536) := by
    apply Int32.toBitVec_inj.mp
    apply BitVec.eq_of_toNat_eq
    have e1 : ((lN n).toInt32).toBitVec = (BitVec.ofNat 64 n).setWidth 32 := by
      rw [Int64.toBitVec_toInt32, BitVec.signExtend_eq_setWidth_of_le _ (by decide)]; rfl
    show ((lN n).toInt32.toBitVec % 65536#32).toNat = (BitVec.ofNat 32 (n % 65536)).toNat
    rw [e1, BitVec.toNat_umod, BitVec.toNat_setWidth, BitVec.toNat_ofNat, BitVec.toNat_ofNat, BitVec.toNat_ofNat, show (65536 : Nat) % 2 ^ 32 = 65536 by decide]
    omega
  rw [h1, nI_l (by omega)]
  rw [show (65535 : Int64) = lN (2 ^ 16 - 1) from rfl, wb_mask hn (by decide)]
theorem sz0 (v : Int64) : (v &&& 9223372036854775807 = 0) ↔ (v = 0 ∨ v = -9223372036854775808) := by
  obtain ⟨n, hn, rfl⟩ := wb_of v
  rw [show (9223372036854775807 : Int64) = lN (2 ^ 63 - 1) from rfl, wb_mask hn (by decide)]
  have e : ∀ a, a < 2 ^ 64 → ∀ b, b < 2 ^ 64 → (lN a = lN b ↔ a = b) := by
    intro a ha b hb
    constructor
    · intro h
      have h1 := wb_tn ha
      rw [h, wb_tn hb] at h1
      exact h1.symm
    · intro h; rw [h]
  rw [show (0 : Int64) = lN 0 from rfl, show (-9223372036854775808 : Int64) = lN 9223372036854775808 from rfl, e _ (by omega) _ (by omega), e _ hn _ (by omega), e _ hn _ (by omega)]
  omega
theorem valued_s {l : Nat} (hl : l < 6) (v : Int64) : Rc 166 [.int (nI l), .long v] μ = some (some (.long (cutC l v)), μ) := by
  refine Rc_of rfl rfl (B_X8_valued_0 μ _ _ (B_X8_valued_1 μ _ _ ?_))
  rcases (by omega : l = 0 ∨ l = 1 ∨ l = 2 ∨ l = 3 ∨ l = 4 ∨ l = 5) with rfl | rfl | rfl | rfl | rfl | rfl
  · rw [if_pos (by decide)]; rfl
  · rw [if_neg (by decide), if_pos (by decide)]; rfl
  · rw [if_neg (by decide), if_neg (by decide), if_pos (by decide), ← char_l]; rfl
  · rw [if_neg (by decide), if_neg (by decide), if_neg (by decide), if_pos (by decide)]; rfl
  · rw [if_neg (by decide), if_neg (by decide), if_neg (by decide), if_neg (by decide), if_pos (by decide)]; rfl
  · rw [if_neg (by decide), if_neg (by decide), if_neg (by decide), if_neg (by decide), if_neg (by decide)]
    show _ = some (some (Value.long (bitsC v)), μ)
    unfold bitsC
    by_cases h : lg_cmp (v &&& 9223372036854775807) 9218868437227405312 ≤ 0
    · rw [if_pos h, if_pos h]
      by_cases h2 : v = -9223372036854775808
      · rw [if_pos h2, if_pos (by rw [lg0]; exact (sz0 v).mpr (Or.inr h2))]
      · rw [if_neg h2]
        by_cases h3 : v = 0
        · rw [if_pos (by rw [lg0]; exact (sz0 v).mpr (Or.inl h3)), h3]
        · rw [if_neg]
          rw [lg0, sz0]
          exact fun q => q.elim h3 h2
    · rw [if_neg h, if_neg h]
theorem bitsC_idem (v : Int64) : bitsC (bitsC v) = bitsC v := by
  by_cases h : lg_cmp (v &&& 9223372036854775807) 9218868437227405312 ≤ 0
  · by_cases h2 : v = -9223372036854775808
    · have e : bitsC v = 0 := by unfold bitsC; rw [if_pos h, if_pos h2]
      rw [e]
      decide
    · have e : bitsC v = v := by unfold bitsC; rw [if_pos h, if_neg h2]
      rw [e, e]
  · have e : bitsC v = 9221120237041090560 := by unfold bitsC; rw [if_neg h]
    rw [e]
    decide
theorem cut_5 {l : Nat} (h : l = 5) (v : Int64) : bitsC (cutC l v) = cutC l v := by
  subst h
  exact bitsC_idem v
end VAL
