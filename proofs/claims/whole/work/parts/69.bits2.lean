/-! BITS of sets, as the code asks for them -/
theorem bitv {a c : Nat} (ha : a < 2147483648) (hc : c < 32) : (nI a >>> (nI c &&& 31)) &&& (1 : Int32) = if a.testBit c = true then 1 else 0 := by
  by_cases q : a.testBit c = true
  · rw [if_pos q]
    exact (bit_n ha hc).mpr q
  · rw [if_neg q]
    have h1 : (nI a >>> (nI c &&& 31)) &&& (1 : Int32) = nI (a / 2 ^ c % 2) := by
      rw [shr_n ha hc]
      have h2 : (1 : Int32) = nI (2 ^ 1 - 1) := rfl
      conv => lhs; rw [h2]
      rw [fa_mask]
    have h3 : a / 2 ^ c % 2 = 0 := by
      have h4 : ¬ a / 2 ^ c % 2 = 1 := fun z => q (by rw [Nat.testBit_eq_decide_div_mod_eq]; exact decide_eq_true z)
      omega
    rw [h1, h3]
    rfl
theorem bitz {a c : Nat} (ha : a < 2147483648) (hc : c < 32) : ((nI a >>> (nI c &&& 31)) &&& (1 : Int32) = 0) = (a.testBit c = false) := by
  rw [bitv ha hc]
  by_cases q : a.testBit c = true
  · rw [if_pos q, q]
    exact propext ⟨fun z => absurd z (by decide), fun z => absurd z (by decide)⟩
  · rw [if_neg q]
    have : a.testBit c = false := by cases h : a.testBit c <;> simp_all
    rw [this]
    exact propext ⟨fun _ => rfl, fun _ => rfl⟩
theorem bito {a c : Nat} (ha : a < 2147483648) (hc : c < 32) : ((nI a >>> (nI c &&& 31)) &&& (1 : Int32) = 1) = (a.testBit c = true) := propext (bit_n ha hc)
theorem tb_f {a c : Nat} (h : ¬ a.testBit c = true) : a.testBit c = false := by cases q : a.testBit c <;> simp_all
theorem sub_pow_lt {s w : Nat} (h : s < 2 ^ w) : sub s (2 ^ w - 1) := by
  show s &&& (2 ^ w - 1) = s
  rw [Nat.and_two_pow_sub_one_eq_mod, Nat.mod_eq_of_lt h]
