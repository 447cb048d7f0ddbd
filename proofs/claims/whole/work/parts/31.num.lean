/-! NUMBERS: ints that are small counts, sets of eight columns -/
theorem n_m1 : (-1 : Int32).toInt = -1 := by decide
theorem m1_ne (k : Nat) (h : k < 2147483648) : nI k ≠ -1 := by
  intro q
  have h1 := nI_toInt (n := k) (by omega)
  rw [q, n_m1] at h1
  omega
theorem m9_ne (k : Nat) (h : k < 2147483648) : nI k ≠ -9 := by
  intro q
  have h1 := nI_toInt (n := k) (by omega)
  rw [q, show (-9 : Int32).toInt = -9 by decide] at h1
  omega
/-- within: the code's own test -/
abbrev wi (x y : Int32) : Prop := (x &&& (y ^^^ (-1 : Int32))) = (0 : Int32)
theorem wi_and (x y : Int32) : wi x y ↔ x &&& y = x := by
  constructor
  · intro h
    refine b_ext fun i hi => ?_
    have h1 : bt (x &&& (y ^^^ (-1 : Int32))) i = bt 0 i := by rw [h]
    rw [b_and, b_xor, b_m1 i hi, b_0] at h1
    rw [b_and]
    cases hx : bt x i <;> cases hy : bt y i <;> simp_all
  · intro h
    refine b_ext fun i hi => ?_
    have h1 : bt (x &&& y) i = bt x i := by rw [h]
    rw [b_and] at h1
    rw [b_and, b_xor, b_m1 i hi, b_0]
    cases hx : bt x i <;> cases hy : bt y i <;> simp_all
theorem and_lt {a b n : Nat} (h : a < 2 ^ n) : a &&& b < 2 ^ n := Nat.lt_of_le_of_lt Nat.and_le_left h
theorem or_lt {a b n : Nat} (h : a < 2 ^ n) (h' : b < 2 ^ n) : a ||| b < 2 ^ n := Nat.or_lt_two_pow h h'
theorem nI_inj {a b : Nat} (ha : a < 2147483648) (hb : b < 2147483648) (h : nI a = nI b) : a = b := (nI_eq ha hb).mp h
theorem wi_n {a b : Nat} (ha : a < 2147483648) (hb : b < 2147483648) : wi (nI a) (nI b) ↔ a &&& b = a := by
  rw [wi_and, fa_and]
  exact nI_eq (Nat.lt_of_le_of_lt Nat.and_le_left ha) ha
/-- a without b -/
theorem andn_n {a b : Nat} (ha : a < 2147483648) (hb : b < 2147483648) : nI a &&& (nI b ^^^ (-1 : Int32)) = nI (a &&& (b ^^^ 2147483647)) := by
  have h1 : (-1 : Int32) = nI 4294967295 := by decide
  rw [h1, nx_xor, fa_and]
  congr 1
  apply Nat.eq_of_testBit_eq
  intro i
  rw [Nat.testBit_and, Nat.testBit_and, Nat.testBit_xor, Nat.testBit_xor]
  by_cases hi : i < 31
  · rw [show (4294967295 : Nat) = 2 ^ 32 - 1 by decide, show (2147483647 : Nat) = 2 ^ 31 - 1 by decide, Nat.testBit_two_pow_sub_one, Nat.testBit_two_pow_sub_one]
    simp [hi, show i < 32 by omega]
  · have : a.testBit i = false := Nat.testBit_lt_two_pow (Nat.lt_of_lt_of_le ha (by rw [show (2147483648 : Nat) = 2 ^ 31 by decide]; exact Nat.pow_le_pow_right (by decide) (by omega)))
    simp [this]
theorem shl_n {c : Nat} (h : c < 31) : (1 : Int32) <<< (nI c &&& 31) = nI (2 ^ c) := by
  have h1 := pk_shlN (n := 1) (nI c &&& 31) c (s_l c (by omega)) (by rw [Nat.one_mul]; exact Nat.pow_lt_pow_right (by decide) (by omega))
  rw [Nat.one_mul] at h1
  exact h1
theorem shr_n {a c : Nat} (ha : a < 2147483648) (h : c < 32) : nI a >>> (nI c &&& 31) = nI (a / 2 ^ c) := pk_shrN ha _ c (s_l c h)
/-- the code's own test of a bit -/
theorem bit_n {a c : Nat} (ha : a < 2147483648) (h : c < 32) : (((nI a >>> (nI c &&& 31)) &&& (1 : Int32)) = (1 : Int32)) ↔ a.testBit c = true := by
  have h2 : (1 : Int32) = nI (2 ^ 1 - 1) := rfl
  rw [shr_n ha h]
  conv => lhs; lhs; rw [h2]
  rw [fa_mask]
  have h3 : a / 2 ^ c % 2 ^ 1 < 2 := Nat.mod_lt _ (by decide)
  rw [show (1 : Int32) = nI 1 from rfl, nI_eq (by omega) (by decide), Nat.testBit_eq_decide_div_mod_eq]
  simp
theorem mul_n (a b : Nat) : nI a * nI b = nI (a * b) := pk_mul a b
