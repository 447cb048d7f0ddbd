/-! SPECS of the small ones -/
def bcE (x0 : Int32) : Int32 := ((((((((x0 - ((((x0).toUInt32 >>> (((1 : Int32)).toUInt32 &&& Int32.toUInt32 31)).toInt32) &&& (1431655765 : Int32))) &&& (858993459 : Int32)) + (((((x0 - ((((x0).toUInt32 >>> (((1 : Int32)).toUInt32 &&& Int32.toUInt32 31)).toInt32) &&& (1431655765 : Int32)))).toUInt32 >>> (((2 : Int32)).toUInt32 &&& Int32.toUInt32 31)).toInt32) &&& (858993459 : Int32))) + ((((((x0 - ((((x0).toUInt32 >>> (((1 : Int32)).toUInt32 &&& Int32.toUInt32 31)).toInt32) &&& (1431655765 : Int32))) &&& (858993459 : Int32)) + (((((x0 - ((((x0).toUInt32 >>> (((1 : Int32)).toUInt32 &&& Int32.toUInt32 31)).toInt32) &&& (1431655765 : Int32)))).toUInt32 >>> (((2 : Int32)).toUInt32 &&& Int32.toUInt32 31)).toInt32) &&& (858993459 : Int32)))).toUInt32 >>> (((4 : Int32)).toUInt32 &&& Int32.toUInt32 31)).toInt32)) &&& (252645135 : Int32)) + ((((((((x0 - ((((x0).toUInt32 >>> (((1 : Int32)).toUInt32 &&& Int32.toUInt32 31)).toInt32) &&& (1431655765 : Int32))) &&& (858993459 : Int32)) + (((((x0 - ((((x0).toUInt32 >>> (((1 : Int32)).toUInt32 &&& Int32.toUInt32 31)).toInt32) &&& (1431655765 : Int32)))).toUInt32 >>> (((2 : Int32)).toUInt32 &&& Int32.toUInt32 31)).toInt32) &&& (858993459 : Int32))) + ((((((x0 - ((((x0).toUInt32 >>> (((1 : Int32)).toUInt32 &&& Int32.toUInt32 31)).toInt32) &&& (1431655765 : Int32))) &&& (858993459 : Int32)) + (((((x0 - ((((x0).toUInt32 >>> (((1 : Int32)).toUInt32 &&& Int32.toUInt32 31)).toInt32) &&& (1431655765 : Int32)))).toUInt32 >>> (((2 : Int32)).toUInt32 &&& Int32.toUInt32 31)).toInt32) &&& (858993459 : Int32)))).toUInt32 >>> (((4 : Int32)).toUInt32 &&& Int32.toUInt32 31)).toInt32)) &&& (252645135 : Int32))).toUInt32 >>> (((8 : Int32)).toUInt32 &&& Int32.toUInt32 31)).toInt32)) + (((((((((x0 - ((((x0).toUInt32 >>> (((1 : Int32)).toUInt32 &&& Int32.toUInt32 31)).toInt32) &&& (1431655765 : Int32))) &&& (858993459 : Int32)) + (((((x0 - ((((x0).toUInt32 >>> (((1 : Int32)).toUInt32 &&& Int32.toUInt32 31)).toInt32) &&& (1431655765 : Int32)))).toUInt32 >>> (((2 : Int32)).toUInt32 &&& Int32.toUInt32 31)).toInt32) &&& (858993459 : Int32))) + ((((((x0 - ((((x0).toUInt32 >>> (((1 : Int32)).toUInt32 &&& Int32.toUInt32 31)).toInt32) &&& (1431655765 : Int32))) &&& (858993459 : Int32)) + (((((x0 - ((((x0).toUInt32 >>> (((1 : Int32)).toUInt32 &&& Int32.toUInt32 31)).toInt32) &&& (1431655765 : Int32)))).toUInt32 >>> (((2 : Int32)).toUInt32 &&& Int32.toUInt32 31)).toInt32) &&& (858993459 : Int32)))).toUInt32 >>> (((4 : Int32)).toUInt32 &&& Int32.toUInt32 31)).toInt32)) &&& (252645135 : Int32)) + ((((((((x0 - ((((x0).toUInt32 >>> (((1 : Int32)).toUInt32 &&& Int32.toUInt32 31)).toInt32) &&& (1431655765 : Int32))) &&& (858993459 : Int32)) + (((((x0 - ((((x0).toUInt32 >>> (((1 : Int32)).toUInt32 &&& Int32.toUInt32 31)).toInt32) &&& (1431655765 : Int32)))).toUInt32 >>> (((2 : Int32)).toUInt32 &&& Int32.toUInt32 31)).toInt32) &&& (858993459 : Int32))) + ((((((x0 - ((((x0).toUInt32 >>> (((1 : Int32)).toUInt32 &&& Int32.toUInt32 31)).toInt32) &&& (1431655765 : Int32))) &&& (858993459 : Int32)) + (((((x0 - ((((x0).toUInt32 >>> (((1 : Int32)).toUInt32 &&& Int32.toUInt32 31)).toInt32) &&& (1431655765 : Int32)))).toUInt32 >>> (((2 : Int32)).toUInt32 &&& Int32.toUInt32 31)).toInt32) &&& (858993459 : Int32)))).toUInt32 >>> (((4 : Int32)).toUInt32 &&& Int32.toUInt32 31)).toInt32)) &&& (252645135 : Int32))).toUInt32 >>> (((8 : Int32)).toUInt32 &&& Int32.toUInt32 31)).toInt32))).toUInt32 >>> (((16 : Int32)).toUInt32 &&& Int32.toUInt32 31)).toInt32)) &&& (63 : Int32))
def pcn (s : Nat) : Nat := s % 2 + s / 2 % 2 + s / 4 % 2 + s / 8 % 2 + s / 16 % 2 + s / 32 % 2 + s / 64 % 2 + s / 128 % 2
theorem bcE_n : ∀ s, s < 256 → bcE (nI s) = nI (pcn s) := by decide +kernel
section LEAF
variable {μ : MM} {sc : RE} {S : SS}
theorem bitCount_s {s : Nat} (h : s < 256) : Rc 250 [.int (nI s)] μ = some (some (.int (nI (pcn s))), μ) := by
  rw [← bcE_n s h]
  exact Rc_of rfl rfl (B_J6_bitCount_0f7a4_0 μ (nI s) rfl)
theorem isWithin_s (x y : Int32) : Rc 141 [.int x, .int y] μ = some (some (.int (bI (wi x y))), μ) := by
  refine Rc_of rfl rfl (B_X7_isWithin_0 μ x y ?_)
  by_cases h : wi x y
  · rw [if_pos h, rI1, bI_t h]
  · rw [if_neg h, rI0, bI_f h]
theorem hasBit_s {a c : Nat} (ha : a < 2147483648) (h : c < 32) : Rc 142 [.int (nI a), .int (nI c)] μ = some (some (.int (bI (a.testBit c = true))), μ) := by
  refine Rc_of rfl rfl (B_X7_hasBit_0 μ _ _ ?_)
  by_cases hb : a.testBit c = true
  · rw [if_pos ((bit_n ha h).mpr hb), rI1, bI_t hb]
  · rw [if_neg (fun q => hb ((bit_n ha h).mp q)), rI0, bI_f hb]
theorem cell_s (r c : Nat) : Rc 149 [.int (nI r), .int (nI c)] μ = some (some (.int (nI (24 * c + r))), μ) := by
  refine Rc_of rfl rfl (B_X7_cell_0 μ _ _ ?_)
  rw [show (24 : Int32) = nI 24 from rfl, mul_n, nI_add, Nat.mul_comm]
/-- nextForce: the first law in force that has more to tell -/
def nfP (S : SS) (x : Int32) (k : Nat) : Bool := decide (wi (S.2.1 31 k) x ∧ ¬ wi (S.2.1 32 k) x)
def nfA (S : SS) (F : Nat) (x : Int32) : Int32 := if fa_first (nfP S x) F < F then nI (fa_first (nfP S x) F) else -9
theorem nextForce_s {F : Nat} (hF : S.1 29 2 = nI F) (hF40 : F ≤ 40) (x : Int32) : Rc 83 [.ref 29, .int x] (enc sc S) = some (some (.int (nfA S F x)), enc sc S) := by
  refine Rc_of rfl rfl (B_X6_nextForce_0 _ _ _ ?_)
  have h := loop_first (F := F) (p := nfP S x) (G := fun k => Rs 83 2 [.ref 29, .int x, .int (nI k)] [] (enc sc S)) (yes := fun k => (some (.int (nI k)), enc sc S)) (no := (some (.int (-9)), enc sc S)) ?_ ?_ ?_
  · rw [show (0 : Int32) = nI 0 from rfl, h]
    unfold nfA
    split <;> rfl
  · refine B_X6_nextForce_2 _ _ _ _ ?_
    rw [q_29_2, hF, if_pos (nI_le (by omega) (by omega))]
  · intro k hk hp
    have hp := of_decide_eq_true hp
    refine B_X6_nextForce_2 _ _ _ _ ?_
    simp only [q_29_2, hF, nI_1]
    rw [if_neg (nI_ge (by omega) (by omega))]
    simp only [q_29_4, a_31 (show k < 40 by omega), isWithin_s, c_Is, if_bI, q_29_5, a_32 (show k < 40 by omega)]
    rw [if_pos hp.1, if_neg hp.2]
  · intro k hk hp r hr
    have hp := of_decide_eq_false hp
    refine B_X6_nextForce_2 _ _ _ _ ?_
    simp only [q_29_2, hF, nI_1]
    rw [if_neg (nI_ge (by omega) (by omega))]
    simp only [q_29_4, a_31 (show k < 40 by omega), isWithin_s, c_Is, if_bI, q_29_5, a_32 (show k < 40 by omega)]
    split
    · next h1 =>
      rw [if_pos (Classical.byContradiction fun h2 => hp ⟨h1, h2⟩)]
      exact hr
    · exact hr
end LEAF
