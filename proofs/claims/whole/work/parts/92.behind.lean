/-! THE ORDER of values, here and there -/
def rk (l : Nat) (v : Int64) : Int64 := if l = 5 ∧ v < 0 then v ^^^ 9223372036854775807 else v
abbrev bh (l : Nat) (u v : Int64) : Prop := ¬ rk l u ≤ rk l v
section BEH
variable {sc : RE} {S : SS} {μ : MM}
theorem rankOf_s {l : Nat} (hl : l < 6) (v : Int64) : Rc 152 [.int (nI l), .long v] μ = some (some (.long (rk l v)), μ) := by
  refine Rc_of rfl rfl (B_X7_rankOf_0 μ _ _ ?_)
  unfold rk
  have h0 : (0 ≤ lg_cmp v 0) ↔ ¬ v < 0 := by
    rw [lg_cmp_ge]
    rw [fa_le64, fa_lt64]
    omega
  by_cases e : l = 5
  · subst e
    rw [if_pos (show nI 5 = (5 : Int32) from rfl)]
    by_cases q : v < 0
    · rw [if_neg (fun z => h0.mp z q), if_pos ⟨rfl, q⟩]
    · rw [if_pos (h0.mpr q), if_neg (fun z => q z.2)]
  · rw [if_neg (show ¬ nI l = (5 : Int32) from fun z => e (nI_inj (b := 5) (by omega) (by decide) z)), if_neg (fun z => e z.1)]
theorem uN_not (x : Int64) : uN (x ^^^ (-1)) = 18446744073709551615 - uN x := by
  have h : (x ^^^ (-1 : Int64)).toBitVec = ~~~ x.toBitVec := by
    rw [Int64.toBitVec_xor, show (-1 : Int64).toBitVec = BitVec.allOnes 64 by decide, BitVec.xor_allOnes]
  show (x ^^^ (-1 : Int64)).toBitVec.toNat = 18446744073709551615 - x.toBitVec.toNat
  rw [h, BitVec.toNat_not]
theorem uN_max (x : Int64) : uN (x ^^^ 9223372036854775807) = 18446744073709551615 - (uN x + 9223372036854775808) % 18446744073709551616 := by
  have e : x ^^^ (9223372036854775807 : Int64) = (x ^^^ (-9223372036854775808)) ^^^ (-1) := by
    rw [Int64.xor_assoc]
    congr 1
  rw [e, uN_not, uN_xor]
theorem rk_int {x : Int64} : (rk 5 x).toInt = if 9223372036854775808 ≤ uN x then (9223372036854775807 : Int) - uN x else (uN x : Int) := by
  have hx := uN_lt x
  have h1 := uN_int x
  have h2 : x < 0 ↔ 9223372036854775808 ≤ uN x := by
    rw [fa_lt64, h1, show (0 : Int64).toInt = 0 by decide]
    split <;> omega
  unfold rk
  by_cases q : x < 0
  · rw [if_pos ⟨rfl, q⟩, if_pos (h2.mp q), uN_int, uN_max]
    have := h2.mp q
    split <;> omega
  · rw [if_neg (fun z => q z.2), if_neg (fun z => q (h2.mpr z)), h1]
    have : ¬ 9223372036854775808 ≤ uN x := fun z => q (h2.mpr z)
    rw [if_pos (by omega)]
/-- bits of one kind -/
theorem can_iff {v : Int64} (h : bitsC v = v) : v = 9221120237041090560 ∨ (uN v % 9223372036854775808 ≤ 9218868437227405312 ∧ ¬ uN v = 9223372036854775808) := by
  unfold bitsC at h
  have e1 : uN (v &&& 9223372036854775807) = uN v % 9223372036854775808 := by
    show (v &&& (9223372036854775807 : Int64)).toBitVec.toNat = v.toBitVec.toNat % 9223372036854775808
    rw [Int64.toBitVec_and, BitVec.toNat_and, show (9223372036854775807 : Int64).toBitVec.toNat = 2 ^ 63 - 1 by decide, Nat.and_two_pow_sub_one_eq_mod]
  by_cases q : lg_cmp (v &&& 9223372036854775807) 9218868437227405312 ≤ 0
  · rw [if_pos q] at h
    right
    have q1 := (lg_cmp_le _ _).mp q
    rw [fa_le64, uN_int, e1, show (9218868437227405312 : Int64).toInt = 9218868437227405312 by decide] at q1
    have hm : uN v % 9223372036854775808 < 9223372036854775808 := Nat.mod_lt _ (by decide)
    rw [if_pos (by omega)] at q1
    refine ⟨by omega, fun z => ?_⟩
    have ev : v = -9223372036854775808 := uN_inj (by rw [z]; decide)
    rw [if_pos ev] at h
    rw [ev] at h
    exact absurd h (by decide)
  · rw [if_neg q] at h
    exact Or.inl h.symm
theorem val_ne {v : Int64} (h : uN v % 9223372036854775808 ≤ 9218868437227405312) : FP.Core.val64 v.toUInt64 ≠ .nan := (FP.Core.ne_nan _).mpr h
theorem dk_rk {u v : Int64} (hu : ¬ uN u = 9223372036854775808) (hv : ¬ uN v = 9223372036854775808) : FP.Core.dkey v.toUInt64 < FP.Core.dkey u.toUInt64 ↔ bh 5 u v := by
  have eu : FP.Core.dkey u.toUInt64 = if 9223372036854775808 ≤ uN u then (9223372036854775808 : Int) - uN u else (uN u : Int) := rfl
  have ev : FP.Core.dkey v.toUInt64 = if 9223372036854775808 ≤ uN v then (9223372036854775808 : Int) - uN v else (uN v : Int) := rfl
  unfold bh
  rw [fa_le64, rk_int, rk_int, eu, ev]
  split <;> split <;> omega
theorem snl_f {v : Int64} (h : uN v % 9223372036854775808 ≤ 9218868437227405312) : vn_snl2d v = false := by
  unfold vn_snl2d
  have : ¬ (v.toUInt64 &&& 0x7fffffffffffffff > 0x7ff0000000000000) := by
    intro z
    have z1 : (0x7ff0000000000000 : UInt64).toNat < (v.toUInt64 &&& 0x7fffffffffffffff).toNat := z
    rw [UInt64.toNat_and, show (0x7fffffffffffffff : UInt64).toNat = 2 ^ 63 - 1 by decide, Nat.and_two_pow_sub_one_eq_mod, show (0x7ff0000000000000 : UInt64).toNat = 9218868437227405312 by decide] at z1
    have h' : v.toUInt64.toNat % 9223372036854775808 ≤ 9218868437227405312 := h
    omega
  rw [decide_eq_false this]
  rfl
theorem isNumber_s {l : Nat} (hl : l < 6) (v : Int64) : Rc 167 [.int (nI l), .long v] μ = some (some (.int (bI (l ≠ 5 ∨ ¬ v = 9221120237041090560))), μ) := by
  refine Rc_of rfl rfl (B_X8_isNumber_0 μ _ _ ?_)
  by_cases e : l = 5
  · subst e
    rw [if_neg (by decide)]
    by_cases q : v = 9221120237041090560
    · rw [if_pos (by rw [lg0]; exact q), rI0, bI_f (fun z => z.elim (fun z => z rfl) (fun z => z q))]
    · rw [if_neg (by rw [lg0]; exact q), rI1, bI_t (Or.inr q)]
  · rw [if_pos (by rw [show (5 : Int32) = nI 5 from rfl, lt_T (by omega) (by decide)]; trivial), rI1, bI_t (Or.inl e)]
theorem nan_top {v : Int64} (h : uN v % 9223372036854775808 ≤ 9218868437227405312) : bh 5 9221120237041090560 v ∧ ¬ bh 5 v 9221120237041090560 := by
  have e : uN (9221120237041090560 : Int64) = 9221120237041090560 := by decide
  have hv := uN_lt v
  unfold bh
  rw [fa_le64, fa_le64, rk_int, rk_int, e]
  constructor
  · split <;> split <;> omega
  · split <;> split <;> omega
theorem isBehindM_s {l : Nat} (hl : l < 6) {u v : Int64} (hu : l = 5 → bitsC u = u) (hv : l = 5 → bitsC v = v) : Rc 168 [.int (nI l), .long u, .long v] μ = some (some (.int (bI (bh l u v))), μ) := by
  refine Rc_of rfl rfl (B_X8_isBehind_0 μ _ _ _ ?_)
  by_cases e : l = 5
  · subst e
    rcases can_iff (hu rfl) with ru | ⟨ru, ru'⟩
    · have nu : ¬ (5 ≠ 5 ∨ ¬ u = 9221120237041090560) := fun z => z.elim (fun z => z rfl) (fun z => z ru)
      rw [cI (isNumber_s (by decide) u), if_bI, if_neg nu, cI (isNumber_s (by decide) u), if_bI, if_neg nu, cI (isNumber_s (by decide) v), if_bI]
      rcases can_iff (hv rfl) with rv | ⟨rv, rv'⟩
      · have nv : ¬ (5 ≠ 5 ∨ ¬ v = 9221120237041090560) := fun z => z.elim (fun z => z rfl) (fun z => z rv)
        rw [if_neg nv, rI0, bI_f]
        rw [ru, rv]
        exact fun z => z (by rw [fa_le64]; omega)
      · have nv : (5 ≠ 5 ∨ ¬ v = 9221120237041090560) := Or.inr fun z => by rw [z] at rv; exact absurd rv (by decide)
        rw [if_pos nv, rI1, bI_t]
        rw [ru]
        exact (nan_top rv).1
    · have nu : (5 ≠ 5 ∨ ¬ u = 9221120237041090560) := Or.inr fun z => by rw [z] at ru; exact absurd ru (by decide)
      rw [cI (isNumber_s (by decide) u), if_bI, if_pos nu, cI (isNumber_s (by decide) v), if_bI]
      rcases can_iff (hv rfl) with rv | ⟨rv, rv'⟩
      · have nv : ¬ (5 ≠ 5 ∨ ¬ v = 9221120237041090560) := fun z => z.elim (fun z => z rfl) (fun z => z rv)
        rw [if_neg nv, cI (isNumber_s (by decide) u), if_bI, if_pos nu, rI0, bI_f]
        rw [rv]
        exact (nan_top ru).2
      · have nv : (5 ≠ 5 ∨ ¬ v = 9221120237041090560) := Or.inr fun z => by rw [z] at rv; exact absurd rv (by decide)
        have hr1 : c_room [] = true := by decide
        have hr2 : c_room [.double u.toUInt64] = true := rfl
        have ed : FP.dcmp u.toUInt64 v.toUInt64 = some (compare (FP.Core.dkey u.toUInt64) (FP.Core.dkey v.toUInt64)) := FP.Core.dcmp_key (val_ne ru) (val_ne rv)
        rw [if_pos nv, if_pos (show (5 : Int32) ≤ nI 5 by decide), if_pos ⟨hr1, snl_f ru⟩, if_pos ⟨hr2, snl_f rv⟩, ed]
        have hk := dk_rk ru' rv'
        by_cases q : bh 5 u v
        · have hg : compare (FP.Core.dkey u.toUInt64) (FP.Core.dkey v.toUInt64) = .gt := (FP.Core.compare_gt_iff _ _).mpr (hk.mpr q)
          rw [hg, bI_t q, if_neg (by decide), rI1]
        · have hng : ¬ compare (FP.Core.dkey u.toUInt64) (FP.Core.dkey v.toUInt64) = .gt := fun z => q (hk.mp ((FP.Core.compare_gt_iff _ _).mp z))
          rw [bI_f q]
          cases hcc : compare (FP.Core.dkey u.toUInt64) (FP.Core.dkey v.toUInt64) with
          | lt => rw [if_pos (by decide), rI0]
          | eq => rw [if_pos (by decide), rI0]
          | gt => exact absurd hcc hng
  · have nu : ∀ x : Int64, (l ≠ 5 ∨ ¬ x = 9221120237041090560) := fun _ => Or.inl e
    have hrk : ∀ x, rk l x = x := fun x => if_neg (fun z => e z.1)
    rw [cI (isNumber_s hl u), if_bI, if_pos (nu u), cI (isNumber_s hl v), if_bI, if_pos (nu v), if_neg (by rw [show (5 : Int32) = nI 5 from rfl, le_F (by omega) (by decide)]; exact id)]
    by_cases q : bh l u v
    · have q' : ¬ u ≤ v := by have := q; unfold bh at this; rw [hrk, hrk] at this; exact this
      rw [if_neg (fun z => q' ((lg_cmp_le _ _).mp z)), rI1, bI_t q]
    · have q' : u ≤ v := Classical.byContradiction fun z => q (by unfold bh; rw [hrk, hrk]; exact z)
      rw [if_pos ((lg_cmp_le _ _).mpr q'), rI0, bI_f q]
theorem isBehind_s {a c l i j : Nat} (ha : IsT a) (hl : l < 6) (hc : c < 8) (hL : S.2.1 (a + 1) c = nI l) (hi : i < 24) (hj : j < 24) : Rc 17 [.ref 23, .ref a, .int (nI c), .int (nI i), .int (nI j)] (enc sc S) = some (some (.int (bI (bh l (S.2.2 (a + 2) (24 * c + i)) (S.2.2 (a + 2) (24 * c + j))))), enc sc S) := by
  refine Rc_of rfl rfl (B_X1_isBehind_0 _ _ _ _ _ _ ?_)
  rw [q_T_4 ha, a_T1 ha hc, hL, o_T ha, cJ (valueOf_s ha (show 24 * c + i < 192 by omega)), cJ (rankOf_s hl _), o_T ha, cJ (valueOf_s ha (show 24 * c + j < 192 by omega)), cJ (rankOf_s hl _)]
  by_cases q : bh l (S.2.2 (a + 2) (24 * c + i)) (S.2.2 (a + 2) (24 * c + j))
  · rw [if_neg (fun z => q ((lg_cmp_le _ _).mp z)), rI1, bI_t q]
  · rw [if_pos ((lg_cmp_le _ _).mpr (Classical.byContradiction q)), rI0, bI_f q]
end BEH
