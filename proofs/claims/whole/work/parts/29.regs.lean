/-! registers, one by one -/
def bI (p : Prop) [Decidable p] : Int32 := if p then 1 else 0
theorem c_Is {x : Int32} {μ : MM} {K : Int32 → MM → Option RT} : c_I (some (some (.int x), μ)) K = K x μ := rfl
theorem c_Js {x : Int64} {μ : MM} {K : Int64 → MM → Option RT} : c_J (some (some (.long x), μ)) K = K x μ := rfl
theorem c_Vs {μ : MM} {K : MM → Option RT} : c_V (some (none, μ)) K = K μ := rfl
theorem c_An {μ : MM} {kn : MM → Option RT} {K : Nat → MM → Option RT} : c_A (some (some .null, μ)) kn K = kn μ := rfl
theorem c_Ar {a : Nat} {μ : MM} {kn : MM → Option RT} {K : Nat → MM → Option RT} : c_A (some (some (.ref a), μ)) kn K = K a μ := rfl
theorem rI1 {μ : MM} : r_I 1 1 μ = some (some (.int 1), μ) := by simp [r_I]
theorem rI0 {μ : MM} : r_I 1 0 μ = some (some (.int 0), μ) := by simp [r_I]
theorem rIb {p : Prop} [Decidable p] {μ : MM} : r_I 1 (bI p) μ = some (some (.int (bI p)), μ) := by
  unfold bI
  split
  · exact rI1
  · exact rI0
theorem bI_eq0 {p : Prop} [Decidable p] : (bI p = 0) = ¬ p := by
  unfold bI
  split <;> simp_all
theorem bI_01 {p : Prop} [Decidable p] : bI p = 0 ∨ bI p = 1 := by
  unfold bI
  split <;> simp
theorem if_bI {p : Prop} [Decidable p] {A B : Option RT} : (if bI p = 0 then A else B) = (if p then B else A) := by
  by_cases h : p <;> simp [bI, h]
theorem bI_t {p : Prop} [Decidable p] (h : p) : bI p = 1 := by simp [bI, h]
theorem bI_f {p : Prop} [Decidable p] (h : ¬ p) : bI p = 0 := by simp [bI, h]
theorem bI_iff {p q : Prop} [Decidable p] [Decidable q] (h : p ↔ q) : bI p = bI q := by
  by_cases hp : p
  · rw [bI_t hp, bI_t (h.mp hp)]
  · rw [bI_f hp, bI_f (fun q => hp (h.mpr q))]
theorem mm_in_n {k n : Nat} (h : k < n) (hn : n < 2147483648) : mm_in (nI k) n = true := by
  have h1 := nI_clamp (n := k) (by omega)
  have h2 := nI_pos (n := k) (by omega)
  simp [mm_in, h1, h2, h]
def IsT (a : Nat) : Prop := a = 2 ∨ a = 6 ∨ a = 10 ∨ a = 14
section REG
variable {sc : RE} {S : SS}
theorem o_0 {t : List Value} {q : Option RT} : c_O (enc sc S) (.ref 0 :: t) 7 q = q := en_cO rfl
theorem q_0_0 {K : Nat → Option RT} : g_R (enc sc S) 0 7 0 K = K 1 := en_gR rfl rfl K
theorem q_0_1 {K : Nat → Option RT} : g_R (enc sc S) 0 7 1 K = K 18 := en_gR rfl rfl K
theorem q_0_2 {K : Nat → Option RT} : g_R (enc sc S) 0 7 2 K = K 23 := en_gR rfl rfl K
theorem q_0_3 {K : Nat → Option RT} : g_R (enc sc S) 0 7 3 K = K 24 := en_gR rfl rfl K
theorem q_0_4 {K : Nat → Option RT} : g_R (enc sc S) 0 7 4 K = K 29 := en_gR rfl rfl K
theorem q_0_5 {K : Nat → Option RT} : g_R (enc sc S) 0 7 5 K = K 36 := en_gR rfl rfl K
theorem q_0_6 {K : Nat → Option RT} : g_R (enc sc S) 0 7 6 K = K 39 := en_gR rfl rfl K
theorem q_0_7 {K : Int32 → Option RT} : g_I (enc sc S) 0 7 7 K = K (S.1 0 7) := en_gI rfl rfl K
theorem w_0_7 {x : Int32} {K : MM → Option RT} : p_F (enc sc S) 0 7 7 0 (.int x) K = K (enc sc (sF S 0 7 x)) := en_pF rfl rfl rfl K
theorem o_18 {t : List Value} {q : Option RT} : c_O (enc sc S) (.ref 18 :: t) 2 q = q := en_cO rfl
theorem q_18_0 {K : Int32 → Option RT} : g_I (enc sc S) 18 2 0 K = K (S.1 18 0) := en_gI rfl rfl K
theorem w_18_0 {x : Int32} {K : MM → Option RT} : p_F (enc sc S) 18 2 0 0 (.int x) K = K (enc sc (sF S 18 0 x)) := en_pF rfl rfl rfl K
theorem q_18_1 {K : Nat → Option RT} : g_R (enc sc S) 18 2 1 K = K 19 := en_gR rfl rfl K
theorem q_18_2 {K : Nat → Option RT} : g_R (enc sc S) 18 2 2 K = K 20 := en_gR rfl rfl K
theorem q_18_3 {K : Nat → Option RT} : g_R (enc sc S) 18 2 3 K = K 21 := en_gR rfl rfl K
theorem q_18_4 {K : Nat → Option RT} : g_R (enc sc S) 18 2 4 K = K 22 := en_gR rfl rfl K
theorem a_19 {i : Nat} {K : Int32 → Option RT} (h : i < 40) : a_I (enc sc S) 19 (nI i) K = K (S.2.1 19 i) := by
  rw [en_aI (n := 40) rfl (mm_in_n h (by decide)), nI_clamp (by omega)]
theorem s_19 {i : Nat} {x : Int32} {K : MM → Option RT} (h : i < 40) : w_I (enc sc S) 19 (nI i) x K = K (enc sc (sA S 19 i x)) := by
  rw [en_wI (n := 40) rfl (mm_in_n h (by decide)), nI_clamp (by omega)]
theorem a_20 {i : Nat} {K : Int32 → Option RT} (h : i < 40) : a_I (enc sc S) 20 (nI i) K = K (S.2.1 20 i) := by
  rw [en_aI (n := 40) rfl (mm_in_n h (by decide)), nI_clamp (by omega)]
theorem s_20 {i : Nat} {x : Int32} {K : MM → Option RT} (h : i < 40) : w_I (enc sc S) 20 (nI i) x K = K (enc sc (sA S 20 i x)) := by
  rw [en_wI (n := 40) rfl (mm_in_n h (by decide)), nI_clamp (by omega)]
theorem a_21 {i : Nat} {K : Int32 → Option RT} (h : i < 40) : a_I (enc sc S) 21 (nI i) K = K (S.2.1 21 i) := by
  rw [en_aI (n := 40) rfl (mm_in_n h (by decide)), nI_clamp (by omega)]
theorem s_21 {i : Nat} {x : Int32} {K : MM → Option RT} (h : i < 40) : w_I (enc sc S) 21 (nI i) x K = K (enc sc (sA S 21 i x)) := by
  rw [en_wI (n := 40) rfl (mm_in_n h (by decide)), nI_clamp (by omega)]
theorem a_22 {i : Nat} {K : Int32 → Option RT} (h : i < 40) : a_B (enc sc S) 22 (nI i) K = K (S.2.1 22 i) := by
  rw [en_aB (t := 3) (n := 40) rfl (by decide) (mm_in_n h (by decide)), nI_clamp (by omega)]
theorem s_22 {i : Nat} {x : Int32} {K : MM → Option RT} (h : i < 40) (hx : x = 0 ∨ x = 1) : w_B (enc sc S) 22 (nI i) x K = K (enc sc (sA S 22 i x)) := by
  rw [en_wB (t := 3) (n := 40) rfl (by decide) (mm_in_n h (by decide)) hx, nI_clamp (by omega)]
theorem o_23 {t : List Value} {q : Option RT} : c_O (enc sc S) (.ref 23 :: t) 1 q = q := en_cO rfl
theorem q_23_0 {K : Int32 → Option RT} : g_I (enc sc S) 23 1 0 K = K (S.1 23 0) := en_gI rfl rfl K
theorem w_23_0 {x : Int32} {K : MM → Option RT} : p_F (enc sc S) 23 1 0 0 (.int x) K = K (enc sc (sF S 23 0 x)) := en_pF rfl rfl rfl K
theorem q_23_1 {K : Int32 → Option RT} : g_I (enc sc S) 23 1 1 K = K (S.1 23 1) := en_gI rfl rfl K
theorem w_23_1 {x : Int32} {K : MM → Option RT} : p_F (enc sc S) 23 1 1 0 (.int x) K = K (enc sc (sF S 23 1 x)) := en_pF rfl rfl rfl K
theorem o_24 {t : List Value} {q : Option RT} : c_O (enc sc S) (.ref 24 :: t) 4 q = q := en_cO rfl
theorem q_24_0 {K : Int32 → Option RT} : g_I (enc sc S) 24 4 0 K = K (S.1 24 0) := en_gI rfl rfl K
theorem w_24_0 {x : Int32} {K : MM → Option RT} : p_F (enc sc S) 24 4 0 0 (.int x) K = K (enc sc (sF S 24 0 x)) := en_pF rfl rfl rfl K
theorem q_24_1 {K : Nat → Option RT} : g_R (enc sc S) 24 4 1 K = K 25 := en_gR rfl rfl K
theorem q_24_2 {K : Nat → Option RT} : g_R (enc sc S) 24 4 2 K = K 26 := en_gR rfl rfl K
theorem q_24_3 {K : Int32 → Option RT} : g_I (enc sc S) 24 4 3 K = K (S.1 24 3) := en_gI rfl rfl K
theorem w_24_3 {x : Int32} {K : MM → Option RT} : p_F (enc sc S) 24 4 3 0 (.int x) K = K (enc sc (sF S 24 3 x)) := en_pF rfl rfl rfl K
theorem q_24_4 {K : Nat → Option RT} : g_R (enc sc S) 24 4 4 K = K 27 := en_gR rfl rfl K
theorem q_24_5 {K : Nat → Option RT} : g_R (enc sc S) 24 4 5 K = K 28 := en_gR rfl rfl K
theorem a_25 {i : Nat} {K : Int32 → Option RT} (h : i < 280) : a_I (enc sc S) 25 (nI i) K = K (S.2.1 25 i) := by
  rw [en_aI (n := 280) rfl (mm_in_n h (by decide)), nI_clamp (by omega)]
theorem s_25 {i : Nat} {x : Int32} {K : MM → Option RT} (h : i < 280) : w_I (enc sc S) 25 (nI i) x K = K (enc sc (sA S 25 i x)) := by
  rw [en_wI (n := 280) rfl (mm_in_n h (by decide)), nI_clamp (by omega)]
theorem a_26 {i : Nat} {K : Int32 → Option RT} (h : i < 280) : a_I (enc sc S) 26 (nI i) K = K (S.2.1 26 i) := by
  rw [en_aI (n := 280) rfl (mm_in_n h (by decide)), nI_clamp (by omega)]
theorem s_26 {i : Nat} {x : Int32} {K : MM → Option RT} (h : i < 280) : w_I (enc sc S) 26 (nI i) x K = K (enc sc (sA S 26 i x)) := by
  rw [en_wI (n := 280) rfl (mm_in_n h (by decide)), nI_clamp (by omega)]
theorem a_27 {i : Nat} {K : Int32 → Option RT} (h : i < 276) : a_I (enc sc S) 27 (nI i) K = K (S.2.1 27 i) := by
  rw [en_aI (n := 276) rfl (mm_in_n h (by decide)), nI_clamp (by omega)]
theorem s_27 {i : Nat} {x : Int32} {K : MM → Option RT} (h : i < 276) : w_I (enc sc S) 27 (nI i) x K = K (enc sc (sA S 27 i x)) := by
  rw [en_wI (n := 276) rfl (mm_in_n h (by decide)), nI_clamp (by omega)]
theorem a_28 {i : Nat} {K : Int32 → Option RT} (h : i < 256) : a_B (enc sc S) 28 (nI i) K = K (S.2.1 28 i) := by
  rw [en_aB (t := 3) (n := 256) rfl (by decide) (mm_in_n h (by decide)), nI_clamp (by omega)]
theorem s_28 {i : Nat} {x : Int32} {K : MM → Option RT} (h : i < 256) (hx : x = 0 ∨ x = 1) : w_B (enc sc S) 28 (nI i) x K = K (enc sc (sA S 28 i x)) := by
  rw [en_wB (t := 3) (n := 256) rfl (by decide) (mm_in_n h (by decide)) hx, nI_clamp (by omega)]
theorem o_29 {t : List Value} {q : Option RT} : c_O (enc sc S) (.ref 29 :: t) 6 q = q := en_cO rfl
theorem q_29_0 {K : Int32 → Option RT} : g_I (enc sc S) 29 6 0 K = K (S.1 29 0) := en_gI rfl rfl K
theorem w_29_0 {x : Int32} {K : MM → Option RT} : p_F (enc sc S) 29 6 0 0 (.int x) K = K (enc sc (sF S 29 0 x)) := en_pF rfl rfl rfl K
theorem q_29_1 {K : Int32 → Option RT} : g_I (enc sc S) 29 6 1 K = K (S.1 29 1) := en_gI rfl rfl K
theorem w_29_1 {x : Int32} {K : MM → Option RT} : p_F (enc sc S) 29 6 1 0 (.int x) K = K (enc sc (sF S 29 1 x)) := en_pF rfl rfl rfl K
theorem q_29_2 {K : Int32 → Option RT} : g_I (enc sc S) 29 6 2 K = K (S.1 29 2) := en_gI rfl rfl K
theorem w_29_2 {x : Int32} {K : MM → Option RT} : p_F (enc sc S) 29 6 2 0 (.int x) K = K (enc sc (sF S 29 2 x)) := en_pF rfl rfl rfl K
theorem q_29_3 {K : Nat → Option RT} : g_R (enc sc S) 29 6 3 K = K 30 := en_gR rfl rfl K
theorem q_29_4 {K : Nat → Option RT} : g_R (enc sc S) 29 6 4 K = K 31 := en_gR rfl rfl K
theorem q_29_5 {K : Nat → Option RT} : g_R (enc sc S) 29 6 5 K = K 32 := en_gR rfl rfl K
theorem q_29_6 {K : Nat → Option RT} : g_R (enc sc S) 29 6 6 K = K 33 := en_gR rfl rfl K
theorem q_29_7 {K : Int32 → Option RT} : g_I (enc sc S) 29 6 7 K = K (S.1 29 7) := en_gI rfl rfl K
theorem w_29_7 {x : Int32} {K : MM → Option RT} : p_F (enc sc S) 29 6 7 0 (.int x) K = K (enc sc (sF S 29 7 x)) := en_pF rfl rfl rfl K
theorem q_29_8 {K : Nat → Option RT} : g_R (enc sc S) 29 6 8 K = K 34 := en_gR rfl rfl K
theorem q_29_9 {K : Int32 → Option RT} : g_I (enc sc S) 29 6 9 K = K (S.1 29 9) := en_gI rfl rfl K
theorem w_29_9 {x : Int32} {K : MM → Option RT} (h : x = 0 ∨ x = 1) : p_F (enc sc S) 29 6 9 1 (.int x) K = K (enc sc (sF S 29 9 x)) := en_pF rfl rfl (by rcases h with rfl | rfl <;> rfl) K
theorem q_29_10 {K : Int32 → Option RT} : g_I (enc sc S) 29 6 10 K = K (S.1 29 10) := en_gI rfl rfl K
theorem w_29_10 {x : Int32} {K : MM → Option RT} : p_F (enc sc S) 29 6 10 0 (.int x) K = K (enc sc (sF S 29 10 x)) := en_pF rfl rfl rfl K
theorem q_29_11 {K : Nat → Option RT} : g_R (enc sc S) 29 6 11 K = K 35 := en_gR rfl rfl K
theorem a_30 {i : Nat} {K : Int32 → Option RT} (h : i < 40) : a_I (enc sc S) 30 (nI i) K = K (S.2.1 30 i) := by
  rw [en_aI (n := 40) rfl (mm_in_n h (by decide)), nI_clamp (by omega)]
theorem s_30 {i : Nat} {x : Int32} {K : MM → Option RT} (h : i < 40) : w_I (enc sc S) 30 (nI i) x K = K (enc sc (sA S 30 i x)) := by
  rw [en_wI (n := 40) rfl (mm_in_n h (by decide)), nI_clamp (by omega)]
theorem a_31 {i : Nat} {K : Int32 → Option RT} (h : i < 40) : a_I (enc sc S) 31 (nI i) K = K (S.2.1 31 i) := by
  rw [en_aI (n := 40) rfl (mm_in_n h (by decide)), nI_clamp (by omega)]
theorem s_31 {i : Nat} {x : Int32} {K : MM → Option RT} (h : i < 40) : w_I (enc sc S) 31 (nI i) x K = K (enc sc (sA S 31 i x)) := by
  rw [en_wI (n := 40) rfl (mm_in_n h (by decide)), nI_clamp (by omega)]
theorem a_32 {i : Nat} {K : Int32 → Option RT} (h : i < 40) : a_I (enc sc S) 32 (nI i) K = K (S.2.1 32 i) := by
  rw [en_aI (n := 40) rfl (mm_in_n h (by decide)), nI_clamp (by omega)]
theorem s_32 {i : Nat} {x : Int32} {K : MM → Option RT} (h : i < 40) : w_I (enc sc S) 32 (nI i) x K = K (enc sc (sA S 32 i x)) := by
  rw [en_wI (n := 40) rfl (mm_in_n h (by decide)), nI_clamp (by omega)]
theorem a_33 {i : Nat} {K : Int32 → Option RT} (h : i < 256) : a_I (enc sc S) 33 (nI i) K = K (S.2.1 33 i) := by
  rw [en_aI (n := 256) rfl (mm_in_n h (by decide)), nI_clamp (by omega)]
theorem s_33 {i : Nat} {x : Int32} {K : MM → Option RT} (h : i < 256) : w_I (enc sc S) 33 (nI i) x K = K (enc sc (sA S 33 i x)) := by
  rw [en_wI (n := 256) rfl (mm_in_n h (by decide)), nI_clamp (by omega)]
theorem a_34 {i : Nat} {K : Int32 → Option RT} (h : i < 8) : a_I (enc sc S) 34 (nI i) K = K (S.2.1 34 i) := by
  rw [en_aI (n := 8) rfl (mm_in_n h (by decide)), nI_clamp (by omega)]
theorem s_34 {i : Nat} {x : Int32} {K : MM → Option RT} (h : i < 8) : w_I (enc sc S) 34 (nI i) x K = K (enc sc (sA S 34 i x)) := by
  rw [en_wI (n := 8) rfl (mm_in_n h (by decide)), nI_clamp (by omega)]
theorem a_35 {i : Nat} {K : Int32 → Option RT} (h : i < 70) : a_I (enc sc S) 35 (nI i) K = K (S.2.1 35 i) := by
  rw [en_aI (n := 70) rfl (mm_in_n h (by decide)), nI_clamp (by omega)]
theorem s_35 {i : Nat} {x : Int32} {K : MM → Option RT} (h : i < 70) : w_I (enc sc S) 35 (nI i) x K = K (enc sc (sA S 35 i x)) := by
  rw [en_wI (n := 70) rfl (mm_in_n h (by decide)), nI_clamp (by omega)]
theorem o_36 {t : List Value} {q : Option RT} : c_O (enc sc S) (.ref 36 :: t) 0 q = q := en_cO rfl
theorem q_36_0 {K : Nat → Option RT} : g_R (enc sc S) 36 0 0 K = K 29 := en_gR rfl rfl K
theorem q_36_1 {K : Int32 → Option RT} : g_I (enc sc S) 36 0 1 K = K (S.1 36 1) := en_gI rfl rfl K
theorem w_36_1 {x : Int32} {K : MM → Option RT} (h : x = 0 ∨ x = 1) : p_F (enc sc S) 36 0 1 1 (.int x) K = K (enc sc (sF S 36 1 x)) := en_pF rfl rfl (by rcases h with rfl | rfl <;> rfl) K
theorem q_36_2 {K : Int32 → Option RT} : g_I (enc sc S) 36 0 2 K = K (S.1 36 2) := en_gI rfl rfl K
theorem w_36_2 {x : Int32} {K : MM → Option RT} : p_F (enc sc S) 36 0 2 0 (.int x) K = K (enc sc (sF S 36 2 x)) := en_pF rfl rfl rfl K
theorem q_36_3 {K : Nat → Option RT} : g_R (enc sc S) 36 0 3 K = K 37 := en_gR rfl rfl K
theorem q_36_4 {K : Nat → Option RT} : g_R (enc sc S) 36 0 4 K = K 38 := en_gR rfl rfl K
theorem a_37 {i : Nat} {K : Int32 → Option RT} (h : i < 320) : a_I (enc sc S) 37 (nI i) K = K (S.2.1 37 i) := by
  rw [en_aI (n := 320) rfl (mm_in_n h (by decide)), nI_clamp (by omega)]
theorem s_37 {i : Nat} {x : Int32} {K : MM → Option RT} (h : i < 320) : w_I (enc sc S) 37 (nI i) x K = K (enc sc (sA S 37 i x)) := by
  rw [en_wI (n := 320) rfl (mm_in_n h (by decide)), nI_clamp (by omega)]
theorem a_38 {i : Nat} {K : Int32 → Option RT} (h : i < 320) : a_I (enc sc S) 38 (nI i) K = K (S.2.1 38 i) := by
  rw [en_aI (n := 320) rfl (mm_in_n h (by decide)), nI_clamp (by omega)]
theorem s_38 {i : Nat} {x : Int32} {K : MM → Option RT} (h : i < 320) : w_I (enc sc S) 38 (nI i) x K = K (enc sc (sA S 38 i x)) := by
  rw [en_wI (n := 320) rfl (mm_in_n h (by decide)), nI_clamp (by omega)]
theorem o_39 {t : List Value} {q : Option RT} : c_O (enc sc S) (.ref 39 :: t) 3 q = q := en_cO rfl
theorem q_39_0 {K : Nat → Option RT} : g_R (enc sc S) 39 3 0 K = K 29 := en_gR rfl rfl K
theorem q_39_1 {K : Int32 → Option RT} : g_I (enc sc S) 39 3 1 K = K (S.1 39 1) := en_gI rfl rfl K
theorem w_39_1 {x : Int32} {K : MM → Option RT} : p_F (enc sc S) 39 3 1 0 (.int x) K = K (enc sc (sF S 39 1 x)) := en_pF rfl rfl rfl K
theorem q_39_2 {K : Nat → Option RT} : g_R (enc sc S) 39 3 2 K = K 40 := en_gR rfl rfl K
theorem q_39_3 {K : Int32 → Option RT} : g_I (enc sc S) 39 3 3 K = K (S.1 39 3) := en_gI rfl rfl K
theorem w_39_3 {x : Int32} {K : MM → Option RT} : p_F (enc sc S) 39 3 3 0 (.int x) K = K (enc sc (sF S 39 3 x)) := en_pF rfl rfl rfl K
theorem q_39_4 {K : Nat → Option RT} : g_R (enc sc S) 39 3 4 K = K 41 := en_gR rfl rfl K
theorem q_39_5 {K : Nat → Option RT} : g_R (enc sc S) 39 3 5 K = K 42 := en_gR rfl rfl K
theorem a_40 {i : Nat} {K : Int32 → Option RT} (h : i < 12) : a_I (enc sc S) 40 (nI i) K = K (S.2.1 40 i) := by
  rw [en_aI (n := 12) rfl (mm_in_n h (by decide)), nI_clamp (by omega)]
theorem s_40 {i : Nat} {x : Int32} {K : MM → Option RT} (h : i < 12) : w_I (enc sc S) 40 (nI i) x K = K (enc sc (sA S 40 i x)) := by
  rw [en_wI (n := 12) rfl (mm_in_n h (by decide)), nI_clamp (by omega)]
theorem a_41 {i : Nat} {K : Int32 → Option RT} (h : i < 321) : a_I (enc sc S) 41 (nI i) K = K (S.2.1 41 i) := by
  rw [en_aI (n := 321) rfl (mm_in_n h (by decide)), nI_clamp (by omega)]
theorem s_41 {i : Nat} {x : Int32} {K : MM → Option RT} (h : i < 321) : w_I (enc sc S) 41 (nI i) x K = K (enc sc (sA S 41 i x)) := by
  rw [en_wI (n := 321) rfl (mm_in_n h (by decide)), nI_clamp (by omega)]
theorem a_42 {i : Nat} {K : Int32 → Option RT} (h : i < 96) : a_I (enc sc S) 42 (nI i) K = K (S.2.1 42 i) := by
  rw [en_aI (n := 96) rfl (mm_in_n h (by decide)), nI_clamp (by omega)]
theorem s_42 {i : Nat} {x : Int32} {K : MM → Option RT} (h : i < 96) : w_I (enc sc S) 42 (nI i) x K = K (enc sc (sA S 42 i x)) := by
  rw [en_wI (n := 96) rfl (mm_in_n h (by decide)), nI_clamp (by omega)]
theorem o_43 {t : List Value} {q : Option RT} : c_O (enc sc S) (.ref 43 :: t) 8 q = q := en_cO rfl
theorem q_43_0 {K : Int32 → Option RT} : g_I (enc sc S) 43 8 0 K = K (S.1 43 0) := en_gI rfl rfl K
theorem w_43_0 {x : Int32} {K : MM → Option RT} : p_F (enc sc S) 43 8 0 0 (.int x) K = K (enc sc (sF S 43 0 x)) := en_pF rfl rfl rfl K
theorem q_43_1 {K : Nat → Option RT} : g_R (enc sc S) 43 8 1 K = K 44 := en_gR rfl rfl K
theorem q_43_2 {K : Nat → Option RT} : g_R (enc sc S) 43 8 2 K = K 45 := en_gR rfl rfl K
theorem q_43_3 {K : Nat → Option RT} : g_R (enc sc S) 43 8 3 K = K 46 := en_gR rfl rfl K
theorem q_43_4 {K : Nat → Option RT} : g_R (enc sc S) 43 8 4 K = K 47 := en_gR rfl rfl K
theorem q_43_5 {K : Nat → Option RT} : g_R (enc sc S) 43 8 5 K = K 48 := en_gR rfl rfl K
theorem q_43_6 {K : Nat → Option RT} : g_R (enc sc S) 43 8 6 K = K 49 := en_gR rfl rfl K
theorem q_43_7 {K : Nat → Option RT} : g_R (enc sc S) 43 8 7 K = K 50 := en_gR rfl rfl K
theorem q_43_8 {K : Nat → Option RT} : g_R (enc sc S) 43 8 8 K = K 51 := en_gR rfl rfl K
theorem q_43_9 {K : Int32 → Option RT} : g_I (enc sc S) 43 8 9 K = K (S.1 43 9) := en_gI rfl rfl K
theorem w_43_9 {x : Int32} {K : MM → Option RT} : p_F (enc sc S) 43 8 9 0 (.int x) K = K (enc sc (sF S 43 9 x)) := en_pF rfl rfl rfl K
theorem q_43_10 {K : Nat → Option RT} : g_R (enc sc S) 43 8 10 K = K 52 := en_gR rfl rfl K
theorem q_43_11 {K : Nat → Option RT} : g_R (enc sc S) 43 8 11 K = K 53 := en_gR rfl rfl K
theorem q_43_12 {K : Nat → Option RT} : g_R (enc sc S) 43 8 12 K = K 54 := en_gR rfl rfl K
theorem q_43_13 {K : Nat → Option RT} : g_R (enc sc S) 43 8 13 K = K 55 := en_gR rfl rfl K
theorem q_43_14 {K : Int32 → Option RT} : g_I (enc sc S) 43 8 14 K = K (S.1 43 14) := en_gI rfl rfl K
theorem w_43_14 {x : Int32} {K : MM → Option RT} : p_F (enc sc S) 43 8 14 0 (.int x) K = K (enc sc (sF S 43 14 x)) := en_pF rfl rfl rfl K
theorem q_43_15 {K : Int32 → Option RT} : g_I (enc sc S) 43 8 15 K = K (S.1 43 15) := en_gI rfl rfl K
theorem w_43_15 {x : Int32} {K : MM → Option RT} : p_F (enc sc S) 43 8 15 0 (.int x) K = K (enc sc (sF S 43 15 x)) := en_pF rfl rfl rfl K
theorem q_43_16 {K : Nat → Option RT} : g_R (enc sc S) 43 8 16 K = K 56 := en_gR rfl rfl K
theorem q_43_17 {K : Int32 → Option RT} : g_I (enc sc S) 43 8 17 K = K (S.1 43 17) := en_gI rfl rfl K
theorem w_43_17 {x : Int32} {K : MM → Option RT} : p_F (enc sc S) 43 8 17 0 (.int x) K = K (enc sc (sF S 43 17 x)) := en_pF rfl rfl rfl K
theorem q_43_18 {K : Int32 → Option RT} : g_I (enc sc S) 43 8 18 K = K (S.1 43 18) := en_gI rfl rfl K
theorem w_43_18 {x : Int32} {K : MM → Option RT} : p_F (enc sc S) 43 8 18 0 (.int x) K = K (enc sc (sF S 43 18 x)) := en_pF rfl rfl rfl K
theorem q_43_19 {K : Nat → Option RT} : g_R (enc sc S) 43 8 19 K = K 57 := en_gR rfl rfl K
theorem q_43_20 {K : Nat → Option RT} : g_R (enc sc S) 43 8 20 K = K 58 := en_gR rfl rfl K
theorem q_43_21 {K : Nat → Option RT} : g_R (enc sc S) 43 8 21 K = K 59 := en_gR rfl rfl K
theorem q_43_22 {K : Int32 → Option RT} : g_I (enc sc S) 43 8 22 K = K (S.1 43 22) := en_gI rfl rfl K
theorem w_43_22 {x : Int32} {K : MM → Option RT} : p_F (enc sc S) 43 8 22 0 (.int x) K = K (enc sc (sF S 43 22 x)) := en_pF rfl rfl rfl K
theorem q_43_23 {K : Int32 → Option RT} : g_I (enc sc S) 43 8 23 K = K (S.1 43 23) := en_gI rfl rfl K
theorem w_43_23 {x : Int32} {K : MM → Option RT} : p_F (enc sc S) 43 8 23 0 (.int x) K = K (enc sc (sF S 43 23 x)) := en_pF rfl rfl rfl K
theorem q_43_24 {K : Nat → Option RT} : g_R (enc sc S) 43 8 24 K = K 60 := en_gR rfl rfl K
theorem q_43_25 {K : Nat → Option RT} : g_R (enc sc S) 43 8 25 K = K 61 := en_gR rfl rfl K
theorem q_43_26 {K : Int32 → Option RT} : g_I (enc sc S) 43 8 26 K = K (S.1 43 26) := en_gI rfl rfl K
theorem w_43_26 {x : Int32} {K : MM → Option RT} : p_F (enc sc S) 43 8 26 0 (.int x) K = K (enc sc (sF S 43 26 x)) := en_pF rfl rfl rfl K
theorem q_43_27 {K : Nat → Option RT} : g_R (enc sc S) 43 8 27 K = K 62 := en_gR rfl rfl K
theorem q_43_28 {K : Nat → Option RT} : g_R (enc sc S) 43 8 28 K = K 63 := en_gR rfl rfl K
theorem q_43_29 {K : Int32 → Option RT} : g_I (enc sc S) 43 8 29 K = K (S.1 43 29) := en_gI rfl rfl K
theorem w_43_29 {x : Int32} {K : MM → Option RT} : p_F (enc sc S) 43 8 29 0 (.int x) K = K (enc sc (sF S 43 29 x)) := en_pF rfl rfl rfl K
theorem q_43_30 {K : Nat → Option RT} : g_R (enc sc S) 43 8 30 K = K 64 := en_gR rfl rfl K
theorem q_43_31 {K : Nat → Option RT} : g_R (enc sc S) 43 8 31 K = K 65 := en_gR rfl rfl K
theorem q_43_32 {K : Nat → Option RT} : g_R (enc sc S) 43 8 32 K = K 66 := en_gR rfl rfl K
theorem q_43_33 {K : Int32 → Option RT} : g_I (enc sc S) 43 8 33 K = K (S.1 43 33) := en_gI rfl rfl K
theorem w_43_33 {x : Int32} {K : MM → Option RT} : p_F (enc sc S) 43 8 33 0 (.int x) K = K (enc sc (sF S 43 33 x)) := en_pF rfl rfl rfl K
theorem q_43_34 {K : Nat → Option RT} : g_R (enc sc S) 43 8 34 K = K 67 := en_gR rfl rfl K
theorem q_43_35 {K : Nat → Option RT} : g_R (enc sc S) 43 8 35 K = K 68 := en_gR rfl rfl K
theorem q_43_36 {K : Nat → Option RT} : g_R (enc sc S) 43 8 36 K = K 69 := en_gR rfl rfl K
theorem a_44 {i : Nat} {K : Int32 → Option RT} (h : i < 4) : a_I (enc sc S) 44 (nI i) K = K (S.2.1 44 i) := by
  rw [en_aI (n := 4) rfl (mm_in_n h (by decide)), nI_clamp (by omega)]
theorem s_44 {i : Nat} {x : Int32} {K : MM → Option RT} (h : i < 4) : w_I (enc sc S) 44 (nI i) x K = K (enc sc (sA S 44 i x)) := by
  rw [en_wI (n := 4) rfl (mm_in_n h (by decide)), nI_clamp (by omega)]
theorem a_45 {i : Nat} {K : Int32 → Option RT} (h : i < 4) : a_I (enc sc S) 45 (nI i) K = K (S.2.1 45 i) := by
  rw [en_aI (n := 4) rfl (mm_in_n h (by decide)), nI_clamp (by omega)]
theorem s_45 {i : Nat} {x : Int32} {K : MM → Option RT} (h : i < 4) : w_I (enc sc S) 45 (nI i) x K = K (enc sc (sA S 45 i x)) := by
  rw [en_wI (n := 4) rfl (mm_in_n h (by decide)), nI_clamp (by omega)]
theorem a_46 {i : Nat} {K : Int32 → Option RT} (h : i < 4) : a_B (enc sc S) 46 (nI i) K = K (S.2.1 46 i) := by
  rw [en_aB (t := 3) (n := 4) rfl (by decide) (mm_in_n h (by decide)), nI_clamp (by omega)]
theorem s_46 {i : Nat} {x : Int32} {K : MM → Option RT} (h : i < 4) (hx : x = 0 ∨ x = 1) : w_B (enc sc S) 46 (nI i) x K = K (enc sc (sA S 46 i x)) := by
  rw [en_wB (t := 3) (n := 4) rfl (by decide) (mm_in_n h (by decide)) hx, nI_clamp (by omega)]
theorem a_47 {i : Nat} {K : Int32 → Option RT} (h : i < 32) : a_I (enc sc S) 47 (nI i) K = K (S.2.1 47 i) := by
  rw [en_aI (n := 32) rfl (mm_in_n h (by decide)), nI_clamp (by omega)]
theorem s_47 {i : Nat} {x : Int32} {K : MM → Option RT} (h : i < 32) : w_I (enc sc S) 47 (nI i) x K = K (enc sc (sA S 47 i x)) := by
  rw [en_wI (n := 32) rfl (mm_in_n h (by decide)), nI_clamp (by omega)]
theorem a_48 {i : Nat} {K : Int64 → Option RT} (h : i < 768) : a_L (enc sc S) 48 (nI i) K = K (S.2.2 48 i) := by
  rw [en_aL (n := 768) rfl (mm_in_n h (by decide)), nI_clamp (by omega)]
theorem s_48 {i : Nat} {x : Int64} {K : MM → Option RT} (h : i < 768) : w_L (enc sc S) 48 (nI i) x K = K (enc sc (sL S 48 i x)) := by
  rw [en_wL (n := 768) rfl (mm_in_n h (by decide)), nI_clamp (by omega)]
theorem a_49 {i : Nat} {K : Int32 → Option RT} (h : i < 768) : a_B (enc sc S) 49 (nI i) K = K (S.2.1 49 i) := by
  rw [en_aB (t := 3) (n := 768) rfl (by decide) (mm_in_n h (by decide)), nI_clamp (by omega)]
theorem s_49 {i : Nat} {x : Int32} {K : MM → Option RT} (h : i < 768) (hx : x = 0 ∨ x = 1) : w_B (enc sc S) 49 (nI i) x K = K (enc sc (sA S 49 i x)) := by
  rw [en_wB (t := 3) (n := 768) rfl (by decide) (mm_in_n h (by decide)) hx, nI_clamp (by omega)]
theorem a_50 {i : Nat} {K : Int64 → Option RT} (h : i < 24) : a_L (enc sc S) 50 (nI i) K = K (S.2.2 50 i) := by
  rw [en_aL (n := 24) rfl (mm_in_n h (by decide)), nI_clamp (by omega)]
theorem s_50 {i : Nat} {x : Int64} {K : MM → Option RT} (h : i < 24) : w_L (enc sc S) 50 (nI i) x K = K (enc sc (sL S 50 i x)) := by
  rw [en_wL (n := 24) rfl (mm_in_n h (by decide)), nI_clamp (by omega)]
theorem a_51 {i : Nat} {K : Int32 → Option RT} (h : i < 24) : a_B (enc sc S) 51 (nI i) K = K (S.2.1 51 i) := by
  rw [en_aB (t := 3) (n := 24) rfl (by decide) (mm_in_n h (by decide)), nI_clamp (by omega)]
theorem s_51 {i : Nat} {x : Int32} {K : MM → Option RT} (h : i < 24) (hx : x = 0 ∨ x = 1) : w_B (enc sc S) 51 (nI i) x K = K (enc sc (sA S 51 i x)) := by
  rw [en_wB (t := 3) (n := 24) rfl (by decide) (mm_in_n h (by decide)) hx, nI_clamp (by omega)]
theorem a_52 {i : Nat} {K : Int32 → Option RT} (h : i < 40) : a_I (enc sc S) 52 (nI i) K = K (S.2.1 52 i) := by
  rw [en_aI (n := 40) rfl (mm_in_n h (by decide)), nI_clamp (by omega)]
theorem s_52 {i : Nat} {x : Int32} {K : MM → Option RT} (h : i < 40) : w_I (enc sc S) 52 (nI i) x K = K (enc sc (sA S 52 i x)) := by
  rw [en_wI (n := 40) rfl (mm_in_n h (by decide)), nI_clamp (by omega)]
theorem a_53 {i : Nat} {K : Int32 → Option RT} (h : i < 40) : a_I (enc sc S) 53 (nI i) K = K (S.2.1 53 i) := by
  rw [en_aI (n := 40) rfl (mm_in_n h (by decide)), nI_clamp (by omega)]
theorem s_53 {i : Nat} {x : Int32} {K : MM → Option RT} (h : i < 40) : w_I (enc sc S) 53 (nI i) x K = K (enc sc (sA S 53 i x)) := by
  rw [en_wI (n := 40) rfl (mm_in_n h (by decide)), nI_clamp (by omega)]
theorem a_54 {i : Nat} {K : Int32 → Option RT} (h : i < 40) : a_I (enc sc S) 54 (nI i) K = K (S.2.1 54 i) := by
  rw [en_aI (n := 40) rfl (mm_in_n h (by decide)), nI_clamp (by omega)]
theorem s_54 {i : Nat} {x : Int32} {K : MM → Option RT} (h : i < 40) : w_I (enc sc S) 54 (nI i) x K = K (enc sc (sA S 54 i x)) := by
  rw [en_wI (n := 40) rfl (mm_in_n h (by decide)), nI_clamp (by omega)]
theorem a_55 {i : Nat} {K : Int32 → Option RT} (h : i < 40) : a_B (enc sc S) 55 (nI i) K = K (S.2.1 55 i) := by
  rw [en_aB (t := 3) (n := 40) rfl (by decide) (mm_in_n h (by decide)), nI_clamp (by omega)]
theorem s_55 {i : Nat} {x : Int32} {K : MM → Option RT} (h : i < 40) (hx : x = 0 ∨ x = 1) : w_B (enc sc S) 55 (nI i) x K = K (enc sc (sA S 55 i x)) := by
  rw [en_wB (t := 3) (n := 40) rfl (by decide) (mm_in_n h (by decide)) hx, nI_clamp (by omega)]
theorem a_56 {i : Nat} {K : Int32 → Option RT} (h : i < 276) : a_I (enc sc S) 56 (nI i) K = K (S.2.1 56 i) := by
  rw [en_aI (n := 276) rfl (mm_in_n h (by decide)), nI_clamp (by omega)]
theorem s_56 {i : Nat} {x : Int32} {K : MM → Option RT} (h : i < 276) : w_I (enc sc S) 56 (nI i) x K = K (enc sc (sA S 56 i x)) := by
  rw [en_wI (n := 276) rfl (mm_in_n h (by decide)), nI_clamp (by omega)]
theorem a_57 {i : Nat} {K : Int32 → Option RT} (h : i < 600) : a_I (enc sc S) 57 (nI i) K = K (S.2.1 57 i) := by
  rw [en_aI (n := 600) rfl (mm_in_n h (by decide)), nI_clamp (by omega)]
theorem s_57 {i : Nat} {x : Int32} {K : MM → Option RT} (h : i < 600) : w_I (enc sc S) 57 (nI i) x K = K (enc sc (sA S 57 i x)) := by
  rw [en_wI (n := 600) rfl (mm_in_n h (by decide)), nI_clamp (by omega)]
theorem a_58 {i : Nat} {K : Int32 → Option RT} (h : i < 600) : a_I (enc sc S) 58 (nI i) K = K (S.2.1 58 i) := by
  rw [en_aI (n := 600) rfl (mm_in_n h (by decide)), nI_clamp (by omega)]
theorem s_58 {i : Nat} {x : Int32} {K : MM → Option RT} (h : i < 600) : w_I (enc sc S) 58 (nI i) x K = K (enc sc (sA S 58 i x)) := by
  rw [en_wI (n := 600) rfl (mm_in_n h (by decide)), nI_clamp (by omega)]
theorem a_59 {i : Nat} {K : Int32 → Option RT} (h : i < 256) : a_B (enc sc S) 59 (nI i) K = K (S.2.1 59 i) := by
  rw [en_aB (t := 3) (n := 256) rfl (by decide) (mm_in_n h (by decide)), nI_clamp (by omega)]
theorem s_59 {i : Nat} {x : Int32} {K : MM → Option RT} (h : i < 256) (hx : x = 0 ∨ x = 1) : w_B (enc sc S) 59 (nI i) x K = K (enc sc (sA S 59 i x)) := by
  rw [en_wB (t := 3) (n := 256) rfl (by decide) (mm_in_n h (by decide)) hx, nI_clamp (by omega)]
theorem a_60 {i : Nat} {K : Int32 → Option RT} (h : i < 40) : a_I (enc sc S) 60 (nI i) K = K (S.2.1 60 i) := by
  rw [en_aI (n := 40) rfl (mm_in_n h (by decide)), nI_clamp (by omega)]
theorem s_60 {i : Nat} {x : Int32} {K : MM → Option RT} (h : i < 40) : w_I (enc sc S) 60 (nI i) x K = K (enc sc (sA S 60 i x)) := by
  rw [en_wI (n := 40) rfl (mm_in_n h (by decide)), nI_clamp (by omega)]
theorem a_61 {i : Nat} {K : Int32 → Option RT} (h : i < 40) : a_I (enc sc S) 61 (nI i) K = K (S.2.1 61 i) := by
  rw [en_aI (n := 40) rfl (mm_in_n h (by decide)), nI_clamp (by omega)]
theorem s_61 {i : Nat} {x : Int32} {K : MM → Option RT} (h : i < 40) : w_I (enc sc S) 61 (nI i) x K = K (enc sc (sA S 61 i x)) := by
  rw [en_wI (n := 40) rfl (mm_in_n h (by decide)), nI_clamp (by omega)]
theorem a_62 {i : Nat} {K : Int32 → Option RT} (h : i < 256) : a_I (enc sc S) 62 (nI i) K = K (S.2.1 62 i) := by
  rw [en_aI (n := 256) rfl (mm_in_n h (by decide)), nI_clamp (by omega)]
theorem s_62 {i : Nat} {x : Int32} {K : MM → Option RT} (h : i < 256) : w_I (enc sc S) 62 (nI i) x K = K (enc sc (sA S 62 i x)) := by
  rw [en_wI (n := 256) rfl (mm_in_n h (by decide)), nI_clamp (by omega)]
theorem a_63 {i : Nat} {K : Int32 → Option RT} (h : i < 256) : a_I (enc sc S) 63 (nI i) K = K (S.2.1 63 i) := by
  rw [en_aI (n := 256) rfl (mm_in_n h (by decide)), nI_clamp (by omega)]
theorem s_63 {i : Nat} {x : Int32} {K : MM → Option RT} (h : i < 256) : w_I (enc sc S) 63 (nI i) x K = K (enc sc (sA S 63 i x)) := by
  rw [en_wI (n := 256) rfl (mm_in_n h (by decide)), nI_clamp (by omega)]
theorem a_64 {i : Nat} {K : Int32 → Option RT} (h : i < 320) : a_I (enc sc S) 64 (nI i) K = K (S.2.1 64 i) := by
  rw [en_aI (n := 320) rfl (mm_in_n h (by decide)), nI_clamp (by omega)]
theorem s_64 {i : Nat} {x : Int32} {K : MM → Option RT} (h : i < 320) : w_I (enc sc S) 64 (nI i) x K = K (enc sc (sA S 64 i x)) := by
  rw [en_wI (n := 320) rfl (mm_in_n h (by decide)), nI_clamp (by omega)]
theorem a_65 {i : Nat} {K : Int32 → Option RT} (h : i < 320) : a_I (enc sc S) 65 (nI i) K = K (S.2.1 65 i) := by
  rw [en_aI (n := 320) rfl (mm_in_n h (by decide)), nI_clamp (by omega)]
theorem s_65 {i : Nat} {x : Int32} {K : MM → Option RT} (h : i < 320) : w_I (enc sc S) 65 (nI i) x K = K (enc sc (sA S 65 i x)) := by
  rw [en_wI (n := 320) rfl (mm_in_n h (by decide)), nI_clamp (by omega)]
theorem a_66 {i : Nat} {K : Int32 → Option RT} (h : i < 320) : a_B (enc sc S) 66 (nI i) K = K (S.2.1 66 i) := by
  rw [en_aB (t := 3) (n := 320) rfl (by decide) (mm_in_n h (by decide)), nI_clamp (by omega)]
theorem s_66 {i : Nat} {x : Int32} {K : MM → Option RT} (h : i < 320) (hx : x = 0 ∨ x = 1) : w_B (enc sc S) 66 (nI i) x K = K (enc sc (sA S 66 i x)) := by
  rw [en_wB (t := 3) (n := 320) rfl (by decide) (mm_in_n h (by decide)) hx, nI_clamp (by omega)]
theorem a_67 {i : Nat} {K : Int32 → Option RT} (h : i < 12) : a_I (enc sc S) 67 (nI i) K = K (S.2.1 67 i) := by
  rw [en_aI (n := 12) rfl (mm_in_n h (by decide)), nI_clamp (by omega)]
theorem s_67 {i : Nat} {x : Int32} {K : MM → Option RT} (h : i < 12) : w_I (enc sc S) 67 (nI i) x K = K (enc sc (sA S 67 i x)) := by
  rw [en_wI (n := 12) rfl (mm_in_n h (by decide)), nI_clamp (by omega)]
theorem a_68 {i : Nat} {K : Int32 → Option RT} (h : i < 321) : a_I (enc sc S) 68 (nI i) K = K (S.2.1 68 i) := by
  rw [en_aI (n := 321) rfl (mm_in_n h (by decide)), nI_clamp (by omega)]
theorem s_68 {i : Nat} {x : Int32} {K : MM → Option RT} (h : i < 321) : w_I (enc sc S) 68 (nI i) x K = K (enc sc (sA S 68 i x)) := by
  rw [en_wI (n := 321) rfl (mm_in_n h (by decide)), nI_clamp (by omega)]
theorem a_69 {i : Nat} {K : Int32 → Option RT} (h : i < 96) : a_I (enc sc S) 69 (nI i) K = K (S.2.1 69 i) := by
  rw [en_aI (n := 96) rfl (mm_in_n h (by decide)), nI_clamp (by omega)]
theorem s_69 {i : Nat} {x : Int32} {K : MM → Option RT} (h : i < 96) : w_I (enc sc S) 69 (nI i) x K = K (enc sc (sA S 69 i x)) := by
  rw [en_wI (n := 96) rfl (mm_in_n h (by decide)), nI_clamp (by omega)]
theorem T_sh {a : Nat} (h : IsT a) : shl[a]? = some (.inl (5, [none, none, none, none, some (a + 1), some (a + 2), some (a + 3)])) ∧ shl[a + 1]? = some (.inr (0, 8)) ∧ shl[a + 2]? = some (.inr (1, 192)) ∧ shl[a + 3]? = some (.inr (2, 192)) := by
  rcases h with rfl | rfl | rfl | rfl <;> exact ⟨rfl, rfl, rfl, rfl⟩
variable {a : Nat}
theorem o_T (h : IsT a) {t : List Value} {q : Option RT} : c_O (enc sc S) (.ref a :: t) 5 q = q := en_cO (T_sh h).1
theorem q_T_0 (h : IsT a) {K : Int32 → Option RT} : g_I (enc sc S) a 5 0 K = K (S.1 a 0) := en_gI (T_sh h).1 rfl K
theorem w_T_0 (h : IsT a) {x : Int32} {K : MM → Option RT} (hx : x = 0 ∨ x = 1) : p_F (enc sc S) a 5 0 1 (.int x) K = K (enc sc (sF S a 0 x)) := en_pF (T_sh h).1 rfl (by rcases hx with rfl | rfl <;> rfl) K
theorem q_T_1 (h : IsT a) {K : Int32 → Option RT} : g_I (enc sc S) a 5 1 K = K (S.1 a 1) := en_gI (T_sh h).1 rfl K
theorem w_T_1 (h : IsT a) {x : Int32} {K : MM → Option RT} (hx : x = 0 ∨ x = 1) : p_F (enc sc S) a 5 1 1 (.int x) K = K (enc sc (sF S a 1 x)) := en_pF (T_sh h).1 rfl (by rcases hx with rfl | rfl <;> rfl) K
theorem q_T_2 (h : IsT a) {K : Int32 → Option RT} : g_I (enc sc S) a 5 2 K = K (S.1 a 2) := en_gI (T_sh h).1 rfl K
theorem w_T_2 (h : IsT a) {x : Int32} {K : MM → Option RT} : p_F (enc sc S) a 5 2 0 (.int x) K = K (enc sc (sF S a 2 x)) := en_pF (T_sh h).1 rfl rfl K
theorem q_T_3 (h : IsT a) {K : Int32 → Option RT} : g_I (enc sc S) a 5 3 K = K (S.1 a 3) := en_gI (T_sh h).1 rfl K
theorem w_T_3 (h : IsT a) {x : Int32} {K : MM → Option RT} : p_F (enc sc S) a 5 3 0 (.int x) K = K (enc sc (sF S a 3 x)) := en_pF (T_sh h).1 rfl rfl K
theorem q_T_4 (h : IsT a) {K : Nat → Option RT} : g_R (enc sc S) a 5 4 K = K (a + 1) := en_gR (T_sh h).1 rfl K
theorem q_T_5 (h : IsT a) {K : Nat → Option RT} : g_R (enc sc S) a 5 5 K = K (a + 2) := en_gR (T_sh h).1 rfl K
theorem q_T_6 (h : IsT a) {K : Nat → Option RT} : g_R (enc sc S) a 5 6 K = K (a + 3) := en_gR (T_sh h).1 rfl K
theorem a_T1 (h : IsT a) {i : Nat} {K : Int32 → Option RT} (hi : i < 8) : a_I (enc sc S) (a + 1) (nI i) K = K (S.2.1 (a + 1) i) := by
  rw [en_aI (T_sh h).2.1 (mm_in_n hi (by decide)), nI_clamp (by omega)]
theorem s_T1 (h : IsT a) {i : Nat} {x : Int32} {K : MM → Option RT} (hi : i < 8) : w_I (enc sc S) (a + 1) (nI i) x K = K (enc sc (sA S (a + 1) i x)) := by
  rw [en_wI (T_sh h).2.1 (mm_in_n hi (by decide)), nI_clamp (by omega)]
theorem a_T2 (h : IsT a) {i : Nat} {K : Int64 → Option RT} (hi : i < 192) : a_L (enc sc S) (a + 2) (nI i) K = K (S.2.2 (a + 2) i) := by
  rw [en_aL (T_sh h).2.2.1 (mm_in_n hi (by decide)), nI_clamp (by omega)]
theorem s_T2 (h : IsT a) {i : Nat} {x : Int64} {K : MM → Option RT} (hi : i < 192) : w_L (enc sc S) (a + 2) (nI i) x K = K (enc sc (sL S (a + 2) i x)) := by
  rw [en_wL (T_sh h).2.2.1 (mm_in_n hi (by decide)), nI_clamp (by omega)]
theorem a_T3 (h : IsT a) {i : Nat} {K : Int32 → Option RT} (hi : i < 192) : a_B (enc sc S) (a + 3) (nI i) K = K (S.2.1 (a + 3) i) := by
  rw [en_aB (T_sh h).2.2.2 (by decide) (mm_in_n hi (by decide)), nI_clamp (by omega)]
theorem s_T3 (h : IsT a) {i : Nat} {x : Int32} {K : MM → Option RT} (hi : i < 192) (hx : x = 0 ∨ x = 1) : w_B (enc sc S) (a + 3) (nI i) x K = K (enc sc (sA S (a + 3) i x)) := by
  rw [en_wB (T_sh h).2.2.2 (by decide) (mm_in_n hi (by decide)) hx, nI_clamp (by omega)]
theorem a_1 {i : Nat} {K : Nat → Option RT} (hi : i < 4) : a_Q (enc sc S) 1 (nI i) K = K (2 + 4 * i) := by
  rw [en_aQ (mm_in_n hi (by decide)), nI_clamp (by omega)]
theorem T_is {i : Nat} (hi : i < 4) : IsT (2 + 4 * i) := by unfold IsT; omega
end REG
