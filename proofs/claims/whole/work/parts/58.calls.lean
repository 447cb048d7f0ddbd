/-! CALLS at once -/
theorem cI {X : Option RT} {v : Int32} {μ' : MM} {K : Int32 → MM → Option RT} (h : X = some (some (.int v), μ')) : c_I X K = K v μ' := by rw [h]; rfl
theorem cJ {X : Option RT} {v : Int64} {μ' : MM} {K : Int64 → MM → Option RT} (h : X = some (some (.long v), μ')) : c_J X K = K v μ' := by rw [h]; rfl
theorem cV {X : Option RT} {μ' : MM} {K : MM → Option RT} (h : X = some (none, μ')) : c_V X K = K μ' := by rw [h]; rfl
theorem cNu {X : Option RT} {μ' : MM} {kn : MM → Option RT} {K : Nat → MM → Option RT} (h : X = some (some .null, μ')) : c_A X kn K = kn μ' := by rw [h]; rfl
theorem cR {X : Option RT} {a : Nat} {μ' : MM} {kn : MM → Option RT} {K : Nat → MM → Option RT} (h : X = some (some (.ref a), μ')) : c_A X kn K = K a μ' := by rw [h]; rfl
section INS
variable {μ : MM}
theorem in_d {x : Int32} {n : Nat} (hn : n < 2147483648) : Rc 158 [.int x, .int 0, .int (nI n - 1)] μ = some (some (.int (bI (rg x n))), μ) := in_c rfl hn
theorem in_e {x : Int32} {n : Nat} (h1 : 1 ≤ n) (hn : n < 2147483648) : Rc 158 [.int x, .int 0, .int (nI (n - 1))] μ = some (some (.int (bI (rg x n))), μ) := by
  rw [← sub_1 h1]
  exact in_c rfl hn
end INS
