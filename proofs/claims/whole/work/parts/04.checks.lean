/-! what the tables say, decided -/
def tG : List Cond := lw_tbl.filter goodWord
theorem tG_of {w : Cond} (h : w ∈ lw_tbl) (hg : goodWord w = true) : w ∈ tG := List.mem_filter.mpr ⟨h, hg⟩
def fl_w (q : Nat × Nat × Nat × Nat × Nat) : Cond := .fieldLink (cN q.1) q.2.1 (tT q.2.2.1 q.2.2.2.1).1 (tT q.2.2.1 q.2.2.2.1).2.1 (tT q.2.2.1 q.2.2.2.1).2.2.1
def fl_c (q : Nat × Nat × Nat × Nat × Nat) : Bool := decide (lw_tbl[q.2.2.2.2]? = some (fl_w q)) && (decide (q.2.2.1 < 9) && decide (q.2.2.2.1 < tN q.2.2.1))
theorem fl_ok : fl_t.all fl_c = true := by decide +kernel
def ml_w (q : Nat × Nat × Nat × Nat × Nat) : Cond := match q.2.2.2.1 with
  | 0 => .methodLink (cN q.1) q.2.1 (mm_Y q.2.2.1)
  | _ => .methodLinkNest (cN q.1) q.2.1 (mm_Y q.2.2.1) "KeyFinder"
def ml_c (q : Nat × Nat × Nat × Nat × Nat) : Bool := decide (lw_tbl[q.2.2.2.2]? = some (ml_w q)) && decide (q.2.2.1 < mm_cnt)
theorem ml_ok : ml_t.all ml_c = true := by decide +kernel
def ol_c (q : Nat × Nat × Nat) : Bool := decide (lw_tbl[q.2.2]? = some (.methodLink (cN q.1) q.2.1 objectInit))
theorem ol_ok : ol_t.all ol_c = true := by decide +kernel
def cl_c (q : Nat × Nat × Nat × Nat) : Bool := decide (lw_tbl[q.2.2.2]? = some (.classLink (cN q.1) q.2.1 (cN q.2.2.1))) && decide (q.2.2.1 < 9)
theorem cl_ok : cl_t.all cl_c = true := by decide +kernel
def l2d_n : MethodName := ⟨"java/lang/Double", "longBitsToDouble", "(J)D"⟩
def nt_c (q : Nat × Nat × Nat × Nat) : Bool := decide (lw_tbl[q.2.2.2]? = some (.methodLink (cN q.1) q.2.1 (if q.2.2.1 = 6 then arraycopyName else if q.2.2.1 = 7 then l2d_n else if q.2.2.1 = 14 then Lib.Math.max.name else Lib.Math.min.name)))
theorem nt_ok : nt_t.all nt_c = true := by decide +kernel
def ki_c (q : Nat × Nat × Int32 × Nat) : Bool := decide (lw_tbl[q.2.2.2]? = some (.constant (cN q.1) q.2.1 q.2.2.1))
theorem ki_ok : ki_t.all ki_c = true := by decide +kernel
def kl_c (q : Nat × Nat × Int64 × Nat) : Bool := decide (lw_tbl[q.2.2.2]? = some (.constantLong (cN q.1) q.2.1 q.2.2.1))
theorem kl_ok : kl_t.all kl_c = true := by decide +kernel
def cw_c (q : (Nat × Nat) × Nat) : Bool := decide (lw_tbl[q.1.1]? = some (.instantiable (cN q.2) (tN q.2))) && decide (lw_tbl[q.1.2]? = some (.initialized (cN q.2)))
theorem cw_ok : (cw_t.zipIdx 0).all cw_c = true := by decide +kernel
/-- a method's own words -/
def mw_c (q : (Nat × Nat × Nat × Nat) × Nat) : Bool :=
  (decide (lw_tbl[q.1.2.1]? = some (.initialized (mm_Y q.2).cls)) &&
  ((match mm_k q.2 with
    | 2 => decide (lw_tbl[q.1.2.2.1]? = some (.static (mm_Y q.2)))
    | 4 => decide (lw_tbl[q.1.2.2.1]? = some (.instanceMethod (mm_Y q.2))) && decide ((mm_Y q.2).name = "<init>" ∧ mm_R q.2 = none)
    | 0 => decide (lw_tbl[q.1.2.2.1]? = some (.instanceMethod (mm_Y q.2))) && decide (lw_tbl[q.1.2.2.2]? = some (.selects (mm_Y q.2).cls (mm_Y q.2) (mm_Y q.2)))
    | _ => false) &&
  decide ((mm_Y q.2).cls = cN (mm_own q.2) ∧ (mm_Y q.2).cls ≠ "java/lang/invoke/MethodHandle" ∧ (mm_Y q.2).cls ≠ "java/lang/invoke/VarHandle" ∧ plainName (mm_Y q.2).cls = true ∧ (parseMethodDescriptor (mm_Y q.2).desc).map (fun d => d.parameters.length) = some (mm_A q.2))))
