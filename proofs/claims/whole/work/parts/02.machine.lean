/-! THE PURE MACHINE: cells by their places since the law's start; big steps; one entry a program counter, its links resolved. -/
abbrev RE : Type := (Nat × vp_A) ⊕ (Nat × List Value)
abbrev MM : Type := Nat × Nat × (Nat → RE)
abbrev RT : Type := Option Value × MM
abbrev KK : Type := Nat → List Value → List Value → MM → Option RT
/-- instruction, next pc, four resolved numbers, a constant -/
abbrev EN : Type := Instr × Nat × Nat × Nat × Nat × Nat × Value
def SC : Nat := 1000000
abbrev UU : Value := .float 0
def mm_in (i : Int32) (n : Nat) : Bool := !(decide (i < 0)) && decide (i.toNatClampNeg < n)
/-- stacks -/
def s_I (st : List Value) (k : Int32 → List Value → Option RT) : Option RT := match st with
  | .int x :: t => k x t
  | _ => none
def s_II (st : List Value) (k : Int32 → Int32 → List Value → Option RT) : Option RT := match st with
  | .int y :: .int x :: t => k x y t
  | _ => none
def s_L (st : List Value) (k : Int64 → List Value → Option RT) : Option RT := match st with
  | .long x :: t => k x t
  | _ => none
def s_LL (st : List Value) (k : Int64 → Int64 → List Value → Option RT) : Option RT := match st with
  | .long y :: .long x :: t => k x y t
  | _ => none
def s_LI (st : List Value) (k : Int64 → Int32 → List Value → Option RT) : Option RT := match st with
  | .int y :: .long x :: t => k x y t
  | _ => none
def s_DD (st : List Value) (k : UInt64 → UInt64 → List Value → Option RT) : Option RT := match st with
  | .double y :: .double x :: t => k x y t
  | _ => none
def s_R (st : List Value) (k : Nat → List Value → Option RT) : Option RT := match st with
  | .ref a :: t => k a t
  | _ => none
def s_IR (st : List Value) (k : Nat → Int32 → List Value → Option RT) : Option RT := match st with
  | .int i :: .ref a :: t => k a i t
  | _ => none
def s_IIR (st : List Value) (k : Nat → Int32 → Int32 → List Value → Option RT) : Option RT := match st with
  | .int x :: .int i :: .ref a :: t => k a i x t
  | _ => none
def s_LIR (st : List Value) (k : Nat → Int32 → Int64 → List Value → Option RT) : Option RT := match st with
  | .long x :: .int i :: .ref a :: t => k a i x t
  | _ => none
def s_RIR (st : List Value) (k : Nat → Int32 → Nat → List Value → Option RT) : Option RT := match st with
  | .ref x :: .int i :: .ref a :: t => k a i x t
  | _ => none
def s_VR (st : List Value) (k : Nat → Value → List Value → Option RT) : Option RT := match st with
  | v :: .ref a :: t => k a v t
  | _ => none
/-- a value of category 1 -/
def s_V1 (st : List Value) (k : Value → List Value → Option RT) : Option RT := match st with
  | .int x :: t => k (.int x) t
  | .ref x :: t => k (.ref x) t
  | .null :: t => k .null t
  | _ => none
/-- null, or a cell -/
def s_N (st : List Value) (kn : List Value → Option RT) (k : Nat → List Value → Option RT) : Option RT := match st with
  | .null :: t => kn t
  | .ref a :: t => k a t
  | _ => none
/-- locals -/
def l_I (ls : List Value) (i : Nat) (k : Int32 → Option RT) : Option RT := match ls[i]? with
  | some (.int x) => k x
  | _ => none
def l_L (ls : List Value) (i : Nat) (k : Int64 → Option RT) : Option RT := match ls[i]? with
  | some (.long x) => k x
  | _ => none
def l_A (ls : List Value) (i : Nat) (k : Value → Option RT) : Option RT := match ls[i]? with
  | some (.ref x) => k (.ref x)
  | some .null => k .null
  | _ => none
/-- the place ahead of i, if a long stands there, is let go -/
def l_clr (ls : List Value) (i : Nat) : List Value := match i with
  | 0 => ls
  | j + 1 => match ls[j]? with
    | some (.long _) => ls.set j UU
    | some (.double _) => ls.set j UU
    | _ => ls
def l_s1 (ls : List Value) (i : Nat) (v : Value) (k : List Value → Option RT) : Option RT := if i < ls.length then k ((l_clr ls i).set i v) else none
def l_s2 (ls : List Value) (i : Nat) (v : Value) (k : List Value → Option RT) : Option RT := if i + 1 < ls.length then k (((l_clr ls i).set i v).set (i + 1) UU) else none
/-- cells -/
def g_I (μ : MM) (a ci j : Nat) (k : Int32 → Option RT) : Option RT := match μ.2.2 a with
  | .inr (c, fs) => if a < μ.1 ∧ c = ci then (match fs[j]? with
    | some (.int x) => k x
    | _ => none) else none
  | _ => none
def g_R (μ : MM) (a ci j : Nat) (k : Nat → Option RT) : Option RT := match μ.2.2 a with
  | .inr (c, fs) => if a < μ.1 ∧ c = ci then (match fs[j]? with
    | some (.ref x) => k x
    | _ => none) else none
  | _ => none
/-- what a field of a type takes: 0 int, 1 boolean, 2 a cell -/
def p_ok (tc : Nat) (v : Value) : Bool := match tc, v with
  | 0, .int _ => true
  | 1, .int x => x == 0 || x == 1
  | 2, .ref _ => true
  | _, _ => false
def p_F (μ : MM) (a ci j tc : Nat) (v : Value) (k : MM → Option RT) : Option RT := match μ.2.2 a with
  | .inr (c, fs) => if a < μ.1 ∧ c = ci ∧ j < fs.length ∧ p_ok tc v = true then k (μ.1, μ.2.1, va_up μ.2.2 a (.inr (c, fs.set j v))) else none
  | _ => none
def a_I (μ : MM) (a : Nat) (i : Int32) (k : Int32 → Option RT) : Option RT := match μ.2.2 a with
  | .inl (t, n, .inl f) => if (a < μ.1 ∨ a = SC) ∧ t = 0 ∧ mm_in i n = true then k (f i.toNatClampNeg) else none
  | _ => none
def a_B (μ : MM) (a : Nat) (i : Int32) (k : Int32 → Option RT) : Option RT := match μ.2.2 a with
  | .inl (t, n, .inl f) => if a < μ.1 ∧ (t = 2 ∨ t = 3) ∧ mm_in i n = true then k (f i.toNatClampNeg) else none
  | _ => none
def a_L (μ : MM) (a : Nat) (i : Int32) (k : Int64 → Option RT) : Option RT := match μ.2.2 a with
  | .inl (t, n, .inr (.inl f)) => if a < μ.1 ∧ t = 1 ∧ mm_in i n = true then k (f i.toNatClampNeg) else none
  | _ => none
def a_Q (μ : MM) (a : Nat) (i : Int32) (k : Nat → Option RT) : Option RT := match μ.2.2 a with
  | .inl (t, n, .inr (.inr (.inr (.inr f)))) => if a < μ.1 ∧ t = 4 ∧ mm_in i n = true then (match f i.toNatClampNeg with
    | some x => k x
    | none => none) else none
  | _ => none
def a_n (μ : MM) (a : Nat) (k : Int32 → Option RT) : Option RT := match μ.2.2 a with
  | .inl (t, n, _) => if (a < μ.1 ∧ t < 5) ∨ a = SC then k (Int32.ofNat n) else none
  | _ => none
def w_I (μ : MM) (a : Nat) (i x : Int32) (k : MM → Option RT) : Option RT := match μ.2.2 a with
  | .inl (t, n, .inl f) => if a < μ.1 ∧ t = 0 ∧ mm_in i n = true then k (μ.1, μ.2.1, va_up μ.2.2 a (.inl (t, n, .inl (upd f i.toNatClampNeg x)))) else none
  | _ => none
def w_B (μ : MM) (a : Nat) (i x : Int32) (k : MM → Option RT) : Option RT := match μ.2.2 a with
  | .inl (t, n, .inl f) => if a < μ.1 ∧ (t = 2 ∨ t = 3) ∧ mm_in i n = true then k (μ.1, μ.2.1, va_up μ.2.2 a (.inl (t, n, .inl (upd f i.toNatClampNeg (vp_nar (if t = 2 then .byte else .boolean) x))))) else none
  | _ => none
def w_L (μ : MM) (a : Nat) (i : Int32) (x : Int64) (k : MM → Option RT) : Option RT := match μ.2.2 a with
  | .inl (t, n, .inr (.inl f)) => if a < μ.1 ∧ t = 1 ∧ mm_in i n = true then k (μ.1, μ.2.1, va_up μ.2.2 a (.inl (t, n, .inr (.inl (vp_updL f i.toNatClampNeg x))))) else none
  | _ => none
def w_Q (μ : MM) (a : Nat) (i : Int32) (x : Nat) (k : MM → Option RT) : Option RT := match μ.2.2 a, μ.2.2 x with
  | .inl (t, n, .inr (.inr (.inr (.inr f)))), .inr (c, _) => if a < μ.1 ∧ x < μ.1 ∧ c = 5 ∧ t = 4 ∧ mm_in i n = true then k (μ.1, μ.2.1, va_up μ.2.2 a (.inl (t, n, .inr (.inr (.inr (.inr (va_up f i.toNatClampNeg (some x)))))))) else none
  | _, _ => none
/-- a new cell -/
def n_C (μ : MM) (sz : Nat) (e : RE) : MM := (μ.1 + 1, μ.2.1 + sz, va_up μ.2.2 μ.1 e)
def n_A (μ : MM) (tag : Nat) (n : Int32) (e : vp_A) (k : MM → Option RT) : Option RT := if ¬ n < 0 ∧ n.toNatClampNeg ≤ 10000 ∧ μ.1 < 1000 then k (n_C μ n.toNatClampNeg (.inl (tag, e))) else none
/-- arraycopy within one array of longs, or bytes -/
def c_L (μ : MM) (a b : Nat) (i j n : Int32) (k : MM → Option RT) : Option RT := match μ.2.2 a with
  | .inl (t, m, .inr (.inl f)) => if a = b ∧ a < μ.1 ∧ t = 1 ∧ ¬ i < 0 ∧ ¬ j < 0 ∧ ¬ n < 0 ∧ i.toNatClampNeg + n.toNatClampNeg ≤ m ∧ j.toNatClampNeg + n.toNatClampNeg ≤ m then k (μ.1, μ.2.1, va_up μ.2.2 a (.inl (t, m, .inr (.inl (va_cpy f f i.toNatClampNeg j.toNatClampNeg n.toNatClampNeg))))) else none
  | .inl (t, m, .inl f) => if a = b ∧ a < μ.1 ∧ t = 2 ∧ ¬ i < 0 ∧ ¬ j < 0 ∧ ¬ n < 0 ∧ i.toNatClampNeg + n.toNatClampNeg ≤ m ∧ j.toNatClampNeg + n.toNatClampNeg ≤ m ∧ (∀ q, q < n.toNatClampNeg → fits .byte (.int (f (i.toNatClampNeg + q))) = true) then k (μ.1, μ.2.1, va_up μ.2.2 a (.inl (t, m, .inl (va_cpy f f i.toNatClampNeg j.toNatClampNeg n.toNatClampNeg)))) else none
  | _ => none
/-- the receiver is an object of the kind ci -/
def c_O (μ : MM) (as : List Value) (ci : Nat) (k : Option RT) : Option RT := match as with
  | .ref a :: _ => (match μ.2.2 a with
    | .inr (c, _) => if a < μ.1 ∧ c = ci then k else none
    | _ => none)
  | _ => none
/-- answers of a call -/
def c_I (r : Option RT) (k : Int32 → MM → Option RT) : Option RT := match r with
  | some (some (.int x), μ) => k x μ
  | _ => none
def c_J (r : Option RT) (k : Int64 → MM → Option RT) : Option RT := match r with
  | some (some (.long x), μ) => k x μ
  | _ => none
def c_V (r : Option RT) (k : MM → Option RT) : Option RT := match r with
  | some (none, μ) => k μ
  | _ => none
def c_A (r : Option RT) (kn : MM → Option RT) (k : Nat → MM → Option RT) : Option RT := match r with
  | some (some .null, μ) => kn μ
  | some (some (.ref a), μ) => k a μ
  | _ => none
def c_ret (rk : Nat) (r : Option RT) (k : List Value → MM → Option RT) : Option RT := match rk with
  | 0 => c_V r (fun μ => k [] μ)
  | 1 => c_I r (fun x μ => k [.int x] μ)
  | 2 => c_J r (fun x μ => k [.long x] μ)
  | _ => c_A r (fun μ => k [.null] μ) (fun a μ => k [.ref a] μ)
/-- arguments as locals -/
def l_ex : List Value → List Value
  | [] => []
  | .long x :: t => .long x :: UU :: l_ex t
  | .double x :: t => .double x :: UU :: l_ex t
  | .int x :: t => .int x :: l_ex t
  | .ref x :: t => .ref x :: l_ex t
  | .null :: t => .null :: l_ex t
  | .float x :: t => .float x :: l_ex t
  | .retAddr x :: t => .retAddr x :: l_ex t
def l_pad : Nat → List Value → List Value
  | 0, _ => []
  | n + 1, [] => UU :: l_pad n []
  | n + 1, v :: t => v :: l_pad n t
def c_room (st : List Value) : Bool := decide ((st.map fun v => v.category).sum ≤ 8)
/-- a boolean answer -/
def r_I (rb : Nat) (x : Int32) (μ : MM) : Option RT := match rb with
  | 0 => some (some (.int x), μ)
  | _ => if x = 0 ∨ x = 1 then some (some (.int x), μ) else none
def mm_zero : ArrayType → Nat × (Nat → vp_A)
  | .int => (0, fun n => (n, .inl (fun _ => 0)))
  | .long => (1, fun n => (n, .inr (.inl (fun _ => 0))))
  | .byte => (2, fun n => (n, .inl (fun _ => 0)))
  | .boolean => (3, fun n => (n, .inl (fun _ => 0)))
  | _ => (9, fun n => (n, .inl (fun _ => 0)))
def mm_cond (c : ClassFile.Cond) (x y : Int32) (kt kf : Option RT) : Option RT := match c with
  | .eq => if x = y then kt else kf
  | .ne => if x = y then kf else kt
  | .lt => if x < y then kt else kf
  | .ge => if y ≤ x then kt else kf
  | .gt => if y < x then kt else kf
  | .le => if x ≤ y then kt else kf
/-- default fields of a kind of object -/
def mm_dfl (ci : Nat) : List Value := match ci with
  | 0 => [.null, .int 0, .int 0, .null, .null]
  | 1 => [.int 0, .int 0]
  | 2 => [.int 0, .null, .null, .null, .null]
  | 3 => [.null, .int 0, .null, .int 0, .null, .null]
  | 4 => [.int 0, .null, .null, .int 0, .null, .null]
  | 5 => [.int 0, .int 0, .int 0, .int 0, .null, .null, .null]
  | 6 => [.int 0, .int 0, .int 0, .null, .null, .null, .null, .int 0, .null, .int 0, .int 0, .null]
  | 7 => [.null, .null, .null, .null, .null, .null, .null, .int 0]
  | _ => [.int 0, .null, .null, .null, .null, .null, .null, .null, .null, .int 0, .null, .null, .null, .null, .int 0, .int 0, .null, .int 0, .int 0, .null, .null, .null, .int 0, .int 0, .null, .null, .int 0, .null, .null, .int 0, .null, .null, .null, .int 0, .null, .null, .null]
/-- a switch by offsets -/
def mm_sw (pc : Nat) (dflt lo hi : Int) (offs : List Int) (x : Int32) (k : Nat → Option RT) : Option RT :=
  if x.toInt < lo ∨ hi < x.toInt then k ((pc : Int) + dflt).toNat else match offs[(x.toInt - lo).toNat]? with
    | some o => k ((pc : Int) + o).toNat
    | none => none
/-- a call: r1 the callee, r2 how many arguments, r3 kind + 8 * answer, r4 the receiver's kind -/
def mm_call (K : KK) (C : Nat → List Value → MM → Option RT) (nx r1 r2 r3 r4 : Nat) (ls st : List Value) (μ : MM) : Option RT :=
  if c_room (st.drop r2) = true ∧ (st.take r2).length = r2 then (match r3 % 8 with
    | 0 => c_O μ (st.take r2).reverse r4 (c_ret (r3 / 8) (C r1 (st.take r2).reverse μ) (fun v μ' => K nx ls (v ++ st.drop r2) μ'))
    | 1 => c_O μ (st.take r2).reverse r4 (c_ret (r3 / 8) (C r1 (st.take r2).reverse μ) (fun v μ' => K nx ls (v ++ st.drop r2) μ'))
    | 4 => c_O μ (st.take r2).reverse r4 (c_ret (r3 / 8) (C r1 (st.take r2).reverse μ) (fun v μ' => K nx ls (v ++ st.drop r2) μ'))
    | 5 => c_O μ (st.take r2).reverse r4 (c_ret (r3 / 8) (C r1 (st.take r2).reverse μ) (fun v μ' => K nx ls (v ++ st.drop r2) μ'))
    | _ => c_ret (r3 / 8) (C r1 (st.take r2).reverse μ) (fun v μ' => K nx ls (v ++ st.drop r2) μ')) else none
def mm_copy (st : List Value) (k : Nat → Int32 → Nat → Int32 → Int32 → List Value → Option RT) : Option RT := match st with
  | .int n :: .int j :: .ref b :: .int i :: .ref a :: t => if c_room t = true then k a i b j n t else none
  | _ => none
def mm_stp (K : KK) (C : Nat → List Value → MM → Option RT) (pc : Nat) (i : Instr) (nx r1 r2 r3 r4 : Nat) (cv : Value) (ls st : List Value) (μ : MM) : Option RT := match i with
  | .aconst_null => K nx ls (.null :: st) μ
  | .iconst _ => K nx ls (cv :: st) μ
  | .bipush _ => K nx ls (cv :: st) μ
  | .sipush _ => K nx ls (cv :: st) μ
  | .lconst _ => K nx ls (cv :: st) μ
  | .ldc_w _ => K nx ls (cv :: st) μ
  | .ldc2_w _ => K nx ls (cv :: st) μ
  | .iload_n n => l_I ls n.val fun x => K nx ls (.int x :: st) μ
  | .iload n => l_I ls n fun x => K nx ls (.int x :: st) μ
  | .lload_n n => l_L ls n.val fun x => K nx ls (.long x :: st) μ
  | .lload n => l_L ls n fun x => K nx ls (.long x :: st) μ
  | .aload_n n => l_A ls n.val fun v => K nx ls (v :: st) μ
  | .aload n => l_A ls n fun v => K nx ls (v :: st) μ
  | .istore_n n => s_I st fun x t => l_s1 ls n.val (.int x) fun ls' => K nx ls' t μ
  | .istore n => s_I st fun x t => l_s1 ls n (.int x) fun ls' => K nx ls' t μ
  | .lstore_n n => s_L st fun x t => l_s2 ls n.val (.long x) fun ls' => K nx ls' t μ
  | .lstore n => s_L st fun x t => l_s2 ls n (.long x) fun ls' => K nx ls' t μ
  | .astore_n n => s_N st (fun t => l_s1 ls n.val .null fun ls' => K nx ls' t μ) (fun a t => l_s1 ls n.val (.ref a) fun ls' => K nx ls' t μ)
  | .astore n => s_N st (fun t => l_s1 ls n .null fun ls' => K nx ls' t μ) (fun a t => l_s1 ls n (.ref a) fun ls' => K nx ls' t μ)
  | .iinc n _ => l_I ls n fun x => (match cv with
    | .int d => l_s1 ls n (.int (x + d)) fun ls' => K nx ls' st μ
    | _ => none)
  | .iadd => s_II st fun x y t => K nx ls (.int (x + y) :: t) μ
  | .isub => s_II st fun x y t => K nx ls (.int (x - y) :: t) μ
  | .imul => s_II st fun x y t => K nx ls (.int (x * y) :: t) μ
  | .iand => s_II st fun x y t => K nx ls (.int (x &&& y) :: t) μ
  | .ior => s_II st fun x y t => K nx ls (.int (x ||| y) :: t) μ
  | .ixor => s_II st fun x y t => K nx ls (.int (x ^^^ y) :: t) μ
  | .ishl => s_II st fun x y t => K nx ls (.int (x <<< (y &&& 31)) :: t) μ
  | .ishr => s_II st fun x y t => K nx ls (.int (x >>> (y &&& 31)) :: t) μ
  | .iushr => s_II st fun x y t => K nx ls (.int (x.toUInt32 >>> (y.toUInt32 &&& Int32.toUInt32 31)).toInt32 :: t) μ
  | .ladd => s_LL st fun x y t => K nx ls (.long (x + y) :: t) μ
  | .land => s_LL st fun x y t => K nx ls (.long (x &&& y) :: t) μ
  | .lor => s_LL st fun x y t => K nx ls (.long (x ||| y) :: t) μ
  | .lxor => s_LL st fun x y t => K nx ls (.long (x ^^^ y) :: t) μ
  | .lshl => s_LI st fun x y t => K nx ls (.long (x <<< (y.toInt64 &&& 63)) :: t) μ
  | .lcmp => s_LL st fun x y t => K nx ls (.int (lg_cmp x y) :: t) μ
  | .dcmp op => s_DD st fun x y t => K nx ls (.int (Op.cmpValue (FP.dcmp x y) op) :: t) μ
  | .i2l => s_I st fun x t => K nx ls (.long x.toInt64 :: t) μ
  | .l2i => s_L st fun x t => K nx ls (.int x.toInt32 :: t) μ
  | .i2b => s_I st fun x t => K nx ls (.int x.toInt8.toInt32 :: t) μ
  | .i2s => s_I st fun x t => K nx ls (.int x.toInt16.toInt32 :: t) μ
  | .i2c => s_I st fun x t => K nx ls (.int (x.toUInt32 % 65536).toInt32 :: t) μ
  | .dup => s_V1 st fun v t => K nx ls (v :: v :: t) μ
  | .pop => s_V1 st fun _ t => K nx ls t μ
  | .dup2 => s_IR st fun a x t => K nx ls (.int x :: .ref a :: .int x :: .ref a :: t) μ
  | .ifCond c _ => s_I st fun x t => mm_cond c x 0 (K r1 ls t μ) (K nx ls t μ)
  | .if_icmp c _ => s_II st fun x y t => mm_cond c x y (K r1 ls t μ) (K nx ls t μ)
  | .ifnull _ => s_N st (fun t => K r1 ls t μ) (fun _ t => K nx ls t μ)
  | .ifnonnull _ => s_N st (fun t => K nx ls t μ) (fun _ t => K r1 ls t μ)
  | .goto _ => K r1 ls st μ
  | .tableswitch d lo hi offs => s_I st fun x t => mm_sw pc d lo hi offs.toList x fun p => K p ls t μ
  | .getfield _ => s_R st fun a t => (match r3 with
    | 2 => g_R μ a r1 r2 fun x => K nx ls (.ref x :: t) μ
    | _ => g_I μ a r1 r2 fun x => K nx ls (.int x :: t) μ)
  | .putfield _ => s_VR st fun a v t => p_F μ a r1 r2 r3 v fun μ' => K nx ls t μ'
  | .iaload => s_IR st fun a i t => a_I μ a i fun x => K nx ls (.int x :: t) μ
  | .baload => s_IR st fun a i t => a_B μ a i fun x => K nx ls (.int x :: t) μ
  | .laload => s_IR st fun a i t => a_L μ a i fun x => K nx ls (.long x :: t) μ
  | .aaload => s_IR st fun a i t => a_Q μ a i fun x => K nx ls (.ref x :: t) μ
  | .arraylength => s_R st fun a t => a_n μ a fun x => K nx ls (.int x :: t) μ
  | .iastore => s_IIR st fun a i x t => w_I μ a i x fun μ' => K nx ls t μ'
  | .bastore => s_IIR st fun a i x t => w_B μ a i x fun μ' => K nx ls t μ'
  | .lastore => s_LIR st fun a i x t => w_L μ a i x fun μ' => K nx ls t μ'
  | .aastore => s_RIR st fun a i x t => w_Q μ a i x fun μ' => K nx ls t μ'
  | .new _ => if μ.1 < 1000 then K nx ls (.ref μ.1 :: st) (n_C μ r2 (.inr (r1, mm_dfl r1))) else none
  | .newarray ty => s_I st fun n t => n_A μ (mm_zero ty).1 n ((mm_zero ty).2 n.toNatClampNeg) fun μ' => K nx ls (.ref μ.1 :: t) μ'
  | .anewarray _ => s_I st fun n t => n_A μ 4 n (n.toNatClampNeg, .inr (.inr (.inr (.inr (fun _ => none))))) fun μ' => K nx ls (.ref μ.1 :: t) μ'
  | .invokevirtual _ => mm_call K C nx r1 r2 r3 r4 ls st μ
  | .invokespecial _ => (match r3 with
    | 6 => s_R st fun _ t => if c_room t = true then K nx ls t μ else none
    | _ => mm_call K C nx r1 r2 r3 r4 ls st μ)
  | .invokestatic _ => (match r3 with
    | 6 => mm_copy st fun a i b j n t => c_L μ a b i j n fun μ' => K nx ls t μ'
    | 7 => s_L st fun x t => if c_room t = true ∧ vn_snl2d x = false then K nx ls (.double x.toUInt64 :: t) μ else none
    | 14 => s_II st fun x y t => if c_room t = true then K nx ls (.int (if x < y then y else x) :: t) μ else none
    | 15 => s_II st fun x y t => if c_room t = true then K nx ls (.int (if y < x then y else x) :: t) μ else none
    | _ => mm_call K C nx r1 r2 r3 r4 ls st μ)
  | .ireturn => (match st with
    | [.int x] => r_I r1 x μ
    | _ => none)
  | .lreturn => (match st with
    | [.long x] => some (some (.long x), μ)
    | _ => none)
  | .areturn => (match st with
    | [.ref x] => some (some (.ref x), μ)
    | [.null] => some (some .null, μ)
    | _ => none)
  | .return_ => (match st with
    | [] => some (none, μ)
    | _ => none)
  | _ => none
