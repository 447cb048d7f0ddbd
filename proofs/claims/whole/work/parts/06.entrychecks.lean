/-! every entry is what the bytes say, its links are the tables' -/
def i_len : Instr → Nat
  | .bipush _ | .iload _ | .lload _ | .aload _ | .istore _ | .lstore _ | .astore _ | .newarray _ => 2
  | .sipush _ | .ldc_w _ | .ldc2_w _ | .iinc _ _ | .ifCond _ _ | .if_icmp _ _ | .ifnull _ | .ifnonnull _ | .goto _ | .getfield _ | .putfield _ | .new _ | .anewarray _ | .invokevirtual _ | .invokespecial _ | .invokestatic _ => 3
  | _ => 1
def t_code : FieldType → Nat
  | .int => 0
  | .boolean => 1
  | .object _ => 2
  | .array _ => 2
  | _ => 9
def r_code : Option FieldType → Nat
  | none => 0
  | some .int => 1
  | some .boolean => 1
  | some .long => 2
  | some (.object _) => 3
  | _ => 9
def fl_h (o x c k : Nat) : Bool := fl_t.any fun q => q.1 == o && (q.2.1 == x && (q.2.2.1 == c && q.2.2.2.1 == k))
def ml_h (o x j n : Nat) : Bool := ml_t.any fun q => q.1 == o && (q.2.1 == x && (q.2.2.1 == j && q.2.2.2.1 == n))
def ol_h (o x : Nat) : Bool := ol_t.any fun q => q.1 == o && q.2.1 == x
def cl_h (o x c : Nat) : Bool := cl_t.any fun q => q.1 == o && (q.2.1 == x && q.2.2.1 == c)
def nt_h (o x k : Nat) : Bool := nt_t.any fun q => q.1 == o && (q.2.1 == x && q.2.2.1 == k)
def k_h (o x : Nat) (v : Value) : Bool := match v with
  | .int v => ki_t.any fun q => q.1 == o && (q.2.1 == x && decide (q.2.2.1 = v))
  | .long v => kl_t.any fun q => q.1 == o && (q.2.1 == x && decide (q.2.2.1 = v))
  | _ => false
/-- a call's room, answer and receiver -/
def mm_cc (mi idx r1 r2 r3 r4 kd : Nat) : Bool := ml_h (mm_own mi) idx r1 (r3 % 8 - kd) && (decide (mm_k r1 = kd) && (decide (mm_F r1 + 1 ≤ mm_F mi) && (decide (8 + (mm_L r1 + 11) + mm_O r1 ≤ mm_O mi) && (decide (r3 / 8 = r_code (mm_R r1)) && (decide (r4 = mm_own r1) && (decide (r2 = mm_A r1 + (if kd = 2 then 0 else 1)) && (decide (r4 < 9 ∨ kd = 2) && (decide (kd ≤ r3 % 8) && decide (r3 % 8 ≤ kd + 1)))))))))
def mm_nt (mi : Nat) : Bool := decide (1 ≤ mm_F mi) && decide (40 ≤ mm_O mi)
def mm_chk (mi pc : Nat) (i : Instr) (nx r1 r2 r3 r4 : Nat) (cv : Value) : Bool := match i with
  | .iconst n => decide (cv = .int (Int32.ofInt n))
  | .bipush n => decide (cv = .int (Int8.ofInt n).toInt32)
  | .sipush n => decide (cv = .int (Int16.ofInt n).toInt32)
  | .lconst n => decide (cv = .long (Int64.ofNat n.val))
  | .ldc_w x => (match cv with
    | .int _ => true
    | _ => false) && k_h (mm_own mi) x cv
  | .ldc2_w x => (match cv with
    | .long _ => true
    | _ => false) && k_h (mm_own mi) x cv
  | .iinc _ c => decide (cv = .int (Int32.ofInt c))
  | .ifCond _ o => decide ((pc : Int) + o = (r1 : Int))
  | .if_icmp _ o => decide ((pc : Int) + o = (r1 : Int))
  | .ifnull o => decide ((pc : Int) + o = (r1 : Int))
  | .ifnonnull o => decide ((pc : Int) + o = (r1 : Int))
  | .goto o => decide ((pc : Int) + o = (r1 : Int))
  | .tableswitch d _ _ offs => decide (0 ≤ (pc : Int) + d) && offs.toList.all fun o => decide (0 ≤ (pc : Int) + o)
  | .getfield x => fl_h (mm_own mi) x r1 r2
  | .putfield x => fl_h (mm_own mi) x r1 r2 && (decide (r3 = t_code (tTy r1 r2)) && (decide ((tT r1 r2).2.2.2 = false) || decide ((mm_Y mi).name = "<init>" ∧ (tT r1 r2).1 = cN (mm_own mi) ∧ (tT r1 r2).2.2.2 = true)))
  | .new x => cl_h (mm_own mi) x r1 && decide (r2 = tN r1)
  | .newarray ty => decide ((mm_zero ty).1 < 4)
  | .anewarray x => cl_h (mm_own mi) x 5
  | .invokevirtual x => mm_cc mi x r1 r2 r3 r4 0
  | .invokespecial x => (match r3 with
    | 6 => ol_h (mm_own mi) x && mm_nt mi
    | _ => mm_cc mi x r1 r2 r3 r4 4)
  | .invokestatic x => (match r3 with
    | 6 => nt_h (mm_own mi) x 6 && mm_nt mi
    | 7 => nt_h (mm_own mi) x 7 && mm_nt mi
    | 14 => nt_h (mm_own mi) x 14 && mm_nt mi
    | 15 => nt_h (mm_own mi) x 15 && mm_nt mi
    | _ => mm_cc mi x r1 r2 r3 r4 2)
  | .ireturn => (match r1 with
    | 0 => decide (mm_R mi = some .int)
    | _ => decide (mm_R mi = some .boolean))
  | .lreturn => decide (mm_R mi = some .long)
  | .areturn => decide (r_code (mm_R mi) = 3)
  | .return_ => decide (mm_R mi = none)
  | _ => true
def mm_dec (mi pc : Nat) (i : Instr) (nx : Nat) : Bool := match i with
  | .tableswitch d lo hi offs => decide (decode (mm_B mi) pc = .ok (.tableswitch d lo hi offs, nx - pc))
  | i => decide (decode (mm_B mi) pc = .ok (i, i_len i)) && decide (nx = pc + i_len i)
def mm_ck (mi pc : Nat) (e : EN) : Bool := mm_dec mi pc e.1 e.2.1 && mm_chk mi pc e.1 e.2.1 e.2.2.1 e.2.2.2.1 e.2.2.2.2.1 e.2.2.2.2.2.1 e.2.2.2.2.2.2
def mm_ckm (q : List (List (Nat × EN)) × Nat) : Bool := q.1.all fun ch => ch.all fun x => mm_ck q.2 x.1 x.2
