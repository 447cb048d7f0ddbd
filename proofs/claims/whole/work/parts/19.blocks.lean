/-! BLOCKS: places that are dead may be forgotten; some instructions at once -/
def lle (ls' ls : List Value) : Prop := ls'.length = ls.length ∧ ∀ (i : Nat) (v : Value), ls'[i]? = some v → v ≠ UU → ls[i]? = some v
theorem lle_clr {ls' ls : List Value} (h : lle ls' ls) (i : Nat) : lle (l_clr ls' i) (l_clr ls i) := by
  refine ⟨by rw [m_clr_len, m_clr_len]; exact h.1, fun j v hj hv => ?_⟩
  obtain ⟨h1, h2⟩ := m_clr_at hj hv
  have h3 := h.2 j v h1 hv
  cases i with
  | zero => exact h3
  | succ k =>
    by_cases hk : j = k
    · subst hk
      have hc := h2 rfl
      simp only [l_clr]
      split
      · next x hx => rw [hx] at h3; cases h3; simp [Value.category] at hc
      · next x hx => rw [hx] at h3; cases h3; simp [Value.category] at hc
      · exact h3
    · simp only [l_clr]
      split
      · rw [List.getElem?_set, if_neg (Ne.symm hk)]; exact h3
      · rw [List.getElem?_set, if_neg (Ne.symm hk)]; exact h3
      · exact h3
theorem lle_set {ls' ls : List Value} (h : lle ls' ls) (i : Nat) (v : Value) : lle (ls'.set i v) (ls.set i v) := by
  refine ⟨by simp [h.1], fun j w hj hw => ?_⟩
  rw [List.getElem?_set] at hj ⊢
  by_cases hij : i = j
  · rw [if_pos hij] at hj ⊢
    rw [← h.1]
    exact hj
  · rw [if_neg hij] at hj ⊢
    exact h.2 j w hj hw
section LLE
variable {mi pc nx r1 r2 r3 r4 : Nat} {cv : Value} {ls ls' st : List Value} {μ : MM} {r : RT} {K : KK} {C : Nat → List Value → MM → Option RT}
theorem l_s1_le {i : Nat} {v : Value} {k k' : List Value → Option RT} (hl : lle ls' ls) (h : l_s1 ls' i v k = some r) (hk : ∀ a b, lle a b → k a = some r → k' b = some r) : l_s1 ls i v k' = some r := by
  obtain ⟨hi, h⟩ := l_s1_i h
  unfold l_s1
  rw [if_pos (by rw [← hl.1]; exact hi)]
  exact hk _ _ (lle_set (lle_clr hl i) i v) h
theorem l_s2_le {i : Nat} {v : Value} {k k' : List Value → Option RT} (hl : lle ls' ls) (h : l_s2 ls' i v k = some r) (hk : ∀ a b, lle a b → k a = some r → k' b = some r) : l_s2 ls i v k' = some r := by
  obtain ⟨hi, h⟩ := l_s2_i h
  unfold l_s2
  rw [if_pos (by rw [← hl.1]; exact hi)]
  exact hk _ _ (lle_set (lle_set (lle_clr hl i) i v) (i + 1) UU) h
theorem l_I_le {i : Nat} {k k' : Int32 → Option RT} (hl : lle ls' ls) (h : l_I ls' i k = some r) (hk : ∀ x, k x = some r → k' x = some r) : l_I ls i k' = some r := by
  obtain ⟨x, hx, h⟩ := l_I_i h
  unfold l_I
  rw [hl.2 _ _ hx (by intro q; cases q)]
  exact hk x h
theorem l_L_le {i : Nat} {k k' : Int64 → Option RT} (hl : lle ls' ls) (h : l_L ls' i k = some r) (hk : ∀ x, k x = some r → k' x = some r) : l_L ls i k' = some r := by
  obtain ⟨x, hx, h⟩ := l_L_i h
  unfold l_L
  rw [hl.2 _ _ hx (by intro q; cases q)]
  exact hk x h
theorem l_A_le {i : Nat} {k k' : Value → Option RT} (hl : lle ls' ls) (h : l_A ls' i k = some r) (hk : ∀ x, k x = some r → k' x = some r) : l_A ls i k' = some r := by
  rcases l_A_i h with ⟨x, hx, h⟩ | ⟨hx, h⟩
  · unfold l_A
    rw [hl.2 _ _ hx (by intro q; cases q)]
    exact hk _ h
  · unfold l_A
    rw [hl.2 _ _ hx (by intro q; cases q)]
    exact hk _ h
theorem call_le (hK : ∀ pc ls' ls st μ r, lle ls' ls → K pc ls' st μ = some r → K pc ls st μ = some r) (hl : lle ls' ls) (h : mm_call K C nx r1 r2 r3 r4 ls' st μ = some r) : mm_call K C nx r1 r2 r3 r4 ls st μ = some r := by
  have ret : ∀ (rk : Nat) (as rest : List Value), c_ret rk (C r1 as μ) (fun v μ' => K nx ls' (v ++ rest) μ') = some r → c_ret rk (C r1 as μ) (fun v μ' => K nx ls (v ++ rest) μ') = some r := by
    intro rk as rest h
    obtain ⟨v, μ', h1, h2, hw⟩ := c_ret_w h
    exact hw _ (hK _ _ _ _ _ _ hl h2)
  have hO : ∀ ci : Nat, c_O μ (st.take r2).reverse ci (c_ret (r3 / 8) (C r1 (st.take r2).reverse μ) (fun v μ' => K nx ls' (v ++ st.drop r2) μ')) = some r → c_O μ (st.take r2).reverse ci (c_ret (r3 / 8) (C r1 (st.take r2).reverse μ) (fun v μ' => K nx ls (v ++ st.drop r2) μ')) = some r := by
    intro ci h
    obtain ⟨h1, hw⟩ := c_O_w h
    exact hw _ (ret _ _ _ h1)
  unfold mm_call at h ⊢
  split at h
  · next hh =>
    rw [if_pos hh]
    split at h
    · have h9 := hO _ h
      simp only [*]
    · have h9 := hO _ h
      simp only [*]
    · have h9 := hO _ h
      simp only [*]
    · have h9 := hO _ h
      simp only [*]
    · first | exact ret _ _ _ h | (simp only [*]; exact ret _ _ _ h)
  · cases h
theorem stp_le (hK : ∀ pc ls' ls st μ r, lle ls' ls → K pc ls' st μ = some r → K pc ls st μ = some r) (hl : lle ls' ls) (i : Instr) (h : mm_stp K C pc i nx r1 r2 r3 r4 cv ls' st μ = some r) : mm_stp K C pc i nx r1 r2 r3 r4 cv ls st μ = some r := by
  cases i with
  | aconst_null =>
    exact hK _ _ _ _ _ _ hl h
  | iconst n =>
    exact hK _ _ _ _ _ _ hl h
  | bipush n =>
    exact hK _ _ _ _ _ _ hl h
  | sipush n =>
    exact hK _ _ _ _ _ _ hl h
  | lconst n =>
    exact hK _ _ _ _ _ _ hl h
  | ldc_w n =>
    exact hK _ _ _ _ _ _ hl h
  | ldc2_w n =>
    exact hK _ _ _ _ _ _ hl h
  | goto n =>
    exact hK _ _ _ _ _ _ hl h
  | iload_n n =>
    exact l_I_le hl h fun x hx => hK _ _ _ _ _ _ hl hx
  | iload n =>
    exact l_I_le hl h fun x hx => hK _ _ _ _ _ _ hl hx
  | lload_n n =>
    exact l_L_le hl h fun x hx => hK _ _ _ _ _ _ hl hx
  | lload n =>
    exact l_L_le hl h fun x hx => hK _ _ _ _ _ _ hl hx
  | aload_n n =>
    have h : l_A ls' n.val (fun v => K nx ls' (v :: st) μ) = some r := h
    show l_A ls n.val (fun v => K nx ls (v :: st) μ) = some r
    exact l_A_le hl h fun x hx => hK _ _ _ _ _ _ hl hx
  | aload n =>
    have h : l_A ls' n (fun v => K nx ls' (v :: st) μ) = some r := h
    show l_A ls n (fun v => K nx ls (v :: st) μ) = some r
    exact l_A_le hl h fun x hx => hK _ _ _ _ _ _ hl hx
  | istore_n n =>
    obtain ⟨x, t, h1, w1⟩ := s_I_w h
    exact w1 _ (l_s1_le hl h1 fun a b hab ha => hK _ _ _ _ _ _ hab ha)
  | istore n =>
    obtain ⟨x, t, h1, w1⟩ := s_I_w h
    exact w1 _ (l_s1_le hl h1 fun a b hab ha => hK _ _ _ _ _ _ hab ha)
  | lstore_n n =>
    obtain ⟨x, t, h1, w1⟩ := s_L_w h
    exact w1 _ (l_s2_le hl h1 fun a b hab ha => hK _ _ _ _ _ _ hab ha)
  | lstore n =>
    obtain ⟨x, t, h1, w1⟩ := s_L_w h
    exact w1 _ (l_s2_le hl h1 fun a b hab ha => hK _ _ _ _ _ _ hab ha)
  | astore_n n =>
    rcases s_N_w h with ⟨t, h1, w1⟩ | ⟨a, t, h1, w1⟩
    · exact w1 _ _ (l_s1_le hl h1 fun a b hab ha => hK _ _ _ _ _ _ hab ha)
    · exact w1 _ _ (l_s1_le hl h1 fun a b hab ha => hK _ _ _ _ _ _ hab ha)
  | astore n =>
    rcases s_N_w h with ⟨t, h1, w1⟩ | ⟨a, t, h1, w1⟩
    · exact w1 _ _ (l_s1_le hl h1 fun a b hab ha => hK _ _ _ _ _ _ hab ha)
    · exact w1 _ _ (l_s1_le hl h1 fun a b hab ha => hK _ _ _ _ _ _ hab ha)
  | iinc n d =>
    refine l_I_le hl h fun x hx => ?_
    cases cv with
    | int d => exact l_s1_le hl hx fun a b hab ha => hK _ _ _ _ _ _ hab ha
    | _ => cases hx
  | iadd =>
    obtain ⟨y0, y1, y2, h1, w1⟩ := s_II_w h
    exact w1 _ (hK _ _ _ _ _ _ hl h1)
  | isub =>
    obtain ⟨y0, y1, y2, h1, w1⟩ := s_II_w h
    exact w1 _ (hK _ _ _ _ _ _ hl h1)
  | imul =>
    obtain ⟨y0, y1, y2, h1, w1⟩ := s_II_w h
    exact w1 _ (hK _ _ _ _ _ _ hl h1)
  | iand =>
    obtain ⟨y0, y1, y2, h1, w1⟩ := s_II_w h
    exact w1 _ (hK _ _ _ _ _ _ hl h1)
  | ior =>
    obtain ⟨y0, y1, y2, h1, w1⟩ := s_II_w h
    exact w1 _ (hK _ _ _ _ _ _ hl h1)
  | ixor =>
    obtain ⟨y0, y1, y2, h1, w1⟩ := s_II_w h
    exact w1 _ (hK _ _ _ _ _ _ hl h1)
  | ishl =>
    obtain ⟨y0, y1, y2, h1, w1⟩ := s_II_w h
    exact w1 _ (hK _ _ _ _ _ _ hl h1)
  | ishr =>
    obtain ⟨y0, y1, y2, h1, w1⟩ := s_II_w h
    exact w1 _ (hK _ _ _ _ _ _ hl h1)
  | iushr =>
    obtain ⟨y0, y1, y2, h1, w1⟩ := s_II_w h
    exact w1 _ (hK _ _ _ _ _ _ hl h1)
  | ladd =>
    obtain ⟨y0, y1, y2, h1, w1⟩ := s_LL_w h
    exact w1 _ (hK _ _ _ _ _ _ hl h1)
  | land =>
    obtain ⟨y0, y1, y2, h1, w1⟩ := s_LL_w h
    exact w1 _ (hK _ _ _ _ _ _ hl h1)
  | lor =>
    obtain ⟨y0, y1, y2, h1, w1⟩ := s_LL_w h
    exact w1 _ (hK _ _ _ _ _ _ hl h1)
  | lxor =>
    obtain ⟨y0, y1, y2, h1, w1⟩ := s_LL_w h
    exact w1 _ (hK _ _ _ _ _ _ hl h1)
  | lcmp =>
    obtain ⟨y0, y1, y2, h1, w1⟩ := s_LL_w h
    exact w1 _ (hK _ _ _ _ _ _ hl h1)
  | lshl =>
    obtain ⟨y0, y1, y2, h1, w1⟩ := s_LI_w h
    exact w1 _ (hK _ _ _ _ _ _ hl h1)
  | dcmp op =>
    obtain ⟨y0, y1, y2, h1, w1⟩ := s_DD_w h
    exact w1 _ (hK _ _ _ _ _ _ hl h1)
  | i2l =>
    obtain ⟨y0, y1, h1, w1⟩ := s_I_w h
    exact w1 _ (hK _ _ _ _ _ _ hl h1)
  | i2b =>
    obtain ⟨y0, y1, h1, w1⟩ := s_I_w h
    exact w1 _ (hK _ _ _ _ _ _ hl h1)
  | i2s =>
    obtain ⟨y0, y1, h1, w1⟩ := s_I_w h
    exact w1 _ (hK _ _ _ _ _ _ hl h1)
  | i2c =>
    obtain ⟨y0, y1, h1, w1⟩ := s_I_w h
    exact w1 _ (hK _ _ _ _ _ _ hl h1)
  | l2i =>
    obtain ⟨y0, y1, h1, w1⟩ := s_L_w h
    exact w1 _ (hK _ _ _ _ _ _ hl h1)
  | dup =>
    have h : s_V1 st (fun v t => K nx ls' (v :: v :: t) μ) = some r := h
    show s_V1 st (fun v t => K nx ls (v :: v :: t) μ) = some r
    obtain ⟨y0, y1, h1, w1⟩ := s_V1_w h
    exact w1 _ (hK _ _ _ _ _ _ hl h1)
  | pop =>
    have h : s_V1 st (fun _ t => K nx ls' t μ) = some r := h
    show s_V1 st (fun _ t => K nx ls t μ) = some r
    obtain ⟨y0, y1, h1, w1⟩ := s_V1_w h
    exact w1 (fun _ t => K nx ls t μ) (hK _ _ _ _ _ _ hl h1)
  | dup2 =>
    obtain ⟨y0, y1, y2, h1, w1⟩ := s_IR_w h
    exact w1 _ (hK _ _ _ _ _ _ hl h1)
  | ifCond c o =>
    obtain ⟨y0, y1, h1, w1⟩ := s_I_w h
    rcases mm_cond_w h1 with ⟨h2, w2⟩ | ⟨h2, w2⟩
    · exact w1 _ (w2 _ _ (hK _ _ _ _ _ _ hl h2))
    · exact w1 _ (w2 _ _ (hK _ _ _ _ _ _ hl h2))
  | if_icmp c o =>
    obtain ⟨y0, y1, y2, h1, w1⟩ := s_II_w h
    rcases mm_cond_w h1 with ⟨h2, w2⟩ | ⟨h2, w2⟩
    · exact w1 _ (w2 _ _ (hK _ _ _ _ _ _ hl h2))
    · exact w1 _ (w2 _ _ (hK _ _ _ _ _ _ hl h2))
  | ifnull o =>
    rcases s_N_w h with ⟨t, h1, w1⟩ | ⟨a, t, h1, w1⟩
    · exact w1 (fun t => K r1 ls t μ) (fun _ t => K nx ls t μ) (hK _ _ _ _ _ _ hl h1)
    · exact w1 (fun t => K r1 ls t μ) (fun _ t => K nx ls t μ) (hK _ _ _ _ _ _ hl h1)
  | ifnonnull o =>
    rcases s_N_w h with ⟨t, h1, w1⟩ | ⟨a, t, h1, w1⟩
    · exact w1 (fun t => K nx ls t μ) (fun _ t => K r1 ls t μ) (hK _ _ _ _ _ _ hl h1)
    · exact w1 (fun t => K nx ls t μ) (fun _ t => K r1 ls t μ) (hK _ _ _ _ _ _ hl h1)
  | tableswitch d lo hi offs =>
    obtain ⟨y0, y1, h1, w1⟩ := s_I_w h
    obtain ⟨z0, h2, w2⟩ := mm_sw_w h1
    exact w1 _ (w2 _ (hK _ _ _ _ _ _ hl h2))
  | getfield x =>
    obtain ⟨a, t, h1, w1⟩ := s_R_w h
    refine w1 _ ?_
    split at h1
    · obtain ⟨y, h2, w2⟩ := g_R_w h1
      exact w2 _ (hK _ _ _ _ _ _ hl h2)
    · next h3 =>
      obtain ⟨y, h2, w2⟩ := g_I_w h1
      exact w2 _ (hK _ _ _ _ _ _ hl h2)
  | putfield x =>
    obtain ⟨y0, y1, y2, h1, w1⟩ := s_VR_w h
    obtain ⟨z0, h2, w2⟩ := p_F_w h1
    exact w1 _ (w2 _ (hK _ _ _ _ _ _ hl h2))
  | iaload =>
    obtain ⟨y0, y1, y2, h1, w1⟩ := s_IR_w h
    obtain ⟨z0, h2, w2⟩ := a_I_w h1
    exact w1 _ (w2 _ (hK _ _ _ _ _ _ hl h2))
  | baload =>
    obtain ⟨y0, y1, y2, h1, w1⟩ := s_IR_w h
    obtain ⟨z0, h2, w2⟩ := a_B_w h1
    exact w1 _ (w2 _ (hK _ _ _ _ _ _ hl h2))
  | laload =>
    obtain ⟨y0, y1, y2, h1, w1⟩ := s_IR_w h
    obtain ⟨z0, h2, w2⟩ := a_L_w h1
    exact w1 _ (w2 _ (hK _ _ _ _ _ _ hl h2))
  | aaload =>
    obtain ⟨y0, y1, y2, h1, w1⟩ := s_IR_w h
    obtain ⟨z0, h2, w2⟩ := a_Q_w h1
    exact w1 _ (w2 _ (hK _ _ _ _ _ _ hl h2))
  | arraylength =>
    obtain ⟨y0, y1, h1, w1⟩ := s_R_w h
    obtain ⟨z0, h2, w2⟩ := a_n_w h1
    exact w1 _ (w2 _ (hK _ _ _ _ _ _ hl h2))
  | iastore =>
    obtain ⟨y0, y1, y2, y3, h1, w1⟩ := s_IIR_w h
    obtain ⟨z0, h2, w2⟩ := w_I_w h1
    exact w1 _ (w2 _ (hK _ _ _ _ _ _ hl h2))
  | bastore =>
    obtain ⟨y0, y1, y2, y3, h1, w1⟩ := s_IIR_w h
    obtain ⟨z0, h2, w2⟩ := w_B_w h1
    exact w1 _ (w2 _ (hK _ _ _ _ _ _ hl h2))
  | lastore =>
    obtain ⟨y0, y1, y2, y3, h1, w1⟩ := s_LIR_w h
    obtain ⟨z0, h2, w2⟩ := w_L_w h1
    exact w1 _ (w2 _ (hK _ _ _ _ _ _ hl h2))
  | aastore =>
    obtain ⟨y0, y1, y2, y3, h1, w1⟩ := s_RIR_w h
    obtain ⟨z0, h2, w2⟩ := w_Q_w h1
    exact w1 _ (w2 _ (hK _ _ _ _ _ _ hl h2))
  | new x =>
    obtain ⟨h1, w1⟩ := if_w h
    exact w1 _ (hK _ _ _ _ _ _ hl h1)
  | newarray ty =>
    obtain ⟨y0, y1, h1, w1⟩ := s_I_w h
    obtain ⟨z0, h2, w2⟩ := n_A_w h1
    exact w1 _ (w2 _ (hK _ _ _ _ _ _ hl h2))
  | anewarray x =>
    obtain ⟨y0, y1, h1, w1⟩ := s_I_w h
    obtain ⟨z0, h2, w2⟩ := n_A_w h1
    exact w1 _ (w2 _ (hK _ _ _ _ _ _ hl h2))
  | invokevirtual x =>
    exact call_le hK hl h
  | invokespecial x =>
    by_cases h6 : r3 = 6
    · subst h6
      obtain ⟨a, t, h1, w1⟩ := s_R_w h
      obtain ⟨h2, w2⟩ := if_w h1
      exact w1 (fun _ t => if c_room t = true then K nx ls t μ else none) (w2 _ (hK _ _ _ _ _ _ hl h2))
    · simp only [mm_stp] at h ⊢
      exact call_le hK hl h
  | invokestatic x =>
    simp only [mm_stp] at h ⊢
    split at h
    · obtain ⟨a, i, b, j, n, t, h1, w1⟩ := mm_copy_w h
      obtain ⟨y, h2, w2⟩ := c_L_w h1
      exact w1 (fun a i b j n t => c_L μ a b i j n fun μ' => K nx ls t μ') (w2 _ (hK _ _ _ _ _ _ hl h2))
    · obtain ⟨y, t, h1, w1⟩ := s_L_w h
      obtain ⟨h2, w2⟩ := if_w h1
      exact w1 (fun x t => if c_room t = true ∧ vn_snl2d x = false then K nx ls (.double x.toUInt64 :: t) μ else none) (w2 _ (hK _ _ _ _ _ _ hl h2))
    · obtain ⟨y, z, t, h1, w1⟩ := s_II_w h
      obtain ⟨h2, w2⟩ := if_w h1
      exact w1 (fun x y t => if c_room t = true then K nx ls (.int (if x < y then y else x) :: t) μ else none) (w2 _ (hK _ _ _ _ _ _ hl h2))
    · obtain ⟨y, z, t, h1, w1⟩ := s_II_w h
      obtain ⟨h2, w2⟩ := if_w h1
      exact w1 (fun x y t => if c_room t = true then K nx ls (.int (if y < x then y else x) :: t) μ else none) (w2 _ (hK _ _ _ _ _ _ hl h2))
    · exact call_le hK hl h
  | ireturn =>
    exact h
  | lreturn =>
    exact h
  | areturn =>
    exact h
  | return_ =>
    exact h
  | _ => cases h
theorem run_le : ∀ (n mi pc : Nat) (ls' ls st : List Value) (μ : MM) (r : RT), lle ls' ls → mm_run n mi pc ls' st μ = some r → mm_run n mi pc ls st μ = some r
  | 0, _, _, _, _, _, _, _, _, h => by cases h
  | n + 1, mi, pc, ls', ls, st, μ, r, hl, h => by
    unfold mm_run at h ⊢
    split at h
    · cases h
    · next i nx r1 r2 r3 r4 cv he => exact stp_le (fun pc ls' ls st μ r hl h => run_le n mi pc ls' ls st μ r hl h) hl i h
theorem Rs_le (hl : lle ls' ls) (h : Rs mi pc ls' st μ = some r) : Rs mi pc ls st μ = some r := by
  obtain ⟨N, hN⟩ := Rs_ev h
  exact Rs_of ⟨N, fun n hn => run_le n mi pc ls' ls st μ r hl (hN n hn)⟩
def l_kill : List Bool → List Value → List Value
  | true :: m, v :: t => v :: l_kill m t
  | false :: m, _ :: t => UU :: l_kill m t
  | _, t => t
theorem kill_le : ∀ (m : List Bool) (ls : List Value), lle (l_kill m ls) ls
  | [], ls => ⟨rfl, fun _ _ h _ => h⟩
  | true :: m, [] => ⟨rfl, fun _ _ h _ => h⟩
  | false :: m, [] => ⟨rfl, fun _ _ h _ => h⟩
  | true :: m, v :: t => by
    obtain ⟨h1, h2⟩ := kill_le m t
    refine ⟨by simp [l_kill, h1], fun i w hi hw => ?_⟩
    cases i with
    | zero => simpa [l_kill] using hi
    | succ j => simp [l_kill] at hi; simpa using h2 j w hi hw
  | false :: m, v :: t => by
    obtain ⟨h1, h2⟩ := kill_le m t
    refine ⟨by simp [l_kill, h1], fun i w hi hw => ?_⟩
    cases i with
    | zero => simp [l_kill] at hi; exact absurd hi.symm hw
    | succ j => simp [l_kill] at hi; simpa using h2 j w hi hw
def b_stop : List (Nat × List Bool) → Nat → Option (List Bool)
  | [], _ => none
  | (q, m) :: t, p => cond (Nat.beq p q) (some m) (b_stop t p)
noncomputable def b_K (stop : List (Nat × List Bool)) (mi : Nat) (k : KK) : KK := fun pc ls st μ => match b_stop stop pc with
  | some m => Rs mi pc (l_kill m ls) st μ
  | none => k pc ls st μ
/-- some instructions at once; at a stop, what the run comes to, with the dead places forgotten -/
noncomputable def bk : Nat → List (Nat × List Bool) → Nat → KK
  | 0, _, mi => Rs mi
  | k + 1, stop, mi => fun pc ls st μ => match mm_E mi pc with
    | none => none
    | some (i, nx, r1, r2, r3, r4, cv) => mm_stp (b_K stop mi (bk k stop mi)) Rc pc i nx r1 r2 r3 r4 cv ls st μ
theorem Rc_ev (j : Nat) (as : List Value) (μ : MM) (r : RT) (h : Rc j as μ = some r) : ∃ N, ∀ n, N ≤ n → mm_C n j as μ = some r := by
  unfold Rc at h
  cases hb : Nat.ble (l_ex as).length (mm_L j) with
  | false => rw [hb] at h; cases h
  | true =>
    rw [hb] at h
    obtain ⟨N, hN⟩ := Rs_ev h
    exact ⟨N, fun n hn => by unfold mm_C; rw [hb]; exact hN n hn⟩
theorem bk_ev (stop : List (Nat × List Bool)) (mi : Nat) : ∀ (k pc : Nat) (ls st : List Value) (μ : MM) (r : RT), bk k stop mi pc ls st μ = some r → Ev mi pc ls st μ r
  | 0, pc, ls, st, μ, r, h => Rs_ev h
  | k + 1, pc, ls, st, μ, r, h => by
    unfold bk at h
    split at h
    · cases h
    · next i nx r1 r2 r3 r4 cv he =>
      obtain ⟨N, hN⟩ := stp_ev (mi := mi) (fun pc ls st μ r hh => by
        unfold b_K at hh
        split at hh
        · exact Rs_ev (Rs_le (kill_le _ _) hh)
        · exact bk_ev stop mi k pc ls st μ r hh) Rc_ev i h
      refine ⟨N + 1, fun n hn => ?_⟩
      obtain ⟨m, rfl⟩ : ∃ m, n = m + 1 := ⟨n - 1, by omega⟩
      unfold mm_run
      rw [he]
      exact hN m (by omega)
theorem bk_s (k : Nat) (stop : List (Nat × List Bool)) (h : bk k stop mi pc ls st μ = some r) : Rs mi pc ls st μ = some r := Rs_of (bk_ev stop mi k pc ls st μ r h)
end LLE
