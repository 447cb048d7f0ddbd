/-! WHAT KIND of answer a method gives -/
section KI
variable {mi pc nx r1 r2 r3 r4 : Nat} {cv : Value} {ls st : List Value} {μ : MM} {r : RT} {K : KK} {C : Nat → List Value → MM → Option RT}
def isRt : Instr → Bool
  | .ireturn => true
  | .lreturn => true
  | .areturn => true
  | .return_ => true
  | _ => false
theorem call_inv (h : mm_call K C nx r1 r2 r3 r4 ls st μ = some r) : ∃ pc' ls' st' μ', K pc' ls' st' μ' = some r := by
  have ret : ∀ (rk : Nat) (as rest : List Value), c_ret rk (C r1 as μ) (fun v μ' => K nx ls (v ++ rest) μ') = some r → ∃ pc' ls' st' μ', K pc' ls' st' μ' = some r := by
    intro rk as rest h
    obtain ⟨v, μ', h1, h2, hw⟩ := c_ret_w h
    exact ⟨_, _, _, _, h2⟩
  unfold mm_call at h
  split at h
  · have hO : ∀ ci : Nat, c_O μ (st.take r2).reverse ci (c_ret (r3 / 8) (C r1 (st.take r2).reverse μ) (fun v μ' => K nx ls (v ++ st.drop r2) μ')) = some r → ∃ pc' ls' st' μ', K pc' ls' st' μ' = some r := by
      intro ci h
      obtain ⟨h1, hw⟩ := c_O_w h
      exact ret _ _ _ h1
    split at h
    · exact hO _ h
    · exact hO _ h
    · exact hO _ h
    · exact hO _ h
    · exact ret _ _ _ h
  · cases h
theorem stp_inv (i : Instr) (h : mm_stp K C pc i nx r1 r2 r3 r4 cv ls st μ = some r) : (∃ pc' ls' st' μ', K pc' ls' st' μ' = some r) ∨ (isRt i = true ∧ mm_stp K C pc i nx r1 r2 r3 r4 cv ls st μ = some r) := by
  cases i with
  | aconst_null =>
    exact .inl ⟨_, _, _, _, h⟩
  | iconst n =>
    exact .inl ⟨_, _, _, _, h⟩
  | bipush n =>
    exact .inl ⟨_, _, _, _, h⟩
  | sipush n =>
    exact .inl ⟨_, _, _, _, h⟩
  | lconst n =>
    exact .inl ⟨_, _, _, _, h⟩
  | ldc_w n =>
    exact .inl ⟨_, _, _, _, h⟩
  | ldc2_w n =>
    exact .inl ⟨_, _, _, _, h⟩
  | goto n =>
    exact .inl ⟨_, _, _, _, h⟩
  | iload_n n =>
    obtain ⟨y0, h1, w1⟩ := l_I_w h
    exact .inl ⟨_, _, _, _, h1⟩
  | iload n =>
    obtain ⟨y0, h1, w1⟩ := l_I_w h
    exact .inl ⟨_, _, _, _, h1⟩
  | lload_n n =>
    obtain ⟨y0, h1, w1⟩ := l_L_w h
    exact .inl ⟨_, _, _, _, h1⟩
  | lload n =>
    obtain ⟨y0, h1, w1⟩ := l_L_w h
    exact .inl ⟨_, _, _, _, h1⟩
  | aload_n n =>
    have h : l_A ls n.val (fun v => K nx ls (v :: st) μ) = some r := h
    obtain ⟨y0, h1, w1⟩ := l_A_w h
    exact .inl ⟨_, _, _, _, h1⟩
  | aload n =>
    have h : l_A ls n (fun v => K nx ls (v :: st) μ) = some r := h
    obtain ⟨y0, h1, w1⟩ := l_A_w h
    exact .inl ⟨_, _, _, _, h1⟩
  | istore_n n =>
    obtain ⟨y0, y1, h1, w1⟩ := s_I_w h
    obtain ⟨z0, h2, w2⟩ := l_s1_w h1
    exact .inl ⟨_, _, _, _, h2⟩
  | istore n =>
    obtain ⟨y0, y1, h1, w1⟩ := s_I_w h
    obtain ⟨z0, h2, w2⟩ := l_s1_w h1
    exact .inl ⟨_, _, _, _, h2⟩
  | lstore_n n =>
    obtain ⟨y0, y1, h1, w1⟩ := s_L_w h
    obtain ⟨z0, h2, w2⟩ := l_s2_w h1
    exact .inl ⟨_, _, _, _, h2⟩
  | lstore n =>
    obtain ⟨y0, y1, h1, w1⟩ := s_L_w h
    obtain ⟨z0, h2, w2⟩ := l_s2_w h1
    exact .inl ⟨_, _, _, _, h2⟩
  | astore_n n =>
    rcases s_N_w h with ⟨t, h1, w1⟩ | ⟨a, t, h1, w1⟩
    · obtain ⟨z, h2, w2⟩ := l_s1_w h1
      exact .inl ⟨_, _, _, _, h2⟩
    · obtain ⟨z, h2, w2⟩ := l_s1_w h1
      exact .inl ⟨_, _, _, _, h2⟩
  | astore n =>
    rcases s_N_w h with ⟨t, h1, w1⟩ | ⟨a, t, h1, w1⟩
    · obtain ⟨z, h2, w2⟩ := l_s1_w h1
      exact .inl ⟨_, _, _, _, h2⟩
    · obtain ⟨z, h2, w2⟩ := l_s1_w h1
      exact .inl ⟨_, _, _, _, h2⟩
  | iinc n d =>
    obtain ⟨x, h1, w1⟩ := l_I_w h
    cases cv with
    | int d =>
      obtain ⟨z, h2, w2⟩ := l_s1_w h1
      exact .inl ⟨_, _, _, _, h2⟩
    | _ => cases h1
  | iadd =>
    obtain ⟨y0, y1, y2, h1, w1⟩ := s_II_w h
    exact .inl ⟨_, _, _, _, h1⟩
  | isub =>
    obtain ⟨y0, y1, y2, h1, w1⟩ := s_II_w h
    exact .inl ⟨_, _, _, _, h1⟩
  | imul =>
    obtain ⟨y0, y1, y2, h1, w1⟩ := s_II_w h
    exact .inl ⟨_, _, _, _, h1⟩
  | iand =>
    obtain ⟨y0, y1, y2, h1, w1⟩ := s_II_w h
    exact .inl ⟨_, _, _, _, h1⟩
  | ior =>
    obtain ⟨y0, y1, y2, h1, w1⟩ := s_II_w h
    exact .inl ⟨_, _, _, _, h1⟩
  | ixor =>
    obtain ⟨y0, y1, y2, h1, w1⟩ := s_II_w h
    exact .inl ⟨_, _, _, _, h1⟩
  | ishl =>
    obtain ⟨y0, y1, y2, h1, w1⟩ := s_II_w h
    exact .inl ⟨_, _, _, _, h1⟩
  | ishr =>
    obtain ⟨y0, y1, y2, h1, w1⟩ := s_II_w h
    exact .inl ⟨_, _, _, _, h1⟩
  | iushr =>
    obtain ⟨y0, y1, y2, h1, w1⟩ := s_II_w h
    exact .inl ⟨_, _, _, _, h1⟩
  | ladd =>
    obtain ⟨y0, y1, y2, h1, w1⟩ := s_LL_w h
    exact .inl ⟨_, _, _, _, h1⟩
  | land =>
    obtain ⟨y0, y1, y2, h1, w1⟩ := s_LL_w h
    exact .inl ⟨_, _, _, _, h1⟩
  | lor =>
    obtain ⟨y0, y1, y2, h1, w1⟩ := s_LL_w h
    exact .inl ⟨_, _, _, _, h1⟩
  | lxor =>
    obtain ⟨y0, y1, y2, h1, w1⟩ := s_LL_w h
    exact .inl ⟨_, _, _, _, h1⟩
  | lshl =>
    obtain ⟨y0, y1, y2, h1, w1⟩ := s_LI_w h
    exact .inl ⟨_, _, _, _, h1⟩
  | lcmp =>
    obtain ⟨y0, y1, y2, h1, w1⟩ := s_LL_w h
    exact .inl ⟨_, _, _, _, h1⟩
  | dcmp op =>
    obtain ⟨y0, y1, y2, h1, w1⟩ := s_DD_w h
    exact .inl ⟨_, _, _, _, h1⟩
  | i2l =>
    obtain ⟨y0, y1, h1, w1⟩ := s_I_w h
    exact .inl ⟨_, _, _, _, h1⟩
  | l2i =>
    obtain ⟨y0, y1, h1, w1⟩ := s_L_w h
    exact .inl ⟨_, _, _, _, h1⟩
  | i2b =>
    obtain ⟨y0, y1, h1, w1⟩ := s_I_w h
    exact .inl ⟨_, _, _, _, h1⟩
  | i2s =>
    obtain ⟨y0, y1, h1, w1⟩ := s_I_w h
    exact .inl ⟨_, _, _, _, h1⟩
  | i2c =>
    obtain ⟨y0, y1, h1, w1⟩ := s_I_w h
    exact .inl ⟨_, _, _, _, h1⟩
  | dup =>
    have h : s_V1 st (fun v t => K nx ls (v :: v :: t) μ) = some r := h
    obtain ⟨y0, y1, h1, w1⟩ := s_V1_w h
    exact .inl ⟨_, _, _, _, h1⟩
  | pop =>
    have h : s_V1 st (fun _ t => K nx ls t μ) = some r := h
    obtain ⟨y0, y1, h1, w1⟩ := s_V1_w h
    exact .inl ⟨_, _, _, _, h1⟩
  | dup2 =>
    obtain ⟨y0, y1, y2, h1, w1⟩ := s_IR_w h
    exact .inl ⟨_, _, _, _, h1⟩
  | ifCond c o =>
    obtain ⟨y0, y1, h1, w1⟩ := s_I_w h
    rcases mm_cond_w h1 with ⟨h2, w2⟩ | ⟨h2, w2⟩
    · exact .inl ⟨_, _, _, _, h2⟩
    · exact .inl ⟨_, _, _, _, h2⟩
  | if_icmp c o =>
    obtain ⟨y0, y1, y2, h1, w1⟩ := s_II_w h
    rcases mm_cond_w h1 with ⟨h2, w2⟩ | ⟨h2, w2⟩
    · exact .inl ⟨_, _, _, _, h2⟩
    · exact .inl ⟨_, _, _, _, h2⟩
  | ifnull o =>
    rcases s_N_w h with ⟨t, h1, w1⟩ | ⟨a, t, h1, w1⟩
    · exact .inl ⟨_, _, _, _, h1⟩
    · exact .inl ⟨_, _, _, _, h1⟩
  | ifnonnull o =>
    rcases s_N_w h with ⟨t, h1, w1⟩ | ⟨a, t, h1, w1⟩
    · exact .inl ⟨_, _, _, _, h1⟩
    · exact .inl ⟨_, _, _, _, h1⟩
  | tableswitch d lo hi offs =>
    obtain ⟨x, t, h1, w1⟩ := s_I_w h
    obtain ⟨p, h2, w2⟩ := mm_sw_w h1
    exact .inl ⟨_, _, _, _, h2⟩
  | getfield x =>
    obtain ⟨a, t, h1, w1⟩ := s_R_w h
    by_cases h3 : r3 = 2
    · subst h3
      obtain ⟨y, h2, w2⟩ := g_R_w h1
      exact .inl ⟨_, _, _, _, h2⟩
    · have h4 : g_I μ a r1 r2 (fun x => K nx ls (.int x :: t) μ) = some r := by
        split at h1
        · exact absurd rfl h3
        · exact h1
      obtain ⟨y, h2, w2⟩ := g_I_w h4
      exact .inl ⟨_, _, _, _, h2⟩
  | putfield x =>
    obtain ⟨y0, y1, y2, h1, w1⟩ := s_VR_w h
    obtain ⟨z0, h2, w2⟩ := p_F_w h1
    exact .inl ⟨_, _, _, _, h2⟩
  | iaload =>
    obtain ⟨y0, y1, y2, h1, w1⟩ := s_IR_w h
    obtain ⟨z0, h2, w2⟩ := a_I_w h1
    exact .inl ⟨_, _, _, _, h2⟩
  | baload =>
    obtain ⟨y0, y1, y2, h1, w1⟩ := s_IR_w h
    obtain ⟨z0, h2, w2⟩ := a_B_w h1
    exact .inl ⟨_, _, _, _, h2⟩
  | laload =>
    obtain ⟨y0, y1, y2, h1, w1⟩ := s_IR_w h
    obtain ⟨z0, h2, w2⟩ := a_L_w h1
    exact .inl ⟨_, _, _, _, h2⟩
  | aaload =>
    obtain ⟨y0, y1, y2, h1, w1⟩ := s_IR_w h
    obtain ⟨z0, h2, w2⟩ := a_Q_w h1
    exact .inl ⟨_, _, _, _, h2⟩
  | arraylength =>
    obtain ⟨y0, y1, h1, w1⟩ := s_R_w h
    obtain ⟨z0, h2, w2⟩ := a_n_w h1
    exact .inl ⟨_, _, _, _, h2⟩
  | iastore =>
    obtain ⟨y0, y1, y2, y3, h1, w1⟩ := s_IIR_w h
    obtain ⟨z0, h2, w2⟩ := w_I_w h1
    exact .inl ⟨_, _, _, _, h2⟩
  | bastore =>
    obtain ⟨y0, y1, y2, y3, h1, w1⟩ := s_IIR_w h
    obtain ⟨z0, h2, w2⟩ := w_B_w h1
    exact .inl ⟨_, _, _, _, h2⟩
  | lastore =>
    obtain ⟨y0, y1, y2, y3, h1, w1⟩ := s_LIR_w h
    obtain ⟨z0, h2, w2⟩ := w_L_w h1
    exact .inl ⟨_, _, _, _, h2⟩
  | aastore =>
    obtain ⟨y0, y1, y2, y3, h1, w1⟩ := s_RIR_w h
    obtain ⟨z0, h2, w2⟩ := w_Q_w h1
    exact .inl ⟨_, _, _, _, h2⟩
  | new x =>
    obtain ⟨h1, w1⟩ := if_w h
    exact .inl ⟨_, _, _, _, h1⟩
  | newarray ty =>
    obtain ⟨y0, y1, h1, w1⟩ := s_I_w h
    obtain ⟨z0, h2, w2⟩ := n_A_w h1
    exact .inl ⟨_, _, _, _, h2⟩
  | anewarray x =>
    obtain ⟨y0, y1, h1, w1⟩ := s_I_w h
    obtain ⟨z0, h2, w2⟩ := n_A_w h1
    exact .inl ⟨_, _, _, _, h2⟩
  | invokevirtual x =>
    exact .inl (call_inv h)
  | invokespecial x =>
    by_cases h6 : r3 = 6
    · subst h6
      obtain ⟨a, t, h1, w1⟩ := s_R_w h
      obtain ⟨h2, w2⟩ := if_w h1
      exact .inl ⟨_, _, _, _, h2⟩
    · simp only [mm_stp] at h
      exact .inl (call_inv h)
  | invokestatic x =>
    simp only [mm_stp] at h
    split at h
    · obtain ⟨a, i, b, j, n, t, h1, w1⟩ := mm_copy_w h
      obtain ⟨y, h2, w2⟩ := c_L_w h1
      exact .inl ⟨_, _, _, _, h2⟩
    · obtain ⟨y, t, h1, w1⟩ := s_L_w h
      obtain ⟨h2, w2⟩ := if_w h1
      exact .inl ⟨_, _, _, _, h2⟩
    · obtain ⟨y, z, t, h1, w1⟩ := s_II_w h
      obtain ⟨h2, w2⟩ := if_w h1
      exact .inl ⟨_, _, _, _, h2⟩
    · obtain ⟨y, z, t, h1, w1⟩ := s_II_w h
      obtain ⟨h2, w2⟩ := if_w h1
      exact .inl ⟨_, _, _, _, h2⟩
    · next k6 k7 k14 k15 =>
      exact .inl (call_inv h)
  | ireturn =>
    exact .inr ⟨rfl, h⟩
  | lreturn =>
    exact .inr ⟨rfl, h⟩
  | areturn =>
    exact .inr ⟨rfl, h⟩
  | return_ =>
    exact .inr ⟨rfl, h⟩
  | _ => cases h
/-- no answer but an int; but a long -/
def okI (p : Nat × EN) : Bool := match p.2.1 with
  | .lreturn => false
  | .areturn => false
  | .return_ => false
  | _ => true
def okJ (p : Nat × EN) : Bool := match p.2.1 with
  | .ireturn => false
  | .areturn => false
  | .return_ => false
  | _ => true
noncomputable def alE (f : Nat × EN → Bool) (mi : Nat) : Bool := ((mE_g.getD (mi / 16) []).getD (mi % 16) []).all fun l => l.all f
theorem alE_at {f : Nat × EN → Bool} (h : alE f mi = true) {e : EN} (he : mm_E mi pc = some e) : f (pc, e) = true := by
  unfold mm_E at he
  have h1 := find_mem he
  unfold alE at h
  generalize (mE_g.getD (mi / 16) []).getD (mi % 16) [] = l at *
  rw [List.getD_eq_getElem?_getD] at h1
  cases q : l[pc / 32]? with
  | none => rw [q] at h1; cases h1
  | some l' =>
    rw [q] at h1
    exact List.all_eq_true.mp (List.all_eq_true.mp h l' (List.mem_of_getElem? q)) _ h1
theorem run_I (h : alE okI mi = true) : ∀ n pc ls st μ v μ', mm_run n mi pc ls st μ = some (v, μ') → ∃ x : Int32, v = some (.int x) := by
  intro n
  induction n with
  | zero => intro pc ls st μ v μ' q; cases q
  | succ n ih =>
    intro pc ls st μ v μ' q
    unfold mm_run at q
    split at q
    · cases q
    · next i nx r1 r2 r3 r4 cv he =>
      have hk := alE_at h he
      rcases stp_inv _ q with ⟨_, _, _, _, z⟩ | ⟨z1, z2⟩
      · exact ih _ _ _ _ _ _ z
      · cases i with
        | ireturn =>
          unfold mm_stp at z2
          dsimp only at z2
          split at z2
          · next x =>
            unfold r_I at z2
            split at z2
            · cases z2
              exact ⟨_, rfl⟩
            · split at z2
              · cases z2
                exact ⟨_, rfl⟩
              · cases z2
          · cases z2
        | lreturn => cases hk
        | areturn => cases hk
        | return_ => cases hk
        | _ => cases z1
theorem run_J (h : alE okJ mi = true) : ∀ n pc ls st μ v μ', mm_run n mi pc ls st μ = some (v, μ') → ∃ x : Int64, v = some (.long x) := by
  intro n
  induction n with
  | zero => intro pc ls st μ v μ' q; cases q
  | succ n ih =>
    intro pc ls st μ v μ' q
    unfold mm_run at q
    split at q
    · cases q
    · next i nx r1 r2 r3 r4 cv he =>
      have hk := alE_at h he
      rcases stp_inv _ q with ⟨_, _, _, _, z⟩ | ⟨z1, z2⟩
      · exact ih _ _ _ _ _ _ z
      · cases i with
        | lreturn =>
          unfold mm_stp at z2
          dsimp only at z2
          split at z2
          · cases z2
            exact ⟨_, rfl⟩
          · cases z2
        | ireturn => cases hk
        | areturn => cases hk
        | return_ => cases hk
        | _ => cases z1
theorem Rc_I {as : List Value} {v : Option Value} {μ' : MM} (h : alE okI mi = true) (q : Rc mi as μ = some (v, μ')) : ∃ x : Int32, v = some (.int x) := by
  unfold Rc at q
  cases z : Nat.ble (l_ex as).length (mm_L mi) with
  | false => rw [z] at q; cases q
  | true =>
    rw [z] at q
    obtain ⟨N, hN⟩ := Rs_ev q
    exact run_I h N _ _ _ _ _ _ (hN N (Nat.le_refl _))
theorem Rc_J {as : List Value} {v : Option Value} {μ' : MM} (h : alE okJ mi = true) (q : Rc mi as μ = some (v, μ')) : ∃ x : Int64, v = some (.long x) := by
  unfold Rc at q
  cases z : Nat.ble (l_ex as).length (mm_L mi) with
  | false => rw [z] at q; cases q
  | true =>
    rw [z] at q
    obtain ⟨N, hN⟩ := Rs_ev q
    exact run_J h N _ _ _ _ _ _ (hN N (Nat.le_refl _))
end KI
theorem kI : ∀ mi, mi ∈ [93, 94, 95, 96, 97, 98, 100, 101, 102, 103, 104, 105, 106, 107, 108, 109, 110, 111, 112, 113, 114, 115, 116, 117, 118, 119, 120, 121, 122, 123, 124, 125, 126, 127, 128, 129, 130, 131, 132, 133] → alE okI mi = true := by decide +kernel
theorem kJ : alE okJ 99 = true := by decide +kernel
