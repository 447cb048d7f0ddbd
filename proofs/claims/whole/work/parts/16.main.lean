/-! SOUND, last part: every entry, every run -/
section MAIN
variable {l : Launch} {b sb L : Nat} {xs : Nat → Int32} {dC : Nat → ClassId} {dI : Nat → Nat → Nat} {dA : Nat → ClassId} {mi pc nx r1 r2 r3 r4 : Nat} {cv : Value} {ls st : List Value} {μ : MM} {r : RT} {K : KK} {C : Nat → List Value → MM → Option RT}
theorem i_ret {v : Option Value} {i : Instr} (hd : decode (mm_B mi) pc = .ok (i, 1)) (hR : m_R i v (mm_R mi)) : m_G l b sb L xs dC dI dA mi pc ls v.toList μ (v, μ) := by
  refine ⟨⟨Nat.le_refl _, Nat.le_refl _⟩, fun p e R s m args below meth c hC k0 s0 mls H locs Q h0 h1 h2 h3 h4 hI hS hLo hn hret => ?_⟩
  exact hret pc mls H locs i hd hR hI hS
theorem call_i (h : mm_call K C nx r1 r2 r3 r4 ls st μ = some r) : ∃ as rest v μ1, st = as.reverse ++ rest ∧ as.length = r2 ∧ c_room rest = true ∧ C r1 as μ = some (v, μ1) ∧ K nx ls (v.toList ++ rest) μ1 = some r ∧ ((r3 % 8 = 0 ∨ r3 % 8 = 1 ∨ r3 % 8 = 4 ∨ r3 % 8 = 5) → ∃ a t fs, as = .ref a :: t ∧ μ.2.2 a = .inr (r4, fs) ∧ a < μ.1) := by
  unfold mm_call at h
  split at h
  · next hh =>
    obtain ⟨hr, hl⟩ := hh
    have hst : st = ((st.take r2).reverse).reverse ++ st.drop r2 := by rw [List.reverse_reverse, List.take_append_drop]
    have hO : ∀ q, c_O μ (st.take r2).reverse r4 q = some r → q = c_ret (r3 / 8) (C r1 (st.take r2).reverse μ) (fun v μ' => K nx ls (v ++ st.drop r2) μ') → ∃ as rest v μ1, st = as.reverse ++ rest ∧ as.length = r2 ∧ c_room rest = true ∧ C r1 as μ = some (v, μ1) ∧ K nx ls (v.toList ++ rest) μ1 = some r ∧ ((r3 % 8 = 0 ∨ r3 % 8 = 1 ∨ r3 % 8 = 4 ∨ r3 % 8 = 5) → ∃ a t fs, as = .ref a :: t ∧ μ.2.2 a = .inr (r4, fs) ∧ a < μ.1) := by
      intro q h hq
      obtain ⟨a, t, fs, g1, g2, g3, g4⟩ := c_O_i h
      rw [hq] at g4
      obtain ⟨v, μ1, e1, e2⟩ := c_ret_i g4
      exact ⟨_, _, v, μ1, hst, by rw [List.length_reverse, hl], hr, e1, e2, fun _ => ⟨a, t, fs, g1, g2, g3⟩⟩
    split at h
    · exact hO _ h rfl
    · exact hO _ h rfl
    · exact hO _ h rfl
    · exact hO _ h rfl
    · next k0 k1 k4 k5 =>
      obtain ⟨v, μ1, e1, e2⟩ := c_ret_i h
      refine ⟨_, _, v, μ1, hst, by rw [List.length_reverse, hl], hr, e1, e2, fun hk => ?_⟩
      rcases hk with hk | hk | hk | hk
      · exact absurd hk k0
      · exact absurd hk k1
      · exact absurd hk k4
      · exact absurd hk k5
  · cases h
set_option maxHeartbeats 4000000 in
theorem stp_sound (hsb : sb < b) (hK : ∀ pc ls st μ r, K pc ls st μ = some r → m_G l b sb L xs dC dI dA mi pc ls st μ r) (hCs : ∀ j as μ r, C j as μ = some r → (l_ex as).length ≤ mm_L j ∧ m_G l b sb L xs dC dI dA j 0 (l_pad (mm_L j) (l_ex as)) [] μ r)
    (i : Instr) (hdec : mm_dec mi pc i nx = true) (hck : mm_chk mi pc i nx r1 r2 r3 r4 cv = true) (h : mm_stp K C pc i nx r1 r2 r3 r4 cv ls st μ = some r) : m_G l b sb L xs dC dI dA mi pc ls st μ r := by
  have lod : ∀ (n : Nat) (v : Value), ls[n]? = some v → v ≠ UU → ∀ mls, m_Lo b sb ls mls → mls[n]? = some (.val (v_s b sb v)) := fun n v h1 h2 mls hLo => hLo.2.2 n v h1 h2
  cases i with
  | aconst_null =>
    obtain ⟨hd, rfl⟩ := dec2 hdec
    exact t_plain (hK _ _ _ _ _ h) fun p e R s m args below meth c hx hb _ _ H locs cells slots Q mls _ kk => lv_null hx hb hd kk
  | iconst n =>
    obtain ⟨hd, rfl⟩ := dec2 hdec
    have hv := of_decide_eq_true hck
    subst hv
    exact t_plain (hK _ _ _ _ _ h) fun p e R s m args below meth c hx hb _ _ H locs cells slots Q mls _ kk => lv_iconst hx hb hd rfl kk
  | bipush n =>
    obtain ⟨hd, rfl⟩ := dec2 hdec
    have hv := of_decide_eq_true hck
    subst hv
    exact t_plain (hK _ _ _ _ _ h) fun p e R s m args below meth c hx hb _ _ H locs cells slots Q mls _ kk => lv_bipush hx hb hd rfl kk
  | sipush n =>
    obtain ⟨hd, rfl⟩ := dec2 hdec
    have hv := of_decide_eq_true hck
    subst hv
    exact t_plain (hK _ _ _ _ _ h) fun p e R s m args below meth c hx hb _ _ H locs cells slots Q mls _ kk => lv_sipush hx hb hd rfl kk
  | lconst n =>
    obtain ⟨hd, rfl⟩ := dec2 hdec
    have hv := of_decide_eq_true hck
    subst hv
    exact t_plain (hK _ _ _ _ _ h) fun p e R s m args below meth c hx hb _ _ H locs cells slots Q mls _ kk => lv_lconst hx hb hd rfl kk
  | ldc_w x =>
    obtain ⟨hd, rfl⟩ := dec2 hdec
    obtain ⟨h1, h2⟩ := and2 hck
    cases cv with
    | int v => exact t_plain (hK _ _ _ _ _ h) fun p e R s m args below meth c hx hb hown hts H locs cells slots Q mls _ kk => lv_ldcw hx hb hown (hts _ (ki_at h2)) hd kk
    | _ => exact absurd h1 Bool.false_ne_true
  | ldc2_w x =>
    obtain ⟨hd, rfl⟩ := dec2 hdec
    obtain ⟨h1, h2⟩ := and2 hck
    cases cv with
    | long v => exact t_plain (hK _ _ _ _ _ h) fun p e R s m args below meth c hx hb hown hts H locs cells slots Q mls _ kk => lv_ldc2 hx hb hown (hts _ (kl_at h2)) hd kk
    | _ => exact absurd h1 Bool.false_ne_true
  | iload_n n =>
    obtain ⟨hd, rfl⟩ := dec2 hdec
    obtain ⟨x, hx1, h_1⟩ := l_I_i h
    exact t_plain (hK _ _ _ _ _ h_1) fun p e R s m args below meth c hx hb _ _ H locs cells slots Q mls hLo kk => lv_iload_n hx hb hd rfl (lod _ _ hx1 (by intro q; cases q) mls hLo) kk
  | iload n =>
    obtain ⟨hd, rfl⟩ := dec2 hdec
    obtain ⟨x, hx1, h_1⟩ := l_I_i h
    exact t_plain (hK _ _ _ _ _ h_1) fun p e R s m args below meth c hx hb _ _ H locs cells slots Q mls hLo kk => lv_iload hx hb hd (lod _ _ hx1 (by intro q; cases q) mls hLo) kk
  | lload_n n =>
    obtain ⟨hd, rfl⟩ := dec2 hdec
    obtain ⟨x, hx1, h_1⟩ := l_L_i h
    exact t_plain (hK _ _ _ _ _ h_1) fun p e R s m args below meth c hx hb _ _ H locs cells slots Q mls hLo kk => lv_lload_n hx hb hd rfl (lod _ _ hx1 (by intro q; cases q) mls hLo) kk
  | lload n =>
    obtain ⟨hd, rfl⟩ := dec2 hdec
    obtain ⟨x, hx1, h_1⟩ := l_L_i h
    exact t_plain (hK _ _ _ _ _ h_1) fun p e R s m args below meth c hx hb _ _ H locs cells slots Q mls hLo kk => lv_lload hx hb hd (lod _ _ hx1 (by intro q; cases q) mls hLo) kk
  | aload_n n =>
    obtain ⟨hd, rfl⟩ := dec2 hdec
    have h : l_A ls n.val (fun v => K (pc + 1) ls (v :: st) μ) = some r := h
    rcases l_A_i h with ⟨x, hx1, h_1⟩ | ⟨hx1, h_1⟩
    · exact t_plain (hK _ _ _ _ _ h_1) fun p e R s m args below meth c hx hb _ _ H locs cells slots Q mls hLo kk => lv_aload_n hx hb hd rfl (lod _ _ hx1 (by intro q; cases q) mls hLo) kk
    · exact t_plain (hK _ _ _ _ _ h_1) fun p e R s m args below meth c hx hb _ _ H locs cells slots Q mls hLo kk => lv_aload_nN hx hb hd rfl (lod _ _ hx1 (by intro q; cases q) mls hLo) kk
  | aload n =>
    obtain ⟨hd, rfl⟩ := dec2 hdec
    have h : l_A ls n (fun v => K (pc + 2) ls (v :: st) μ) = some r := h
    rcases l_A_i h with ⟨x, hx1, h_1⟩ | ⟨hx1, h_1⟩
    · exact t_plain (hK _ _ _ _ _ h_1) fun p e R s m args below meth c hx hb _ _ H locs cells slots Q mls hLo kk => lv_aload hx hb hd (lod _ _ hx1 (by intro q; cases q) mls hLo) kk
    · exact t_plain (hK _ _ _ _ _ h_1) fun p e R s m args below meth c hx hb _ _ H locs cells slots Q mls hLo kk => lv_aloadN hx hb hd (lod _ _ hx1 (by intro q; cases q) mls hLo) kk
  | istore_n n =>
    obtain ⟨hd, rfl⟩ := dec2 hdec
    obtain ⟨x, t, rfl, h_1⟩ := s_I_i h
    obtain ⟨hi, h_2⟩ := l_s1_i h_1
    exact t_store1 hi (hK _ _ _ _ _ h_2) fun p e R s m args below meth c hx hb H locs cells slots Q mls hl kk => lv_istore_n hx hb hd rfl hl hi rfl kk
  | istore n =>
    obtain ⟨hd, rfl⟩ := dec2 hdec
    obtain ⟨x, t, rfl, h_1⟩ := s_I_i h
    obtain ⟨hi, h_2⟩ := l_s1_i h_1
    exact t_store1 hi (hK _ _ _ _ _ h_2) fun p e R s m args below meth c hx hb H locs cells slots Q mls hl kk => lv_istore hx hb hd hl hi rfl kk
  | lstore_n n =>
    obtain ⟨hd, rfl⟩ := dec2 hdec
    obtain ⟨x, t, rfl, h_1⟩ := s_L_i h
    obtain ⟨hi, h_2⟩ := l_s2_i h_1
    exact t_store2 hi (hK _ _ _ _ _ h_2) fun p e R s m args below meth c hx hb H locs cells slots Q mls hl kk => lv_lstore_n hx hb hd rfl hl hi rfl kk
  | lstore n =>
    obtain ⟨hd, rfl⟩ := dec2 hdec
    obtain ⟨x, t, rfl, h_1⟩ := s_L_i h
    obtain ⟨hi, h_2⟩ := l_s2_i h_1
    exact t_store2 hi (hK _ _ _ _ _ h_2) fun p e R s m args below meth c hx hb H locs cells slots Q mls hl kk => lv_lstore hx hb hd hl hi rfl kk
  | astore_n n =>
    obtain ⟨hd, rfl⟩ := dec2 hdec
    rcases s_N_i h with ⟨t, rfl, h_1⟩ | ⟨a, t, rfl, h_1⟩
    · obtain ⟨hi, h_2⟩ := l_s1_i h_1
      exact t_store1 hi (hK _ _ _ _ _ h_2) fun p e R s m args below meth c hx hb H locs cells slots Q mls hl kk => lv_astore_nN hx hb hd rfl hl hi rfl kk
    · obtain ⟨hi, h_3⟩ := l_s1_i h_1
      exact t_store1 hi (hK _ _ _ _ _ h_3) fun p e R s m args below meth c hx hb H locs cells slots Q mls hl kk => lv_astore_n hx hb hd rfl hl hi rfl kk
  | astore n =>
    obtain ⟨hd, rfl⟩ := dec2 hdec
    rcases s_N_i h with ⟨t, rfl, h_1⟩ | ⟨a, t, rfl, h_1⟩
    · obtain ⟨hi, h_2⟩ := l_s1_i h_1
      exact t_store1 hi (hK _ _ _ _ _ h_2) fun p e R s m args below meth c hx hb H locs cells slots Q mls hl kk => lv_astoreN hx hb hd hl hi rfl kk
    · obtain ⟨hi, h_3⟩ := l_s1_i h_1
      exact t_store1 hi (hK _ _ _ _ _ h_3) fun p e R s m args below meth c hx hb H locs cells slots Q mls hl kk => lv_astore hx hb hd hl hi rfl kk
  | iinc n d =>
    obtain ⟨hd, rfl⟩ := dec2 hdec
    have hv := of_decide_eq_true hck
    subst hv
    obtain ⟨x, hx1, h_1⟩ := l_I_i h
    obtain ⟨hi, h_2⟩ := l_s1_i h_1
    refine t_store1 hi (hK _ _ _ _ _ h_2) fun p e R s m args below meth c hx hb H locs cells slots Q mls hl kk => ?_
    obtain ⟨k, hk⟩ := List.getElem?_of_mem (m_lv_in (b := b) (sb := sb) hx1 (by intro q; cases q))
    exact lv_iinc hx hb hd hl hk rfl hi rfl kk
  | iadd =>
    obtain ⟨hd, rfl⟩ := dec2 hdec
    obtain ⟨x, y, t, rfl, h_1⟩ := s_II_i h
    exact t_plain (hK _ _ _ _ _ h_1) fun p e R s m args below meth c hx hb _ _ H locs cells slots Q mls _ kk => lv_iadd hx hb hd kk
  | isub =>
    obtain ⟨hd, rfl⟩ := dec2 hdec
    obtain ⟨x, y, t, rfl, h_1⟩ := s_II_i h
    exact t_plain (hK _ _ _ _ _ h_1) fun p e R s m args below meth c hx hb _ _ H locs cells slots Q mls _ kk => lv_isub hx hb hd kk
  | imul =>
    obtain ⟨hd, rfl⟩ := dec2 hdec
    obtain ⟨x, y, t, rfl, h_1⟩ := s_II_i h
    exact t_plain (hK _ _ _ _ _ h_1) fun p e R s m args below meth c hx hb _ _ H locs cells slots Q mls _ kk => lv_imul hx hb hd kk
  | iand =>
    obtain ⟨hd, rfl⟩ := dec2 hdec
    obtain ⟨x, y, t, rfl, h_1⟩ := s_II_i h
    exact t_plain (hK _ _ _ _ _ h_1) fun p e R s m args below meth c hx hb _ _ H locs cells slots Q mls _ kk => lv_iand hx hb hd kk
  | ior =>
    obtain ⟨hd, rfl⟩ := dec2 hdec
    obtain ⟨x, y, t, rfl, h_1⟩ := s_II_i h
    exact t_plain (hK _ _ _ _ _ h_1) fun p e R s m args below meth c hx hb _ _ H locs cells slots Q mls _ kk => lv_ior hx hb hd kk
  | ixor =>
    obtain ⟨hd, rfl⟩ := dec2 hdec
    obtain ⟨x, y, t, rfl, h_1⟩ := s_II_i h
    exact t_plain (hK _ _ _ _ _ h_1) fun p e R s m args below meth c hx hb _ _ H locs cells slots Q mls _ kk => lv_ixor hx hb hd kk
  | ishl =>
    obtain ⟨hd, rfl⟩ := dec2 hdec
    obtain ⟨x, y, t, rfl, h_1⟩ := s_II_i h
    exact t_plain (hK _ _ _ _ _ h_1) fun p e R s m args below meth c hx hb _ _ H locs cells slots Q mls _ kk => lv_ishl hx hb hd kk
  | ishr =>
    obtain ⟨hd, rfl⟩ := dec2 hdec
    obtain ⟨x, y, t, rfl, h_1⟩ := s_II_i h
    exact t_plain (hK _ _ _ _ _ h_1) fun p e R s m args below meth c hx hb _ _ H locs cells slots Q mls _ kk => lv_ishr hx hb hd kk
  | iushr =>
    obtain ⟨hd, rfl⟩ := dec2 hdec
    obtain ⟨x, y, t, rfl, h_1⟩ := s_II_i h
    exact t_plain (hK _ _ _ _ _ h_1) fun p e R s m args below meth c hx hb _ _ H locs cells slots Q mls _ kk => lv_iushr hx hb hd rfl kk
  | ladd =>
    obtain ⟨hd, rfl⟩ := dec2 hdec
    obtain ⟨x, y, t, rfl, h_1⟩ := s_LL_i h
    exact t_plain (hK _ _ _ _ _ h_1) fun p e R s m args below meth c hx hb _ _ H locs cells slots Q mls _ kk => lv_ladd hx hb hd kk
  | land =>
    obtain ⟨hd, rfl⟩ := dec2 hdec
    obtain ⟨x, y, t, rfl, h_1⟩ := s_LL_i h
    exact t_plain (hK _ _ _ _ _ h_1) fun p e R s m args below meth c hx hb _ _ H locs cells slots Q mls _ kk => lv_land hx hb hd kk
  | lor =>
    obtain ⟨hd, rfl⟩ := dec2 hdec
    obtain ⟨x, y, t, rfl, h_1⟩ := s_LL_i h
    exact t_plain (hK _ _ _ _ _ h_1) fun p e R s m args below meth c hx hb _ _ H locs cells slots Q mls _ kk => lv_lor hx hb hd kk
  | lxor =>
    obtain ⟨hd, rfl⟩ := dec2 hdec
    obtain ⟨x, y, t, rfl, h_1⟩ := s_LL_i h
    exact t_plain (hK _ _ _ _ _ h_1) fun p e R s m args below meth c hx hb _ _ H locs cells slots Q mls _ kk => lv_lxor hx hb hd kk
  | lshl =>
    obtain ⟨hd, rfl⟩ := dec2 hdec
    obtain ⟨x, y, t, rfl, h_1⟩ := s_LI_i h
    exact t_plain (hK _ _ _ _ _ h_1) fun p e R s m args below meth c hx hb _ _ H locs cells slots Q mls _ kk => lv_lshl hx hb hd rfl kk
  | lcmp =>
    obtain ⟨hd, rfl⟩ := dec2 hdec
    obtain ⟨x, y, t, rfl, h_1⟩ := s_LL_i h
    exact t_plain (hK _ _ _ _ _ h_1) fun p e R s m args below meth c hx hb _ _ H locs cells slots Q mls _ kk => W.lcmp hx hb hd kk
  | dcmp op =>
    obtain ⟨hd, rfl⟩ := dec2 hdec
    obtain ⟨x, y, t, rfl, h_1⟩ := s_DD_i h
    exact t_plain (hK _ _ _ _ _ h_1) fun p e R s m args below meth c hx hb _ _ H locs cells slots Q mls _ kk => lv_dcmp hx hb hd kk
  | i2l =>
    obtain ⟨hd, rfl⟩ := dec2 hdec
    obtain ⟨x, t, rfl, h_1⟩ := s_I_i h
    exact t_plain (hK _ _ _ _ _ h_1) fun p e R s m args below meth c hx hb _ _ H locs cells slots Q mls _ kk => lv_i2l hx hb hd rfl kk
  | l2i =>
    obtain ⟨hd, rfl⟩ := dec2 hdec
    obtain ⟨x, t, rfl, h_1⟩ := s_L_i h
    exact t_plain (hK _ _ _ _ _ h_1) fun p e R s m args below meth c hx hb _ _ H locs cells slots Q mls _ kk => lv_l2i hx hb hd rfl kk
  | i2b =>
    obtain ⟨hd, rfl⟩ := dec2 hdec
    obtain ⟨x, t, rfl, h_1⟩ := s_I_i h
    exact t_plain (hK _ _ _ _ _ h_1) fun p e R s m args below meth c hx hb _ _ H locs cells slots Q mls _ kk => lv_i2b hx hb hd rfl kk
  | i2s =>
    obtain ⟨hd, rfl⟩ := dec2 hdec
    obtain ⟨x, t, rfl, h_1⟩ := s_I_i h
    exact t_plain (hK _ _ _ _ _ h_1) fun p e R s m args below meth c hx hb _ _ H locs cells slots Q mls _ kk => lv_i2s hx hb hd rfl kk
  | i2c =>
    obtain ⟨hd, rfl⟩ := dec2 hdec
    obtain ⟨x, t, rfl, h_1⟩ := s_I_i h
    exact t_plain (hK _ _ _ _ _ h_1) fun p e R s m args below meth c hx hb _ _ H locs cells slots Q mls _ kk => lv_i2c hx hb hd rfl kk
  | dup =>
    obtain ⟨hd, rfl⟩ := dec2 hdec
    have h : s_V1 st (fun v t => K (pc + 1) ls (v :: v :: t) μ) = some r := h
    obtain ⟨v, t, rfl, hv, h_1⟩ := s_V1_i h
    exact t_plain (hK _ _ _ _ _ h_1) fun p e R s m args below meth c hx hb _ _ H locs cells slots Q mls _ kk => lv_dup hx hb hd (by rw [v_cat]; exact hv) kk
  | pop =>
    obtain ⟨hd, rfl⟩ := dec2 hdec
    have h : s_V1 st (fun _ t => K (pc + 1) ls t μ) = some r := h
    obtain ⟨v, t, rfl, hv, h_1⟩ := s_V1_i h
    exact t_plain (hK _ _ _ _ _ h_1) fun p e R s m args below meth c hx hb _ _ H locs cells slots Q mls _ kk => lv_pop hx hb hd (by rw [v_cat]; exact hv) kk
  | dup2 =>
    obtain ⟨hd, rfl⟩ := dec2 hdec
    obtain ⟨a, x, t, rfl, h_1⟩ := s_IR_i h
    exact t_plain (hK _ _ _ _ _ h_1) fun p e R s m args below meth c hx hb _ _ H locs cells slots Q mls _ kk => lv_dup2_11 hx hb hd rfl rfl kk
  | ifCond c o =>
    obtain ⟨hd, rfl⟩ := dec2 hdec
    obtain ⟨x, t, rfl, h_1⟩ := s_I_i h
    exact i_ifCond (nx := 0) hK h_1 hd (of_decide_eq_true hck)
  | if_icmp c o =>
    obtain ⟨hd, rfl⟩ := dec2 hdec
    obtain ⟨x, y, t, rfl, h_1⟩ := s_II_i h
    exact i_icmp hK h_1 hd (of_decide_eq_true hck)
  | ifnull o =>
    obtain ⟨hd, rfl⟩ := dec2 hdec
    rcases s_N_i h with ⟨t, rfl, h_1⟩ | ⟨a, t, rfl, h_1⟩
    · exact t_plain (hK _ _ _ _ _ h_1) fun p e R s m args below meth c hx hb _ _ H locs cells slots Q mls _ kk => lv_ifnullN hx hb hd (of_decide_eq_true hck) kk
    · exact t_plain (hK _ _ _ _ _ h_1) fun p e R s m args below meth c hx hb _ _ H locs cells slots Q mls _ kk => lv_ifnull hx hb hd kk
  | ifnonnull o =>
    obtain ⟨hd, rfl⟩ := dec2 hdec
    rcases s_N_i h with ⟨t, rfl, h_1⟩ | ⟨a, t, rfl, h_1⟩
    · exact t_plain (hK _ _ _ _ _ h_1) fun p e R s m args below meth c hx hb _ _ H locs cells slots Q mls _ kk => lv_ifnonnullN hx hb hd kk
    · exact t_plain (hK _ _ _ _ _ h_1) fun p e R s m args below meth c hx hb _ _ H locs cells slots Q mls _ kk => lv_ifnonnull hx hb hd (of_decide_eq_true hck) kk
  | goto o =>
    obtain ⟨hd, rfl⟩ := dec2 hdec
    exact t_plain (hK _ _ _ _ _ h) fun p e R s m args below meth c hx hb _ _ H locs cells slots Q mls _ kk => lv_goto hx hb hd (of_decide_eq_true hck) kk
  | tableswitch d lo hi offs =>
    have hd := of_decide_eq_true hdec
    obtain ⟨h1, h2⟩ := and2 hck
    obtain ⟨x, t, rfl, h_1⟩ := s_I_i h
    exact i_table hK h_1 hd (of_decide_eq_true h1) (fun o ho => of_decide_eq_true (List.all_eq_true.mp h2 o ho))
  | getfield x =>
    obtain ⟨hd, rfl⟩ := dec2 hdec
    obtain ⟨a, t, rfl, h_1⟩ := s_R_i h
    split at h_1
    · obtain ⟨fs, y, g1, g2, g3, h_2⟩ := g_R_i h_1
      exact i_getfield hd hck g1 g2 g3 (hK _ _ _ _ _ h_2)
    · obtain ⟨fs, y, g1, g2, g3, h_3⟩ := g_I_i h_1
      exact i_getfield hd hck g1 g2 g3 (hK _ _ _ _ _ h_3)
  | putfield x =>
    obtain ⟨hd, rfl⟩ := dec2 hdec
    obtain ⟨h1, h2⟩ := and2 hck
    obtain ⟨h2, h3⟩ := and2 h2
    obtain ⟨a, v, t, rfl, h_1⟩ := s_VR_i h
    obtain ⟨fs, g1, g2, g3, g4, h_2⟩ := p_F_i h_1
    exact i_putfield hd h1 (of_decide_eq_true h2) (by simpa using h3) g1 g2 g3 g4 (hK _ _ _ _ _ h_2)
  | iaload =>
    obtain ⟨hd, rfl⟩ := dec2 hdec
    obtain ⟨a, i, t, rfl, h_1⟩ := s_IR_i h
    obtain ⟨n, f, g1, g2, g3, h_2⟩ := a_I_i h_1
    exact i_iaload hd g1 g2 g3 (hK _ _ _ _ _ h_2)
  | baload =>
    obtain ⟨hd, rfl⟩ := dec2 hdec
    obtain ⟨a, i, t, rfl, h_1⟩ := s_IR_i h
    obtain ⟨tg, n, f, g1, g2, g3, g4, h_2⟩ := a_B_i h_1
    exact i_baload hd g1 g2 g3 g4 (hK _ _ _ _ _ h_2)
  | laload =>
    obtain ⟨hd, rfl⟩ := dec2 hdec
    obtain ⟨a, i, t, rfl, h_1⟩ := s_IR_i h
    obtain ⟨n, f, g1, g2, g3, h_2⟩ := a_L_i h_1
    exact i_laload hd g1 g2 g3 (hK _ _ _ _ _ h_2)
  | aaload =>
    obtain ⟨hd, rfl⟩ := dec2 hdec
    obtain ⟨a, i, t, rfl, h_1⟩ := s_IR_i h
    obtain ⟨n, f, x, g1, g2, g3, g4, h_2⟩ := a_Q_i h_1
    exact i_aaload hd g1 g2 g3 g4 (hK _ _ _ _ _ h_2)
  | arraylength =>
    obtain ⟨hd, rfl⟩ := dec2 hdec
    obtain ⟨a, t, rfl, h_1⟩ := s_R_i h
    obtain ⟨tg, n, x, g1, g2, h_2⟩ := a_n_i h_1
    exact i_alen hd g1 g2 (hK _ _ _ _ _ h_2)
  | iastore =>
    obtain ⟨hd, rfl⟩ := dec2 hdec
    obtain ⟨a, i, x, t, rfl, h_1⟩ := s_IIR_i h
    obtain ⟨n, f, g1, g2, g3, h_2⟩ := w_I_i h_1
    exact i_iastore hd g1 g2 g3 (hK _ _ _ _ _ h_2)
  | bastore =>
    obtain ⟨hd, rfl⟩ := dec2 hdec
    obtain ⟨a, i, x, t, rfl, h_1⟩ := s_IIR_i h
    obtain ⟨tg, n, f, g1, g2, g3, g4, h_2⟩ := w_B_i h_1
    exact i_bastore hd g1 g2 g3 g4 (hK _ _ _ _ _ h_2)
  | lastore =>
    obtain ⟨hd, rfl⟩ := dec2 hdec
    obtain ⟨a, i, x, t, rfl, h_1⟩ := s_LIR_i h
    obtain ⟨n, f, g1, g2, g3, h_2⟩ := w_L_i h_1
    exact i_lastore hd g1 g2 g3 (hK _ _ _ _ _ h_2)
  | aastore =>
    obtain ⟨hd, rfl⟩ := dec2 hdec
    obtain ⟨a, i, x, t, rfl, h_1⟩ := s_RIR_i h
    obtain ⟨n, f, fs, g1, g2, g3, g4, g5, h_2⟩ := w_Q_i h_1
    exact i_aastore hd g1 g2 g3 g4 g5 (hK _ _ _ _ _ h_2)
  | new x =>
    obtain ⟨hd, rfl⟩ := dec2 hdec
    obtain ⟨h1, h2⟩ := and2 hck
    have h3 := of_decide_eq_true h2
    subst h3
    have h : (if μ.1 < 1000 then K (pc + 3) ls (.ref μ.1 :: st) (n_C μ (tN r1) (.inr (r1, mm_dfl r1))) else none) = some r := h
    split at h
    · next hN => exact i_new hd h1 hN (hK _ _ _ _ _ h)
    · cases h
  | newarray ty =>
    obtain ⟨hd, rfl⟩ := dec2 hdec
    obtain ⟨n, t, rfl, h_1⟩ := s_I_i h
    obtain ⟨g1, g2, g3, h_2⟩ := n_A_i h_1
    exact i_newarray hd (of_decide_eq_true hck) g1 g2 g3 (hK _ _ _ _ _ h_2)
  | anewarray x =>
    obtain ⟨hd, rfl⟩ := dec2 hdec
    obtain ⟨n, t, rfl, h_1⟩ := s_I_i h
    obtain ⟨g1, g2, g3, h_2⟩ := n_A_i h_1
    exact i_anewarray hd hck g1 g2 g3 (hK _ _ _ _ _ h_2)
  | invokevirtual x =>
    obtain ⟨hd, rfl⟩ := dec2 hdec
    obtain ⟨as, rest, v, μ1, e1, e2, e3, e4, e5, e6⟩ := call_i h
    have h8 : r3 % 8 = 0 ∨ r3 % 8 = 1 := by
      rcases (cc_i hck).1 with ⟨q, -⟩ | ⟨q, -⟩
      · exact Or.inl q
      · exact Or.inr q
    obtain ⟨a, t, fs, rfl, g1, g2⟩ := e6 (by omega)
    obtain ⟨hle, hGj⟩ := hCs _ _ _ _ e4
    have hck : mm_cc mi x r1 r2 r3 r4 0 = true := hck
    rw [← e2] at hck
    exact i_virtual hd hck hsb (by rw [e1]; simp) e3 g1 g2 hle hGj (hK _ _ _ _ _ e5)
  | invokespecial x =>
    obtain ⟨hd, rfl⟩ := dec2 hdec
    by_cases h6 : r3 = 6
    · subst h6
      obtain ⟨h1, h2⟩ := and2 hck
      obtain ⟨a, t, rfl, h_1⟩ := s_R_i h
      split at h_1
      · next hr => exact i_obj hd h1 h2 hr (hK _ _ _ _ _ h_1)
      · cases h_1
    · have hck2 : mm_cc mi x r1 r2 r3 r4 4 = true := by
        simp only [mm_chk] at hck
        first
          | exact hck
          | (split at hck
             · exact absurd rfl h6
             · exact hck)
      have h2 : mm_call K C (pc + 3) r1 r2 r3 r4 ls st μ = some r := by
        simp only [mm_stp] at h
        first
          | exact h
          | (split at h
             · exact absurd rfl h6
             · exact h)
      obtain ⟨as, rest, v, μ1, e1, e2, e3, e4, e5, e6⟩ := call_i h2
      have h8 : r3 % 8 = 4 ∨ r3 % 8 = 5 := by
        rcases (cc_i hck2).1 with ⟨q, -⟩ | ⟨q, -⟩
        · exact Or.inl q
        · exact Or.inr q
      obtain ⟨a, t, fs, rfl, g1, g2⟩ := e6 (by omega)
      obtain ⟨hle, hGj⟩ := hCs _ _ _ _ e4
      rw [← e2] at hck2
      exact i_special hd hck2 hsb (by rw [e1]; simp) e3 g1 g2 hle hGj (hK _ _ _ _ _ e5)
  | invokestatic x =>
    obtain ⟨hd, rfl⟩ := dec2 hdec
    simp only [mm_chk] at hck
    simp only [mm_stp] at h
    split at h
    · obtain ⟨h1, h2⟩ := and2 hck
      obtain ⟨a, i, q, j, n, t, rfl, hr, h_1⟩ := mm_copy_i h
      exact i_copy hK hd h1 h2 hr h_1
    · obtain ⟨h1, h2⟩ := and2 hck
      obtain ⟨y, t, rfl, h_1⟩ := s_L_i h
      split at h_1
      · next hr => exact i_l2d hd h1 h2 hr.1 hr.2 (hK _ _ _ _ _ h_1)
      · cases h_1
    · obtain ⟨h1, h2⟩ := and2 hck
      obtain ⟨y, z, t, rfl, h_1⟩ := s_II_i h
      split at h_1
      · next hr => exact i_max hd h1 h2 hr (hK _ _ _ _ _ h_1)
      · cases h_1
    · obtain ⟨h1, h2⟩ := and2 hck
      obtain ⟨y, z, t, rfl, h_1⟩ := s_II_i h
      split at h_1
      · next hr => exact i_min hd h1 h2 hr (hK _ _ _ _ _ h_1)
      · cases h_1
    · next k6 k7 k14 k15 =>
      have hck2 : mm_cc mi x r1 r2 r3 r4 2 = true := by
        first
          | exact hck
          | (split at hck
             · exact absurd rfl k6
             · exact absurd rfl k7
             · exact absurd rfl k14
             · exact absurd rfl k15
             · exact hck)
      obtain ⟨as, rest, v, μ1, e1, e2, e3, e4, e5, -⟩ := call_i h
      obtain ⟨hle, hGj⟩ := hCs _ _ _ _ e4
      rw [← e2] at hck2
      exact i_static hd hck2 hsb e1 e3 hle hGj (hK _ _ _ _ _ e5)
  | ireturn =>
    obtain ⟨hd, rfl⟩ := dec2 hdec
    simp only [mm_stp] at h
    simp only [mm_chk] at hck
    split at h
    · next x =>
      unfold r_I at h
      split at h
      · cases h
        exact i_ret (v := some (.int x)) hd (Or.inl ⟨rfl, x, rfl, Or.inl (of_decide_eq_true hck)⟩)
      · next hne =>
        split at hck
        · exact absurd rfl hne
        · split at h
          · next h01 =>
            cases h
            exact i_ret (v := some (.int x)) hd (Or.inl ⟨rfl, x, rfl, Or.inr ⟨of_decide_eq_true hck, h01⟩⟩)
          · cases h
    · cases h
  | lreturn =>
    obtain ⟨hd, rfl⟩ := dec2 hdec
    simp only [mm_stp] at h
    split at h
    · next x =>
      cases h
      exact i_ret (v := some (.long x)) hd (Or.inr (Or.inl ⟨rfl, x, rfl, of_decide_eq_true hck⟩))
    · cases h
  | areturn =>
    obtain ⟨hd, rfl⟩ := dec2 hdec
    simp only [mm_stp] at h
    split at h
    · next x =>
      cases h
      exact i_ret (v := some (.ref x)) hd (Or.inr (Or.inr (Or.inl ⟨rfl, Or.inr ⟨x, rfl⟩, of_decide_eq_true hck⟩)))
    · cases h
      exact i_ret (v := some .null) hd (Or.inr (Or.inr (Or.inl ⟨rfl, Or.inl rfl, of_decide_eq_true hck⟩)))
    · cases h
  | return_ =>
    obtain ⟨hd, rfl⟩ := dec2 hdec
    simp only [mm_stp] at h
    split at h
    · cases h
      exact i_ret (v := none) hd (Or.inr (Or.inr (Or.inr ⟨rfl, rfl, of_decide_eq_true hck⟩)))
    · cases h
  | _ => cases h
end MAIN
