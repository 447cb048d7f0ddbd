/-! SOUND, fourth part: instructions that leave the heap alone, and those that read and write it -/
theorem dec2 {P Q : Prop} [Decidable P] [Decidable Q] (h : (decide P && decide Q) = true) : P ∧ Q := by
  simpa using h
theorem and2 {x y : Bool} (h : (x && y) = true) : x = true ∧ y = true := by
  simpa using h
theorem m_ty_at {dA : Nat → ClassId} : ∀ {t : Nat}, t < 5 → ∃ ty, (m_ty dA)[t]? = some (dA t, ty)
  | 0, _ => ⟨_, rfl⟩
  | 1, _ => ⟨_, rfl⟩
  | 2, _ => ⟨_, rfl⟩
  | 3, _ => ⟨_, rfl⟩
  | 4, _ => ⟨_, rfl⟩
  | _ + 5, h => absurd h (by omega)
section STP
variable {l : Launch} {b sb L : Nat} {xs : Nat → Int32} {dC : Nat → ClassId} {dI : Nat → Nat → Nat} {dA : Nat → ClassId} {mi pc : Nat} {ls st : List Value} {μ : MM} {r : RT}
theorem v_ref {a : Nat} (h : a ≤ 1000) : v_s b sb (.ref a) = .ref (b + a) := by
  show Value.ref (if a = SC then sb else b + a) = _
  rw [if_neg (by unfold SC; omega)]
theorem v_scr : v_s b sb (.ref SC) = .ref sb := by
  show Value.ref (if SC = SC then sb else b + SC) = _
  rw [if_pos rfl]
theorem t_store1 {i nx : Nat} {v : Value} {t : List Value} (hi : i < ls.length) (hG : m_G l b sb L xs dC dI dA mi nx ((l_clr ls i).set i v) t μ r)
    (hs : ∀ (p : Program) (e : Env) (R : Room) (s : State) (m : MethodId) (args : Array Value) (below : List Frame) (meth : Method) (c : Code), p.tables.exec = Jvm.exec → c.code = mm_B mi → ∀ (H : Heap) (locs : List Loc) (cells slots : Nat) (Q : State → Prop) (mls : Array Slot), lv_has mls ls.length (m_lv b sb ls) →
      (∀ mls' : Array Slot, lv_has mls' ls.length ((i, v_s b sb v) :: (m_lv b sb ls).filter (fun q => !(q.1 == i) && !(q.1 + 1 == i && q.2.category == 2))) → W p l e R s m args below meth c H locs cells slots Q (F0 m nx mls' (t.map (v_s b sb)))) → W p l e R s m args below meth c H locs cells slots Q (F0 m pc mls (st.map (v_s b sb)))) : m_G l b sb L xs dC dI dA mi pc ls st μ r := by
  refine g_step hG (by simp [m_clr_len]) fun p e R s m args below meth c hC H locs cells slots Q mls hLo hn _ _ _ _ kk => ?_
  exact hs p e R s m args below meth c hC.1 hC.2.1 H locs cells slots Q mls hLo.has fun mls' h' => kk mls' (m_Lo_s1 (mls := mls) rfl h'.1 h')
theorem t_store2 {i nx : Nat} {v : Value} {t : List Value} (hi : i + 1 < ls.length) (hG : m_G l b sb L xs dC dI dA mi nx (((l_clr ls i).set i v).set (i + 1) UU) t μ r)
    (hs : ∀ (p : Program) (e : Env) (R : Room) (s : State) (m : MethodId) (args : Array Value) (below : List Frame) (meth : Method) (c : Code), p.tables.exec = Jvm.exec → c.code = mm_B mi → ∀ (H : Heap) (locs : List Loc) (cells slots : Nat) (Q : State → Prop) (mls : Array Slot), lv_has mls ls.length (m_lv b sb ls) →
      (∀ mls' : Array Slot, lv_has mls' ls.length ((i, v_s b sb v) :: (m_lv b sb ls).filter (fun q => !(q.1 == i) && (!(q.1 == i + 1) && !(q.1 + 1 == i && q.2.category == 2)))) → W p l e R s m args below meth c H locs cells slots Q (F0 m nx mls' (t.map (v_s b sb)))) → W p l e R s m args below meth c H locs cells slots Q (F0 m pc mls (st.map (v_s b sb)))) : m_G l b sb L xs dC dI dA mi pc ls st μ r := by
  refine g_step hG (by simp [m_clr_len]) fun p e R s m args below meth c hC H locs cells slots Q mls hLo hn _ _ _ _ kk => ?_
  exact hs p e R s m args below meth c hC.1 hC.2.1 H locs cells slots Q mls hLo.has fun mls' h' => kk mls' (m_Lo_s2 rfl h'.1 h')
/-- a step by exec and code alone -/
theorem t_plain {nx : Nat} {st' : List Value} (hG : m_G l b sb L xs dC dI dA mi nx ls st' μ r)
    (hs : ∀ (p : Program) (e : Env) (R : Room) (s : State) (m : MethodId) (args : Array Value) (below : List Frame) (meth : Method) (c : Code), p.tables.exec = Jvm.exec → c.code = mm_B mi → s.vm.findClass (cN (mm_own mi)) = some m.cls → (∀ w ∈ tG, w.before args s = true) → ∀ (H : Heap) (locs : List Loc) (cells slots : Nat) (Q : State → Prop) (mls : Array Slot), m_Lo b sb ls mls →
      W p l e R s m args below meth c H locs cells slots Q (F0 m nx mls (st'.map (v_s b sb))) → W p l e R s m args below meth c H locs cells slots Q (F0 m pc mls (st.map (v_s b sb)))) : m_G l b sb L xs dC dI dA mi pc ls st μ r :=
  g_step hG rfl fun p e R s m args below meth c hC H locs cells slots Q mls hLo hn _ _ _ _ kk => hs p e R s m args below meth c hC.1 hC.2.1 hC.2.2.2.2.1 hC.2.2.2.2.2.2.2.1 H locs cells slots Q mls hLo (kk mls hLo)
theorem t_cond {nx tg : Nat} {t : List Value} {co : ClassFile.Cond} {x y : Int32} {K : KK} (hK : ∀ pc ls st μ r, K pc ls st μ = some r → m_G l b sb L xs dC dI dA mi pc ls st μ r) (h : mm_cond co x y (K tg ls t μ) (K nx ls t μ) = some r)
    (hs : ∀ (p : Program) (e : Env) (R : Room) (s : State) (m : MethodId) (args : Array Value) (below : List Frame) (meth : Method) (c : Code), p.tables.exec = Jvm.exec → c.code = mm_B mi → ∀ (H : Heap) (locs : List Loc) (cells slots : Nat) (Q : State → Prop) (mls : Array Slot),
      (mm_hd co x y → W p l e R s m args below meth c H locs cells slots Q (F0 m tg mls (t.map (v_s b sb)))) → (¬ mm_hd co x y → W p l e R s m args below meth c H locs cells slots Q (F0 m nx mls (t.map (v_s b sb)))) → W p l e R s m args below meth c H locs cells slots Q (F0 m pc mls (st.map (v_s b sb)))) : m_G l b sb L xs dC dI dA mi pc ls st μ r := by
  rcases mm_cond_i h with ⟨h1, hc⟩ | ⟨h1, hc⟩
  · exact g_step (hK _ _ _ _ _ h1) rfl fun p e R s m args below meth c hC H locs cells slots Q mls hLo hn _ _ _ _ kk => hs p e R s m args below meth c hC.1 hC.2.1 H locs cells slots Q mls (fun _ => kk mls hLo) (fun q => absurd hc q)
  · exact g_step (hK _ _ _ _ _ h1) rfl fun p e R s m args below meth c hC H locs cells slots Q mls hLo hn _ _ _ _ kk => hs p e R s m args below meth c hC.1 hC.2.1 H locs cells slots Q mls (fun q => absurd q hc) (fun _ => kk mls hLo)
theorem i_ifCond {nx tg : Nat} {t : List Value} {co : ClassFile.Cond} {x : Int32} {off : Int} {K : KK} (hK : ∀ pc ls st μ r, K pc ls st μ = some r → m_G l b sb L xs dC dI dA mi pc ls st μ r) (h : mm_cond co x 0 (K tg ls t μ) (K (pc + 3) ls t μ) = some r) (hd : decode (mm_B mi) pc = .ok (.ifCond co off, 3)) (ht : (pc : Int) + off = (tg : Int)) : m_G l b sb L xs dC dI dA mi pc ls (.int x :: t) μ r := by
  refine t_cond hK h fun p e R s m args below meth c hx hb H locs cells slots Q mls kt kf => ?_
  cases co with
  | eq => exact lv_if_eq hx hb hd ht kt kf
  | ne => exact lv_if_ne hx hb hd ht kt (fun q => kf (fun z => z q))
  | lt => exact lv_if_lt hx hb hd ht kt kf
  | ge => exact lv_if_ge hx hb hd ht kt kf
  | gt => exact lv_if_gt hx hb hd ht kt kf
  | le => exact lv_if_le hx hb hd ht kt kf
theorem i_icmp {tg : Nat} {t : List Value} {co : ClassFile.Cond} {x y : Int32} {off : Int} {K : KK} (hK : ∀ pc ls st μ r, K pc ls st μ = some r → m_G l b sb L xs dC dI dA mi pc ls st μ r) (h : mm_cond co x y (K tg ls t μ) (K (pc + 3) ls t μ) = some r) (hd : decode (mm_B mi) pc = .ok (.if_icmp co off, 3)) (ht : (pc : Int) + off = (tg : Int)) : m_G l b sb L xs dC dI dA mi pc ls (.int y :: .int x :: t) μ r := by
  refine t_cond hK h fun p e R s m args below meth c hx hb H locs cells slots Q mls kt kf => ?_
  cases co with
  | eq => exact lv_icmp_eq hx hb hd ht kt kf
  | ne => exact lv_icmp_ne hx hb hd ht kt (fun q => kf (fun z => z q))
  | lt => exact lv_icmp_lt hx hb hd ht kt kf
  | ge => exact lv_icmp_ge hx hb hd ht kt kf
  | gt => exact lv_icmp_gt hx hb hd ht kt kf
  | le => exact lv_icmp_le hx hb hd ht kt kf
theorem i_table {d lo hi : Int} {offs : Array Int} {len : Nat} {t : List Value} {x : Int32} {K : KK} (hK : ∀ pc ls st μ r, K pc ls st μ = some r → m_G l b sb L xs dC dI dA mi pc ls st μ r) (h : mm_sw pc d lo hi offs.toList x (fun p => K p ls t μ) = some r) (hd : decode (mm_B mi) pc = .ok (.tableswitch d lo hi offs, len)) (h0 : 0 ≤ (pc : Int) + d) (h1 : ∀ o ∈ offs.toList, 0 ≤ (pc : Int) + o) : m_G l b sb L xs dC dI dA mi pc ls (.int x :: t) μ r := by
  unfold mm_sw at h
  split at h
  · next hc =>
    exact t_plain (hK _ _ _ _ _ h) fun p e R s m args below meth c hx hb _ _ H locs cells slots Q mls _ kk => lv_tableOut hx hb hd hc (by omega) kk
  · next hc =>
    split at h
    · next o ho =>
      have ho2 : offs[(x.toInt - lo).toNat]? = some o := by rw [← Array.getElem?_toList]; exact ho
      have h2 := h1 o (List.mem_of_getElem? ho)
      exact t_plain (hK _ _ _ _ _ h) fun p e R s m args below meth c hx hb _ _ H locs cells slots Q mls _ kk => lv_tableIn hx hb hd (fun q => hc (Or.inl q)) (fun q => hc (Or.inr q)) ho2 (by omega) kk
    · cases h
theorem i_getfield {a ci j x : Nat} {t : List Value} {fs : List Value} {v : Value} (hd : decode (mm_B mi) pc = .ok (.getfield x, 3)) (hf : fl_h (mm_own mi) x ci j = true) (hc : μ.2.2 a = .inr (ci, fs)) (ha : a < μ.1) (hv : fs[j]? = some v) (hG : m_G l b sb L xs dC dI dA mi (pc + 3) ls (v :: t) μ r) : m_G l b sb L xs dC dI dA mi pc ls (.ref a :: t) μ r := by
  obtain ⟨hw, hc9, hj⟩ := fl_at hf
  refine g_step hG rfl fun p e R s m args below meth c hC H locs cells slots Q mls hLo hn _ _ hI hS kk => ?_
  obtain ⟨hx, hb, hml, hr, hown, hlk, hnm, hts, hK, -⟩ := hC
  obtain ⟨hP, hm, -⟩ := hI
  have he : (m_W b sb dA μ)[a]? = some (b + a, .inr (ci, fs.map (v_s b sb))) := by rw [m_W_at ha, hc]; rfl
  have hv2 : (fs.map (v_s b sb))[j]? = some (v_s b sb v) := by rw [List.getElem?_map, hv]; rfl
  show W p l e R s m args below meth c H locs cells slots Q (F0 m pc mls (v_s b sb (.ref a) :: t.map (v_s b sb)))
  rw [v_ref (by omega)]
  exact va_get hx hb hts (uw_at hc9) hown hK.2.2 hP a he (vw_at hc9) j hj (hts _ hw) (fun _ h9 => h9) hv2 hd (kk mls hLo)
theorem p_ok_i {ci j : Nat} {v : Value} (h : p_ok (t_code (tTy ci j)) v = true) : narrow (tTy ci j) (v_s b sb v) = v_s b sb v ∧ fits (tTy ci j) (v_s b sb v) = true := by
  generalize tTy ci j = ty at h ⊢
  cases ty with
  | int => cases v <;> first | exact ⟨rfl, rfl⟩ | simp [p_ok, t_code] at h
  | boolean =>
    cases v with
    | int x =>
      simp only [p_ok, t_code, Bool.or_eq_true, beq_iff_eq] at h
      rcases h with rfl | rfl
      · exact ⟨(by decide : narrow .boolean (.int 0) = .int 0), (by decide : fits .boolean (.int 0) = true)⟩
      · exact ⟨(by decide : narrow .boolean (.int 1) = .int 1), (by decide : fits .boolean (.int 1) = true)⟩
    | _ => simp [p_ok, t_code] at h
  | object n => cases v <;> first | exact ⟨rfl, rfl⟩ | simp [p_ok, t_code] at h
  | array n => cases v <;> first | exact ⟨rfl, rfl⟩ | simp [p_ok, t_code] at h
  | _ => simp [p_ok, t_code] at h
theorem i_putfield {a ci j tc x : Nat} {t : List Value} {fs : List Value} {v : Value} (hd : decode (mm_B mi) pc = .ok (.putfield x, 3)) (hf : fl_h (mm_own mi) x ci j = true) (htc : tc = t_code (tTy ci j)) (hfin : (tT ci j).2.2.2 = false ∨ ((mm_Y mi).name = "<init>" ∧ (tT ci j).1 = cN (mm_own mi) ∧ (tT ci j).2.2.2 = true)) (hc : μ.2.2 a = .inr (ci, fs)) (ha : a < μ.1) (hl : j < fs.length) (hv : p_ok tc v = true) (hG : m_G l b sb L xs dC dI dA mi (pc + 3) ls t (μ.1, μ.2.1, va_up μ.2.2 a (.inr (ci, fs.set j v))) r) : m_G l b sb L xs dC dI dA mi pc ls (v :: .ref a :: t) μ r := by
  obtain ⟨hw, hc9, hj⟩ := fl_at hf
  subst htc
  obtain ⟨hn1, hn2⟩ := p_ok_i (b := b) (sb := sb) hv
  refine g_write a (.inr (ci, fs.set j v)) ha hG fun p e R s m args below meth c hC H locs cells slots Q mls hLo hn hP hD hS h1000 kk => ?_
  obtain ⟨hx, hb, hml, hr, hown, hlk, hnm, hts, hK, -⟩ := hC
  have he : (m_W b sb dA μ)[a]? = some (b + a, .inr (ci, fs.map (v_s b sb))) := by rw [m_W_at ha, hc]; rfl
  have hl2 : j < (fs.map (v_s b sb)).length := by simpa using hl
  have hset : (fs.map (v_s b sb)).set j (v_s b sb v) = (fs.set j v).map (v_s b sb) := by rw [List.map_set]
  show W p l e R s m args below meth c H locs cells slots Q (F0 m pc mls (v_s b sb v :: v_s b sb (.ref a) :: t.map (v_s b sb)))
  rw [v_ref (by omega)]
  have kk2 : ∀ (H1 : Heap) (locs1 : List Loc), va_P (dC, dI) vwCl ((m_W b sb dA μ).set a (b + a, .inr (ci, (fs.map (v_s b sb)).set j (v_s b sb v)))) H1 → va_D (fun q => b ≤ q) ((m_W b sb dA μ).set a (b + a, .inr (ci, (fs.map (v_s b sb)).set j (v_s b sb v)))) → va_S (fun q => b ≤ q) s.heap H1 locs1 → W p l e R s m args below meth c H1 locs1 cells slots Q (F0 m (pc + 3) mls (t.map (v_s b sb))) := by
    rw [hset]
    exact kk
  rcases hfin with hfin | ⟨h1, h2, h3⟩
  · exact va_put hx hb hts (uw_at hc9) (tTy ci) (ty_at hc9) (nm_at hc9) hown hK.2.2 hP hD hS a he (vw_at hc9) j hj (hts _ hw) (fun _ h9 => h9) hfin (ty_at hc9 j hj) hn1 hn2 hl2 hd kk2
  · exact va_putF hx hb hts (uw_at hc9) (tTy ci) (ty_at hc9) (nm_at hc9) hown hK.2.2 hP hD hS a he (vw_at hc9) j hj (hts _ hw) (fun _ h9 => h9) h3 (hnm.trans h1) h2 (ty_at hc9 j hj) hn1 hn2 hl2 hd kk2
end STP
