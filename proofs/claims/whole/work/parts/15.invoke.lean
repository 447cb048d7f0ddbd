/-! SOUND, seventh part: calls -/
section CAL
variable {l : Launch} {b sb L : Nat} {xs : Nat → Int32} {dC : Nat → ClassId} {dI : Nat → Nat → Nat} {dA : Nat → ClassId} {mi pc : Nat} {ls st : List Value} {μ : MM} {r : RT}
theorem m_pre {s U : State} {H : Heap} {locs : List Loc} {av : List Value} (hI : m_I b sb L xs dC dI dA μ H) (hK : m_K dC dI dA s) (hX : va_X sb L xs s s.heap) (hS : va_S (fun q => b ≤ q) s.heap H locs) (hsb : sb < b) (hbs : b ≤ s.heap.size) (hz : H.size = b + μ.1) (hU : U.heap = H) (hW : s.WarmedH U.vm) : va_Pc av (m_P b sb L xs dC dI dA μ) av.toArray U := by
  refine ⟨rfl, by rw [hU]; exact hI, hK.warm hW, ?_, by rw [hU]; exact hz⟩
  rw [hU]
  exact (hX.kept (hS.2.1 sb (by omega) (by omega))).moved hW.alike
theorem i_callG {st : List Value} {mc ms : Nat} {as rest : List Value} {v : Option Value} {μ1 : MM} (hmc : mc = μ1.1 - μ.1) (hms : ms = μ1.2.1 - μ.2.1) (hGj : μ.1 ≤ μ1.1 ∧ μ.2.1 ≤ μ1.2.1) (hG1 : m_G l b sb L xs dC dI dA mi (pc + 3) ls (v.toList ++ rest) μ1 r)
    (hrun : ∀ (p : Program) (e : Env) (R : Room) (s : State) (m : MethodId) (args : Array Value) (below : List Frame) (meth : Method) (c : Code), m_C b sb L xs dC dI dA p R s m args meth c mi → ∀ (H : Heap) (locs : List Loc) (cells slots : Nat) (mls : Array Slot), mls.size = mm_L mi → H.size = b + μ.1 → m_I b sb L xs dC dI dA μ H → va_S (fun q => b ≤ q) s.heap H locs → cells + mc ≤ R.cells ∧ slots + ms ≤ R.slots →
      va_Run p l e R s m args below meth c H locs cells slots mc ms (F0 m pc mls (st.map (v_s b sb))) (rest.map (v_s b sb)) (m_Q b sb L xs dC dI dA (v, μ1) (as.map (v_s b sb)).toArray) (fun q => b ≤ q)) : m_G l b sb L xs dC dI dA mi pc ls st μ r := by
  have hm := hG1.1
  refine ⟨by omega, fun p e R s m args below meth c hC k0 s0 mls H locs Q h0 h1 h2 h3 h4 hI hS hLo hn hret => ?_⟩
  refine W_sz h0 h1 hI.1 hS fun hsz => ?_
  refine m_after (hrun p e R s m args below meth c hC H locs _ _ mls (hLo.1.trans hn) hsz hI hS ⟨by omega, by omega⟩) hS fun H1 locs1 hI1 hS1 => ?_
  have K := hG1.2 p e R s m args below meth c hC k0 s0 mls H1 locs1 Q h0 (by omega) (by omega) h3 h4 hI1 hS1 hLo hn hret
  rw [show μ.1 - k0 + mc = μ1.1 - k0 by omega, show μ.2.1 - s0 + ms = μ1.2.1 - s0 by omega]
  have e1 : ((v, μ1) : RT).1 = v := rfl
  rw [e1]
  have e2 : (v.map (v_s b sb)).toList ++ rest.map (v_s b sb) = (v.toList ++ rest).map (v_s b sb) := by cases v <;> rfl
  rw [e2]
  exact K
theorem cc_i {x r1 r2 r3 r4 kd : Nat} (h : mm_cc mi x r1 r2 r3 r4 kd = true) : ((r3 % 8 = kd ∧ Cond.methodLink (cN (mm_own mi)) x (mm_Y r1) ∈ tG) ∨ (r3 % 8 = kd + 1 ∧ Cond.methodLinkNest (cN (mm_own mi)) x (mm_Y r1) "KeyFinder" ∈ nW)) ∧ r1 < mm_cnt ∧ mm_k r1 = kd ∧ mm_F r1 + 1 ≤ mm_F mi ∧ 8 + (mm_L r1 + 11) + mm_O r1 ≤ mm_O mi ∧ r4 = mm_own r1 ∧ r2 = mm_A r1 + (if kd = 2 then 0 else 1) ∧ (r4 < 9 ∨ kd = 2) := by
  unfold mm_cc at h
  simp only [Bool.and_eq_true, decide_eq_true_eq] at h
  obtain ⟨h1, h2, h3, h4, h5, h6, h7, h8, h9, h10⟩ := h
  obtain ⟨g1, g2, g3⟩ := ml_at h1
  refine ⟨?_, g3, h2, h3, h4, h6, h7, h8⟩
  rcases Nat.eq_or_lt_of_le h9 with h | h
  · exact Or.inl ⟨h.symm, g1 (by omega)⟩
  · exact Or.inr ⟨by omega, g2 (by omega)⟩
/-- a method of an object -/
theorem i_virtual {x j r3 a ci : Nat} {t rest fs : List Value} {v : Option Value} {μ1 : MM} (hd : decode (mm_B mi) pc = .ok (.invokevirtual x, 3)) (hcc : mm_cc mi x j (t.length + 1) r3 ci 0 = true) (hsb : sb < b) (hst : st = t.reverse ++ .ref a :: rest) (hroom : c_room rest = true) (hc : μ.2.2 a = .inr (ci, fs)) (ha : a < μ.1) (hle : (l_ex (.ref a :: t)).length ≤ mm_L j) (hGj : m_G l b sb L xs dC dI dA j 0 (l_pad (mm_L j) (l_ex (.ref a :: t))) [] μ (v, μ1)) (hG1 : m_G l b sb L xs dC dI dA mi (pc + 3) ls (v.toList ++ rest) μ1 r) : m_G l b sb L xs dC dI dA mi pc ls st μ r := by
  obtain ⟨hlink, hj, hk, hfr, hlo, hr4, hr2, hci⟩ := cc_i hcc
  obtain ⟨w1, w2, w3, w4, w5, hco, hy1, hy2, hpl, hpar⟩ := mw_at hj
  obtain ⟨w6, w7⟩ := w5 hk
  have hc9 : ci < 9 := by omega
  have hcls : (mm_Y j).cls = cN ci := by rw [hco, hr4]
  refine i_callG (as := .ref a :: t) rfl rfl hGj.1 hG1 fun p e R s m args below meth c hC H locs cells slots mls hsz hz hI hS hroom2 => ?_
  obtain ⟨hx, hb, hml, hr, hown, hlk, hnm, hts, hK, hF, hO, hX, hsb, hbs⟩ := hC
  have hM := m_met hsb hle hpl hco hGj
  have hav : (Value.ref a :: t).map (v_s b sb) = .ref (b + a) :: t.map (v_s b sb) := by rw [List.map_cons, v_ref (by have := hI.2.1; omega)]
  rw [hav] at hM ⊢
  have he : (m_W b sb dA μ)[a]? = some (b + a, .inr (ci, fs.map (v_s b sb))) := by rw [m_W_at ha, hc]; rfl
  have hrec := va_recv hK.2.2 hI.1 (vw_at hc9) he
  have hp : PreV s H (mm_Y j).cls (b + a) (va_Pc (.ref (b + a) :: t.map (v_s b sb)) (m_P b sb L xs dC dI dA μ)) (t.map (v_s b sb)) := ⟨m_blind _ _, by rw [hcls]; exact hrec, fun U hU hW => m_pre hI hK hX hS hsb hbs hz hU hW⟩
  have hstk : (F0 m pc mls (st.map (v_s b sb))).stack = (t.map (v_s b sb)).reverse ++ .ref (b + a) :: rest.map (v_s b sb) := by
    show st.map (v_s b sb) = _
    rw [hst, List.map_append, List.map_cons, v_ref (by have := hI.2.1; omega), List.map_reverse]
  have hA : (t.map (v_s b sb)).length = mm_A j := by simp at hr2 ⊢; omega
  rcases hlink with ⟨-, hl⟩ | ⟨-, hl⟩
  · refine va_runV ⟨hx, hb, hml, hown, hts⟩ hM (cwV (mm_A j) hts (fun w hw => ?_) rfl rfl rfl ⟨rfl, hy1, hy2, hpar⟩ ⟨Nat.le_trans hfr hF, Nat.le_trans hlo hO⟩) hp rfl hA hsz hstk (lv_room (c_room_i hroom)) hd hroom2
    unfold wsV at hw
    rcases List.mem_append.mp hw with h | h
    · simp only [List.mem_cons, List.not_mem_nil, or_false] at h
      rcases h with rfl | rfl | rfl | rfl
      · exact goodG _ hl
      · exact goodG _ w6
      · exact goodG _ w7
      · exact goodG _ w2
    · exact goodWs hj w h
  · exact va_runVN (C := (mm_Y j).cls) (Ts := tG) ⟨hx, hb, hml, hown, hts⟩ hM ⟨va_cnB (mm_A j) hts (goodWs hj) rfl rfl rfl (hK.1 _ hl) (hts _ w2) ⟨hy1, hy2, hpar⟩ ⟨Nat.le_trans hfr hF, Nat.le_trans hlo hO⟩, hts _ w6, hts _ w7⟩ hp rfl hA hsz hstk (lv_room (c_room_i hroom)) hd hroom2
theorem i_static {x j r3 r4 : Nat} {as rest : List Value} {v : Option Value} {μ1 : MM} (hd : decode (mm_B mi) pc = .ok (.invokestatic x, 3)) (hcc : mm_cc mi x j as.length r3 r4 2 = true) (hsb : sb < b) (hst : st = as.reverse ++ rest) (hroom : c_room rest = true) (hle : (l_ex as).length ≤ mm_L j) (hGj : m_G l b sb L xs dC dI dA j 0 (l_pad (mm_L j) (l_ex as)) [] μ (v, μ1)) (hG1 : m_G l b sb L xs dC dI dA mi (pc + 3) ls (v.toList ++ rest) μ1 r) : m_G l b sb L xs dC dI dA mi pc ls st μ r := by
  obtain ⟨hlink, hj, hk, hfr, hlo, hr4, hr2, hci⟩ := cc_i hcc
  obtain ⟨w1, w2, w3, w4, w5, hco, hy1, hy2, hpl, hpar⟩ := mw_at hj
  have w6 := w3 hk
  refine i_callG (as := as) rfl rfl hGj.1 hG1 fun p e R s m args below meth c hC H locs cells slots mls hsz hz hI hS hroom2 => ?_
  obtain ⟨hx, hb, hml, hr, hown, hlk, hnm, hts, hK, hF, hO, hX, hsb, hbs⟩ := hC
  have hM := m_met hsb hle hpl hco hGj
  have hp : PreS s H (va_Pc (as.map (v_s b sb)) (m_P b sb L xs dC dI dA μ)) (as.map (v_s b sb)) := ⟨m_blind _ _, fun U hU hW => m_pre hI hK hX hS hsb hbs hz hU hW⟩
  have hstk : (F0 m pc mls (st.map (v_s b sb))).stack = (as.map (v_s b sb)).reverse ++ rest.map (v_s b sb) := by
    show st.map (v_s b sb) = _
    rw [hst, List.map_append, List.map_reverse]
  have hA : (as.map (v_s b sb)).length = mm_A j := by simp at hr2 ⊢; omega
  rcases hlink with ⟨-, hl⟩ | ⟨-, hl⟩
  · refine va_runS ⟨hx, hb, hml, hown, hts⟩ hM (va_cwS (mm_A j) hts (fun w hw => ?_) rfl rfl rfl ⟨hy1, hy2, hpar⟩ ⟨Nat.le_trans hfr hF, Nat.le_trans hlo hO⟩) hp rfl hA hsz hstk (lv_room (c_room_i hroom)) hd hroom2
    unfold va_wsS at hw
    rcases List.mem_append.mp hw with h | h
    · simp only [List.mem_cons, List.not_mem_nil, or_false] at h
      rcases h with rfl | rfl | rfl
      · exact goodG _ hl
      · exact goodG _ w6
      · exact goodG _ w2
    · exact goodWs hj w h
  · exact va_runSN (Ts := tG) ⟨hx, hb, hml, hown, hts⟩ hM ⟨va_cnB (mm_A j) hts (goodWs hj) rfl rfl rfl (hK.1 _ hl) (hts _ w2) ⟨hy1, hy2, hpar⟩ ⟨Nat.le_trans hfr hF, Nat.le_trans hlo hO⟩, hts _ w6, trivial⟩ hp rfl hA hsz hstk (lv_room (c_room_i hroom)) hd hroom2
theorem i_special {x j r3 a ci : Nat} {t rest fs : List Value} {v : Option Value} {μ1 : MM} (hd : decode (mm_B mi) pc = .ok (.invokespecial x, 3)) (hcc : mm_cc mi x j (t.length + 1) r3 ci 4 = true) (hsb : sb < b) (hst : st = t.reverse ++ .ref a :: rest) (hroom : c_room rest = true) (hc : μ.2.2 a = .inr (ci, fs)) (ha : a < μ.1) (hle : (l_ex (.ref a :: t)).length ≤ mm_L j) (hGj : m_G l b sb L xs dC dI dA j 0 (l_pad (mm_L j) (l_ex (.ref a :: t))) [] μ (v, μ1)) (hG1 : m_G l b sb L xs dC dI dA mi (pc + 3) ls (v.toList ++ rest) μ1 r) : m_G l b sb L xs dC dI dA mi pc ls st μ r := by
  obtain ⟨hlink, hj, hk, hfr, hlo, hr4, hr2, hci⟩ := cc_i hcc
  obtain ⟨w1, w2, w3, w4, w5, hco, hy1, hy2, hpl, hpar⟩ := mw_at hj
  obtain ⟨w6, hnm1, hret⟩ := w4 hk
  refine i_callG (as := .ref a :: t) rfl rfl hGj.1 hG1 fun p e R s m args below meth c hC H locs cells slots mls hsz hz hI hS hroom2 => ?_
  obtain ⟨hx, hb, hml, hr, hown, hlk, hnm, hts, hK, hF, hO, hX, hsb, hbs⟩ := hC
  have hM := m_met hsb hle hpl hco hGj
  have hav : (Value.ref a :: t).map (v_s b sb) = .ref (b + a) :: t.map (v_s b sb) := by rw [List.map_cons, v_ref (by have := hI.2.1; omega)]
  rw [hav] at hM ⊢
  have hp : PreS s H (va_Pc (.ref (b + a) :: t.map (v_s b sb)) (m_P b sb L xs dC dI dA μ)) (.ref (b + a) :: t.map (v_s b sb)) := ⟨m_blind _ _, fun U hU hW => m_pre hI hK hX hS hsb hbs hz hU hW⟩
  have hstk : (F0 m pc mls (st.map (v_s b sb))).stack = (t.map (v_s b sb)).reverse ++ .ref (b + a) :: rest.map (v_s b sb) := by
    show st.map (v_s b sb) = _
    rw [hst, List.map_append, List.map_cons, v_ref (by have := hI.2.1; omega), List.map_reverse]
  have hA : (t.map (v_s b sb)).length = mm_A j := by simp at hr2 ⊢; omega
  have hws : m_ws j = Cond.code (mm_Y j) (mm_B j) (mm_L j) none :: tG := by rw [← hret]; rfl
  rcases hlink with ⟨-, hl⟩ | ⟨-, hl⟩
  · exact va_runI (Ts := tG) ⟨hx, hb, hml, hown, hts⟩ hM (cwI (mm_A j) hts (goodWs hj) hws rfl rfl (hts _ w2) (hts _ hl) (hts _ w6) hnm1 ⟨hy1, hy2, hpar⟩ ⟨Nat.le_trans hfr hF, Nat.le_trans hlo hO⟩) hp rfl hA hsz hstk (lv_room (c_room_i hroom)) hd hroom2
  · exact va_runIN (Ts := tG) ⟨hx, hb, hml, hown, hts⟩ hM ⟨va_cnB (mm_A j) hts (goodWs hj) hws rfl rfl (hK.1 _ hl) (hts _ w2) ⟨hy1, hy2, hpar⟩ ⟨Nat.le_trans hfr hF, Nat.le_trans hlo hO⟩, hnm1, hts _ w6⟩ hp rfl hA hsz hstk (lv_room (c_room_i hroom)) hd hroom2
/-- the machine's own: Object's maker, arraycopy, bits to doubles, the greater and the lesser -/
theorem i_obj {x a : Nat} {t : List Value} (hd : decode (mm_B mi) pc = .ok (.invokespecial x, 3)) (ho : ol_h (mm_own mi) x = true) (hn : mm_nt mi = true) (hroom : c_room t = true) (hG : m_G l b sb L xs dC dI dA mi (pc + 3) ls t μ r) : m_G l b sb L xs dC dI dA mi pc ls (.ref a :: t) μ r := by
  obtain ⟨n1, n2⟩ := dec2 hn
  refine g_step hG rfl fun p e R s m args below meth c hC H locs cells slots Q mls hLo hn _ _ hI hS kk => ?_
  obtain ⟨hx, hb, hml, hr, hown, hlk, hnm, hts, hK, hF, hO, hX, hsb, hbs⟩ := hC
  have h8 := c_room_i (b := b) (sb := sb) hroom
  refine W.objInit hx hb hown (hts _ (ol_at ho)) (hts _ (nat_at (by simp))) (hts _ (nat_at (by simp))) rfl (by rw [hml]; exact hLo.1.trans hn) rfl hd (by omega) (by show 2 * 0 + _ + 12 ≤ _; omega) ?_
  exact kk mls hLo
theorem i_l2d {x : Nat} {y : Int64} {t : List Value} (hd : decode (mm_B mi) pc = .ok (.invokestatic x, 3)) (ho : nt_h (mm_own mi) x 7 = true) (hn : mm_nt mi = true) (hroom : c_room t = true) (hv : vn_snl2d y = false) (hG : m_G l b sb L xs dC dI dA mi (pc + 3) ls (.double y.toUInt64 :: t) μ r) : m_G l b sb L xs dC dI dA mi pc ls (.long y :: t) μ r := by
  obtain ⟨n1, n2⟩ := dec2 hn
  refine g_step hG rfl fun p e R s m args below meth c hC H locs cells slots Q mls hLo hn _ _ hI hS kk => ?_
  obtain ⟨hx, hb, hml, hr, hown, hlk, hnm, hts, hK, hF, hO, hX, hsb, hbs⟩ := hC
  have h8 := c_room_i (b := b) (sb := sb) hroom
  exact vn_l2d hx hb (by rw [hml]; exact (hLo.1.trans hn).symm) hown (hts _ (nt_at ho)) (hts _ (nat_at (w := .native l2d_n) (by simp))) (hts _ (nat_at (w := .static l2d_n) (by simp))) (hts _ (nat_at (by simp))) hv (by omega) (by omega) hd (kk mls hLo)
theorem i_max {x : Nat} {y z : Int32} {t : List Value} (hd : decode (mm_B mi) pc = .ok (.invokestatic x, 3)) (ho : nt_h (mm_own mi) x 14 = true) (hn : mm_nt mi = true) (hroom : c_room t = true) (hG : m_G l b sb L xs dC dI dA mi (pc + 3) ls (.int (if y < z then z else y) :: t) μ r) : m_G l b sb L xs dC dI dA mi pc ls (.int z :: .int y :: t) μ r := by
  obtain ⟨n1, n2⟩ := dec2 hn
  refine g_step hG rfl fun p e R s m args below meth c hC H locs cells slots Q mls hLo hn hcl hsl hI hS kk => ?_
  obtain ⟨hx, hb, hml, hr, hown, hlk, hnm, hts, hK, hF, hO, hX, hsb, hbs⟩ := hC
  have h8 := c_room_i (b := b) (sb := sb) hroom
  exact va_mmax hx hb (by rw [hml]; exact (hLo.1.trans hn).symm) hown (hts _ (nt_at ho)) (hts _ (nat_at (by simp))) (hts _ (nat_at (by simp))) (hts _ (nat_at (by simp))) (by omega) (by omega) hcl hsl hd (kk mls hLo)
theorem i_min {x : Nat} {y z : Int32} {t : List Value} (hd : decode (mm_B mi) pc = .ok (.invokestatic x, 3)) (ho : nt_h (mm_own mi) x 15 = true) (hn : mm_nt mi = true) (hroom : c_room t = true) (hG : m_G l b sb L xs dC dI dA mi (pc + 3) ls (.int (if z < y then z else y) :: t) μ r) : m_G l b sb L xs dC dI dA mi pc ls (.int z :: .int y :: t) μ r := by
  obtain ⟨n1, n2⟩ := dec2 hn
  refine g_step hG rfl fun p e R s m args below meth c hC H locs cells slots Q mls hLo hn hcl hsl hI hS kk => ?_
  obtain ⟨hx, hb, hml, hr, hown, hlk, hnm, hts, hK, hF, hO, hX, hsb, hbs⟩ := hC
  have h8 := c_room_i (b := b) (sb := sb) hroom
  exact va_mmin hx hb (by rw [hml]; exact (hLo.1.trans hn).symm) hown (hts _ (nt_at ho)) (hts _ (nat_at (by simp))) (hts _ (nat_at (by simp))) (hts _ (nat_at (by simp))) (by omega) (by omega) hcl hsl hd (kk mls hLo)
theorem i_copy {x a q : Nat} {i j n : Int32} {t : List Value} {K : KK} (hK : ∀ pc ls st μ r, K pc ls st μ = some r → m_G l b sb L xs dC dI dA mi pc ls st μ r) (hd : decode (mm_B mi) pc = .ok (.invokestatic x, 3)) (ho : nt_h (mm_own mi) x 6 = true) (hn : mm_nt mi = true) (hroom : c_room t = true) (h : c_L μ a q i j n (fun μ' => K (pc + 3) ls t μ') = some r) : m_G l b sb L xs dC dI dA mi pc ls (.int n :: .int j :: .ref q :: .int i :: .ref a :: t) μ r := by
  obtain ⟨n1, n2⟩ := dec2 hn
  have hwd : nativeFrameWords "java/lang/System" "arraycopy" 5 = 7 := by decide
  unfold c_L at h
  split at h
  · next tg mm f hc =>
    split at h
    · next hh =>
      obtain ⟨rfl, ha, rfl, h1, h2, h3, h4, h5⟩ := hh
      refine g_write a _ ha (hK _ _ _ _ _ h) fun p e R s m args below meth c hC H locs cells slots Q mls hLo hn hP hD hS h1000 kk => ?_
      obtain ⟨hx, hb, hml, hr, hown, hlk, hnm, hts, hKK, hF, hO, hX, hsb, hbs⟩ := hC
      have h8 := c_room_i (b := b) (sb := sb) hroom
      have he : (m_W b sb dA μ)[a]? = some (b + a, .inl (dA 1, mm, .inr (.inl f))) := by rw [m_W_at ha, hc]; rfl
      show W p l e R s m args below meth c H locs cells slots Q (F0 m pc mls (.int n :: .int j :: v_s b sb (.ref a) :: .int i :: v_s b sb (.ref a) :: t.map (v_s b sb)))
      rw [v_ref (by omega)]
      exact va_copyl hx hb (by rw [hml]; exact (hLo.1.trans hn).symm) hown (hts _ (nt_at ho)) (hts _ (nat_at (by simp))) (hts _ (nat_at (by simp))) (hts _ (nat_at (by simp))) hKK.2.2 hP hD hS a a 1 1 he he rfl rfl rfl h1 h2 h3 h4 h5 (fun _ _ => rfl) (by omega) (by rw [hwd]; omega) hd kk
    · cases h
  · next tg mm f hc =>
    split at h
    · next hh =>
      obtain ⟨rfl, ha, rfl, h1, h2, h3, h4, h5, h6⟩ := hh
      refine g_write a _ ha (hK _ _ _ _ _ h) fun p e R s m args below meth c hC H locs cells slots Q mls hLo hn hP hD hS h1000 kk => ?_
      obtain ⟨hx, hb, hml, hr, hown, hlk, hnm, hts, hKK, hF, hO, hX, hsb, hbs⟩ := hC
      have h8 := c_room_i (b := b) (sb := sb) hroom
      have he : (m_W b sb dA μ)[a]? = some (b + a, .inl (dA 2, mm, .inl f)) := by rw [m_W_at ha, hc]; rfl
      show W p l e R s m args below meth c H locs cells slots Q (F0 m pc mls (.int n :: .int j :: v_s b sb (.ref a) :: .int i :: v_s b sb (.ref a) :: t.map (v_s b sb)))
      rw [v_ref (by omega)]
      exact va_copyi hx hb (by rw [hml]; exact (hLo.1.trans hn).symm) hown (hts _ (nt_at ho)) (hts _ (nat_at (by simp))) (hts _ (nat_at (by simp))) (hts _ (nat_at (by simp))) hKK.2.2 hP hD hS a a 2 2 he he rfl rfl rfl h1 h2 h3 h4 h5 h6 (by omega) (by rw [hwd]; omega) hd kk
    · cases h
  · cases h
end CAL
