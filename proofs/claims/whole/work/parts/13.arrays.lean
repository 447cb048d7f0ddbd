/-! SOUND, fifth part: arrays and new cells -/
section ARR
variable {l : Launch} {b sb L : Nat} {xs : Nat → Int32} {dC : Nat → ClassId} {dI : Nat → Nat → Nat} {dA : Nat → ClassId} {mi pc : Nat} {ls st : List Value} {μ : MM} {r : RT}
theorem i_iaload {a n : Nat} {i : Int32} {f : Nat → Int32} {t : List Value} (hd : decode (mm_B mi) pc = .ok (.iaload, 1)) (hc : μ.2.2 a = .inl (0, n, .inl f)) (ha : a < μ.1 ∨ a = SC) (hi : vp_in i n) (hG : m_G l b sb L xs dC dI dA mi (pc + 1) ls (.int (f i.toNatClampNeg) :: t) μ r) : m_G l b sb L xs dC dI dA mi pc ls (.int i :: .ref a :: t) μ r := by
  refine g_step hG rfl fun p e R s m args below meth c hC H locs cells slots Q mls hLo hn _ _ hI hS kk => ?_
  obtain ⟨hx, hb, hml, hr, hown, hlk, hnm, hts, hK, hF, hO, hX, hsb, hbs⟩ := hC
  obtain ⟨hP, hm, hsc⟩ := hI
  show W p l e R s m args below meth c H locs cells slots Q (F0 m pc mls (.int i :: v_s b sb (.ref a) :: t.map (v_s b sb)))
  rcases ha with ha | rfl
  · rw [v_ref (by omega)]
    have he : (m_W b sb dA μ)[a]? = some (b + a, .inl (dA 0, n, .inl f)) := by rw [m_W_at ha, hc]; rfl
    exact va_iald hx hb hK.2.2 hP a 0 he rfl hi hd (kk mls hLo)
  · rw [v_scr]
    rw [hsc] at hc
    cases hc
    exact va_sld hx hb hX (by omega) (fun q => by omega) hS hi hd (kk mls hLo)
theorem i_alen {a tg n : Nat} {y : _} {t : List Value} (hd : decode (mm_B mi) pc = .ok (.arraylength, 1)) (hc : μ.2.2 a = .inl (tg, n, y)) (ha : (a < μ.1 ∧ tg < 5) ∨ a = SC) (hG : m_G l b sb L xs dC dI dA mi (pc + 1) ls (.int (Int32.ofNat n) :: t) μ r) : m_G l b sb L xs dC dI dA mi pc ls (.ref a :: t) μ r := by
  refine g_step hG rfl fun p e R s m args below meth c hC H locs cells slots Q mls hLo hn _ _ hI hS kk => ?_
  obtain ⟨hx, hb, hml, hr, hown, hlk, hnm, hts, hK, hF, hO, hX, hsb, hbs⟩ := hC
  obtain ⟨hP, hm, hsc⟩ := hI
  show W p l e R s m args below meth c H locs cells slots Q (F0 m pc mls (v_s b sb (.ref a) :: t.map (v_s b sb)))
  rcases ha with ⟨ha, ht⟩ | rfl
  · rw [v_ref (by omega)]
    obtain ⟨ty, hty⟩ := m_ty_at (dA := dA) ht
    have he : (m_W b sb dA μ)[a]? = some (b + a, .inl (dA tg, a_s b sb (n, y))) := by rw [m_W_at ha, hc]; rfl
    have h1 : (a_s b sb (n, y)).1 = n := by
      unfold a_s
      split
      · next h => cases h; rfl
      · rfl
    exact va_alen hx hb hK.2.2 hP a tg he hty (by rw [h1]) hd (kk mls hLo)
  · rw [v_scr]
    rw [hsc] at hc
    cases hc
    exact va_slen hx hb hX (by omega) (fun q => by omega) hS hd (kk mls hLo)
theorem i_baload {a tg n : Nat} {i : Int32} {f : Nat → Int32} {t : List Value} (hd : decode (mm_B mi) pc = .ok (.baload, 1)) (hc : μ.2.2 a = .inl (tg, n, .inl f)) (ha : a < μ.1) (htg : tg = 2 ∨ tg = 3) (hi : vp_in i n) (hG : m_G l b sb L xs dC dI dA mi (pc + 1) ls (.int (f i.toNatClampNeg) :: t) μ r) : m_G l b sb L xs dC dI dA mi pc ls (.int i :: .ref a :: t) μ r := by
  refine g_step hG rfl fun p e R s m args below meth c hC H locs cells slots Q mls hLo hn _ _ hI hS kk => ?_
  obtain ⟨hx, hb, hml, hr, hown, hlk, hnm, hts, hK, hF, hO, hX, hsb, hbs⟩ := hC
  obtain ⟨hP, hm, hsc⟩ := hI
  show W p l e R s m args below meth c H locs cells slots Q (F0 m pc mls (.int i :: v_s b sb (.ref a) :: t.map (v_s b sb)))
  rw [v_ref (by omega)]
  have he : (m_W b sb dA μ)[a]? = some (b + a, .inl (dA tg, n, .inl f)) := by rw [m_W_at ha, hc]; rfl
  rcases htg with rfl | rfl
  · exact va_bald hx hb hK.2.2 hP a 2 he rfl hi hd (kk mls hLo)
  · exact va_zald hx hb hK.2.2 hP a 3 he rfl hi hd (kk mls hLo)
theorem i_laload {a n : Nat} {i : Int32} {f : Nat → Int64} {t : List Value} (hd : decode (mm_B mi) pc = .ok (.laload, 1)) (hc : μ.2.2 a = .inl (1, n, .inr (.inl f))) (ha : a < μ.1) (hi : vp_in i n) (hG : m_G l b sb L xs dC dI dA mi (pc + 1) ls (.long (f i.toNatClampNeg) :: t) μ r) : m_G l b sb L xs dC dI dA mi pc ls (.int i :: .ref a :: t) μ r := by
  refine g_step hG rfl fun p e R s m args below meth c hC H locs cells slots Q mls hLo hn _ _ hI hS kk => ?_
  obtain ⟨hx, hb, hml, hr, hown, hlk, hnm, hts, hK, hF, hO, hX, hsb, hbs⟩ := hC
  obtain ⟨hP, hm, hsc⟩ := hI
  show W p l e R s m args below meth c H locs cells slots Q (F0 m pc mls (.int i :: v_s b sb (.ref a) :: t.map (v_s b sb)))
  rw [v_ref (by omega)]
  have he : (m_W b sb dA μ)[a]? = some (b + a, .inl (dA 1, n, .inr (.inl f))) := by rw [m_W_at ha, hc]; rfl
  exact va_lald hx hb hK.2.2 hP a 1 he rfl hi hd (kk mls hLo)
theorem i_aaload {a n x : Nat} {i : Int32} {f : Nat → Option Nat} {t : List Value} (hd : decode (mm_B mi) pc = .ok (.aaload, 1)) (hc : μ.2.2 a = .inl (4, n, .inr (.inr (.inr (.inr f))))) (ha : a < μ.1) (hi : vp_in i n) (hf : f i.toNatClampNeg = some x) (hG : m_G l b sb L xs dC dI dA mi (pc + 1) ls (.ref x :: t) μ r) : m_G l b sb L xs dC dI dA mi pc ls (.int i :: .ref a :: t) μ r := by
  refine g_step hG rfl fun p e R s m args below meth c hC H locs cells slots Q mls hLo hn _ _ hI hS kk => ?_
  obtain ⟨hx, hb, hml, hr, hown, hlk, hnm, hts, hK, hF, hO, hX, hsb, hbs⟩ := hC
  obtain ⟨hP, hm, hsc⟩ := hI
  show W p l e R s m args below meth c H locs cells slots Q (F0 m pc mls (.int i :: v_s b sb (.ref a) :: t.map (v_s b sb)))
  rw [v_ref (by omega)]
  have he : (m_W b sb dA μ)[a]? = some (b + a, .inl (dA 4, n, .inr (.inr (.inr (.inr (fun j => (f j).map (fun x => if x = SC then sb else b + x))))))) := by rw [m_W_at ha, hc]; rfl
  refine va_aldq hx hb hK.2.2 hP a 4 he rfl hi hd ?_
  have h2 := kk mls hLo
  simp only [hf, Option.map_some, va_rf]
  exact h2
theorem i_iastore {a n : Nat} {i x : Int32} {f : Nat → Int32} {t : List Value} (hd : decode (mm_B mi) pc = .ok (.iastore, 1)) (hc : μ.2.2 a = .inl (0, n, .inl f)) (ha : a < μ.1) (hi : vp_in i n) (hG : m_G l b sb L xs dC dI dA mi (pc + 1) ls t (μ.1, μ.2.1, va_up μ.2.2 a (.inl (0, n, .inl (upd f i.toNatClampNeg x)))) r) : m_G l b sb L xs dC dI dA mi pc ls (.int x :: .int i :: .ref a :: t) μ r := by
  refine g_write a _ ha hG fun p e R s m args below meth c hC H locs cells slots Q mls hLo hn hP hD hS h1000 kk => ?_
  obtain ⟨hx, hb, hml, hr, hown, hlk, hnm, hts, hK, -⟩ := hC
  have he : (m_W b sb dA μ)[a]? = some (b + a, .inl (dA 0, n, .inl f)) := by rw [m_W_at ha, hc]; rfl
  show W p l e R s m args below meth c H locs cells slots Q (F0 m pc mls (.int x :: .int i :: v_s b sb (.ref a) :: t.map (v_s b sb)))
  rw [v_ref (by omega)]
  exact va_iast hx hb hK.2.2 hP hD hS a 0 he rfl hi hd kk
theorem i_bastore {a tg n : Nat} {i x : Int32} {f : Nat → Int32} {t : List Value} (hd : decode (mm_B mi) pc = .ok (.bastore, 1)) (hc : μ.2.2 a = .inl (tg, n, .inl f)) (ha : a < μ.1) (htg : tg = 2 ∨ tg = 3) (hi : vp_in i n) (hG : m_G l b sb L xs dC dI dA mi (pc + 1) ls t (μ.1, μ.2.1, va_up μ.2.2 a (.inl (tg, n, .inl (upd f i.toNatClampNeg (vp_nar (if tg = 2 then .byte else .boolean) x))))) r) : m_G l b sb L xs dC dI dA mi pc ls (.int x :: .int i :: .ref a :: t) μ r := by
  refine g_write a _ ha hG fun p e R s m args below meth c hC H locs cells slots Q mls hLo hn hP hD hS h1000 kk => ?_
  obtain ⟨hx, hb, hml, hr, hown, hlk, hnm, hts, hK, -⟩ := hC
  have he : (m_W b sb dA μ)[a]? = some (b + a, .inl (dA tg, n, .inl f)) := by rw [m_W_at ha, hc]; rfl
  show W p l e R s m args below meth c H locs cells slots Q (F0 m pc mls (.int x :: .int i :: v_s b sb (.ref a) :: t.map (v_s b sb)))
  rw [v_ref (by omega)]
  rcases htg with rfl | rfl
  · exact va_bast hx hb hK.2.2 hP hD hS a 2 he rfl hi hd kk
  · exact va_zast hx hb hK.2.2 hP hD hS a 3 he rfl hi hd kk
theorem i_lastore {a n : Nat} {i : Int32} {x : Int64} {f : Nat → Int64} {t : List Value} (hd : decode (mm_B mi) pc = .ok (.lastore, 1)) (hc : μ.2.2 a = .inl (1, n, .inr (.inl f))) (ha : a < μ.1) (hi : vp_in i n) (hG : m_G l b sb L xs dC dI dA mi (pc + 1) ls t (μ.1, μ.2.1, va_up μ.2.2 a (.inl (1, n, .inr (.inl (vp_updL f i.toNatClampNeg x))))) r) : m_G l b sb L xs dC dI dA mi pc ls (.long x :: .int i :: .ref a :: t) μ r := by
  refine g_write a _ ha hG fun p e R s m args below meth c hC H locs cells slots Q mls hLo hn hP hD hS h1000 kk => ?_
  obtain ⟨hx, hb, hml, hr, hown, hlk, hnm, hts, hK, -⟩ := hC
  have he : (m_W b sb dA μ)[a]? = some (b + a, .inl (dA 1, n, .inr (.inl f))) := by rw [m_W_at ha, hc]; rfl
  show W p l e R s m args below meth c H locs cells slots Q (F0 m pc mls (.long x :: .int i :: v_s b sb (.ref a) :: t.map (v_s b sb)))
  rw [v_ref (by omega)]
  exact va_last hx hb hK.2.2 hP hD hS a 1 he rfl hi hd kk
theorem i_aastore {a n x : Nat} {i : Int32} {f : Nat → Option Nat} {fs : List Value} {t : List Value} (hd : decode (mm_B mi) pc = .ok (.aastore, 1)) (hc : μ.2.2 a = .inl (4, n, .inr (.inr (.inr (.inr f))))) (hc2 : μ.2.2 x = .inr (5, fs)) (ha : a < μ.1) (hxl : x < μ.1) (hi : vp_in i n) (hG : m_G l b sb L xs dC dI dA mi (pc + 1) ls t (μ.1, μ.2.1, va_up μ.2.2 a (.inl (4, n, .inr (.inr (.inr (.inr (va_up f i.toNatClampNeg (some x)))))))) r) : m_G l b sb L xs dC dI dA mi pc ls (.ref x :: .int i :: .ref a :: t) μ r := by
  refine g_write a _ ha hG fun p e R s m args below meth c hC H locs cells slots Q mls hLo hn hP hD hS h1000 kk => ?_
  obtain ⟨hx, hb, hml, hr, hown, hlk, hnm, hts, hK, -⟩ := hC
  have he : (m_W b sb dA μ)[a]? = some (b + a, .inl (dA 4, n, .inr (.inr (.inr (.inr (fun j => (f j).map (fun x => if x = SC then sb else b + x))))))) := by rw [m_W_at ha, hc]; rfl
  have he2 : (m_W b sb dA μ)[x]? = some (b + x, .inr (5, fs.map (v_s b sb))) := by rw [m_W_at hxl, hc2]; rfl
  show W p l e R s m args below meth c H locs cells slots Q (F0 m pc mls (v_s b sb (.ref x) :: .int i :: v_s b sb (.ref a) :: t.map (v_s b sb)))
  rw [v_ref (by omega), v_ref (by omega)]
  refine va_astq hx hb hK.2.2 hP hD hS a 4 x 5 he (r := (cN 5, tT 5, tN 5)) rfl he2 (vw_at (by omega)) hi hd fun H1 locs1 hP1 hD1 hS1 => ?_
  have hf : va_up (fun j => (f j).map (fun x => if x = SC then sb else b + x)) i.toNatClampNeg (some (b + x)) = fun j => (va_up f i.toNatClampNeg (some x) j).map (fun x => if x = SC then sb else b + x) := by
    funext j
    unfold va_up
    split
    · rw [Option.map_some, if_neg (by unfold SC; omega)]
    · rfl
  rw [hf] at hP1 hD1
  exact kk H1 locs1 hP1 hD1 hS1
end ARR
