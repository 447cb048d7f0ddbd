/-! SOUND, third part: inversions -/
def mm_hd (c : ClassFile.Cond) (x y : Int32) : Prop := match c with
  | .eq => x = y
  | .ne => ¬ x = y
  | .lt => x < y
  | .ge => y ≤ x
  | .gt => y < x
  | .le => x ≤ y
section INV
variable {r : RT}
theorem s_I_i {st : List Value} {k : Int32 → List Value → Option RT} (h : s_I st k = some r) : ∃ x t, st = .int x :: t ∧ k x t = some r := by
  unfold s_I at h; split at h
  · exact ⟨_, _, rfl, h⟩
  · cases h
theorem s_II_i {st : List Value} {k : Int32 → Int32 → List Value → Option RT} (h : s_II st k = some r) : ∃ x y t, st = .int y :: .int x :: t ∧ k x y t = some r := by
  unfold s_II at h; split at h
  · exact ⟨_, _, _, rfl, h⟩
  · cases h
theorem s_L_i {st : List Value} {k : Int64 → List Value → Option RT} (h : s_L st k = some r) : ∃ x t, st = .long x :: t ∧ k x t = some r := by
  unfold s_L at h; split at h
  · exact ⟨_, _, rfl, h⟩
  · cases h
theorem s_LL_i {st : List Value} {k : Int64 → Int64 → List Value → Option RT} (h : s_LL st k = some r) : ∃ x y t, st = .long y :: .long x :: t ∧ k x y t = some r := by
  unfold s_LL at h; split at h
  · exact ⟨_, _, _, rfl, h⟩
  · cases h
theorem s_LI_i {st : List Value} {k : Int64 → Int32 → List Value → Option RT} (h : s_LI st k = some r) : ∃ x y t, st = .int y :: .long x :: t ∧ k x y t = some r := by
  unfold s_LI at h; split at h
  · exact ⟨_, _, _, rfl, h⟩
  · cases h
theorem s_DD_i {st : List Value} {k : UInt64 → UInt64 → List Value → Option RT} (h : s_DD st k = some r) : ∃ x y t, st = .double y :: .double x :: t ∧ k x y t = some r := by
  unfold s_DD at h; split at h
  · exact ⟨_, _, _, rfl, h⟩
  · cases h
theorem s_R_i {st : List Value} {k : Nat → List Value → Option RT} (h : s_R st k = some r) : ∃ a t, st = .ref a :: t ∧ k a t = some r := by
  unfold s_R at h; split at h
  · exact ⟨_, _, rfl, h⟩
  · cases h
theorem s_IR_i {st : List Value} {k : Nat → Int32 → List Value → Option RT} (h : s_IR st k = some r) : ∃ a i t, st = .int i :: .ref a :: t ∧ k a i t = some r := by
  unfold s_IR at h; split at h
  · exact ⟨_, _, _, rfl, h⟩
  · cases h
theorem s_IIR_i {st : List Value} {k : Nat → Int32 → Int32 → List Value → Option RT} (h : s_IIR st k = some r) : ∃ a i x t, st = .int x :: .int i :: .ref a :: t ∧ k a i x t = some r := by
  unfold s_IIR at h; split at h
  · exact ⟨_, _, _, _, rfl, h⟩
  · cases h
theorem s_LIR_i {st : List Value} {k : Nat → Int32 → Int64 → List Value → Option RT} (h : s_LIR st k = some r) : ∃ a i x t, st = .long x :: .int i :: .ref a :: t ∧ k a i x t = some r := by
  unfold s_LIR at h; split at h
  · exact ⟨_, _, _, _, rfl, h⟩
  · cases h
theorem s_RIR_i {st : List Value} {k : Nat → Int32 → Nat → List Value → Option RT} (h : s_RIR st k = some r) : ∃ a i x t, st = .ref x :: .int i :: .ref a :: t ∧ k a i x t = some r := by
  unfold s_RIR at h; split at h
  · exact ⟨_, _, _, _, rfl, h⟩
  · cases h
theorem s_VR_i {st : List Value} {k : Nat → Value → List Value → Option RT} (h : s_VR st k = some r) : ∃ a v t, st = v :: .ref a :: t ∧ k a v t = some r := by
  unfold s_VR at h; split at h
  · exact ⟨_, _, _, rfl, h⟩
  · cases h
theorem s_V1_i {st : List Value} {k : Value → List Value → Option RT} (h : s_V1 st k = some r) : ∃ v t, st = v :: t ∧ v.category = 1 ∧ k v t = some r := by
  unfold s_V1 at h; split at h
  · exact ⟨_, _, rfl, rfl, h⟩
  · exact ⟨_, _, rfl, rfl, h⟩
  · exact ⟨_, _, rfl, rfl, h⟩
  · cases h
theorem s_N_i {st : List Value} {kn : List Value → Option RT} {k : Nat → List Value → Option RT} (h : s_N st kn k = some r) : (∃ t, st = .null :: t ∧ kn t = some r) ∨ ∃ a t, st = .ref a :: t ∧ k a t = some r := by
  unfold s_N at h; split at h
  · exact Or.inl ⟨_, rfl, h⟩
  · exact Or.inr ⟨_, _, rfl, h⟩
  · cases h
theorem l_I_i {ls : List Value} {i : Nat} {k : Int32 → Option RT} (h : l_I ls i k = some r) : ∃ x, ls[i]? = some (.int x) ∧ k x = some r := by
  unfold l_I at h; split at h
  · next x hx => exact ⟨x, hx, h⟩
  · cases h
theorem l_L_i {ls : List Value} {i : Nat} {k : Int64 → Option RT} (h : l_L ls i k = some r) : ∃ x, ls[i]? = some (.long x) ∧ k x = some r := by
  unfold l_L at h; split at h
  · next x hx => exact ⟨x, hx, h⟩
  · cases h
theorem l_A_i {ls : List Value} {i : Nat} {k : Value → Option RT} (h : l_A ls i k = some r) : (∃ x, ls[i]? = some (.ref x) ∧ k (.ref x) = some r) ∨ (ls[i]? = some .null ∧ k .null = some r) := by
  unfold l_A at h; split at h
  · next x hx => exact Or.inl ⟨x, hx, h⟩
  · next hx => exact Or.inr ⟨hx, h⟩
  · cases h
theorem l_s1_i {ls : List Value} {i : Nat} {v : Value} {k : List Value → Option RT} (h : l_s1 ls i v k = some r) : i < ls.length ∧ k ((l_clr ls i).set i v) = some r := by
  unfold l_s1 at h; split at h
  · next hi => exact ⟨hi, h⟩
  · cases h
theorem l_s2_i {ls : List Value} {i : Nat} {v : Value} {k : List Value → Option RT} (h : l_s2 ls i v k = some r) : i + 1 < ls.length ∧ k (((l_clr ls i).set i v).set (i + 1) UU) = some r := by
  unfold l_s2 at h; split at h
  · next hi => exact ⟨hi, h⟩
  · cases h
theorem mm_in_i {i : Int32} {n : Nat} (h : mm_in i n = true) : vp_in i n := by
  simp only [mm_in, Bool.and_eq_true, Bool.not_eq_true', decide_eq_false_iff_not, decide_eq_true_eq] at h
  rintro (q | q)
  · exact h.1 q
  · omega
theorem g_I_i {μ : MM} {a ci j : Nat} {k : Int32 → Option RT} (h : g_I μ a ci j k = some r) : ∃ fs x, μ.2.2 a = .inr (ci, fs) ∧ a < μ.1 ∧ fs[j]? = some (.int x) ∧ k x = some r := by
  unfold g_I at h; split at h
  · next c fs hc =>
    split at h
    · next hh =>
      obtain ⟨h1, rfl⟩ := hh
      split at h
      · next x hx => exact ⟨fs, x, hc, h1, hx, h⟩
      · cases h
    · cases h
  · cases h
theorem g_R_i {μ : MM} {a ci j : Nat} {k : Nat → Option RT} (h : g_R μ a ci j k = some r) : ∃ fs x, μ.2.2 a = .inr (ci, fs) ∧ a < μ.1 ∧ fs[j]? = some (.ref x) ∧ k x = some r := by
  unfold g_R at h; split at h
  · next c fs hc =>
    split at h
    · next hh =>
      obtain ⟨h1, rfl⟩ := hh
      split at h
      · next x hx => exact ⟨fs, x, hc, h1, hx, h⟩
      · cases h
    · cases h
  · cases h
theorem p_F_i {μ : MM} {a ci j tc : Nat} {v : Value} {k : MM → Option RT} (h : p_F μ a ci j tc v k = some r) : ∃ fs, μ.2.2 a = .inr (ci, fs) ∧ a < μ.1 ∧ j < fs.length ∧ p_ok tc v = true ∧ k (μ.1, μ.2.1, va_up μ.2.2 a (.inr (ci, fs.set j v))) = some r := by
  unfold p_F at h; split at h
  · next c fs hc =>
    split at h
    · next hh =>
      obtain ⟨h1, rfl, h2, h3⟩ := hh
      exact ⟨fs, hc, h1, h2, h3, h⟩
    · cases h
  · cases h
theorem a_I_i {μ : MM} {a : Nat} {i : Int32} {k : Int32 → Option RT} (h : a_I μ a i k = some r) : ∃ n f, μ.2.2 a = .inl (0, n, .inl f) ∧ (a < μ.1 ∨ a = SC) ∧ vp_in i n ∧ k (f i.toNatClampNeg) = some r := by
  unfold a_I at h; split at h
  · next t n f hc =>
    split at h
    · next hh =>
      obtain ⟨h1, rfl, h2⟩ := hh
      exact ⟨n, f, hc, h1, mm_in_i h2, h⟩
    · cases h
  · cases h
theorem a_B_i {μ : MM} {a : Nat} {i : Int32} {k : Int32 → Option RT} (h : a_B μ a i k = some r) : ∃ t n f, μ.2.2 a = .inl (t, n, .inl f) ∧ a < μ.1 ∧ (t = 2 ∨ t = 3) ∧ vp_in i n ∧ k (f i.toNatClampNeg) = some r := by
  unfold a_B at h; split at h
  · next t n f hc =>
    split at h
    · next hh =>
      obtain ⟨h1, h3, h2⟩ := hh
      exact ⟨t, n, f, hc, h1, h3, mm_in_i h2, h⟩
    · cases h
  · cases h
theorem a_L_i {μ : MM} {a : Nat} {i : Int32} {k : Int64 → Option RT} (h : a_L μ a i k = some r) : ∃ n f, μ.2.2 a = .inl (1, n, .inr (.inl f)) ∧ a < μ.1 ∧ vp_in i n ∧ k (f i.toNatClampNeg) = some r := by
  unfold a_L at h; split at h
  · next t n f hc =>
    split at h
    · next hh =>
      obtain ⟨h1, rfl, h2⟩ := hh
      exact ⟨n, f, hc, h1, mm_in_i h2, h⟩
    · cases h
  · cases h
theorem a_Q_i {μ : MM} {a : Nat} {i : Int32} {k : Nat → Option RT} (h : a_Q μ a i k = some r) : ∃ n f x, μ.2.2 a = .inl (4, n, .inr (.inr (.inr (.inr f)))) ∧ a < μ.1 ∧ vp_in i n ∧ f i.toNatClampNeg = some x ∧ k x = some r := by
  unfold a_Q at h; split at h
  · next t n f hc =>
    split at h
    · next hh =>
      obtain ⟨h1, rfl, h2⟩ := hh
      split at h
      · next x hx => exact ⟨n, f, x, hc, h1, mm_in_i h2, hx, h⟩
      · cases h
    · cases h
  · cases h
theorem a_n_i {μ : MM} {a : Nat} {k : Int32 → Option RT} (h : a_n μ a k = some r) : ∃ t n x, μ.2.2 a = .inl (t, n, x) ∧ ((a < μ.1 ∧ t < 5) ∨ a = SC) ∧ k (Int32.ofNat n) = some r := by
  unfold a_n at h; split at h
  · next t n x hc =>
    split at h
    · next hh => exact ⟨t, n, x, hc, hh, h⟩
    · cases h
  · cases h
theorem w_I_i {μ : MM} {a : Nat} {i x : Int32} {k : MM → Option RT} (h : w_I μ a i x k = some r) : ∃ n f, μ.2.2 a = .inl (0, n, .inl f) ∧ a < μ.1 ∧ vp_in i n ∧ k (μ.1, μ.2.1, va_up μ.2.2 a (.inl (0, n, .inl (upd f i.toNatClampNeg x)))) = some r := by
  unfold w_I at h; split at h
  · next t n f hc =>
    split at h
    · next hh =>
      obtain ⟨h1, rfl, h2⟩ := hh
      exact ⟨n, f, hc, h1, mm_in_i h2, h⟩
    · cases h
  · cases h
theorem w_B_i {μ : MM} {a : Nat} {i x : Int32} {k : MM → Option RT} (h : w_B μ a i x k = some r) : ∃ t n f, μ.2.2 a = .inl (t, n, .inl f) ∧ a < μ.1 ∧ (t = 2 ∨ t = 3) ∧ vp_in i n ∧ k (μ.1, μ.2.1, va_up μ.2.2 a (.inl (t, n, .inl (upd f i.toNatClampNeg (vp_nar (if t = 2 then .byte else .boolean) x))))) = some r := by
  unfold w_B at h; split at h
  · next t n f hc =>
    split at h
    · next hh =>
      obtain ⟨h1, h3, h2⟩ := hh
      exact ⟨t, n, f, hc, h1, h3, mm_in_i h2, h⟩
    · cases h
  · cases h
theorem w_L_i {μ : MM} {a : Nat} {i : Int32} {x : Int64} {k : MM → Option RT} (h : w_L μ a i x k = some r) : ∃ n f, μ.2.2 a = .inl (1, n, .inr (.inl f)) ∧ a < μ.1 ∧ vp_in i n ∧ k (μ.1, μ.2.1, va_up μ.2.2 a (.inl (1, n, .inr (.inl (vp_updL f i.toNatClampNeg x))))) = some r := by
  unfold w_L at h; split at h
  · next t n f hc =>
    split at h
    · next hh =>
      obtain ⟨h1, rfl, h2⟩ := hh
      exact ⟨n, f, hc, h1, mm_in_i h2, h⟩
    · cases h
  · cases h
theorem w_Q_i {μ : MM} {a : Nat} {i : Int32} {x : Nat} {k : MM → Option RT} (h : w_Q μ a i x k = some r) : ∃ n f fs, μ.2.2 a = .inl (4, n, .inr (.inr (.inr (.inr f)))) ∧ μ.2.2 x = .inr (5, fs) ∧ a < μ.1 ∧ x < μ.1 ∧ vp_in i n ∧ k (μ.1, μ.2.1, va_up μ.2.2 a (.inl (4, n, .inr (.inr (.inr (.inr (va_up f i.toNatClampNeg (some x)))))))) = some r := by
  unfold w_Q at h; split at h
  · next t n f c fs hc hd =>
    split at h
    · next hh =>
      obtain ⟨h1, h2, rfl, rfl, h3⟩ := hh
      exact ⟨n, f, fs, hc, hd, h1, h2, mm_in_i h3, h⟩
    · cases h
  · cases h
theorem n_A_i {μ : MM} {tag : Nat} {n : Int32} {e : vp_A} {k : MM → Option RT} (h : n_A μ tag n e k = some r) : ¬ n < 0 ∧ n.toNatClampNeg ≤ 10000 ∧ μ.1 < 1000 ∧ k (n_C μ n.toNatClampNeg (.inl (tag, e))) = some r := by
  unfold n_A at h; split at h
  · next hh => exact ⟨hh.1, hh.2.1, hh.2.2, h⟩
  · cases h
theorem mm_copy_i {st : List Value} {k : Nat → Int32 → Nat → Int32 → Int32 → List Value → Option RT} (h : mm_copy st k = some r) : ∃ a i b j n t, st = .int n :: .int j :: .ref b :: .int i :: .ref a :: t ∧ c_room t = true ∧ k a i b j n t = some r := by
  unfold mm_copy at h; split at h
  · split at h
    · next hh => exact ⟨_, _, _, _, _, _, rfl, hh, h⟩
    · cases h
  · cases h
theorem c_ret_i {rk : Nat} {q : Option RT} {k : List Value → MM → Option RT} (h : c_ret rk q k = some r) : ∃ v μ', q = some (v, μ') ∧ k v.toList μ' = some r := by
  unfold c_ret at h; split at h
  · unfold c_V at h; split at h
    · exact ⟨_, _, rfl, h⟩
    · cases h
  · unfold c_I at h; split at h
    · exact ⟨_, _, rfl, h⟩
    · cases h
  · unfold c_J at h; split at h
    · exact ⟨_, _, rfl, h⟩
    · cases h
  · unfold c_A at h; split at h
    · exact ⟨_, _, rfl, h⟩
    · exact ⟨_, _, rfl, h⟩
    · cases h
theorem c_O_i {μ : MM} {as : List Value} {ci : Nat} {q : Option RT} (h : c_O μ as ci q = some r) : ∃ a t fs, as = .ref a :: t ∧ μ.2.2 a = .inr (ci, fs) ∧ a < μ.1 ∧ q = some r := by
  unfold c_O at h; split at h
  · next a t =>
    split at h
    · next c fs hc =>
      split at h
      · next hh =>
        obtain ⟨h1, rfl⟩ := hh
        exact ⟨a, t, fs, rfl, hc, h1, h⟩
      · cases h
    · cases h
  · cases h
theorem mm_cond_i {c : ClassFile.Cond} {x y : Int32} {kt kf : Option RT} (h : mm_cond c x y kt kf = some r) : (kt = some r ∧ mm_hd c x y) ∨ (kf = some r ∧ ¬ mm_hd c x y) := by
  unfold mm_cond at h
  cases c <;> (simp only [mm_hd] at h ⊢; split at h) <;> rename_i hh <;> simp [h, hh]
end INV
theorem c_room_i {b sb : Nat} {t : List Value} (h : c_room t = true) : ((t.map (v_s b sb)).map fun v => v.category).sum ≤ 8 := by
  have h1 : (t.map (v_s b sb)).map (fun v => v.category) = t.map fun v => v.category := by
    rw [List.map_map]
    exact List.map_congr_left fun v _ => v_cat b sb v
  rw [h1]
  exact of_decide_eq_true h
