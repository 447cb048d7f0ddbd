/-! EVALUATION: what a run comes to, however much fuel it has; blocks of instructions at once -/
def Ev (mi pc : Nat) (ls st : List Value) (μ : MM) (r : RT) : Prop := ∃ N, ∀ n, N ≤ n → mm_run n mi pc ls st μ = some r
section WIT
variable {r : RT}
theorem s_I_w {st : List Value} {k : Int32 → List Value → Option RT} (h : s_I st k = some r) : ∃ x t, k x t = some r ∧ ∀ k' : Int32 → List Value → Option RT, k' x t = some r → s_I st k' = some r := by
  obtain ⟨x, t, rfl, h⟩ := s_I_i h
  exact ⟨x, t, h, fun _ h => h⟩
theorem s_II_w {st : List Value} {k : Int32 → Int32 → List Value → Option RT} (h : s_II st k = some r) : ∃ x y t, k x y t = some r ∧ ∀ k' : Int32 → Int32 → List Value → Option RT, k' x y t = some r → s_II st k' = some r := by
  obtain ⟨x, y, t, rfl, h⟩ := s_II_i h
  exact ⟨x, y, t, h, fun _ h => h⟩
theorem s_L_w {st : List Value} {k : Int64 → List Value → Option RT} (h : s_L st k = some r) : ∃ x t, k x t = some r ∧ ∀ k' : Int64 → List Value → Option RT, k' x t = some r → s_L st k' = some r := by
  obtain ⟨x, t, rfl, h⟩ := s_L_i h
  exact ⟨x, t, h, fun _ h => h⟩
theorem s_LL_w {st : List Value} {k : Int64 → Int64 → List Value → Option RT} (h : s_LL st k = some r) : ∃ x y t, k x y t = some r ∧ ∀ k' : Int64 → Int64 → List Value → Option RT, k' x y t = some r → s_LL st k' = some r := by
  obtain ⟨x, y, t, rfl, h⟩ := s_LL_i h
  exact ⟨x, y, t, h, fun _ h => h⟩
theorem s_LI_w {st : List Value} {k : Int64 → Int32 → List Value → Option RT} (h : s_LI st k = some r) : ∃ x y t, k x y t = some r ∧ ∀ k' : Int64 → Int32 → List Value → Option RT, k' x y t = some r → s_LI st k' = some r := by
  obtain ⟨x, y, t, rfl, h⟩ := s_LI_i h
  exact ⟨x, y, t, h, fun _ h => h⟩
theorem s_DD_w {st : List Value} {k : UInt64 → UInt64 → List Value → Option RT} (h : s_DD st k = some r) : ∃ x y t, k x y t = some r ∧ ∀ k' : UInt64 → UInt64 → List Value → Option RT, k' x y t = some r → s_DD st k' = some r := by
  obtain ⟨x, y, t, rfl, h⟩ := s_DD_i h
  exact ⟨x, y, t, h, fun _ h => h⟩
theorem s_R_w {st : List Value} {k : Nat → List Value → Option RT} (h : s_R st k = some r) : ∃ x t, k x t = some r ∧ ∀ k' : Nat → List Value → Option RT, k' x t = some r → s_R st k' = some r := by
  obtain ⟨x, t, rfl, h⟩ := s_R_i h
  exact ⟨x, t, h, fun _ h => h⟩
theorem s_IR_w {st : List Value} {k : Nat → Int32 → List Value → Option RT} (h : s_IR st k = some r) : ∃ x y t, k x y t = some r ∧ ∀ k' : Nat → Int32 → List Value → Option RT, k' x y t = some r → s_IR st k' = some r := by
  obtain ⟨x, y, t, rfl, h⟩ := s_IR_i h
  exact ⟨x, y, t, h, fun _ h => h⟩
theorem s_IIR_w {st : List Value} {k : Nat → Int32 → Int32 → List Value → Option RT} (h : s_IIR st k = some r) : ∃ x y z t, k x y z t = some r ∧ ∀ k' : Nat → Int32 → Int32 → List Value → Option RT, k' x y z t = some r → s_IIR st k' = some r := by
  obtain ⟨x, y, z, t, rfl, h⟩ := s_IIR_i h
  exact ⟨x, y, z, t, h, fun _ h => h⟩
theorem s_LIR_w {st : List Value} {k : Nat → Int32 → Int64 → List Value → Option RT} (h : s_LIR st k = some r) : ∃ x y z t, k x y z t = some r ∧ ∀ k' : Nat → Int32 → Int64 → List Value → Option RT, k' x y z t = some r → s_LIR st k' = some r := by
  obtain ⟨x, y, z, t, rfl, h⟩ := s_LIR_i h
  exact ⟨x, y, z, t, h, fun _ h => h⟩
theorem s_RIR_w {st : List Value} {k : Nat → Int32 → Nat → List Value → Option RT} (h : s_RIR st k = some r) : ∃ x y z t, k x y z t = some r ∧ ∀ k' : Nat → Int32 → Nat → List Value → Option RT, k' x y z t = some r → s_RIR st k' = some r := by
  obtain ⟨x, y, z, t, rfl, h⟩ := s_RIR_i h
  exact ⟨x, y, z, t, h, fun _ h => h⟩
theorem s_VR_w {st : List Value} {k : Nat → Value → List Value → Option RT} (h : s_VR st k = some r) : ∃ x y t, k x y t = some r ∧ ∀ k' : Nat → Value → List Value → Option RT, k' x y t = some r → s_VR st k' = some r := by
  obtain ⟨x, y, t, rfl, h⟩ := s_VR_i h
  exact ⟨x, y, t, h, fun _ h => h⟩
theorem s_V1_w {st : List Value} {k : Value → List Value → Option RT} (h : s_V1 st k = some r) : ∃ x t, k x t = some r ∧ ∀ k' : Value → List Value → Option RT, k' x t = some r → s_V1 st k' = some r := by
  unfold s_V1 at h
  split at h
  · exact ⟨_, _, h, fun _ h => h⟩
  · exact ⟨_, _, h, fun _ h => h⟩
  · exact ⟨_, _, h, fun _ h => h⟩
  · cases h
theorem s_N_w {st : List Value} {kn : List Value → Option RT} {k : Nat → List Value → Option RT} (h : s_N st kn k = some r) : (∃ t, kn t = some r ∧ ∀ (kn' : List Value → Option RT) (k' : Nat → List Value → Option RT), kn' t = some r → s_N st kn' k' = some r) ∨ (∃ a t, k a t = some r ∧ ∀ (kn' : List Value → Option RT) (k' : Nat → List Value → Option RT), k' a t = some r → s_N st kn' k' = some r) := by
  rcases s_N_i h with ⟨t, rfl, h⟩ | ⟨a, t, rfl, h⟩
  · exact Or.inl ⟨t, h, fun _ _ h => h⟩
  · exact Or.inr ⟨a, t, h, fun _ _ h => h⟩
theorem l_I_w {ls : List Value} {i : Nat} {k : Int32 → Option RT} (h : l_I ls i k = some r) : ∃ x, k x = some r ∧ ∀ k' : Int32 → Option RT, k' x = some r → l_I ls i k' = some r := by
  obtain ⟨x, hx, h⟩ := l_I_i h
  exact ⟨x, h, fun k' h => by unfold l_I; rw [hx]; exact h⟩
theorem l_L_w {ls : List Value} {i : Nat} {k : Int64 → Option RT} (h : l_L ls i k = some r) : ∃ x, k x = some r ∧ ∀ k' : Int64 → Option RT, k' x = some r → l_L ls i k' = some r := by
  obtain ⟨x, hx, h⟩ := l_L_i h
  exact ⟨x, h, fun k' h => by unfold l_L; rw [hx]; exact h⟩
theorem l_A_w {ls : List Value} {i : Nat} {k : Value → Option RT} (h : l_A ls i k = some r) : ∃ x, k x = some r ∧ ∀ k' : Value → Option RT, k' x = some r → l_A ls i k' = some r := by
  rcases l_A_i h with ⟨x, hx, h⟩ | ⟨hx, h⟩
  · exact ⟨_, h, fun k' h => by unfold l_A; rw [hx]; exact h⟩
  · exact ⟨_, h, fun k' h => by unfold l_A; rw [hx]; exact h⟩
theorem l_s1_w {ls : List Value} {i : Nat} {v : Value} {k : List Value → Option RT} (h : l_s1 ls i v k = some r) : ∃ x, k x = some r ∧ ∀ k' : List Value → Option RT, k' x = some r → l_s1 ls i v k' = some r := by
  obtain ⟨hi, h⟩ := l_s1_i h
  exact ⟨_, h, fun k' h => by unfold l_s1; rw [if_pos hi]; exact h⟩
theorem l_s2_w {ls : List Value} {i : Nat} {v : Value} {k : List Value → Option RT} (h : l_s2 ls i v k = some r) : ∃ x, k x = some r ∧ ∀ k' : List Value → Option RT, k' x = some r → l_s2 ls i v k' = some r := by
  obtain ⟨hi, h⟩ := l_s2_i h
  exact ⟨_, h, fun k' h => by unfold l_s2; rw [if_pos hi]; exact h⟩
theorem g_I_w {μ : MM} {a ci j : Nat} {k : Int32 → Option RT} (h : g_I μ a ci j k = some r) : ∃ x, k x = some r ∧ ∀ k' : Int32 → Option RT, k' x = some r → g_I μ a ci j k' = some r := by
  obtain ⟨fs, x, h1, h2, h3, h⟩ := g_I_i h
  exact ⟨x, h, fun k' h => by unfold g_I; rw [h1]; simp only [h2, and_self, if_true, h3]; exact h⟩
theorem g_R_w {μ : MM} {a ci j : Nat} {k : Nat → Option RT} (h : g_R μ a ci j k = some r) : ∃ x, k x = some r ∧ ∀ k' : Nat → Option RT, k' x = some r → g_R μ a ci j k' = some r := by
  obtain ⟨fs, x, h1, h2, h3, h⟩ := g_R_i h
  exact ⟨x, h, fun k' h => by unfold g_R; rw [h1]; simp only [h2, and_self, if_true, h3]; exact h⟩
theorem p_F_w {μ : MM} {a ci j tc : Nat} {v : Value} {k : MM → Option RT} (h : p_F μ a ci j tc v k = some r) : ∃ x, k x = some r ∧ ∀ k' : MM → Option RT, k' x = some r → p_F μ a ci j tc v k' = some r := by
  obtain ⟨fs, h1, h2, h3, h4, h⟩ := p_F_i h
  exact ⟨_, h, fun k' h => by unfold p_F; rw [h1]; simp only [h2, h3, h4, and_self, if_true]; exact h⟩
theorem a_I_w {μ : MM} {a : Nat} {i : Int32} {k : Int32 → Option RT} (h : a_I μ a i k = some r) : ∃ x, k x = some r ∧ ∀ k' : Int32 → Option RT, k' x = some r → a_I μ a i k' = some r := by
  unfold a_I at h
  split at h
  · next t n f hc =>
    split at h
    · next hh => exact ⟨_, h, fun k' h => by unfold a_I; rw [hc]; simp only [hh, and_self, if_true]; exact h⟩
    · cases h
  · cases h
theorem a_B_w {μ : MM} {a : Nat} {i : Int32} {k : Int32 → Option RT} (h : a_B μ a i k = some r) : ∃ x, k x = some r ∧ ∀ k' : Int32 → Option RT, k' x = some r → a_B μ a i k' = some r := by
  unfold a_B at h
  split at h
  · next t n f hc =>
    split at h
    · next hh => exact ⟨_, h, fun k' h => by unfold a_B; rw [hc]; simp only [hh, and_self, if_true]; exact h⟩
    · cases h
  · cases h
theorem a_L_w {μ : MM} {a : Nat} {i : Int32} {k : Int64 → Option RT} (h : a_L μ a i k = some r) : ∃ x, k x = some r ∧ ∀ k' : Int64 → Option RT, k' x = some r → a_L μ a i k' = some r := by
  unfold a_L at h
  split at h
  · next t n f hc =>
    split at h
    · next hh => exact ⟨_, h, fun k' h => by unfold a_L; rw [hc]; simp only [hh, and_self, if_true]; exact h⟩
    · cases h
  · cases h
theorem a_Q_w {μ : MM} {a : Nat} {i : Int32} {k : Nat → Option RT} (h : a_Q μ a i k = some r) : ∃ x, k x = some r ∧ ∀ k' : Nat → Option RT, k' x = some r → a_Q μ a i k' = some r := by
  unfold a_Q at h
  split at h
  · next t n f hc =>
    split at h
    · next hh =>
      split at h
      · next x hx => exact ⟨_, h, fun k' h => by unfold a_Q; rw [hc]; simp only [hh, and_self, if_true, hx]; exact h⟩
      · cases h
    · cases h
  · cases h
theorem a_n_w {μ : MM} {a : Nat} {k : Int32 → Option RT} (h : a_n μ a k = some r) : ∃ x, k x = some r ∧ ∀ k' : Int32 → Option RT, k' x = some r → a_n μ a k' = some r := by
  unfold a_n at h
  split at h
  · next t n f hc =>
    split at h
    · next hh => exact ⟨_, h, fun k' h => by unfold a_n; rw [hc]; simp only [hh, if_true]; exact h⟩
    · cases h
  · cases h
theorem w_I_w {μ : MM} {a : Nat} {i x : Int32} {k : MM → Option RT} (h : w_I μ a i x k = some r) : ∃ y, k y = some r ∧ ∀ k' : MM → Option RT, k' y = some r → w_I μ a i x k' = some r := by
  unfold w_I at h
  split at h
  · next t n f hc =>
    split at h
    · next hh => exact ⟨_, h, fun k' h => by unfold w_I; rw [hc]; simp only; rw [if_pos hh]; exact h⟩
    · cases h
  · cases h
theorem w_B_w {μ : MM} {a : Nat} {i x : Int32} {k : MM → Option RT} (h : w_B μ a i x k = some r) : ∃ y, k y = some r ∧ ∀ k' : MM → Option RT, k' y = some r → w_B μ a i x k' = some r := by
  unfold w_B at h
  split at h
  · next t n f hc =>
    split at h
    · next hh => exact ⟨_, h, fun k' h => by unfold w_B; rw [hc]; simp only; rw [if_pos hh]; exact h⟩
    · cases h
  · cases h
theorem w_L_w {μ : MM} {a : Nat} {i : Int32} {x : Int64} {k : MM → Option RT} (h : w_L μ a i x k = some r) : ∃ y, k y = some r ∧ ∀ k' : MM → Option RT, k' y = some r → w_L μ a i x k' = some r := by
  unfold w_L at h
  split at h
  · next t n f hc =>
    split at h
    · next hh => exact ⟨_, h, fun k' h => by unfold w_L; rw [hc]; simp only; rw [if_pos hh]; exact h⟩
    · cases h
  · cases h
theorem w_Q_w {μ : MM} {a : Nat} {i : Int32} {x : Nat} {k : MM → Option RT} (h : w_Q μ a i x k = some r) : ∃ y, k y = some r ∧ ∀ k' : MM → Option RT, k' y = some r → w_Q μ a i x k' = some r := by
  unfold w_Q at h
  split at h
  · next t n f c fs hc hd =>
    split at h
    · next hh => exact ⟨_, h, fun k' h => by unfold w_Q; rw [hc, hd]; simp only; rw [if_pos hh]; exact h⟩
    · cases h
  · cases h
theorem n_A_w {μ : MM} {tag : Nat} {n : Int32} {e : vp_A} {k : MM → Option RT} (h : n_A μ tag n e k = some r) : ∃ y, k y = some r ∧ ∀ k' : MM → Option RT, k' y = some r → n_A μ tag n e k' = some r := by
  unfold n_A at h
  split at h
  · next hh => exact ⟨_, h, fun k' h => by unfold n_A; rw [if_pos hh]; exact h⟩
  · cases h
theorem c_L_w {μ : MM} {a b : Nat} {i j n : Int32} {k : MM → Option RT} (h : c_L μ a b i j n k = some r) : ∃ y, k y = some r ∧ ∀ k' : MM → Option RT, k' y = some r → c_L μ a b i j n k' = some r := by
  unfold c_L at h
  split at h
  · next t m f hc =>
    split at h
    · next hh => exact ⟨_, h, fun k' h => by unfold c_L; rw [hc]; simp only; rw [if_pos hh]; exact h⟩
    · cases h
  · next t m f hc =>
    split at h
    · next hh => exact ⟨_, h, fun k' h => by unfold c_L; rw [hc]; simp only; rw [if_pos hh]; exact h⟩
    · cases h
  · cases h
theorem mm_copy_w {st : List Value} {k : Nat → Int32 → Nat → Int32 → Int32 → List Value → Option RT} (h : mm_copy st k = some r) : ∃ a i b j n t, k a i b j n t = some r ∧ ∀ k' : Nat → Int32 → Nat → Int32 → Int32 → List Value → Option RT, k' a i b j n t = some r → mm_copy st k' = some r := by
  obtain ⟨a, i, b, j, n, t, rfl, hr, h⟩ := mm_copy_i h
  exact ⟨a, i, b, j, n, t, h, fun k' h => by unfold mm_copy; simp only [hr, if_true]; exact h⟩
theorem c_ret_w {rk : Nat} {q : Option RT} {k : List Value → MM → Option RT} (h : c_ret rk q k = some r) : ∃ v μ', q = some (v, μ') ∧ k v.toList μ' = some r ∧ ∀ k' : List Value → MM → Option RT, k' v.toList μ' = some r → c_ret rk q k' = some r := by
  unfold c_ret at h
  split at h
  · unfold c_V at h; split at h
    · exact ⟨_, _, rfl, h, fun _ h => h⟩
    · cases h
  · unfold c_I at h; split at h
    · exact ⟨_, _, rfl, h, fun _ h => h⟩
    · cases h
  · unfold c_J at h; split at h
    · exact ⟨_, _, rfl, h, fun _ h => h⟩
    · cases h
  · next n h0 h1 h2 =>
    unfold c_A at h; split at h
    · refine ⟨_, _, rfl, h, fun _ h => ?_⟩
      unfold c_ret; split
      · exact absurd rfl h0
      · exact absurd rfl h1
      · exact absurd rfl h2
      · exact h
    · refine ⟨_, _, rfl, h, fun _ h => ?_⟩
      unfold c_ret; split
      · exact absurd rfl h0
      · exact absurd rfl h1
      · exact absurd rfl h2
      · exact h
    · cases h
theorem c_O_w {μ : MM} {as : List Value} {ci : Nat} {q : Option RT} (h : c_O μ as ci q = some r) : q = some r ∧ ∀ q' : Option RT, q' = some r → c_O μ as ci q' = some r := by
  obtain ⟨a, t, fs, rfl, h1, h2, h⟩ := c_O_i h
  exact ⟨h, fun q' h => by unfold c_O; simp only [h1, h2, and_self, if_true]; exact h⟩
theorem if_w {c : Prop} [Decidable c] {q : Option RT} (h : (if c then q else none) = some r) : q = some r ∧ ∀ q' : Option RT, q' = some r → (if c then q' else none) = some r := by
  split at h
  · next hc => exact ⟨h, fun q' h => by rw [if_pos hc]; exact h⟩
  · cases h
theorem mm_cond_w {c : ClassFile.Cond} {x y : Int32} {kt kf : Option RT} (h : mm_cond c x y kt kf = some r) : (kt = some r ∧ ∀ kt' kf' : Option RT, kt' = some r → mm_cond c x y kt' kf' = some r) ∨ (kf = some r ∧ ∀ kt' kf' : Option RT, kf' = some r → mm_cond c x y kt' kf' = some r) := by
  unfold mm_cond at h
  cases c <;> (simp only at h; split at h) <;> rename_i hh <;> first
    | exact Or.inl ⟨h, fun kt' kf' h => by unfold mm_cond; simp only [hh, if_true]; exact h⟩
    | exact Or.inr ⟨h, fun kt' kf' h => by unfold mm_cond; simp only [hh, if_false]; exact h⟩
    | exact Or.inr ⟨h, fun kt' kf' h => by unfold mm_cond; simp only [hh, if_true]; exact h⟩
    | exact Or.inl ⟨h, fun kt' kf' h => by unfold mm_cond; simp only [hh, if_false]; exact h⟩
theorem mm_sw_w {pc : Nat} {d lo hi : Int} {offs : List Int} {x : Int32} {k : Nat → Option RT} (h : mm_sw pc d lo hi offs x k = some r) : ∃ p, k p = some r ∧ ∀ k' : Nat → Option RT, k' p = some r → mm_sw pc d lo hi offs x k' = some r := by
  unfold mm_sw at h
  split at h
  · next hc => exact ⟨_, h, fun k' h => by unfold mm_sw; rw [if_pos hc]; exact h⟩
  · next hc =>
    split at h
    · next o ho => exact ⟨_, h, fun k' h => by unfold mm_sw; rw [if_neg hc]; simp only [ho]; exact h⟩
    · cases h
end WIT
noncomputable def ev_pick (P : RT → Prop) : Option RT := by
  classical exact if h : ∃ r, P r then some h.choose else none
theorem ev_pick_i {P : RT → Prop} {r : RT} (h : ev_pick P = some r) : P r := by
  unfold ev_pick at h
  split at h
  · next hh =>
    cases h
    exact hh.choose_spec
  · cases h
theorem ev_pick_of {P : RT → Prop} (h : ∃ r, P r) : ∃ r, ev_pick P = some r ∧ P r := by
  refine ⟨h.choose, ?_, h.choose_spec⟩
  unfold ev_pick
  rw [dif_pos h]
section EVS
variable {mi pc nx r1 r2 r3 r4 : Nat} {cv : Value} {ls st : List Value} {μ : MM} {r : RT} {K : KK} {C : Nat → List Value → MM → Option RT}
noncomputable def mm_C (n : Nat) (mj : Nat) (as : List Value) (μ' : MM) : Option RT := cond (Nat.ble (l_ex as).length (mm_L mj)) (mm_run n mj 0 (l_pad (mm_L mj) (l_ex as)) [] μ') none
theorem call_ev (hK : ∀ pc ls st μ r, K pc ls st μ = some r → Ev mi pc ls st μ r) (hC : ∀ j as μ r, C j as μ = some r → ∃ N, ∀ n, N ≤ n → mm_C n j as μ = some r) (h : mm_call K C nx r1 r2 r3 r4 ls st μ = some r) : ∃ N, ∀ n, N ≤ n → mm_call (mm_run n mi) (mm_C n) nx r1 r2 r3 r4 ls st μ = some r := by
  have ret : ∀ (rk : Nat) (as rest : List Value), c_ret rk (C r1 as μ) (fun v μ' => K nx ls (v ++ rest) μ') = some r → ∃ N, ∀ n, N ≤ n → c_ret rk (mm_C n r1 as μ) (fun v μ' => mm_run n mi nx ls (v ++ rest) μ') = some r := by
    intro rk as rest h
    obtain ⟨v, μ', h1, h2, hw⟩ := c_ret_w h
    obtain ⟨N1, hN1⟩ := hC _ _ _ _ h1
    obtain ⟨N2, hN2⟩ := hK _ _ _ _ _ h2
    refine ⟨max N1 N2, fun n hn => ?_⟩
    have e1 := hN1 n (by omega)
    have e2 := hN2 n (by omega)
    rw [e1, ← h1]
    exact hw _ e2
  unfold mm_call at h ⊢
  split at h
  · next hh =>
    have hO : ∀ ci : Nat, c_O μ (st.take r2).reverse ci (c_ret (r3 / 8) (C r1 (st.take r2).reverse μ) (fun v μ' => K nx ls (v ++ st.drop r2) μ')) = some r → ∃ N, ∀ n, N ≤ n → c_O μ (st.take r2).reverse ci (c_ret (r3 / 8) (mm_C n r1 (st.take r2).reverse μ) (fun v μ' => mm_run n mi nx ls (v ++ st.drop r2) μ')) = some r := by
      intro ci h
      obtain ⟨h1, hw⟩ := c_O_w h
      obtain ⟨N, hN⟩ := ret _ _ _ h1
      exact ⟨N, fun n hn => hw _ (hN n hn)⟩
    simp only [hh, and_self, if_true]
    split at h
    · obtain ⟨N, hN⟩ := hO _ h
      exact ⟨N, fun n hn => by simp only [*]⟩
    · obtain ⟨N, hN⟩ := hO _ h
      exact ⟨N, fun n hn => by simp only [*]⟩
    · obtain ⟨N, hN⟩ := hO _ h
      exact ⟨N, fun n hn => by simp only [*]⟩
    · obtain ⟨N, hN⟩ := hO _ h
      exact ⟨N, fun n hn => by simp only [*]⟩
    · next k0 k1 k4 k5 =>
      obtain ⟨N, hN⟩ := ret _ _ _ h
      exact ⟨N, fun n hn => by first | exact hN n hn | simp only [*]⟩
  · cases h
theorem stp_ev (hK : ∀ pc ls st μ r, K pc ls st μ = some r → Ev mi pc ls st μ r) (hC : ∀ j as μ r, C j as μ = some r → ∃ N, ∀ n, N ≤ n → mm_C n j as μ = some r) (i : Instr) (h : mm_stp K C pc i nx r1 r2 r3 r4 cv ls st μ = some r) : ∃ N, ∀ n, N ≤ n → mm_stp (mm_run n mi) (mm_C n) pc i nx r1 r2 r3 r4 cv ls st μ = some r := by
  cases i with
  | aconst_null =>
    obtain ⟨N, hN⟩ := hK _ _ _ _ _ h
    exact ⟨N, hN⟩
  | iconst n =>
    obtain ⟨N, hN⟩ := hK _ _ _ _ _ h
    exact ⟨N, hN⟩
  | bipush n =>
    obtain ⟨N, hN⟩ := hK _ _ _ _ _ h
    exact ⟨N, hN⟩
  | sipush n =>
    obtain ⟨N, hN⟩ := hK _ _ _ _ _ h
    exact ⟨N, hN⟩
  | lconst n =>
    obtain ⟨N, hN⟩ := hK _ _ _ _ _ h
    exact ⟨N, hN⟩
  | ldc_w n =>
    obtain ⟨N, hN⟩ := hK _ _ _ _ _ h
    exact ⟨N, hN⟩
  | ldc2_w n =>
    obtain ⟨N, hN⟩ := hK _ _ _ _ _ h
    exact ⟨N, hN⟩
  | goto n =>
    obtain ⟨N, hN⟩ := hK _ _ _ _ _ h
    exact ⟨N, hN⟩
  | iload_n n =>
    obtain ⟨y0, h1, w1⟩ := l_I_w h
    obtain ⟨N, hN⟩ := hK _ _ _ _ _ h1
    exact ⟨N, fun n hn => w1 _ (hN n hn)⟩
  | iload n =>
    obtain ⟨y0, h1, w1⟩ := l_I_w h
    obtain ⟨N, hN⟩ := hK _ _ _ _ _ h1
    exact ⟨N, fun n hn => w1 _ (hN n hn)⟩
  | lload_n n =>
    obtain ⟨y0, h1, w1⟩ := l_L_w h
    obtain ⟨N, hN⟩ := hK _ _ _ _ _ h1
    exact ⟨N, fun n hn => w1 _ (hN n hn)⟩
  | lload n =>
    obtain ⟨y0, h1, w1⟩ := l_L_w h
    obtain ⟨N, hN⟩ := hK _ _ _ _ _ h1
    exact ⟨N, fun n hn => w1 _ (hN n hn)⟩
  | aload_n n =>
    have h : l_A ls n.val (fun v => K nx ls (v :: st) μ) = some r := h
    obtain ⟨y0, h1, w1⟩ := l_A_w h
    obtain ⟨N, hN⟩ := hK _ _ _ _ _ h1
    exact ⟨N, fun k hn => w1 (fun v => mm_run k mi nx ls (v :: st) μ) (hN k hn)⟩
  | aload n =>
    have h : l_A ls n (fun v => K nx ls (v :: st) μ) = some r := h
    obtain ⟨y0, h1, w1⟩ := l_A_w h
    obtain ⟨N, hN⟩ := hK _ _ _ _ _ h1
    exact ⟨N, fun k hn => w1 (fun v => mm_run k mi nx ls (v :: st) μ) (hN k hn)⟩
  | istore_n n =>
    obtain ⟨y0, y1, h1, w1⟩ := s_I_w h
    obtain ⟨z0, h2, w2⟩ := l_s1_w h1
    obtain ⟨N, hN⟩ := hK _ _ _ _ _ h2
    exact ⟨N, fun k hn => w1 (fun x t => l_s1 ls n.val (.int x) fun ls' => mm_run k mi nx ls' t μ) (w2 _ (hN k hn))⟩
  | istore n =>
    obtain ⟨y0, y1, h1, w1⟩ := s_I_w h
    obtain ⟨z0, h2, w2⟩ := l_s1_w h1
    obtain ⟨N, hN⟩ := hK _ _ _ _ _ h2
    exact ⟨N, fun k hn => w1 (fun x t => l_s1 ls n (.int x) fun ls' => mm_run k mi nx ls' t μ) (w2 _ (hN k hn))⟩
  | lstore_n n =>
    obtain ⟨y0, y1, h1, w1⟩ := s_L_w h
    obtain ⟨z0, h2, w2⟩ := l_s2_w h1
    obtain ⟨N, hN⟩ := hK _ _ _ _ _ h2
    exact ⟨N, fun k hn => w1 (fun x t => l_s2 ls n.val (.long x) fun ls' => mm_run k mi nx ls' t μ) (w2 _ (hN k hn))⟩
  | lstore n =>
    obtain ⟨y0, y1, h1, w1⟩ := s_L_w h
    obtain ⟨z0, h2, w2⟩ := l_s2_w h1
    obtain ⟨N, hN⟩ := hK _ _ _ _ _ h2
    exact ⟨N, fun k hn => w1 (fun x t => l_s2 ls n (.long x) fun ls' => mm_run k mi nx ls' t μ) (w2 _ (hN k hn))⟩
  | astore_n n =>
    rcases s_N_w h with ⟨t, h1, w1⟩ | ⟨a, t, h1, w1⟩
    · obtain ⟨z, h2, w2⟩ := l_s1_w h1
      obtain ⟨N, hN⟩ := hK _ _ _ _ _ h2
      exact ⟨N, fun k hn => w1 (fun t => l_s1 ls n.val .null fun ls' => mm_run k mi nx ls' t μ) (fun a t => l_s1 ls n.val (.ref a) fun ls' => mm_run k mi nx ls' t μ) (w2 _ (hN k hn))⟩
    · obtain ⟨z, h2, w2⟩ := l_s1_w h1
      obtain ⟨N, hN⟩ := hK _ _ _ _ _ h2
      exact ⟨N, fun k hn => w1 (fun t => l_s1 ls n.val .null fun ls' => mm_run k mi nx ls' t μ) (fun a t => l_s1 ls n.val (.ref a) fun ls' => mm_run k mi nx ls' t μ) (w2 _ (hN k hn))⟩
  | astore n =>
    rcases s_N_w h with ⟨t, h1, w1⟩ | ⟨a, t, h1, w1⟩
    · obtain ⟨z, h2, w2⟩ := l_s1_w h1
      obtain ⟨N, hN⟩ := hK _ _ _ _ _ h2
      exact ⟨N, fun k hn => w1 (fun t => l_s1 ls n .null fun ls' => mm_run k mi nx ls' t μ) (fun a t => l_s1 ls n (.ref a) fun ls' => mm_run k mi nx ls' t μ) (w2 _ (hN k hn))⟩
    · obtain ⟨z, h2, w2⟩ := l_s1_w h1
      obtain ⟨N, hN⟩ := hK _ _ _ _ _ h2
      exact ⟨N, fun k hn => w1 (fun t => l_s1 ls n .null fun ls' => mm_run k mi nx ls' t μ) (fun a t => l_s1 ls n (.ref a) fun ls' => mm_run k mi nx ls' t μ) (w2 _ (hN k hn))⟩
  | iinc n d =>
    obtain ⟨x, h1, w1⟩ := l_I_w h
    cases cv with
    | int d =>
      obtain ⟨z, h2, w2⟩ := l_s1_w h1
      obtain ⟨N, hN⟩ := hK _ _ _ _ _ h2
      exact ⟨N, fun k hn => w1 (fun x => l_s1 ls n (.int (x + d)) fun ls' => mm_run k mi nx ls' st μ) (w2 _ (hN k hn))⟩
    | _ => cases h1
  | iadd =>
    obtain ⟨y0, y1, y2, h1, w1⟩ := s_II_w h
    obtain ⟨N, hN⟩ := hK _ _ _ _ _ h1
    exact ⟨N, fun k hn => w1 (fun x y t => mm_run k mi nx ls (.int (x + y) :: t) μ) (hN k hn)⟩
  | isub =>
    obtain ⟨y0, y1, y2, h1, w1⟩ := s_II_w h
    obtain ⟨N, hN⟩ := hK _ _ _ _ _ h1
    exact ⟨N, fun k hn => w1 (fun x y t => mm_run k mi nx ls (.int (x - y) :: t) μ) (hN k hn)⟩
  | imul =>
    obtain ⟨y0, y1, y2, h1, w1⟩ := s_II_w h
    obtain ⟨N, hN⟩ := hK _ _ _ _ _ h1
    exact ⟨N, fun k hn => w1 (fun x y t => mm_run k mi nx ls (.int (x * y) :: t) μ) (hN k hn)⟩
  | iand =>
    obtain ⟨y0, y1, y2, h1, w1⟩ := s_II_w h
    obtain ⟨N, hN⟩ := hK _ _ _ _ _ h1
    exact ⟨N, fun k hn => w1 (fun x y t => mm_run k mi nx ls (.int (x &&& y) :: t) μ) (hN k hn)⟩
  | ior =>
    obtain ⟨y0, y1, y2, h1, w1⟩ := s_II_w h
    obtain ⟨N, hN⟩ := hK _ _ _ _ _ h1
    exact ⟨N, fun k hn => w1 (fun x y t => mm_run k mi nx ls (.int (x ||| y) :: t) μ) (hN k hn)⟩
  | ixor =>
    obtain ⟨y0, y1, y2, h1, w1⟩ := s_II_w h
    obtain ⟨N, hN⟩ := hK _ _ _ _ _ h1
    exact ⟨N, fun k hn => w1 (fun x y t => mm_run k mi nx ls (.int (x ^^^ y) :: t) μ) (hN k hn)⟩
  | ishl =>
    obtain ⟨y0, y1, y2, h1, w1⟩ := s_II_w h
    obtain ⟨N, hN⟩ := hK _ _ _ _ _ h1
    exact ⟨N, fun k hn => w1 (fun x y t => mm_run k mi nx ls (.int (x <<< (y &&& 31)) :: t) μ) (hN k hn)⟩
  | ishr =>
    obtain ⟨y0, y1, y2, h1, w1⟩ := s_II_w h
    obtain ⟨N, hN⟩ := hK _ _ _ _ _ h1
    exact ⟨N, fun k hn => w1 (fun x y t => mm_run k mi nx ls (.int (x >>> (y &&& 31)) :: t) μ) (hN k hn)⟩
  | iushr =>
    obtain ⟨y0, y1, y2, h1, w1⟩ := s_II_w h
    obtain ⟨N, hN⟩ := hK _ _ _ _ _ h1
    exact ⟨N, fun k hn => w1 (fun x y t => mm_run k mi nx ls (.int ((x.toUInt32 >>> (y.toUInt32 &&& Int32.toUInt32 31)).toInt32) :: t) μ) (hN k hn)⟩
  | ladd =>
    obtain ⟨y0, y1, y2, h1, w1⟩ := s_LL_w h
    obtain ⟨N, hN⟩ := hK _ _ _ _ _ h1
    exact ⟨N, fun k hn => w1 (fun x y t => mm_run k mi nx ls (.long (x + y) :: t) μ) (hN k hn)⟩
  | land =>
    obtain ⟨y0, y1, y2, h1, w1⟩ := s_LL_w h
    obtain ⟨N, hN⟩ := hK _ _ _ _ _ h1
    exact ⟨N, fun k hn => w1 (fun x y t => mm_run k mi nx ls (.long (x &&& y) :: t) μ) (hN k hn)⟩
  | lor =>
    obtain ⟨y0, y1, y2, h1, w1⟩ := s_LL_w h
    obtain ⟨N, hN⟩ := hK _ _ _ _ _ h1
    exact ⟨N, fun k hn => w1 (fun x y t => mm_run k mi nx ls (.long (x ||| y) :: t) μ) (hN k hn)⟩
  | lxor =>
    obtain ⟨y0, y1, y2, h1, w1⟩ := s_LL_w h
    obtain ⟨N, hN⟩ := hK _ _ _ _ _ h1
    exact ⟨N, fun k hn => w1 (fun x y t => mm_run k mi nx ls (.long (x ^^^ y) :: t) μ) (hN k hn)⟩
  | lshl =>
    obtain ⟨y0, y1, y2, h1, w1⟩ := s_LI_w h
    obtain ⟨N, hN⟩ := hK _ _ _ _ _ h1
    exact ⟨N, fun k hn => w1 (fun x y t => mm_run k mi nx ls (.long (x <<< (y.toInt64 &&& 63)) :: t) μ) (hN k hn)⟩
  | lcmp =>
    obtain ⟨y0, y1, y2, h1, w1⟩ := s_LL_w h
    obtain ⟨N, hN⟩ := hK _ _ _ _ _ h1
    exact ⟨N, fun k hn => w1 (fun x y t => mm_run k mi nx ls (.int (lg_cmp x y) :: t) μ) (hN k hn)⟩
  | dcmp op =>
    obtain ⟨y0, y1, y2, h1, w1⟩ := s_DD_w h
    obtain ⟨N, hN⟩ := hK _ _ _ _ _ h1
    exact ⟨N, fun k hn => w1 (fun x y t => mm_run k mi nx ls (.int (Op.cmpValue (FP.dcmp x y) op) :: t) μ) (hN k hn)⟩
  | i2l =>
    obtain ⟨y0, y1, h1, w1⟩ := s_I_w h
    obtain ⟨N, hN⟩ := hK _ _ _ _ _ h1
    exact ⟨N, fun k hn => w1 (fun x t => mm_run k mi nx ls (.long x.toInt64 :: t) μ) (hN k hn)⟩
  | l2i =>
    obtain ⟨y0, y1, h1, w1⟩ := s_L_w h
    obtain ⟨N, hN⟩ := hK _ _ _ _ _ h1
    exact ⟨N, fun k hn => w1 (fun x t => mm_run k mi nx ls (.int x.toInt32 :: t) μ) (hN k hn)⟩
  | i2b =>
    obtain ⟨y0, y1, h1, w1⟩ := s_I_w h
    obtain ⟨N, hN⟩ := hK _ _ _ _ _ h1
    exact ⟨N, fun k hn => w1 (fun x t => mm_run k mi nx ls (.int x.toInt8.toInt32 :: t) μ) (hN k hn)⟩
  | i2s =>
    obtain ⟨y0, y1, h1, w1⟩ := s_I_w h
    obtain ⟨N, hN⟩ := hK _ _ _ _ _ h1
    exact ⟨N, fun k hn => w1 (fun x t => mm_run k mi nx ls (.int x.toInt16.toInt32 :: t) μ) (hN k hn)⟩
  | i2c =>
    obtain ⟨y0, y1, h1, w1⟩ := s_I_w h
    obtain ⟨N, hN⟩ := hK _ _ _ _ _ h1
    exact ⟨N, fun k hn => w1 (fun x t => mm_run k mi nx ls (.int (x.toUInt32 % 65536).toInt32 :: t) μ) (hN k hn)⟩
  | dup =>
    have h : s_V1 st (fun v t => K nx ls (v :: v :: t) μ) = some r := h
    obtain ⟨y0, y1, h1, w1⟩ := s_V1_w h
    obtain ⟨N, hN⟩ := hK _ _ _ _ _ h1
    exact ⟨N, fun k hn => w1 (fun v t => mm_run k mi nx ls (v :: v :: t) μ) (hN k hn)⟩
  | pop =>
    have h : s_V1 st (fun _ t => K nx ls t μ) = some r := h
    obtain ⟨y0, y1, h1, w1⟩ := s_V1_w h
    obtain ⟨N, hN⟩ := hK _ _ _ _ _ h1
    exact ⟨N, fun k hn => w1 (fun _ t => mm_run k mi nx ls t μ) (hN k hn)⟩
  | dup2 =>
    obtain ⟨y0, y1, y2, h1, w1⟩ := s_IR_w h
    obtain ⟨N, hN⟩ := hK _ _ _ _ _ h1
    exact ⟨N, fun k hn => w1 (fun a x t => mm_run k mi nx ls (.int x :: .ref a :: .int x :: .ref a :: t) μ) (hN k hn)⟩
  | ifCond c o =>
    obtain ⟨y0, y1, h1, w1⟩ := s_I_w h
    rcases mm_cond_w h1 with ⟨h2, w2⟩ | ⟨h2, w2⟩
    · obtain ⟨N, hN⟩ := hK _ _ _ _ _ h2
      exact ⟨N, fun k hn => w1 (fun x t => mm_cond c x 0 (mm_run k mi r1 ls t μ) (mm_run k mi nx ls t μ)) (w2 _ _ (hN k hn))⟩
    · obtain ⟨N, hN⟩ := hK _ _ _ _ _ h2
      exact ⟨N, fun k hn => w1 (fun x t => mm_cond c x 0 (mm_run k mi r1 ls t μ) (mm_run k mi nx ls t μ)) (w2 _ _ (hN k hn))⟩
  | if_icmp c o =>
    obtain ⟨y0, y1, y2, h1, w1⟩ := s_II_w h
    rcases mm_cond_w h1 with ⟨h2, w2⟩ | ⟨h2, w2⟩
    · obtain ⟨N, hN⟩ := hK _ _ _ _ _ h2
      exact ⟨N, fun k hn => w1 (fun x y t => mm_cond c x y (mm_run k mi r1 ls t μ) (mm_run k mi nx ls t μ)) (w2 _ _ (hN k hn))⟩
    · obtain ⟨N, hN⟩ := hK _ _ _ _ _ h2
      exact ⟨N, fun k hn => w1 (fun x y t => mm_cond c x y (mm_run k mi r1 ls t μ) (mm_run k mi nx ls t μ)) (w2 _ _ (hN k hn))⟩
  | ifnull o =>
    rcases s_N_w h with ⟨t, h1, w1⟩ | ⟨a, t, h1, w1⟩
    · obtain ⟨N, hN⟩ := hK _ _ _ _ _ h1
      exact ⟨N, fun k hn => w1 (fun t => mm_run k mi r1 ls t μ) (fun _ t => mm_run k mi nx ls t μ) (hN k hn)⟩
    · obtain ⟨N, hN⟩ := hK _ _ _ _ _ h1
      exact ⟨N, fun k hn => w1 (fun t => mm_run k mi r1 ls t μ) (fun _ t => mm_run k mi nx ls t μ) (hN k hn)⟩
  | ifnonnull o =>
    rcases s_N_w h with ⟨t, h1, w1⟩ | ⟨a, t, h1, w1⟩
    · obtain ⟨N, hN⟩ := hK _ _ _ _ _ h1
      exact ⟨N, fun k hn => w1 (fun t => mm_run k mi nx ls t μ) (fun _ t => mm_run k mi r1 ls t μ) (hN k hn)⟩
    · obtain ⟨N, hN⟩ := hK _ _ _ _ _ h1
      exact ⟨N, fun k hn => w1 (fun t => mm_run k mi nx ls t μ) (fun _ t => mm_run k mi r1 ls t μ) (hN k hn)⟩
  | tableswitch d lo hi offs =>
    obtain ⟨x, t, h1, w1⟩ := s_I_w h
    obtain ⟨p, h2, w2⟩ := mm_sw_w h1
    obtain ⟨N, hN⟩ := hK _ _ _ _ _ h2
    exact ⟨N, fun k hn => w1 (fun x t => mm_sw pc d lo hi offs.toList x fun p => mm_run k mi p ls t μ) (w2 _ (hN k hn))⟩
  | getfield x =>
    obtain ⟨a, t, h1, w1⟩ := s_R_w h
    by_cases h3 : r3 = 2
    · subst h3
      obtain ⟨y, h2, w2⟩ := g_R_w h1
      obtain ⟨N, hN⟩ := hK _ _ _ _ _ h2
      exact ⟨N, fun k hn => w1 (fun a t => g_R μ a r1 r2 fun x => mm_run k mi nx ls (.ref x :: t) μ) (w2 _ (hN k hn))⟩
    · have h4 : g_I μ a r1 r2 (fun x => K nx ls (.int x :: t) μ) = some r := by
        split at h1
        · exact absurd rfl h3
        · exact h1
      obtain ⟨y, h2, w2⟩ := g_I_w h4
      obtain ⟨N, hN⟩ := hK _ _ _ _ _ h2
      refine ⟨N, fun k hn => ?_⟩
      refine w1 _ ?_
      split
      · exact absurd rfl h3
      · exact w2 _ (hN k hn)
  | putfield x =>
    obtain ⟨y0, y1, y2, h1, w1⟩ := s_VR_w h
    obtain ⟨z0, h2, w2⟩ := p_F_w h1
    obtain ⟨N, hN⟩ := hK _ _ _ _ _ h2
    exact ⟨N, fun k hn => w1 (fun a v t => p_F μ a r1 r2 r3 v fun μ' => mm_run k mi nx ls t μ') (w2 _ (hN k hn))⟩
  | iaload =>
    obtain ⟨y0, y1, y2, h1, w1⟩ := s_IR_w h
    obtain ⟨z0, h2, w2⟩ := a_I_w h1
    obtain ⟨N, hN⟩ := hK _ _ _ _ _ h2
    exact ⟨N, fun k hn => w1 (fun a i t => a_I μ a i fun x => mm_run k mi nx ls (.int x :: t) μ) (w2 _ (hN k hn))⟩
  | baload =>
    obtain ⟨y0, y1, y2, h1, w1⟩ := s_IR_w h
    obtain ⟨z0, h2, w2⟩ := a_B_w h1
    obtain ⟨N, hN⟩ := hK _ _ _ _ _ h2
    exact ⟨N, fun k hn => w1 (fun a i t => a_B μ a i fun x => mm_run k mi nx ls (.int x :: t) μ) (w2 _ (hN k hn))⟩
  | laload =>
    obtain ⟨y0, y1, y2, h1, w1⟩ := s_IR_w h
    obtain ⟨z0, h2, w2⟩ := a_L_w h1
    obtain ⟨N, hN⟩ := hK _ _ _ _ _ h2
    exact ⟨N, fun k hn => w1 (fun a i t => a_L μ a i fun x => mm_run k mi nx ls (.long x :: t) μ) (w2 _ (hN k hn))⟩
  | aaload =>
    obtain ⟨y0, y1, y2, h1, w1⟩ := s_IR_w h
    obtain ⟨z0, h2, w2⟩ := a_Q_w h1
    obtain ⟨N, hN⟩ := hK _ _ _ _ _ h2
    exact ⟨N, fun k hn => w1 (fun a i t => a_Q μ a i fun x => mm_run k mi nx ls (.ref x :: t) μ) (w2 _ (hN k hn))⟩
  | arraylength =>
    obtain ⟨y0, y1, h1, w1⟩ := s_R_w h
    obtain ⟨z0, h2, w2⟩ := a_n_w h1
    obtain ⟨N, hN⟩ := hK _ _ _ _ _ h2
    exact ⟨N, fun k hn => w1 (fun a t => a_n μ a fun x => mm_run k mi nx ls (.int x :: t) μ) (w2 _ (hN k hn))⟩
  | iastore =>
    obtain ⟨y0, y1, y2, y3, h1, w1⟩ := s_IIR_w h
    obtain ⟨z0, h2, w2⟩ := w_I_w h1
    obtain ⟨N, hN⟩ := hK _ _ _ _ _ h2
    exact ⟨N, fun k hn => w1 (fun a i x t => w_I μ a i x fun μ' => mm_run k mi nx ls t μ') (w2 _ (hN k hn))⟩
  | bastore =>
    obtain ⟨y0, y1, y2, y3, h1, w1⟩ := s_IIR_w h
    obtain ⟨z0, h2, w2⟩ := w_B_w h1
    obtain ⟨N, hN⟩ := hK _ _ _ _ _ h2
    exact ⟨N, fun k hn => w1 (fun a i x t => w_B μ a i x fun μ' => mm_run k mi nx ls t μ') (w2 _ (hN k hn))⟩
  | lastore =>
    obtain ⟨y0, y1, y2, y3, h1, w1⟩ := s_LIR_w h
    obtain ⟨z0, h2, w2⟩ := w_L_w h1
    obtain ⟨N, hN⟩ := hK _ _ _ _ _ h2
    exact ⟨N, fun k hn => w1 (fun a i x t => w_L μ a i x fun μ' => mm_run k mi nx ls t μ') (w2 _ (hN k hn))⟩
  | aastore =>
    obtain ⟨y0, y1, y2, y3, h1, w1⟩ := s_RIR_w h
    obtain ⟨z0, h2, w2⟩ := w_Q_w h1
    obtain ⟨N, hN⟩ := hK _ _ _ _ _ h2
    exact ⟨N, fun k hn => w1 (fun a i x t => w_Q μ a i x fun μ' => mm_run k mi nx ls t μ') (w2 _ (hN k hn))⟩
  | new x =>
    obtain ⟨h1, w1⟩ := if_w h
    obtain ⟨N, hN⟩ := hK _ _ _ _ _ h1
    exact ⟨N, fun k hn => w1 _ (hN k hn)⟩
  | newarray ty =>
    obtain ⟨y0, y1, h1, w1⟩ := s_I_w h
    obtain ⟨z0, h2, w2⟩ := n_A_w h1
    obtain ⟨N, hN⟩ := hK _ _ _ _ _ h2
    exact ⟨N, fun k hn => w1 (fun n t => n_A μ (mm_zero ty).1 n ((mm_zero ty).2 n.toNatClampNeg) fun μ' => mm_run k mi nx ls (.ref μ.1 :: t) μ') (w2 _ (hN k hn))⟩
  | anewarray x =>
    obtain ⟨y0, y1, h1, w1⟩ := s_I_w h
    obtain ⟨z0, h2, w2⟩ := n_A_w h1
    obtain ⟨N, hN⟩ := hK _ _ _ _ _ h2
    exact ⟨N, fun k hn => w1 (fun n t => n_A μ 4 n (n.toNatClampNeg, .inr (.inr (.inr (.inr (fun _ => none))))) fun μ' => mm_run k mi nx ls (.ref μ.1 :: t) μ') (w2 _ (hN k hn))⟩
  | invokevirtual x =>
    exact call_ev hK hC h
  | invokespecial x =>
    by_cases h6 : r3 = 6
    · subst h6
      obtain ⟨a, t, h1, w1⟩ := s_R_w h
      obtain ⟨h2, w2⟩ := if_w h1
      obtain ⟨N, hN⟩ := hK _ _ _ _ _ h2
      exact ⟨N, fun k hn => w1 (fun _ t => if c_room t = true then mm_run k mi nx ls t μ else none) (w2 _ (hN k hn))⟩
    · simp only [mm_stp] at h ⊢
      exact call_ev hK hC h
  | invokestatic x =>
    simp only [mm_stp] at h ⊢
    split at h
    · obtain ⟨a, i, b, j, n, t, h1, w1⟩ := mm_copy_w h
      obtain ⟨y, h2, w2⟩ := c_L_w h1
      obtain ⟨N, hN⟩ := hK _ _ _ _ _ h2
      exact ⟨N, fun k hn => w1 (fun a i b j n t => c_L μ a b i j n fun μ' => mm_run k mi nx ls t μ') (w2 _ (hN k hn))⟩
    · obtain ⟨y, t, h1, w1⟩ := s_L_w h
      obtain ⟨h2, w2⟩ := if_w h1
      obtain ⟨N, hN⟩ := hK _ _ _ _ _ h2
      exact ⟨N, fun k hn => w1 (fun x t => if c_room t = true ∧ vn_snl2d x = false then mm_run k mi nx ls (.double x.toUInt64 :: t) μ else none) (w2 _ (hN k hn))⟩
    · obtain ⟨y, z, t, h1, w1⟩ := s_II_w h
      obtain ⟨h2, w2⟩ := if_w h1
      obtain ⟨N, hN⟩ := hK _ _ _ _ _ h2
      exact ⟨N, fun k hn => w1 (fun x y t => if c_room t = true then mm_run k mi nx ls (.int (if x < y then y else x) :: t) μ else none) (w2 _ (hN k hn))⟩
    · obtain ⟨y, z, t, h1, w1⟩ := s_II_w h
      obtain ⟨h2, w2⟩ := if_w h1
      obtain ⟨N, hN⟩ := hK _ _ _ _ _ h2
      exact ⟨N, fun k hn => w1 (fun x y t => if c_room t = true then mm_run k mi nx ls (.int (if y < x then y else x) :: t) μ else none) (w2 _ (hN k hn))⟩
    · next k6 k7 k14 k15 =>
      obtain ⟨N, hN⟩ := call_ev hK hC h
      exact ⟨N, fun k hn => by first | exact hN k hn | (split <;> first | exact absurd rfl k6 | exact absurd rfl k7 | exact absurd rfl k14 | exact absurd rfl k15 | exact hN k hn)⟩
  | ireturn =>
    exact ⟨0, fun _ _ => h⟩
  | lreturn =>
    exact ⟨0, fun _ _ => h⟩
  | areturn =>
    exact ⟨0, fun _ _ => h⟩
  | return_ =>
    exact ⟨0, fun _ _ => h⟩
  | _ => cases h
/-- what a run comes to -/
noncomputable def Rs (mi pc : Nat) (ls st : List Value) (μ : MM) : Option RT := ev_pick (fun r => Ev mi pc ls st μ r)
theorem Ev.det {r r' : RT} (h : Ev mi pc ls st μ r) (h' : Ev mi pc ls st μ r') : r = r' := by
  obtain ⟨N, hN⟩ := h
  obtain ⟨M, hM⟩ := h'
  exact Option.some.inj ((hN (max N M) (by omega)).symm.trans (hM (max N M) (by omega)))
theorem Rs_ev (h : Rs mi pc ls st μ = some r) : Ev mi pc ls st μ r := ev_pick_i h
theorem Rs_of (h : Ev mi pc ls st μ r) : Rs mi pc ls st μ = some r := by
  obtain ⟨r', h1, h2⟩ := ev_pick_of (P := fun r => Ev mi pc ls st μ r) ⟨r, h⟩
  rw [show Rs mi pc ls st μ = some r' from h1, h2.det h]
/-- a call by its arguments -/
noncomputable def Rc (mj : Nat) (as : List Value) (μ : MM) : Option RT := cond (Nat.ble (l_ex as).length (mm_L mj)) (Rs mj 0 (l_pad (mm_L mj) (l_ex as)) [] μ) none
end EVS
