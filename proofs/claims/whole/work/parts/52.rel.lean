/-! THE RELATION of the class's half and the reference's half -/
/-- a cell of the table t, here and there -/
def CE (S : SS) (t c r : Nat) : Prop := (S.2.1 (2 + 4 * t + 3) (24 * c + r) = 0 ∧ S.2.1 49 (24 * (8 * t + c) + r) = 1) ∨ (S.2.1 (2 + 4 * t + 3) (24 * c + r) = 1 ∧ S.2.1 49 (24 * (8 * t + c) + r) = 0 ∧ S.2.2 48 (24 * (8 * t + c) + r) = S.2.2 (2 + 4 * t + 2) (24 * c + r) ∧ (S.2.1 (2 + 4 * t + 1) c = nI 5 → bitsC (S.2.2 (2 + 4 * t + 2) (24 * c + r)) = S.2.2 (2 + 4 * t + 2) (24 * c + r)))
/-- the table t, which is there, with n columns, m rows -/
def TR (S : SS) (t n m : Nat) : Prop := S.1 (2 + 4 * t) 0 = 1 ∧ S.1 (2 + 4 * t) 2 = nI n ∧ n ≤ 8 ∧ S.1 (2 + 4 * t) 3 = nI m ∧ m ≤ 24 ∧ (S.1 (2 + 4 * t) 1 = 0 ∨ S.1 (2 + 4 * t) 1 = 1) ∧ S.2.1 44 t = nI n ∧ S.2.1 45 t = nI m ∧ S.2.1 46 t = S.1 (2 + 4 * t) 1 ∧ (∀ c, c < n → S.2.1 47 (8 * t + c) = S.2.1 (2 + 4 * t + 1) c ∧ ∃ l, l < 6 ∧ S.2.1 (2 + 4 * t + 1) c = nI l) ∧ ∀ c r, c < n → r < m → CE S t c r
def TN (S : SS) (t : Nat) : Prop := S.1 (2 + 4 * t) 0 = 0 ∧ S.2.1 44 t = -1
def TB (S : SS) : Prop := (∀ t, t < 4 → TN S t ∨ ∃ n m, TR S t n m) ∧ (∀ t q, t < 4 → q < 192 → S.2.1 (2 + 4 * t + 3) q = 0 ∨ S.2.1 (2 + 4 * t + 3) q = 1) ∧ ∀ q, q < 768 → S.2.1 49 q = 0 ∨ S.2.1 49 q = 1
def LawM (S : SS) (n : Nat) (kd lx ly : Nat → Nat) (dr : Nat → Bool) : Prop := S.1 43 9 = nI n ∧ ∀ l, l < n → S.2.1 52 l = nI (kd l) ∧ S.2.1 53 l = nI (lx l) ∧ S.2.1 54 l = nI (ly l) ∧ S.2.1 55 l = bI (dr l = true)
def LawV (n : Nat) (kd lx ly : Nat → Nat) : Prop := ∀ l, l < n → (kd l = 4 → ∃ c d, c < 8 ∧ d < 8 ∧ lx l = 2 ^ c ∧ ly l = 2 ^ d) ∧ (kd l = 5 → ly l < 4) ∧ (kd l = 1 ∨ kd l = 3 → ly l = 0)
/-- the laws in force, by their places -/
def FN (n : Nat) (kd : Nat → Nat) (dr : Nat → Bool) : Nat := (fo kd dr n).length
def FX (w n : Nat) (kd lx : Nat → Nat) (dr : Nat → Bool) (k : Nat) : Nat := frm w lx ((fo kd dr n).getD k 0)
def FY (w n : Nat) (kd ly : Nat → Nat) (dr : Nat → Bool) (k : Nat) : Nat := too w kd ly ((fo kd dr n).getD k 0)
def ThC (S : SS) (w n : Nat) (kd lx ly : Nat → Nat) (dr : Nat → Bool) : Prop := WiC S w ∧ S.1 43 22 = nI w ∧ ForC S w kd lx ly (fo kd dr n) ∧ MO (FN n kd dr) (FX w n kd lx dr) (FY w n kd ly dr) (S.2.1 33) ∧ (S.1 29 9 = 0 ∨ (S.1 29 9 = 1 ∧ KeC S (kl (FN n kd dr) (FX w n kd lx dr) (FY w n kd ly dr) (2 ^ w - 1) (2 ^ w)))) ∧ (S.1 36 1 = 0 ∨ (S.1 36 1 = 1 ∧ CvC S (cov (FN n kd dr) (FX w n kd lx dr) (FY w n kd ly dr))))
def PaR (S : SS) (L : List Nat) : Prop := PaC S L ∧ S.1 43 33 = nI L.length ∧ Hl (S.2.1 67) L ∧ ∀ d, d ∈ L → d < 256
def StR (S : SS) (L : List Nat) : Prop := S.1 29 7 = nI L.length ∧ Hl (S.2.1 34) L ∧ S.1 43 23 = nI L.length ∧ Hl (S.2.1 60) L ∧ L.length ≤ 8
def JuR (S : SS) : Prop := S.1 43 14 = S.1 23 0 ∧ S.1 43 15 = S.1 23 1
def SeR (S : SS) (X C : List Nat) : Prop := X.length = C.length ∧ C.length ≤ 280 ∧ S.1 24 0 = nI C.length ∧ S.1 43 18 = nI C.length ∧ Hl (S.2.1 25) X ∧ Hl (S.2.1 26) C ∧ Hl (S.2.1 57) X ∧ Hl (S.2.1 58) C
def FaR (S : SS) : Prop := S.1 43 0 = S.1 0 7
def LaR (S : SS) : Prop := ∃ n w kd lx ly dr, LawC S n kd lx ly dr ∧ LawM S n kd lx ly dr ∧ LawV n kd lx ly ∧ ThC S w n kd lx ly dr
def RelO (S : SS) : Prop := JuR S ∧ (∃ X C, SeR S X C) ∧ (∃ L, StR S L) ∧ (∃ L, PaR S L) ∧ LaR S
def Rel (S : SS) : Prop := TB S ∧ FaR S ∧ RelO S
/-- one call, here and there, with the same answer -/
def Op (sc : RE) (S : SS) (C : MM → Option RT) (M : MM → Option RT) : Prop := ∃ v S1 S', Rel S' ∧ C (enc sc S) = some (v, enc sc S1) ∧ M (enc sc S1) = some (v, enc sc S')
/-- all but the tables and the faults -/
def bdF (a j : Nat) : Bool := (Nat.beq a 2 || Nat.beq a 6 || Nat.beq a 10 || Nat.beq a 14) || (Nat.beq a 0 && Nat.beq j 7) || (Nat.beq a 43 && Nat.beq j 0)
def bdA (a : Nat) : Bool := (Nat.ble 2 a && Nat.ble a 17) || (Nat.ble 44 a && Nat.ble a 51)
def rst (S : SS) : SS := (fun a j => cond (bdF a j) 0 (S.1 a j), fun a => cond (bdA a) (fun _ => 0) (S.2.1 a), fun a => cond (bdA a) (fun _ => 0) (S.2.2 a))
def FT (S S' : SS) : Prop := (∀ a j, bdF a j = false → S'.1 a j = S.1 a j) ∧ (∀ a, bdA a = false → S'.2.1 a = S.2.1 a ∧ S'.2.2 a = S.2.2 a)
theorem rst_eq {S S' : SS} (h : FT S S') : rst S' = rst S := by
  unfold rst
  refine Prod.ext ?_ (Prod.ext ?_ ?_)
  · funext a j
    show cond (bdF a j) 0 (S'.1 a j) = cond (bdF a j) 0 (S.1 a j)
    cases q : bdF a j with
    | true => rfl
    | false => exact h.1 a j q
  · funext a
    show cond (bdA a) (fun _ => 0) (S'.2.1 a) = cond (bdA a) (fun _ => 0) (S.2.1 a)
    cases q : bdA a with
    | true => rfl
    | false => exact (h.2 a q).1
  · funext a
    show cond (bdA a) (fun _ => 0) (S'.2.2 a) = cond (bdA a) (fun _ => 0) (S.2.2 a)
    cases q : bdA a with
    | true => rfl
    | false => exact (h.2 a q).2
theorem RelO_rst (S : SS) : RelO (rst S) = RelO S := rfl
theorem RelO_ft {S S' : SS} (h : FT S S') (hr : RelO S) : RelO S' := by
  rw [← RelO_rst, rst_eq h, RelO_rst]
  exact hr
theorem FT_refl (S : SS) : FT S S := ⟨fun _ _ _ => rfl, fun _ _ => ⟨rfl, rfl⟩⟩
theorem FT_tr {S S' S'' : SS} (h : FT S S') (h' : FT S' S'') : FT S S'' :=
  ⟨fun a j q => (h'.1 a j q).trans (h.1 a j q), fun a q => ⟨(h'.2 a q).1.trans (h.2 a q).1, (h'.2 a q).2.trans (h.2 a q).2⟩⟩
theorem FT_sF {S : SS} {a j : Nat} {x : Int32} (h : bdF a j = true) : FT S (sF S a j x) := by
  refine ⟨fun a' j' q => ?_, fun _ _ => ⟨rfl, rfl⟩⟩
  have : ¬ (a' = a ∧ j' = j) := fun z => by rw [z.1, z.2, h] at q; cases q
  simp [sF, this]
theorem FT_sA {S : SS} {a i : Nat} {x : Int32} (h : bdA a = true) : FT S (sA S a i x) := by
  refine ⟨fun _ _ _ => rfl, fun a' q => ⟨?_, rfl⟩⟩
  have : ¬ a' = a := fun z => by rw [z, h] at q; cases q
  funext i'
  simp [sA, this]
theorem FT_sL {S : SS} {a i : Nat} {x : Int64} (h : bdA a = true) : FT S (sL S a i x) := by
  refine ⟨fun _ _ _ => rfl, fun a' q => ⟨rfl, ?_⟩⟩
  have : ¬ a' = a := fun z => by rw [z, h] at q; cases q
  funext i'
  simp [sL, this]
theorem bdF_T {t j : Nat} (h : t < 4) : bdF (2 + 4 * t) j = true := by
  have : t = 0 ∨ t = 1 ∨ t = 2 ∨ t = 3 := by omega
  rcases this with rfl | rfl | rfl | rfl <;> rfl
theorem bdA_T {t k : Nat} (h : t < 4) (hk : k < 4) : bdA (2 + 4 * t + k) = true := by
  have h1 : Nat.ble 2 (2 + 4 * t + k) = true := Nat.ble_eq.mpr (by omega)
  have h2 : Nat.ble (2 + 4 * t + k) 17 = true := Nat.ble_eq.mpr (by omega)
  unfold bdA
  rw [h1, h2]
  rfl
/-- the table u stands -/
def KT (S S' : SS) (u : Nat) : Prop := (∀ j, S'.1 (2 + 4 * u) j = S.1 (2 + 4 * u) j) ∧ S'.2.1 (2 + 4 * u + 1) = S.2.1 (2 + 4 * u + 1) ∧ S'.2.1 (2 + 4 * u + 3) = S.2.1 (2 + 4 * u + 3) ∧ S'.2.2 (2 + 4 * u + 2) = S.2.2 (2 + 4 * u + 2) ∧ S'.2.1 44 u = S.2.1 44 u ∧ S'.2.1 45 u = S.2.1 45 u ∧ S'.2.1 46 u = S.2.1 46 u ∧ (∀ c, c < 8 → S'.2.1 47 (8 * u + c) = S.2.1 47 (8 * u + c)) ∧ ∀ c r, c < 8 → r < 24 → S'.2.1 49 (24 * (8 * u + c) + r) = S.2.1 49 (24 * (8 * u + c) + r) ∧ S'.2.2 48 (24 * (8 * u + c) + r) = S.2.2 48 (24 * (8 * u + c) + r)
theorem CE_kt {S S' : SS} {u c r : Nat} (h : KT S S' u) (hc : c < 8) (hr : r < 24) (hq : CE S u c r) : CE S' u c r := by
  obtain ⟨_, h2, h3, h4, _, _, _, _, h9⟩ := h
  unfold CE
  rw [h2, h3, h4, (h9 c r hc hr).1, (h9 c r hc hr).2]
  exact hq
theorem TR_kt {S S' : SS} {u n m : Nat} (h : KT S S' u) (hq : TR S u n m) : TR S' u n m := by
  obtain ⟨q1, q2, q3, q4, q5, q6, q7, q8, q9, q10, q11⟩ := hq
  have hh := h
  obtain ⟨h1, h2, h3, h4, h5, h6, h7, h8, h9⟩ := h
  unfold TR
  rw [h1, h1, h1, h1, h5, h6, h7]
  refine ⟨q1, q2, q3, q4, q5, q6, q7, q8, q9, fun c hc => ?_, fun c r hc hr => CE_kt hh (by omega) (by omega) (q11 c r hc hr)⟩
  rw [h8 c (by omega), h2]
  exact q10 c hc
theorem TN_kt {S S' : SS} {u : Nat} (h : KT S S' u) (hq : TN S u) : TN S' u := by
  obtain ⟨h1, _, _, _, h5, _⟩ := h
  unfold TN
  rw [h1, h5]
  exact hq
/-- one table anew, the others stand -/
theorem TB_up {S S' : SS} {t : Nat} (h : TB S) (hk : ∀ u, u < 4 → u ≠ t → KT S S' u) (ht : TN S' t ∨ ∃ n m, TR S' t n m) (h2 : ∀ q, q < 192 → S'.2.1 (2 + 4 * t + 3) q = 0 ∨ S'.2.1 (2 + 4 * t + 3) q = 1) (h3 : ∀ q, q < 768 → S'.2.1 49 q = 0 ∨ S'.2.1 49 q = 1) : TB S' := by
  refine ⟨fun u hu => ?_, fun u q hu hq => ?_, h3⟩
  · by_cases e : u = t
    · rw [e]; exact ht
    · rcases h.1 u hu with z | ⟨n, m, z⟩
      · exact Or.inl (TN_kt (hk u hu e) z)
      · exact Or.inr ⟨n, m, TR_kt (hk u hu e) z⟩
  · by_cases e : u = t
    · rw [e]; exact h2 q hq
    · rw [(hk u hu e).2.2.1]
      exact h.2.1 u q hu hq
/-- no table's register is among these -/
def nfs (fs : List (Nat × Nat)) : Bool := fs.all fun p => !(Nat.beq p.1 2 || Nat.beq p.1 6 || Nat.beq p.1 10 || Nat.beq p.1 14)
def ncs (cs : List Nat) : Bool := cs.all fun a => !((Nat.ble 2 a && Nat.ble a 17) || (Nat.ble 44 a && Nat.ble a 49))
theorem nfs_T {fs : List (Nat × Nat)} (h : nfs fs = true) {t j : Nat} (ht : t < 4) : (2 + 4 * t, j) ∉ fs := by
  intro q
  have h1 := List.all_eq_true.mp h _ q
  have : t = 0 ∨ t = 1 ∨ t = 2 ∨ t = 3 := by omega
  rcases this with rfl | rfl | rfl | rfl <;> exact absurd (show false = true from h1) (by decide)
theorem ncs_a {cs : List Nat} (h : ncs cs = true) {a : Nat} (ha : (2 ≤ a ∧ a ≤ 17) ∨ (44 ≤ a ∧ a ≤ 49)) : a ∉ cs := by
  intro q
  have h1 := List.all_eq_true.mp h _ q
  have h2 : ((Nat.ble 2 a && Nat.ble a 17) || (Nat.ble 44 a && Nat.ble a 49)) = true := by
    simp only [Bool.or_eq_true, Bool.and_eq_true, Nat.ble_eq]
    exact ha
  rw [h2] at h1
  cases h1
theorem KT_fr {S S' : SS} {fs : List (Nat × Nat)} {cs : List Nat} (h : Fr fs cs S S') (h1 : nfs fs = true) (h2 : ncs cs = true) {t : Nat} (ht : t < 4) : KT S S' t := by
  refine ⟨fun j => h.1 _ _ (nfs_T h1 ht), (h.2 _ (ncs_a h2 (by omega))).1, (h.2 _ (ncs_a h2 (by omega))).1, (h.2 _ (ncs_a h2 (by omega))).2, ?_, ?_, ?_, fun c hc => ?_, fun c r hc hr => ⟨?_, ?_⟩⟩
  · rw [(h.2 44 (ncs_a h2 (by omega))).1]
  · rw [(h.2 45 (ncs_a h2 (by omega))).1]
  · rw [(h.2 46 (ncs_a h2 (by omega))).1]
  · rw [(h.2 47 (ncs_a h2 (by omega))).1]
  · rw [(h.2 49 (ncs_a h2 (by omega))).1]
  · rw [(h.2 48 (ncs_a h2 (by omega))).2]
theorem TB_fr {S S' : SS} {fs : List (Nat × Nat)} {cs : List Nat} (h : Fr fs cs S S') (h1 : nfs fs = true) (h2 : ncs cs = true) (hb : TB S) : TB S' := by
  refine ⟨fun u hu => ?_, fun u q hu hq => ?_, fun q hq => ?_⟩
  · rcases hb.1 u hu with z | ⟨n, m, z⟩
    · exact Or.inl (TN_kt (KT_fr h h1 h2 hu) z)
    · exact Or.inr ⟨n, m, TR_kt (KT_fr h h1 h2 hu) z⟩
  · rw [(KT_fr h h1 h2 hu).2.2.1]
    exact hb.2.1 u q hu hq
  · rw [(h.2 49 (ncs_a h2 (by omega))).1]
    exact hb.2.2 q hq
