/-! SOUND: runs -/
theorem find_mem : ∀ {l : List (Nat × EN)} {p : Nat} {e : EN}, mm_find l p = some e → (p, e) ∈ l
  | [], p, e, h => by simp [mm_find] at h
  | (q, x) :: t, p, e, h => by
    unfold mm_find at h
    cases hq : Nat.beq p q with
    | true =>
      rw [hq] at h
      have h1 : p = q := Nat.eq_of_beq_eq_true hq
      simp only [cond_true, Option.some.injEq] at h
      subst h1
      subst h
      exact List.mem_cons_self
    | false =>
      rw [hq] at h
      exact List.mem_cons_of_mem _ (find_mem h)
theorem ckm_g {l : List (List (List (Nat × EN)))} {k : Nat} (h : (l.zipIdx k).all mm_ckm = true) (r : Nat) : ∀ ch ∈ l.getD r [], ∀ x ∈ ch, mm_ck (k + r) x.1 x.2 = true := by
  intro ch hch x hx
  by_cases hr : r < l.length
  · have h1 : (l.zipIdx k)[r]? = some (l[r], k + r) := by
      rw [List.getElem?_zipIdx]
      simp [hr]
    have h2 := List.all_eq_true.mp h _ (List.mem_of_getElem? h1)
    have h3 : ch ∈ l[r] := by simpa [List.getD_eq_getElem?_getD, hr] using hch
    exact List.all_eq_true.mp (List.all_eq_true.mp h2 ch h3) x hx
  · rw [List.getD_eq_getElem?_getD, List.getElem?_eq_none (by omega)] at hch
    simp at hch
theorem ck_g : ∀ (g r : Nat), ∀ ch ∈ (mE_g.getD g []).getD r [], ∀ x ∈ ch, mm_ck (16 * g + r) x.1 x.2 = true
  | 0, r => ckm_g ck_ok0 r
  | 1, r => ckm_g ck_ok1 r
  | 2, r => ckm_g ck_ok2 r
  | 3, r => ckm_g ck_ok3 r
  | 4, r => ckm_g ck_ok4 r
  | 5, r => ckm_g ck_ok5 r
  | 6, r => ckm_g ck_ok6 r
  | 7, r => ckm_g ck_ok7 r
  | 8, r => ckm_g ck_ok8 r
  | 9, r => ckm_g ck_ok9 r
  | 10, r => ckm_g ck_ok10 r
  | 11, r => ckm_g ck_ok11 r
  | 12, r => ckm_g ck_ok12 r
  | 13, r => ckm_g ck_ok13 r
  | 14, r => ckm_g ck_ok14 r
  | 15, r => ckm_g ck_ok15 r
  | g + 16, r => by
    intro ch hch
    have h1 : mE_g.getD (g + 16) [] = [] := by
      rw [List.getD_eq_getElem?_getD, List.getElem?_eq_none (by simp [mE_g])]
      rfl
    rw [h1] at hch
    simp at hch
theorem ck_at {mi pc : Nat} {e : EN} (h : mm_E mi pc = some e) : mm_ck mi pc e = true := by
  unfold mm_E at h
  have h1 := find_mem h
  have h2 : ∀ (ls : List (List (Nat × EN))) (k : Nat), (pc, e) ∈ ls.getD k [] → ∃ ch ∈ ls, (pc, e) ∈ ch := by
    intro ls k hk
    by_cases hl : k < ls.length
    · refine ⟨ls[k], List.getElem_mem hl, ?_⟩
      simpa [List.getD_eq_getElem?_getD, hl] using hk
    · rw [List.getD_eq_getElem?_getD, List.getElem?_eq_none (by omega)] at hk
      simp at hk
  obtain ⟨ch, g1, g2⟩ := h2 _ _ h1
  have h3 := ck_g (mi / 16) (mi % 16) ch g1 _ g2
  rw [Nat.div_add_mod] at h3
  exact h3
theorem run_sound {l : Launch} {b sb L : Nat} {xs : Nat → Int32} {dC : Nat → ClassId} {dI : Nat → Nat → Nat} {dA : Nat → ClassId} (hsb : sb < b) : ∀ (n mi pc : Nat) (ls st : List Value) (μ : MM) (r : RT), mm_run n mi pc ls st μ = some r → m_G l b sb L xs dC dI dA mi pc ls st μ r
  | 0, mi, pc, ls, st, μ, r, h => by cases h
  | n + 1, mi, pc, ls, st, μ, r, h => by
    unfold mm_run at h
    split at h
    · cases h
    · next i nx r1 r2 r3 r4 cv he =>
      obtain ⟨hdec, hck⟩ := and2 (ck_at he)
      refine stp_sound hsb (fun pc ls st μ r hh => run_sound hsb n mi pc ls st μ r hh) (fun j as μ r hh => ?_) i hdec hck h
      cases hle : Nat.ble (l_ex as).length (mm_L j) with
      | true =>
        rw [hle] at hh
        exact ⟨Nat.le_of_ble_eq_true hle, run_sound hsb n j 0 _ [] μ r hh⟩
      | false =>
        rw [hle] at hh
        cases hh
