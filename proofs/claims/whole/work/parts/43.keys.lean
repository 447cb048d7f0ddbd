/-! SETS of which none is within another: at most 70 of eight columns, 35 of seven -/
def ch8 (s : Nat) : Nat := (17306002764751339443145831543475286498221680741030594927802187818071878173702337064504272501749080561636319029591510811442929024446408575028355448768762894319163218173256768981454387873409784446159771049978261655249833346071910879064559265578532102155654658316335484346595972930807166128501936523802049846370711429387150229510575082080802676975123147149270509289492751853573118204923083949348947794791934302719140568322373804084081371271897494078052198850799475471762219738673952013683593824384076524570414700084127305698205833208283136 >>> (7 * s)) % 128
def ch7 (s : Nat) : Nat := (32758247047435711174122789465401533880229603065253395657729619445928657967215628914626554064997957836926238199438955000559897124578722458777374467471026818728776085613582033712211623059089898892165014494474089440457162337036364557656749588849982230794597119131926528 >>> (7 * s)) % 128
def alln (p : Nat → Bool) : Nat → Bool
  | 0 => true
  | n + 1 => p n && alln p n
theorem alln_at {p : Nat → Bool} : ∀ {n : Nat}, alln p n = true → ∀ k, k < n → p k = true
  | 0, _, k, hk => absurd hk (Nat.not_lt_zero k)
  | n + 1, h, k, hk => by
    unfold alln at h
    obtain ⟨h1, h2⟩ := and2 h
    by_cases q : k = n
    · rw [q]; exact h1
    · exact alln_at h2 k (by omega)
theorem ch8_a : alln (fun s => decide (ch8 s < 70) && alln (fun t => !(ch8 s == ch8 t) || (s &&& t == s || t &&& s == t)) 256) 256 = true := by decide +kernel
theorem ch7_a : alln (fun s => decide (ch7 s < 35) && alln (fun t => !(ch7 s == ch7 t) || (s &&& t == s || t &&& s == t)) 128) 128 = true := by decide +kernel
theorem ch8_lt {s : Nat} (h : s < 256) : ch8 s < 70 := of_decide_eq_true (and2 (alln_at ch8_a s h)).1
theorem ch8_c {s t : Nat} (hs : s < 256) (ht : t < 256) (h : ch8 s = ch8 t) : sub s t ∨ sub t s := by
  have h1 := alln_at (and2 (alln_at ch8_a s hs)).2 t ht
  simpa [h] using h1
theorem ch7_lt {s : Nat} (h : s < 128) : ch7 s < 35 := of_decide_eq_true (and2 (alln_at ch7_a s h)).1
theorem ch7_c {s t : Nat} (hs : s < 128) (ht : t < 128) (h : ch7 s = ch7 t) : sub s t ∨ sub t s := by
  have h1 := alln_at (and2 (alln_at ch7_a s hs)).2 t ht
  simpa [h] using h1
/-- s with column c taken out of the row -/
def cmp7 (c s : Nat) : Nat := s % 2 ^ c + s / 2 ^ (c + 1) * 2 ^ c
theorem cmp7_a : alln (fun c => alln (fun s => decide (cmp7 c s < 128) && alln (fun i => s.testBit i == (if i < c then (cmp7 c s).testBit i else if i == c then s.testBit c else (cmp7 c s).testBit (i - 1))) 8) 256) 8 = true := by decide +kernel
theorem cmp7_lt {c s : Nat} (hc : c < 8) (hs : s < 256) : cmp7 c s < 128 := of_decide_eq_true (and2 (alln_at (alln_at cmp7_a c hc) s hs)).1
theorem cmp7_sub {c s t : Nat} (hc : c < 8) (hs : s < 256) (ht : t < 256) (h : s.testBit c = false) (hq : sub (cmp7 c s) (cmp7 c t)) : sub s t := by
  refine sub_iff.mpr fun i hi => ?_
  have hi8 : i < 8 := bit_lt (n := 8) hi hs
  have h1 := alln_at (and2 (alln_at (alln_at cmp7_a c hc) s hs)).2 i hi8
  have h2 := alln_at (and2 (alln_at (alln_at cmp7_a c hc) t ht)).2 i hi8
  have h1 := eq_of_beq h1
  have h2 := eq_of_beq h2
  rw [hi] at h1
  rw [h2]
  by_cases q : i < c
  · rw [if_pos q] at h1 ⊢
    exact sub_iff.mp hq _ h1.symm
  · rw [if_neg q] at h1 ⊢
    by_cases q2 : i = c
    · rw [q2, h] at hi
      cases hi
    · have q3 : (i == c) = false := by simp [q2]
      rw [q3] at h1 ⊢
      exact sub_iff.mp hq _ h1.symm
theorem php : ∀ (M : Nat) (L : List Nat), L.Nodup → (∀ x, x ∈ L → x < M) → L.length ≤ M
  | 0, [], _, _ => Nat.le_refl _
  | 0, x :: t, _, h => absurd (h x List.mem_cons_self) (Nat.not_lt_zero x)
  | M + 1, L, hn, h => by
    have h1 := php M (L.erase M) (hn.erase M) (fun x hx => by
      have h2 := h x (List.mem_of_mem_erase hx)
      have h3 : x ≠ M := fun q => by
        rw [q] at hx
        exact hn.not_mem_erase hx
      omega)
    have h2 := List.length_erase (a := M) (l := L)
    split at h2 <;> omega
theorem anti_len {L : List Nat} (hn : L.Nodup) {f : Nat → Nat} {M : Nat} (hf : ∀ x, x ∈ L → f x < M) (hi : ∀ x y, x ∈ L → y ∈ L → f x = f y → x = y) : L.length ≤ M := by
  have h := php M (L.map f) ?_ ?_
  · rw [List.length_map] at h
    exact h
  · unfold List.Nodup
    rw [List.pairwise_map]
    exact List.Pairwise.imp_of_mem (fun {a b} ha hb hab q => hab (hi a b ha hb q)) hn
  · intro x hx
    obtain ⟨y, hy, e⟩ := List.mem_map.mp hx
    rw [← e]
    exact hf y hy
theorem range_nd (n : Nat) (p : Nat → Bool) : ((List.range n).filter p).Nodup := List.Pairwise.filter _ List.nodup_range
