/-! PURE: most: the search -/
theorem pig : ∀ (n t : Nat) (q : Nat → Nat), (∀ j, j < t → q j < n) → (∀ i j, i < t → j < t → q i = q j → i = j) → t ≤ n := by
  intro n
  induction n with
  | zero => intro t q h _; exact Nat.le_of_not_lt (fun ht => absurd (h 0 ht) (by omega))
  | succ n ih =>
    intro t q h hi
    by_cases c : ∃ j, j < t ∧ q j = n
    · obtain ⟨j0, hj0, ej⟩ := c
      have key := ih (t - 1) (fun i => if i = j0 then q (t - 1) else q i) (fun j hj => by
        by_cases d : j = j0
        · rw [if_pos d]
          have h1 := h (t - 1) (by omega)
          have h2 : q (t - 1) ≠ n := fun x => by have := hi (t - 1) j0 (by omega) hj0 (by rw [x, ej]); omega
          omega
        · rw [if_neg d]
          have h1 := h j (by omega)
          have h2 : q j ≠ n := fun x => d (hi j j0 (by omega) hj0 (by rw [x, ej]))
          omega) (fun i j h1 h2 e => by
        by_cases d1 : i = j0
        · by_cases d2 : j = j0
          · rw [d1, d2]
          · rw [if_pos d1, if_neg d2] at e
            have := hi (t - 1) j (by omega) (by omega) e
            omega
        · by_cases d2 : j = j0
          · rw [if_neg d1, if_pos d2] at e
            have := hi i (t - 1) (by omega) (by omega) e
            omega
          · rw [if_neg d1, if_neg d2] at e
            exact hi i j (by omega) (by omega) e)
      omega
    · have := ih t q (fun j hj => by
        have h1 := h j hj
        have h2 : q j ≠ n := fun x => c ⟨j, hj, x⟩
        omega) hi
      omega
def seen (q : Nat → Nat) (t v : Nat) : Prop := ∃ j, j < t ∧ q j = v
def BQ (n : Nat → Nat) (pa qu : Nat → Int32) (q : Nat → Nat) (t : Nat) : Prop :=
  (∀ j, j < t → q j < 16 ∧ qu j = nI (q j)) ∧ q 0 = 14 ∧ 0 < t ∧ (∀ i j, i < t → j < t → q i = q j → i = j) ∧ (∀ v, v < 16 → seen q t v ∨ pa v = -1) ∧ (∀ j, 1 ≤ j → j < t → ∃ i, i < j ∧ pa (q j) = nI (q i) ∧ n (16 * q i + q j) ≠ 0) ∧ pa 14 = nI 14
theorem BQ.t16 {n : Nat → Nat} {pa qu : Nat → Int32} {q : Nat → Nat} {t : Nat} (h : BQ n pa qu q t) : t ≤ 16 := pig 16 t q (fun j hj => (h.1 j hj).1) h.2.2.2.1
theorem BQ.pa {n : Nat → Nat} {pa qu : Nat → Int32} {q : Nat → Nat} {t v : Nat} (h : BQ n pa qu q t) (hv : v < 16) : (seen q t v ∧ (0 : Int32) ≤ pa v) ∨ (¬ seen q t v ∧ pa v = -1 ∧ ¬ (0 : Int32) ≤ pa v) := by
  obtain ⟨h1, h2, h3, h4, h5, h6, h7⟩ := h
  by_cases c : seen q t v
  · refine Or.inl ⟨c, ?_⟩
    obtain ⟨j, hj, rfl⟩ := c
    rcases Nat.eq_zero_or_pos j with x | x
    · subst x; rw [h2, h7]; decide
    · obtain ⟨i, hi, e, -⟩ := h6 j x hj
      have := (h1 i (by omega)).1
      rw [e]; exact nI_le (a := 0) (by omega) (by omega)
  · refine Or.inr ⟨c, ?_⟩
    rcases h5 v hv with x | x
    · exact absurd x c
    · rw [x]; exact ⟨rfl, by decide⟩
theorem BQ.add {n : Nat → Nat} {pa qu : Nat → Int32} {q : Nat → Nat} {t h w : Nat} (hq : BQ n pa qu q t) (hh : h < t) (hw : w < 16) (hn : ¬ seen q t w) (he : n (16 * q h + w) ≠ 0) : BQ n (upd pa w (nI (q h))) (upd qu t (nI w)) (fun j => if j = t then w else q j) (t + 1) := by
  obtain ⟨h1, h2, h3, h4, h5, h6, h7⟩ := hq
  have ne : ∀ j, j < t → q j ≠ w := fun j hj x => hn ⟨j, hj, x⟩
  have n14 : w ≠ 14 := fun x => ne 0 h3 (by rw [h2, x])
  refine ⟨fun j hj => ?_, ?_, by omega, fun i j hi hj e => ?_, fun v hv => ?_, fun j j1 hj => ?_, ?_⟩
  · dsimp only
    by_cases c : j = t
    · rw [if_pos c, c, pk_us]; exact ⟨hw, rfl⟩
    · rw [if_neg c, pk_un c]; exact h1 j (by omega)
  · dsimp only; rw [if_neg (by omega)]; exact h2
  · dsimp only at e
    by_cases c : i = t
    · by_cases d : j = t
      · rw [c, d]
      · rw [if_pos c, if_neg d] at e; exact absurd e.symm (ne j (by omega))
    · by_cases d : j = t
      · rw [if_neg c, if_pos d] at e; exact absurd e (ne i (by omega))
      · rw [if_neg c, if_neg d] at e; exact h4 i j (by omega) (by omega) e
  · by_cases c : v = w
    · exact Or.inl ⟨t, by omega, by dsimp only; rw [if_pos rfl, c]⟩
    · rcases h5 v hv with ⟨j, hj, e⟩ | x
      · exact Or.inl ⟨j, by omega, by dsimp only; rw [if_neg (by omega)]; exact e⟩
      · exact Or.inr (by rw [pk_un c]; exact x)
  · dsimp only
    by_cases c : j = t
    · refine ⟨h, by omega, ?_, ?_⟩
      · rw [if_pos c, if_neg (by omega), pk_us]
      · rw [if_pos c, if_neg (by omega)]; exact he
    · obtain ⟨i, hi, e1, e2⟩ := h6 j j1 (by omega)
      refine ⟨i, hi, ?_, ?_⟩
      · rw [if_neg c, if_neg (by omega), pk_un (ne j (by omega))]; exact e1
      · rw [if_neg c, if_neg (by omega)]; exact e2
  · rw [pk_un (Ne.symm n14)]; exact h7
