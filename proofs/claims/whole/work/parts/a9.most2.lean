/-! PURE: most: a path over parents -/
def itP (p : Nat → Nat) : Nat → Nat → Nat
  | 0, v => v
  | j + 1, v => itP p j (p v)
/-- parents: each but 14 stands behind its parent, and the way there is open -/
def TRE (R : Nat → Int) (T : Nat → Bool) (p rk : Nat → Nat) : Prop := ∀ v, v < 16 → T v = true → v ≠ 14 → p v < 16 ∧ T (p v) = true ∧ rk (p v) < rk v ∧ 0 < R (16 * p v + v)
def augZ (p : Nat → Nat) (d : Int) : Nat → (Nat → Int) → Nat → (Nat → Int)
  | 0, R, _ => R
  | k + 1, R, v => if v = 14 then R else augZ p d k (edZ R (p v) v d) (p v)
def minZ (R : Nat → Int) (p : Nat → Nat) : Nat → Int → Nat → Int
  | 0, m, _ => m
  | k + 1, m, v => if v = 14 then m else minZ R p k (if R (16 * p v + v) < m then R (16 * p v + v) else m) (p v)
def ways (R : Nat → Int) (p : Nat → Nat) (d : Int) (v : Nat) : Prop := ∀ j, (∀ i, i ≤ j → itP p i v ≠ 14) → d ≤ R (16 * p (itP p j v) + itP p j v)
section
variable {R0 : Nat → Int} {T : Nat → Bool} {p rk : Nat → Nat}
theorem aug_cut (ht : TRE R0 T p rk) (S : Nat → Bool) (d : Int) : ∀ (k v : Nat) (R : Nat → Int), rk v < k → v < 16 → T v = true → cutZ (augZ p d k R v) S = cutZ R S - iZ S 14 d + iZ S v d := by
  intro k
  induction k with
  | zero => intro v R hk; omega
  | succ k ih =>
    intro v R hk hv hT
    rw [augZ]
    by_cases c : v = 14
    · rw [if_pos c, c]; omega
    · rw [if_neg c]
      obtain ⟨h1, h2, h3, h4⟩ := ht v hv hT c
      rw [ih (p v) _ (by omega) h1 h2, cut_e h1 hv]; omega
theorem min_p (ht : TRE R0 T p rk) : ∀ (k v : Nat) (m : Int), rk v < k → v < 16 → T v = true → 0 < m → 0 < minZ R0 p k m v ∧ minZ R0 p k m v ≤ m ∧ ways R0 p (minZ R0 p k m v) v := by
  intro k
  induction k with
  | zero => intro v m hk; omega
  | succ k ih =>
    intro v m hk hv hT hm
    rw [minZ]
    by_cases c : v = 14
    · rw [if_pos c]
      exact ⟨hm, Int.le_refl _, fun j hj => absurd c (hj 0 (Nat.zero_le _))⟩
    · rw [if_neg c]
      obtain ⟨h1, h2, h3, h4⟩ := ht v hv hT c
      obtain ⟨a1, a2, a3⟩ := ih (p v) (if R0 (16 * p v + v) < m then R0 (16 * p v + v) else m) (by omega) h1 h2 (by split <;> omega)
      have b1 : (if R0 (16 * p v + v) < m then R0 (16 * p v + v) else m) ≤ m := by split <;> omega
      have b2 : (if R0 (16 * p v + v) < m then R0 (16 * p v + v) else m) ≤ R0 (16 * p v + v) := by split <;> omega
      refine ⟨a1, Int.le_trans a2 b1, fun j hj => ?_⟩
      cases j with
      | zero => exact Int.le_trans a2 b2
      | succ j => exact a3 j (fun i hi => hj (i + 1) (by omega))
theorem ed_at {R : Nat → Int} {u v : Nat} {d : Int} (i : Nat) (hd : 0 ≤ d) : edZ R u v d i = R i ∨ R i ≤ edZ R u v d i ∨ (i = 16 * u + v ∧ edZ R u v d i = R i - d) := by
  unfold edZ uZ
  by_cases c : i = 16 * v + u
  · rw [if_pos c]
    by_cases c2 : 16 * v + u = 16 * u + v
    · rw [if_pos c2, c, c2]; exact Or.inl (by omega)
    · rw [if_neg c2, c]; exact Or.inr (Or.inl (by omega))
  · rw [if_neg c]
    by_cases c2 : i = 16 * u + v
    · rw [if_pos c2, c2]; exact Or.inr (Or.inr ⟨rfl, rfl⟩)
    · rw [if_neg c2]; exact Or.inl rfl
/-- ranks fall along the way -/
theorem it_rk (ht : TRE R0 T p rk) : ∀ (j v : Nat), v < 16 → T v = true → (∀ i, i < j → itP p i v ≠ 14) → itP p j v < 16 ∧ T (itP p j v) = true ∧ rk (itP p j v) + j ≤ rk v := by
  intro j
  induction j with
  | zero => intro v hv hT _; exact ⟨hv, hT, Nat.le_refl _⟩
  | succ j ih =>
    intro v hv hT h
    obtain ⟨h1, h2, h3, h4⟩ := ht v hv hT (h 0 (by omega))
    obtain ⟨a1, a2, a3⟩ := ih (p v) h1 h2 (fun i hi => h (i + 1) (by omega))
    exact ⟨a1, a2, by rw [itP]; omega⟩
theorem aug_nn (ht : TRE R0 T p rk) {d : Int} (hd : 0 ≤ d) : ∀ (k v : Nat) (R : Nat → Int), rk v < k → v < 16 → T v = true → (∀ i, i < 256 → 0 ≤ R i) → ways R p d v → ∀ i, i < 256 → 0 ≤ augZ p d k R v i := by
  intro k
  induction k with
  | zero => intro v R hk; omega
  | succ k ih =>
    intro v R hk hv hT hR hw
    rw [augZ]
    by_cases c : v = 14
    · rw [if_pos c]; exact hR
    · rw [if_neg c]
      obtain ⟨h1, h2, h3, h4⟩ := ht v hv hT c
      have w0 : d ≤ R (16 * p v + v) := hw 0 (fun i hi => by rw [show i = 0 by omega]; exact c)
      refine ih (p v) _ (by omega) h1 h2 (fun i hi => ?_) (fun j hj => ?_)
      · rcases ed_at (R := R) (u := p v) (v := v) i hd with e | e | ⟨e1, e2⟩
        · rw [e]; exact hR i hi
        · exact Int.le_trans (hR i hi) e
        · rw [e2, e1]; omega
      · have w1 := hw (j + 1) (fun i hi => by
          cases i with
          | zero => exact c
          | succ i => exact hj i (by omega))
        obtain ⟨a1, a2, a3⟩ := it_rk ht j (p v) h1 h2 (fun i hi => hj i (by omega))
        have ne : itP p j (p v) ≠ v := fun x => by rw [x] at a3; omega
        have w1' : d ≤ R (16 * p (itP p j (p v)) + itP p j (p v)) := w1
        rcases ed_at (R := R) (u := p v) (v := v) (16 * p (itP p j (p v)) + itP p j (p v)) hd with e | e | ⟨e1, e2⟩
        · rw [e]; exact w1'
        · exact Int.le_trans w1' e
        · exact absurd (show itP p j (p v) = v by omega) ne
end
