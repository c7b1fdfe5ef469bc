/-! PURE: most: cuts over a matrix of 16 x 16 -/
def sZ (f : Nat → Int) : Nat → Int
  | 0 => 0
  | n + 1 => sZ f n + f n
def uZ (R : Nat → Int) (a : Nat) (x : Int) : Nat → Int := fun i => if i = a then x else R i
theorem sZ_c {f g : Nat → Int} {n : Nat} (h : ∀ i, i < n → g i = f i) : sZ g n = sZ f n := by
  induction n with
  | zero => rfl
  | succ n ih => rw [sZ, sZ, ih (fun i hi => h i (by omega)), h n (by omega)]
theorem sZ_u {f g : Nat → Int} {a : Nat} (h : ∀ i, i ≠ a → g i = f i) : ∀ n, sZ g n = sZ f n + (if a < n then g a - f a else 0) := by
  intro n
  induction n with
  | zero => rw [if_neg (by omega)]; show (0 : Int) = 0 + 0; omega
  | succ n ih =>
    rw [sZ, sZ, ih]
    by_cases c : n = a
    · subst c
      rw [if_neg (by omega), if_pos (by omega)]; omega
    · rw [h n c]
      by_cases d : a < n
      · rw [if_pos d, if_pos (by omega)]; omega
      · rw [if_neg d, if_neg (by omega)]; omega
theorem sZ_nn {f : Nat → Int} : ∀ n, (∀ i, i < n → 0 ≤ f i) → 0 ≤ sZ f n := by
  intro n
  induction n with
  | zero => intro _; exact Int.le_refl _
  | succ n ih =>
    intro h
    rw [sZ]
    have h1 := ih (fun i hi => h i (by omega))
    have h2 := h n (by omega)
    omega
theorem sZ_0 {f : Nat → Int} : ∀ n, (∀ i, i < n → f i = 0) → sZ f n = 0 := by
  intro n
  induction n with
  | zero => intro _; rfl
  | succ n ih => intro h; rw [sZ, ih (fun i hi => h i (by omega)), h n (by omega)]; rfl
theorem sZ_le {f g : Nat → Int} : ∀ n, (∀ i, i < n → f i ≤ g i) → sZ f n ≤ sZ g n := by
  intro n
  induction n with
  | zero => intro _; exact Int.le_refl _
  | succ n ih =>
    intro h
    rw [sZ, sZ]
    have h1 := ih (fun i hi => h i (by omega))
    have h2 := h n (by omega)
    omega
def row (R : Nat → Int) (S : Nat → Bool) (u : Nat) : Nat → Int := fun v => if S u && !S v then R (16 * u + v) else 0
def cutZ (R : Nat → Int) (S : Nat → Bool) : Int := sZ (fun u => sZ (row R S u) 16) 16
theorem row_u {R : Nat → Int} {S : Nat → Bool} {a b : Nat} (hb : b < 16) (x : Int) : sZ (row (uZ R (16 * a + b) x) S a) 16 = sZ (row R S a) 16 + (if S a && !S b then x - R (16 * a + b) else 0) := by
  have h : ∀ i, i ≠ b → row (uZ R (16 * a + b) x) S a i = row R S a i := by
    intro i hi
    unfold row uZ
    rw [if_neg (show ¬ 16 * a + i = 16 * a + b by omega)]
  rw [sZ_u h 16, if_pos hb]
  unfold row uZ
  rw [if_pos rfl]
  split <;> omega
theorem row_n {R : Nat → Int} {S : Nat → Bool} {a b u : Nat} (hb : b < 16) (hu : u ≠ a) (x : Int) : sZ (row (uZ R (16 * a + b) x) S u) 16 = sZ (row R S u) 16 := by
  refine sZ_c (fun i hi => ?_)
  unfold row uZ
  rw [if_neg (show ¬ 16 * u + i = 16 * a + b by omega)]
theorem cut_u {R : Nat → Int} {S : Nat → Bool} {a b : Nat} (ha : a < 16) (hb : b < 16) (x : Int) : cutZ (uZ R (16 * a + b) x) S = cutZ R S + (if S a && !S b then x - R (16 * a + b) else 0) := by
  unfold cutZ
  have h : ∀ u, u ≠ a → (fun u => sZ (row (uZ R (16 * a + b) x) S u) 16) u = (fun u => sZ (row R S u) 16) u := fun u hu => row_n hb hu x
  rw [sZ_u h 16, if_pos ha, row_u hb]; omega
theorem cut_nn {R : Nat → Int} (S : Nat → Bool) (h : ∀ i, i < 256 → 0 ≤ R i) : 0 ≤ cutZ R S := by
  refine sZ_nn 16 (fun u hu => sZ_nn 16 (fun v hv => ?_))
  unfold row
  split
  · exact h _ (by omega)
  · exact Int.le_refl _
theorem cut_0 {R : Nat → Int} {S : Nat → Bool} (h : ∀ u v, u < 16 → v < 16 → S u = true → S v = false → R (16 * u + v) = 0) : cutZ R S = 0 := by
  refine sZ_0 16 (fun u hu => sZ_0 16 (fun v hv => ?_))
  unfold row
  cases hS : S u with
  | false => rfl
  | true =>
    cases hT : S v with
    | true => rfl
    | false => exact h u v hu hv hS hT
/-- one edge of a path: p -> v, by d -/
def edZ (R : Nat → Int) (p v : Nat) (d : Int) : Nat → Int := uZ (uZ R (16 * p + v) (R (16 * p + v) - d)) (16 * v + p) (uZ R (16 * p + v) (R (16 * p + v) - d) (16 * v + p) + d)
def iZ (S : Nat → Bool) (v : Nat) (d : Int) : Int := if S v then d else 0
theorem cut_e {R : Nat → Int} {S : Nat → Bool} {p v : Nat} (hp : p < 16) (hv : v < 16) (d : Int) : cutZ (edZ R p v d) S = cutZ R S - iZ S p d + iZ S v d := by
  unfold edZ iZ
  rw [cut_u hv hp, cut_u hp hv]
  cases S p <;> cases S v <;> simp <;> omega
