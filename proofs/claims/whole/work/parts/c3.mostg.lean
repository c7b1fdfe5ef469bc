/-! PURE: most: a cut by its columns -/
theorem sZ_add (f g : Nat → Int) : ∀ n, sZ (fun i => f i + g i) n = sZ f n + sZ g n := by
  intro n
  induction n with
  | zero => rfl
  | succ n ih => rw [sZ, sZ, sZ, ih]; omega
theorem sZ_sw (f : Nat → Nat → Int) (m : Nat) : ∀ n, sZ (fun u => sZ (fun v => f u v) m) n = sZ (fun v => sZ (fun u => f u v) n) m := by
  intro n
  induction n with
  | zero => exact (sZ_0 m (fun i _ => rfl)).symm
  | succ n ih =>
    rw [sZ, ih, ← sZ_add]
    rfl
theorem sZ_ap (f : Nat → Int) (a : Nat) : ∀ b, sZ f (a + b) = sZ f a + sZ (fun j => f (a + j)) b := by
  intro b
  induction b with
  | zero => show sZ f a = sZ f a + 0; omega
  | succ b ih =>
    show sZ f (a + b) + f (a + b) = sZ f a + (sZ (fun j => f (a + j)) b + f (a + b))
    rw [ih]; omega
theorem sZ_cut {f : Nat → Int} {n m : Nat} (hm : n ≤ m) (h : ∀ i, n ≤ i → i < m → f i = 0) : sZ f m = sZ f n := by
  obtain ⟨b, rfl⟩ := Nat.exists_eq_add_of_le hm
  rw [sZ_ap, sZ_0 b (fun i hi => h (n + i) (by omega) (by omega))]; omega
theorem sZ_one {f : Nat → Int} {a n : Nat} (ha : a < n) (h : ∀ i, i < n → i ≠ a → f i = 0) : sZ f n = f a := by
  have e : sZ f n = sZ (fun i => if i = a then f a else 0) n := sZ_c (fun i hi => by
    by_cases c : i = a
    · rw [if_pos c, c]
    · rw [if_neg c]; exact h i hi c)
  have e2 := sZ_u (f := fun _ => 0) (g := fun i => if i = a then f a else 0) (a := a) (fun i hi => if_neg hi) n
  rw [e, e2, sZ_0 n (fun _ _ => rfl), if_pos ha, if_pos rfl]; omega
def giZ (s : Nat → Int32) (P : Nat) (S : Nat → Bool) (j : Nat) : Int := sZ (fun i => if i ≠ j ∧ S i = true then (dlN s P i j : Int) else 0) P
theorem cap_a {s : Nat → Int32} {P g v : Nat} (hv : v < 7) : capN s P g (16 * 14 + v) = if v < P then ix (s (143 + (5 * v + g))) else 0 := by
  unfold capN
  rw [show (16 * 14 + v) / 16 = 14 by omega, show (16 * 14 + v) % 16 = v by omega]
  by_cases c : v < P
  · rw [if_pos ⟨rfl, c⟩, if_pos c]
  · rw [if_neg (by omega), if_neg (by omega), if_neg (by omega), if_neg c]
theorem cap_a0 {s : Nat → Int32} {P g u v : Nat} (hv : v < 7) (hu : u ≠ 14) : capN s P g (16 * u + v) = 0 := by
  unfold capN
  rw [show (16 * u + v) / 16 = u by omega, show (16 * u + v) % 16 = v by omega, if_neg (by omega), if_neg (by omega), if_neg (by omega)]
theorem cap_b {s : Nat → Int32} {P g u j : Nat} (hP : P ≤ 7) (hj : j < 7) : capN s P g (16 * u + (7 + j)) = if u < P ∧ j < P ∧ u ≠ j then dlN s P u j else 0 := by
  unfold capN
  rw [show (16 * u + (7 + j)) / 16 = u by omega, show (16 * u + (7 + j)) % 16 = 7 + j by omega, if_neg (by omega), if_neg (by omega), show 7 + j - 7 = j by omega]
  by_cases c : u < P ∧ j < P ∧ u ≠ j
  · rw [if_pos c, if_pos (by omega)]
  · rw [if_neg c, if_neg (by omega)]
theorem cap_c {s : Nat → Int32} {P g j : Nat} (hj : j < 7) : capN s P g (16 * (7 + j) + 15) = if j < P then ix (s (178 + (5 * j + g))) else 0 := by
  unfold capN
  rw [show (16 * (7 + j) + 15) / 16 = 7 + j by omega, show (16 * (7 + j) + 15) % 16 = 15 by omega, if_neg (by omega), show 7 + j - 7 = j by omega]
  by_cases c : j < P
  · rw [if_pos c, if_pos (by omega)]
  · rw [if_neg c, if_neg (by omega), if_neg (by omega)]
theorem cap_c0 {s : Nat → Int32} {P g u : Nat} (hP : P ≤ 7) (hu : u < 7 ∨ 14 ≤ u) : capN s P g (16 * u + 15) = 0 := by
  unfold capN
  rw [show (16 * u + 15) / 16 = u by omega, show (16 * u + 15) % 16 = 15 by omega, if_neg (by omega), if_neg (by omega), if_neg (by omega)]
theorem cut_cols {s : Nat → Int32} {P g : Nat} (hP : P ≤ 7) {S : Nat → Bool} (h14 : S 14 = true) (h15 : S 15 = false) :
    cutZ (nZ (capN s P g)) S = sZ (fun j => (if S j then 0 else (ix (s (143 + (5 * j + g))) : Int)) + (if S (7 + j) then (ix (s (178 + (5 * j + g))) : Int) else giZ s P S j)) P := by
  have e0 : cutZ (nZ (capN s P g)) S = sZ (fun v => sZ (fun u => row (nZ (capN s P g)) S u v) 16) 16 := sZ_sw (fun u v => row (nZ (capN s P g)) S u v) 16 16
  have hA : ∀ v, v < 7 → sZ (fun u => row (nZ (capN s P g)) S u v) 16 = if v < P then (if S v then 0 else (ix (s (143 + (5 * v + g))) : Int)) else 0 := by
    intro v hv
    refine (sZ_one (a := 14) (by omega) (fun u hu hne => ?_)).trans ?_
    · show row (nZ (capN s P g)) S u v = 0
      unfold row nZ
      rw [cap_a0 hv hne]
      split <;> rfl
    · show row (nZ (capN s P g)) S 14 v = _
      unfold row nZ
      rw [cap_a hv, h14]
      cases S v with
      | true => by_cases c : v < P <;> simp [c]
      | false => by_cases c : v < P <;> simp [c]
  have hB : ∀ j, j < 7 → sZ (fun u => row (nZ (capN s P g)) S u (7 + j)) 16 = if j < P then (if S (7 + j) then 0 else giZ s P S j) else 0 := by
    intro j hj
    refine (sZ_cut (n := P) (by omega) (fun u h1 h2 => ?_)).trans ?_
    · show row (nZ (capN s P g)) S u (7 + j) = 0
      unfold row nZ
      have z : capN s P g (16 * u + (7 + j)) = 0 := by rw [cap_b hP hj, if_neg (by omega)]
      rw [z]
      split <;> rfl
    · by_cases c : j < P
      · rw [if_pos c]
        cases hS : S (7 + j) with
        | true =>
          rw [if_pos rfl]
          refine sZ_0 P (fun u hu => ?_)
          show row (nZ (capN s P g)) S u (7 + j) = 0
          unfold row
          rw [hS, if_neg (by simp)]
        | false =>
          rw [if_neg (by decide)]
          refine sZ_c (fun u hu => ?_)
          show row (nZ (capN s P g)) S u (7 + j) = _
          unfold row nZ
          rw [cap_b hP hj, hS]
          cases hu2 : S u with
          | false => rw [if_neg (by simp), if_neg (by simp)]
          | true =>
            rw [if_pos (by decide)]
            by_cases d : u = j
            · rw [if_neg (by omega), if_neg (fun x => x.1 d)]; rfl
            · rw [if_pos (by omega), if_pos ⟨d, rfl⟩]
      · rw [if_neg c]
        refine sZ_0 P (fun u hu => ?_)
        show row (nZ (capN s P g)) S u (7 + j) = 0
        unfold row nZ
        have z : capN s P g (16 * u + (7 + j)) = 0 := by rw [cap_b hP hj, if_neg (by omega)]
        rw [z]
        split <;> rfl
  have h14c : sZ (fun u => row (nZ (capN s P g)) S u 14) 16 = 0 := sZ_0 16 (fun u hu => by
    show row (nZ (capN s P g)) S u 14 = 0
    unfold row
    rw [h14, if_neg (by simp)])
  have h15c : sZ (fun u => row (nZ (capN s P g)) S u 15) 16 = sZ (fun j => if S (7 + j) then (ix (s (178 + (5 * j + g))) : Int) else 0) P := by
    have g1 : sZ (fun u => row (nZ (capN s P g)) S u 15) 16 = sZ (fun u => row (nZ (capN s P g)) S u 15) 7 + sZ (fun j => row (nZ (capN s P g)) S (7 + j) 15) 9 := sZ_ap _ 7 9
    have g2 : sZ (fun u => row (nZ (capN s P g)) S u 15) 7 = 0 := sZ_0 7 (fun u hu => by
      show row (nZ (capN s P g)) S u 15 = 0
      unfold row nZ
      rw [cap_c0 hP (Or.inl hu)]
      split <;> rfl)
    have g3 : sZ (fun j => row (nZ (capN s P g)) S (7 + j) 15) 9 = sZ (fun j => row (nZ (capN s P g)) S (7 + j) 15) P := sZ_cut (by omega) (fun j h1 h2 => by
      show row (nZ (capN s P g)) S (7 + j) 15 = 0
      unfold row nZ
      by_cases c : j < 7
      · have z : capN s P g (16 * (7 + j) + 15) = 0 := by rw [cap_c c, if_neg (by omega)]
        rw [z]
        split <;> rfl
      · rw [cap_c0 hP (Or.inr (by omega))]
        split <;> rfl)
    rw [g1, g2, g3, Int.zero_add]
    refine sZ_c (fun j hj => ?_)
    show row (nZ (capN s P g)) S (7 + j) 15 = _
    unfold row nZ
    rw [cap_c (by omega), if_pos hj, h15]
    cases S (7 + j) <;> rfl
  have e1 : sZ (fun v => sZ (fun u => row (nZ (capN s P g)) S u v) 16) 16 = sZ (fun v => sZ (fun u => row (nZ (capN s P g)) S u v) 16) 7 + sZ (fun j => sZ (fun u => row (nZ (capN s P g)) S u (7 + j)) 16) 9 := sZ_ap (fun v => sZ (fun u => row (nZ (capN s P g)) S u v) 16) 7 9
  have e2 : sZ (fun j => sZ (fun u => row (nZ (capN s P g)) S u (7 + j)) 16) 9 = sZ (fun j => sZ (fun u => row (nZ (capN s P g)) S u (7 + j)) 16) 7 + (0 + sZ (fun u => row (nZ (capN s P g)) S u 14) 16 + sZ (fun u => row (nZ (capN s P g)) S u 15) 16) := sZ_ap (fun j => sZ (fun u => row (nZ (capN s P g)) S u (7 + j)) 16) 7 2
  have e3 : sZ (fun v => sZ (fun u => row (nZ (capN s P g)) S u v) 16) 7 = sZ (fun j => (if S j then 0 else (ix (s (143 + (5 * j + g))) : Int))) P := by
    refine (sZ_cut (n := P) hP (fun v h1 h2 => ?_)).trans (sZ_c (fun v hv => ?_))
    · show sZ (fun u => row (nZ (capN s P g)) S u v) 16 = 0
      rw [hA v h2, if_neg (by omega)]
    · show sZ (fun u => row (nZ (capN s P g)) S u v) 16 = _
      rw [hA v (by omega), if_pos hv]
  have e4 : sZ (fun j => sZ (fun u => row (nZ (capN s P g)) S u (7 + j)) 16) 7 = sZ (fun j => if S (7 + j) then 0 else giZ s P S j) P := by
    refine (sZ_cut (n := P) hP (fun v h1 h2 => ?_)).trans (sZ_c (fun v hv => ?_))
    · show sZ (fun u => row (nZ (capN s P g)) S u (7 + v)) 16 = 0
      rw [hB v h2, if_neg (by omega)]
    · show sZ (fun u => row (nZ (capN s P g)) S u (7 + v)) 16 = _
      rw [hB v (by omega), if_pos hv]
  rw [e0, e1, e2, e3, e4, h14c, h15c]
  have e5 : sZ (fun j => (if S j then 0 else (ix (s (143 + (5 * j + g))) : Int)) + (if S (7 + j) then (ix (s (178 + (5 * j + g))) : Int) else giZ s P S j)) P = sZ (fun j => (if S j then 0 else (ix (s (143 + (5 * j + g))) : Int)) + ((if S (7 + j) then 0 else giZ s P S j) + (if S (7 + j) then (ix (s (178 + (5 * j + g))) : Int) else 0))) P := by
    refine sZ_c (fun j hj => ?_)
    show _ + _ = _ + _
    cases S (7 + j) <;> simp
  rw [e5, sZ_add (fun j => if S j then 0 else (ix (s (143 + (5 * j + g))) : Int)), sZ_add]
  omega
