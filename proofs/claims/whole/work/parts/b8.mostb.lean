/-! PURE: most: the reference, whole -/
def capN (s : Nat → Int32) (P g : Nat) : Nat → Nat := fun x =>
  if x / 16 = 14 ∧ x % 16 < P then ix (s (143 + (5 * (x % 16) + g)))
  else if 7 ≤ x / 16 ∧ x / 16 < 7 + P ∧ x % 16 = 15 then ix (s (178 + (5 * (x / 16 - 7) + g)))
  else if 7 ≤ x % 16 ∧ x % 16 - 7 ≠ x / 16 ∧ x / 16 < P ∧ x % 16 < 7 + P then dlN s P (x / 16) (x % 16 - 7)
  else 0
theorem rc_z (s u : Nat → Int32) (P g : Nat) : rcS s u P g 0 0 0 = u := by
  funext x
  unfold rcS
  rw [if_neg (by omega), if_neg (by omega), if_neg (by omega)]
theorem rc_cap {s u : Nat → Int32} {P Q g : Nat} (hL : IL s P Q) (hI : ID s P Q) (hg : g < 5) (hu : ∀ x, x < 256 → u x = 0) : ∀ x, x < 256 → rcS s u P g P P 0 x = nI (capN s P g x) ∧ capN s P g x ≤ 1000000 := by
  intro x hx
  have hP := hL.P7
  unfold rcS capN
  by_cases c1 : x / 16 = 14 ∧ x % 16 < P
  · rw [if_pos c1, if_pos c1]
    obtain ⟨y, hy, e, -⟩ := hI.st (x % 16) g (by omega) hg
    rw [e, show ix (nI y) = y from q_ix (by omega)]
    exact ⟨rfl, by omega⟩
  · rw [if_neg c1, if_neg c1]
    by_cases c2 : 7 ≤ x / 16 ∧ x / 16 < 7 + P ∧ x % 16 = 15
    · rw [if_pos c2, if_pos c2]
      obtain ⟨y, hy, e, -⟩ := hI.wa (x / 16 - 7) g (by omega) hg
      rw [e, show ix (nI y) = y from q_ix (by omega)]
      exact ⟨rfl, by omega⟩
    · rw [if_neg c2, if_neg c2]
      by_cases c3 : 7 ≤ x % 16 ∧ x % 16 - 7 ≠ x / 16 ∧ x / 16 < P ∧ x % 16 < 7 + P
      · rw [if_pos (by omega), if_pos c3]
        exact ⟨rfl, dl_le hI (by omega) (by omega)⟩
      · rw [if_neg (by omega), if_neg c3, hu x hx]
        exact ⟨rfl, by omega⟩
theorem cap_14 {s : Nat → Int32} {P Q g : Nat} (hL : IL s P Q) (hI : ID s P Q) (hg : g < 5) : cutZ (nZ (capN s P g)) S14 ≤ 63 := by
  have hP := hL.P7
  have h1 : cutZ (nZ (capN s P g)) S14 ≤ sZ (fun u => if u = 14 then 63 else 0) 16 := by
    refine sZ_le 16 (fun u hu => ?_)
    by_cases c : u = 14
    · rw [if_pos c, c]
      have h2 : sZ (row (nZ (capN s P g)) S14 14) 16 ≤ sZ (fun v => if v < 7 then 9 else 0) 16 := by
        refine sZ_le 16 (fun v hv => ?_)
        unfold row nZ
        by_cases d : v < P
        · rw [if_pos (show v < 7 by omega)]
          split
          · unfold capN
            rw [if_pos (by omega)]
            obtain ⟨y, hy, e, -⟩ := hI.st ((16 * 14 + v) % 16) g (by omega) hg
            rw [e, show ix (nI y) = y from q_ix (by omega)]; omega
          · omega
        · have z : capN s P g (16 * 14 + v) = 0 := by
            unfold capN
            rw [if_neg (by omega), if_neg (by omega), if_neg (by omega)]
          rw [z]
          split <;> split <;> omega
      exact Int.le_trans h2 (by decide)
    · rw [if_neg c]
      have h3 : sZ (row (nZ (capN s P g)) S14 u) 16 = 0 := sZ_0 16 (fun v hv => by
        unfold row S14
        rw [decide_eq_false c]; rfl)
      rw [h3]; omega
  exact Int.le_trans h1 (by decide)
section
variable (N : Nat) {iY : Nat → Int32} {sY : Nat → Nat → Int32} {tY : Nat → Nat → Int64} {jY : Nat → Int64} {P Q : Nat}
theorem y_mostG (hN : 2000 ≤ N) (hL : IL (sY 6) P Q) (hI : ID (sY 6) P Q) {g : Nat} (hg : g < 5) : ∃ F sY', jn (fun (z : (Nat → Nat → Int32)) => match z with | sY_7 => jn (fun (z : (Nat → Nat → Int32)) => match z with | sY_11 => f_X11_most_153 N (va_up iY 0 0) tY jY N sY_11 0) (fun K_8 => f_X11_most_39 N (va_up iY 0 0) tY jY (nI g) K_8 N sY_7 0)) (fun K_4 => f_X11_most_17 N (va_up iY 0 0) tY jY (nI g) K_4 N sY 0) = some (nI F, va_up iY 0 0, sY') ∧ F ≤ 63 ∧ (∃ S, S 14 = true ∧ S 15 = false ∧ (F : Int) = cutZ (nZ (capN (sY 6) P g)) S) ∧ (∀ S, S 14 = true → S 15 = false → (F : Int) ≤ cutZ (nZ (capN (sY 6) P g)) S) ∧ (∀ k, k ≠ 24 → k ≠ 25 → k ≠ 26 → sY' k = sY k) := by
  have hcap := rc_cap hL hI hg (u := z0S (sY 24) 256) (fun x hx => if_pos hx)
  obtain ⟨F, sY', e1, e2, e3, e4, e5⟩ := y_153 N (iY := va_up iY 0 0) (tY := tY) (jY := jY) (c := capN (sY 6) P g) hN (cap_14 hL hI hg) 63 N 0 (va_up sY 24 (rcS (sY 6) (z0S (sY 24) 256) P g P P 0)) (capN (sY 6) P g) (by omega) (by omega) (fun i hi => by rw [q_ve]; exact (hcap i hi).1) (fun i hi => by have := (hcap i hi).2; omega) (fun S _ _ => by omega)
  refine ⟨F, sY', ?_, e2, e3, e4, fun k k1 k2 k3 => by rw [e5 k k1 k2 k3, q_vn _ _ k1]⟩
  rw [q_jn, y_17 N hN]
  dsimp only
  rw [q_jn]
  have h39 := y_39 N (iY := va_up iY 0 0) (sY := sY) (tY := tY) (jY := jY) hN hL hI (z0S (sY 24) 256) hg (fun sY_11 => f_X11_most_153 N (va_up iY 0 0) tY jY N sY_11 0)
  rw [rc_z] at h39
  exact h39.trans e1
end
