/-! PURE: what a leaf says of a person -/
def cmpB (x c1 c2 : Int32) : Bool := if c1 = 60 then decide (¬ c2 ≤ x) else if c1 = 61 then decide (x = c2) else decide (¬ x ≤ c2)
def lb (s : Nat → Int32) (p : Nat) (c0 c1 c2 : Int32) : Bool :=
  if c0 = 0 then tb (s 133) p else if c0 = 1 then tb (s 134) p else if c0 = 2 then decide (wan s p = 0) else if c0 = 3 then soldB s p else if c0 = 4 then tb (kn s p) (ix c2) else if c0 = 5 then decide (¬ s (178 + (5 * p + ix c2)) ≤ 0) else cmpB (if c0 = 6 then s (136 + p) else if c0 = 7 then nI (pc (kn s p)) else if c0 = 8 then s (213 + p) else nI p) c1 c2
theorem ib {p : Prop} [Decidable p] : (if p then some (1 : Int32) else some 0) = some (bI (decide p)) := by
  by_cases h : p
  · rw [if_pos h, decide_eq_true h]; rfl
  · rw [if_neg h, decide_eq_false h]; rfl
theorem ibn {p : Prop} [Decidable p] : (if p then some (0 : Int32) else some 1) = some (bI (decide (¬ p))) := by
  by_cases h : p
  · rw [if_pos h, decide_eq_false (fun x => x h)]; rfl
  · rw [if_neg h, decide_eq_true h]; rfl
theorem cmp_e (x c1 c2 : Int32) : (if c1 = 60 then (if c2 ≤ x then some (0 : Int32) else some 1) else (if c1 = 61 then (if x = c2 then some 1 else some 0) else (if x ≤ c2 then some 0 else some 1))) = some (bI (cmpB x c1 c2)) := by
  unfold cmpB
  by_cases h : c1 = 60
  · rw [if_pos h, if_pos h, ibn]
  · rw [if_neg h, if_neg h]
    by_cases h2 : c1 = 61
    · rw [if_pos h2, if_pos h2, ib]
    · rw [if_neg h2, if_neg h2, ibn]
/-- a step that is a leaf -/
def LW (P Q : Nat) (w sg v c0 c1 c2 : Int32) : Prop := (∃ i, i < 4 ∧ w = nI (16 + i) ∧ c0 = nI i) ∨ (w = 4 ∧ c0 = 4 ∧ ∃ p, p < P ∧ v = nI p ∧ c2 = nI p) ∨ (w = 3 ∧ c0 = 5 ∧ ∃ g, g < Q ∧ v = nI g ∧ c2 = nI g) ∨ (∃ i z t, i < 4 ∧ w = nI (20 + i) ∧ c0 = nI (6 + i) ∧ 60 ≤ z ∧ z ≤ 62 ∧ t ≤ 999 ∧ sg = nI z ∧ c1 = nI z ∧ v = nI t ∧ c2 = nI t)
section
variable (N : Nat) {iY : Nat → Int32} {sY : Nat → Nat → Int32} {tY : Nat → Nat → Int64} {jY : Nat → Int64} {iC : Nat → Int32} {tC : Nat → Nat → Int64} {sC : Nat → Nat → Int32} {iM : Nat → Int32} {sM : Nat → Nat → Int32} {iS : Nat → Int32} {sS : Nat → Nat → Int32} {P Q : Nat}
theorem y_isLeaf (hN : 2000 ≤ N) (hL : IL (sY 6) P Q) (hI : ID (sY 6) P Q) {p : Nat} (hp : p < P) {w sg v c0 c1 c2 : Int32} (h : LW P Q w sg v c0 c1 c2) : f_X11_isLeaf N iY sY tY jY (nI p) c0 c1 c2 = some (bI (lb (sY 6) p c0 c1 c2)) := by
  have hP := hL.P7
  have hQ := hL.Q5
  unfold f_X11_isLeaf
  rcases h with ⟨i, hi, -, rfl⟩ | ⟨-, rfl, q, hq, -, rfl⟩ | ⟨-, rfl, g, hg, -, rfl⟩ | ⟨i, z, t, hi, -, rfl, z1, z2, ht, -, rfl, -, rfl⟩
  · rcases (by omega : i = 0 ∨ i = 1 ∨ i = 2 ∨ i = 3) with rfl | rfl | rfl | rfl
    · rw [if_pos (show nI 0 = 0 from rfl), y_isHome N iY sY tY jY (by omega), q_bd, q_zb]; rfl
    · rw [if_neg (show ¬ nI 1 = 0 by decide), if_pos (show nI 1 = 1 from rfl), y_isVeiled N iY sY tY jY (by omega), q_bd, q_zb]; rfl
    · rw [if_neg (show ¬ nI 2 = 0 by decide), if_neg (show ¬ nI 2 = 1 by decide), if_pos (show nI 2 = 2 from rfl), y_wantsOf N iY sY tY jY (P := P) hN (by omega) hQ hL.s1 hI.wa, q_bd, ib]; rfl
    · rw [if_neg (show ¬ nI 3 = 0 by decide), if_neg (show ¬ nI 3 = 1 by decide), if_neg (show ¬ nI 3 = 2 by decide), if_pos (show nI 3 = 3 from rfl), y_isSold N iY sY tY jY hN (by omega) hL hI, q_bd, q_zb]; rfl
  · rw [if_neg (show ¬ (4 : Int32) = 0 by decide), if_neg (show ¬ (4 : Int32) = 1 by decide), if_neg (show ¬ (4 : Int32) = 2 by decide), if_neg (show ¬ (4 : Int32) = 3 by decide), if_pos rfl, y_knownBy N iY sY tY jY (by omega), q_bd, y_bitOf N _ (by omega), q_bd, q_zb]
    have e : lb (sY 6) p 4 c1 (nI q) = tb (kn (sY 6) p) (ix (nI q)) := rfl
    rw [e, show ix (nI q) = q from q_ix (by omega)]
  · rw [if_neg (show ¬ (5 : Int32) = 0 by decide), if_neg (show ¬ (5 : Int32) = 1 by decide), if_neg (show ¬ (5 : Int32) = 2 by decide), if_neg (show ¬ (5 : Int32) = 3 by decide), if_neg (show ¬ (5 : Int32) = 4 by decide), if_pos rfl]
    have e : lb (sY 6) p 5 c1 (nI g) = decide (¬ sY 6 (178 + (5 * p + ix (nI g))) ≤ 0) := rfl
    rw [e, show ix (nI g) = g from q_ix (by omega), L5, L178, pk_mul, nI_add, nI_add, q_ck (show 178 + 5 * p + g < 457 by omega) (by omega), show ix (nI (178 + 5 * p + g)) = 178 + 5 * p + g from q_ix (by omega), ibn, Nat.add_assoc]
  · simp only [q_jn]
    have c : ∀ j, j < 6 → ¬ nI (6 + i) = nI j := fun j hj => nI_nb (by omega) (by omega) (by omega)
    rw [if_neg (show ¬ nI (6 + i) = 0 from c 0 (by omega)), if_neg (show ¬ nI (6 + i) = 1 from c 1 (by omega)), if_neg (show ¬ nI (6 + i) = 2 from c 2 (by omega)), if_neg (show ¬ nI (6 + i) = 3 from c 3 (by omega)), if_neg (show ¬ nI (6 + i) = 4 from c 4 (by omega)), if_neg (show ¬ nI (6 + i) = 5 from c 5 (by omega))]
    have e : lb (sY 6) p (nI (6 + i)) (nI z) (nI t) = cmpB (if nI (6 + i) = 6 then sY 6 (136 + p) else if nI (6 + i) = 7 then nI (pc (kn (sY 6) p)) else if nI (6 + i) = 8 then sY 6 (213 + p) else nI p) (nI z) (nI t) := by
      unfold lb
      rw [if_neg (show ¬ nI (6 + i) = 0 from c 0 (by omega)), if_neg (show ¬ nI (6 + i) = 1 from c 1 (by omega)), if_neg (show ¬ nI (6 + i) = 2 from c 2 (by omega)), if_neg (show ¬ nI (6 + i) = 3 from c 3 (by omega)), if_neg (show ¬ nI (6 + i) = 4 from c 4 (by omega)), if_neg (show ¬ nI (6 + i) = 5 from c 5 (by omega))]
    rw [e]
    rcases (by omega : i = 0 ∨ i = 1 ∨ i = 2 ∨ i = 3) with rfl | rfl | rfl | rfl
    · rw [if_pos (show nI (6 + 0) = 6 from rfl), if_pos (show nI (6 + 0) = 6 from rfl), L136, nI_add, q_ck (show 136 + p < 457 by omega) (by omega), show ix (nI (136 + p)) = 136 + p from q_ix (by omega), cmp_e]
    · rw [if_neg (show ¬ nI (6 + 1) = 6 by decide), if_neg (show ¬ nI (6 + 1) = 6 by decide), if_pos (show nI (6 + 1) = 7 from rfl), if_pos (show nI (6 + 1) = 7 from rfl), y_knownBy N iY sY tY jY (by omega), q_bd, y_bits (by omega) (kn_sm hL hI (by omega)), q_bd, cmp_e]
    · rw [if_neg (show ¬ nI (6 + 2) = 6 by decide), if_neg (show ¬ nI (6 + 2) = 6 by decide), if_neg (show ¬ nI (6 + 2) = 7 by decide), if_neg (show ¬ nI (6 + 2) = 7 by decide), if_pos (show nI (6 + 2) = 8 from rfl), if_pos (show nI (6 + 2) = 8 from rfl), L213, nI_add, q_ck (show 213 + p < 457 by omega) (by omega), show ix (nI (213 + p)) = 213 + p from q_ix (by omega), cmp_e]
    · rw [if_neg (show ¬ nI (6 + 3) = 6 by decide), if_neg (show ¬ nI (6 + 3) = 6 by decide), if_neg (show ¬ nI (6 + 3) = 7 by decide), if_neg (show ¬ nI (6 + 3) = 7 by decide), if_neg (show ¬ nI (6 + 3) = 8 by decide), if_neg (show ¬ nI (6 + 3) = 8 by decide), cmp_e]
end
