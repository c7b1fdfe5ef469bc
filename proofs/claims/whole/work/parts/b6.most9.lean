/-! PURE: most: the capacities -/
def dlN (s : Nat → Int32) (P i j : Nat) : Nat := if tb (my s P i) j then (if tb (s (124 + i)) j then 1000000 else ix (s 2 - s (227 + (7 * i + j)))) else 0
theorem dl_c {s : Nat → Int32} {P Q i j : Nat} (hI : ID s P Q) (hi : i < 7) (hj : j < 7) (hf : tb (s (124 + i)) j = false) : ∃ k, k ≤ 9 ∧ s 2 - s (227 + (7 * i + j)) = nI k := by
  obtain ⟨-, h⟩ := hI.dl i j hi hj
  rcases h with h | ⟨x, d, hd, e1, e2, h⟩
  · rw [h] at hf; cases hf
  · refine ⟨d - x, by omega, ?_⟩
    rw [e1, e2, pk_sub (by omega)]
theorem dl_le {s : Nat → Int32} {P Q i j : Nat} (hI : ID s P Q) (hi : i < 7) (hj : j < 7) : dlN s P i j ≤ 1000000 := by
  unfold dlN
  cases tb (my s P i) j with
  | false => rw [if_neg (by decide)]; omega
  | true =>
    rw [if_pos rfl]
    cases hf : tb (s (124 + i)) j with
    | true => rw [if_pos rfl]; omega
    | false =>
      rw [if_neg (by decide)]
      obtain ⟨k, hk, e⟩ := dl_c hI hi hj hf
      rw [e, show ix (nI k) = k from q_ix (by omega)]; omega
section
variable (N : Nat) {iY : Nat → Int32} {sY : Nat → Nat → Int32} {tY : Nat → Nat → Int64} {jY : Nat → Int64} {P Q : Nat}
theorem y_dealsLeft (hL : IL (sY 6) P Q) (hI : ID (sY 6) P Q) {i j : Nat} (hi : i < P) (hj : j < P) : f_X11_dealsLeft N iY sY tY jY (nI i) (nI j) = some (nI (dlN (sY 6) P i j)) := by
  have hP := hL.P7
  unfold f_X11_dealsLeft dlN
  rw [y_mayBy N iY sY tY jY (by omega) hL.s0, q_bd, y_bitOf N _ (by omega), q_bd]
  cases tb (my (sY 6) P i) j with
  | false => rw [if_pos (show bI false = 0 from rfl), if_neg (by decide)]; rfl
  | true =>
    rw [if_neg (show ¬ bI true = 0 by decide), if_pos rfl, show (124 : Int32) = nI 124 from rfl, nI_add, q_ck (show 124 + i < 457 by omega) (by omega), show ix (nI (124 + i)) = 124 + i from q_ix (by omega), y_bitOf N _ (by omega), q_bd]
    cases hf : tb (sY 6 (124 + i)) j with
    | true => rw [if_neg (show ¬ bI true = 0 by decide), if_pos rfl]; rfl
    | false =>
      obtain ⟨k, hk, e⟩ := dl_c hI (show i < 7 by omega) (show j < 7 by omega) hf
      rw [if_pos (show bI false = 0 from rfl), if_neg (by decide), show (227 : Int32) = nI 227 from rfl, show (7 : Int32) = nI 7 from rfl, pk_mul, nI_add, nI_add, Nat.add_assoc, q_ck (show 227 + (7 * i + j) < 457 by omega) (by omega), show ix (nI (227 + (7 * i + j))) = 227 + (7 * i + j) from q_ix (by omega), e, show ix (nI k) = k from q_ix (by omega)]
      unfold f_X11_greater
      rw [if_pos (show (0 : Int32) ≤ nI k from nI_le (a := 0) (by omega) (by omega)), q_bd]
def z0S (u : Nat → Int32) (i : Nat) : Nat → Int32 := fun k => if k < i then 0 else u k
theorem y_17 (hN : 2000 ≤ N) (v1 : Int32) (K : (Nat → Nat → Int32) → Option (Int32 × (Nat → Int32) × (Nat → Nat → Int32))) : f_X11_most_17 N iY tY jY v1 K N sY 0 = K (va_up sY 24 (z0S (sY 24) 256)) := by
  have key := q_loopG (fun j i => f_X11_most_17 N iY tY jY v1 K j (va_up sY 24 (z0S (sY 24) i)) (nI i)) (K (va_up sY 24 (z0S (sY 24) 256))) 256 N (by omega) (fun j => by
    show f_X11_most_17 N iY tY jY v1 K (j + 1) _ _ = _
    rw [f_X11_most_17, show (256 : Int32) = nI 256 from rfl, if_pos (nI_le (Nat.le_refl _) (by omega))]) (fun j i hi => by
    show f_X11_most_17 N iY tY jY v1 K (j + 1) _ _ = f_X11_most_17 N iY tY jY v1 K j _ _
    rw [f_X11_most_17, show (256 : Int32) = nI 256 from rfl, if_neg (nI_ge hi (by omega)), q_ck hi (by omega), q_nv, show ix (nI i) = i from q_ix (by omega), q_ve, q_vv, nI_1]
    have e : upd (z0S (sY 24) i) i 0 = z0S (sY 24) (i + 1) := by
      funext x
      by_cases c : x = i
      · subst c; rw [pk_us]; unfold z0S; rw [if_pos (by omega)]
      · rw [pk_un c]; unfold z0S
        by_cases h2 : x < i
        · rw [if_pos h2, if_pos (by omega)]
        · rw [if_neg h2, if_neg (by omega)]
    rw [e])
  refine Eq.trans ?_ key
  show _ = f_X11_most_17 N iY tY jY v1 K N (va_up sY 24 (z0S (sY 24) 0)) 0
  rw [show z0S (sY 24) 0 = sY 24 from funext (fun x => if_neg (by omega)), q_vid]
end
