/-! PURE: most: the capacities, laid -/
def rcS (s u : Nat → Int32) (P g a a' b : Nat) : Nat → Int32 := fun x =>
  if x / 16 = 14 ∧ x % 16 < a' then s (143 + (5 * (x % 16) + g))
  else if 7 ≤ x / 16 ∧ x / 16 < 7 + a' ∧ x % 16 = 15 then s (178 + (5 * (x / 16 - 7) + g))
  else if 7 ≤ x % 16 ∧ x % 16 - 7 ≠ x / 16 ∧ ((x / 16 < a ∧ x % 16 < 7 + P) ∨ (x / 16 = a ∧ x % 16 < 7 + b)) then nI (dlN s P (x / 16) (x % 16 - 7))
  else u x
theorem rc_in (s u : Nat → Int32) {P g a b : Nat} (hP : P ≤ 7) (ha : a < P) (hb : b < P) (hab : b ≠ a) : upd (rcS s u P g a (a + 1) b) (16 * a + (7 + b)) (nI (dlN s P a b)) = rcS s u P g a (a + 1) (b + 1) := by
  funext x
  by_cases c : x = 16 * a + (7 + b)
  · rw [c, pk_us]
    unfold rcS
    rw [show (16 * a + (7 + b)) / 16 = a by omega, show (16 * a + (7 + b)) % 16 = 7 + b by omega, if_neg (by omega), if_neg (by omega), if_pos (by omega), show 7 + b - 7 = b by omega]
  · rw [pk_un c]
    unfold rcS
    have : ((x / 16 < a ∧ x % 16 < 7 + P) ∨ (x / 16 = a ∧ x % 16 < 7 + (b + 1))) ↔ ((x / 16 < a ∧ x % 16 < 7 + P) ∨ (x / 16 = a ∧ x % 16 < 7 + b)) := by omega
    simp only [this]
theorem rc_no (s u : Nat → Int32) {P g a : Nat} : rcS s u P g a (a + 1) a = rcS s u P g a (a + 1) (a + 1) := by
  funext x
  unfold rcS
  have : (7 ≤ x % 16 ∧ x % 16 - 7 ≠ x / 16 ∧ ((x / 16 < a ∧ x % 16 < 7 + P) ∨ (x / 16 = a ∧ x % 16 < 7 + (a + 1)))) ↔ (7 ≤ x % 16 ∧ x % 16 - 7 ≠ x / 16 ∧ ((x / 16 < a ∧ x % 16 < 7 + P) ∨ (x / 16 = a ∧ x % 16 < 7 + a))) := by omega
  simp only [this]
theorem rc_out (s u : Nat → Int32) {P g a : Nat} : rcS s u P g a (a + 1) P = rcS s u P g (a + 1) (a + 1) 0 := by
  funext x
  unfold rcS
  have : (7 ≤ x % 16 ∧ x % 16 - 7 ≠ x / 16 ∧ ((x / 16 < a ∧ x % 16 < 7 + P) ∨ (x / 16 = a ∧ x % 16 < 7 + P))) ↔ (7 ≤ x % 16 ∧ x % 16 - 7 ≠ x / 16 ∧ ((x / 16 < a + 1 ∧ x % 16 < 7 + P) ∨ (x / 16 = a + 1 ∧ x % 16 < 7 + 0))) := by omega
  simp only [this]
theorem rc_two (s u : Nat → Int32) {P g a : Nat} (hP : P ≤ 7) (ha : a < P) : upd (upd (rcS s u P g a a 0) (224 + a) (s (143 + (5 * a + g)))) (16 * (7 + a) + 15) (s (178 + (5 * a + g))) = rcS s u P g a (a + 1) 0 := by
  funext x
  by_cases c : x = 16 * (7 + a) + 15
  · rw [c, pk_us]
    unfold rcS
    rw [show (16 * (7 + a) + 15) / 16 = 7 + a by omega, show (16 * (7 + a) + 15) % 16 = 15 by omega, if_neg (by omega), if_pos (by omega), show 7 + a - 7 = a by omega]
  · rw [pk_un c]
    by_cases d : x = 224 + a
    · rw [d, pk_us]
      unfold rcS
      rw [show (224 + a) / 16 = 14 by omega, show (224 + a) % 16 = a by omega, if_pos (by omega)]
    · rw [pk_un d]
      unfold rcS
      have h1 : (x / 16 = 14 ∧ x % 16 < a + 1) ↔ (x / 16 = 14 ∧ x % 16 < a) := by omega
      have h2 : (7 ≤ x / 16 ∧ x / 16 < 7 + (a + 1) ∧ x % 16 = 15) ↔ (7 ≤ x / 16 ∧ x / 16 < 7 + a ∧ x % 16 = 15) := by omega
      simp only [h1, h2]
section
variable (N : Nat) {iY : Nat → Int32} {sY : Nat → Nat → Int32} {tY : Nat → Nat → Int64} {jY : Nat → Int64} {P Q : Nat}
theorem y_104 (hN : 2000 ≤ N) (hL : IL (sY 6) P Q) (hI : ID (sY 6) P Q) (u : Nat → Int32) (v1 : Int32) {g a : Nat} (ha : a < P) (K K8 : (Nat → Nat → Int32) → Option (Int32 × (Nat → Int32) × (Nat → Nat → Int32))) : f_X11_most_104 N iY tY jY v1 (nI a) K K8 N (va_up sY 24 (rcS (sY 6) u P g a (a + 1) 0)) 0 = K (va_up sY 24 (rcS (sY 6) u P g (a + 1) (a + 1) 0)) := by
  have hP := hL.P7
  rw [← rc_out]
  refine q_loopG (fun j i => f_X11_most_104 N iY tY jY v1 (nI a) K K8 j (va_up sY 24 (rcS (sY 6) u P g a (a + 1) i)) (nI i)) _ P N (by omega) (fun j => ?_) (fun j i hi => ?_)
  · show f_X11_most_104 N iY tY jY v1 (nI a) K K8 (j + 1) _ _ = _
    rw [f_X11_most_104, if_pos (show va_up sY 24 (rcS (sY 6) u P g a (a + 1) P) 6 0 ≤ nI P by rw [show va_up sY 24 (rcS (sY 6) u P g a (a + 1) P) 6 0 = nI P from hL.s0]; exact nI_le (Nat.le_refl _) (by omega))]
  · show f_X11_most_104 N iY tY jY v1 (nI a) K K8 (j + 1) _ _ = f_X11_most_104 N iY tY jY v1 (nI a) K K8 j _ _
    rw [f_X11_most_104, if_neg (show ¬ va_up sY 24 (rcS (sY 6) u P g a (a + 1) i) 6 0 ≤ nI i by rw [show va_up sY 24 (rcS (sY 6) u P g a (a + 1) i) 6 0 = nI P from hL.s0]; exact nI_ge hi (by omega)), q_jn, nI_1]
    by_cases c : i = a
    · subst c; rw [if_pos rfl, ← rc_no]
    · rw [if_neg (show ¬ nI i = nI a from nI_nb c (by omega) (by omega)), y_dealsLeft N (sY := va_up sY 24 (rcS (sY 6) u P g a (a + 1) i)) hL hI ha hi, q_bd, show (16 : Int32) = nI 16 from rfl, show (7 : Int32) = nI 7 from rfl, pk_mul, nI_add, nI_add, Nat.add_assoc, q_ck (show 16 * a + (7 + i) < 256 by omega) (by omega), show ix (nI (16 * a + (7 + i))) = 16 * a + (7 + i) from q_ix (by omega), q_nv, q_ve, q_vv, show va_up sY 24 (rcS (sY 6) u P g a (a + 1) i) 6 = sY 6 from rfl, rc_in _ _ hP ha hi c]
theorem y_39 (hN : 2000 ≤ N) (hL : IL (sY 6) P Q) (hI : ID (sY 6) P Q) (u : Nat → Int32) {g : Nat} (hg : g < 5) (K8 : (Nat → Nat → Int32) → Option (Int32 × (Nat → Int32) × (Nat → Nat → Int32))) : f_X11_most_39 N iY tY jY (nI g) K8 N (va_up sY 24 (rcS (sY 6) u P g 0 0 0)) 0 = K8 (va_up sY 24 (rcS (sY 6) u P g P P 0)) := by
  have hP := hL.P7
  refine q_loopG (fun j i => f_X11_most_39 N iY tY jY (nI g) K8 j (va_up sY 24 (rcS (sY 6) u P g i i 0)) (nI i)) _ P N (by omega) (fun j => ?_) (fun j i hi => ?_)
  · show f_X11_most_39 N iY tY jY (nI g) K8 (j + 1) _ _ = _
    rw [f_X11_most_39, if_pos (show va_up sY 24 (rcS (sY 6) u P g P P 0) 6 0 ≤ nI P by rw [show va_up sY 24 (rcS (sY 6) u P g P P 0) 6 0 = nI P from hL.s0]; exact nI_le (Nat.le_refl _) (by omega))]
  · show f_X11_most_39 N iY tY jY (nI g) K8 (j + 1) _ _ = f_X11_most_39 N iY tY jY (nI g) K8 j _ _
    rw [f_X11_most_39, if_neg (show ¬ va_up sY 24 (rcS (sY 6) u P g i i 0) 6 0 ≤ nI i by rw [show va_up sY 24 (rcS (sY 6) u P g i i 0) 6 0 = nI P from hL.s0]; exact nI_ge hi (by omega))]
    rw [show (143 : Int32) + (5 : Int32) * nI i + nI g = nI (143 + (5 * i + g)) from by rw [show (143 : Int32) = nI 143 from rfl, show (5 : Int32) = nI 5 from rfl, pk_mul, nI_add, nI_add, Nat.add_assoc], show (178 : Int32) + (5 : Int32) * nI i + nI g = nI (178 + (5 * i + g)) from by rw [show (178 : Int32) = nI 178 from rfl, show (5 : Int32) = nI 5 from rfl, pk_mul, nI_add, nI_add, Nat.add_assoc], show (224 : Int32) + nI i = nI (224 + i) from by rw [show (224 : Int32) = nI 224 from rfl, nI_add], show (16 : Int32) * ((7 : Int32) + nI i) + 15 = nI (16 * (7 + i) + 15) from by rw [show (16 : Int32) = nI 16 from rfl, show (7 : Int32) = nI 7 from rfl, nI_add, pk_mul, show (15 : Int32) = nI 15 from rfl, nI_add]]
    rw [q_ck (show 143 + (5 * i + g) < 457 by omega) (by omega), q_ck (show 224 + i < 256 by omega) (by omega), q_nv, q_ck (show 178 + (5 * i + g) < 457 by omega) (by omega), q_ck (show 16 * (7 + i) + 15 < 256 by omega) (by omega), q_nv, q_jn, show ix (nI (143 + (5 * i + g))) = 143 + (5 * i + g) from q_ix (by omega), show ix (nI (178 + (5 * i + g))) = 178 + (5 * i + g) from q_ix (by omega), show ix (nI (224 + i)) = 224 + i from q_ix (by omega), show ix (nI (16 * (7 + i) + 15)) = 16 * (7 + i) + 15 from q_ix (by omega), q_ve, q_vv, show va_up sY 24 (rcS (sY 6) u P g i i 0) 6 = sY 6 from rfl, rc_two _ _ hP hi, y_104 N hN hL hI u (nI g) hi, nI_1]
end
