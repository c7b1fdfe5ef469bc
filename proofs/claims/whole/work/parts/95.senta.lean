/-! PURE: sentences, a condition: one turn of the class -/
section
variable (N : Nat) {sT : Nat → Nat → Int32} {iC : Nat → Int32} {tC : Nat → Nat → Int64} {sC : Nat → Nat → Int32}
theorem x_cstep (ro rc : RF) {e k i M va vb : Nat} {iT iT1 : Nat → Int32} {jT jT1 : Nat → Int64} {iS iS1 : Nat → Int32} {sS sS1 : Nat → Nat → Int32} (hi : i ≤ 20) (hr : ro sT iT jT iC tC sC iS sS (nI e) = some (1, iT1, jT1, iS1, sS1)) (h1 : iS1 1 = nI M) (hM : M + va + vb ≤ 40) (ha : va ≤ 1) (hb : vb ≤ 1) :
    f_X7_readCond_o_7 N ro rc sT iC tC sC (nI e) (k + 1) iT jT iS sS (nI va) (nI vb) (nI i) =
      if iT1 7 = nI 14 then bd (f_X8_next N sT iT1 jT1) (fun (a, b) => f_X7_readCond_o_7 N ro rc sT iC tC sC (nI e) k a b (va_up iS1 1 (nI (M + va))) (adF sS1 M va 14) 1 (nI vb) (nI (i + 1)))
      else if iT1 7 = nI 13 then bd (f_X8_next N sT iT1 jT1) (fun (a, b) => f_X7_readCond_o_7 N ro rc sT iC tC sC (nI e) k a b (va_up iS1 1 (nI (M + va + vb))) (adF (adF sS1 M va 14) (M + va) vb 13) 0 1 (nI (i + 1)))
      else some (1, iT1, jT1, va_up iS1 1 (nI (M + va + vb)), adF (adF sS1 M va 14) (M + va) vb 13) := by
  rw [f_X7_readCond_o_7, if_neg (show ¬ (20 : Int32) < nI i from fun x => by have := (nI_ltI (a := 20) (by omega) (by omega)).mp x; omega), hr, q_bd]
  simp only [q_jn]
  rw [if_neg (show ¬ (1 : Int32) = 0 by decide), nI_1, show (14 : Int32) = nI 14 from rfl, show (13 : Int32) = nI 13 from rfl]
  have u0 : va_up iS1 1 (nI (M + 0)) = iS1 := up_id h1
  have z0 : (nI 0 = 0) := rfl
  have z1 : ¬ (nI 1 = 0) := by decide
  have o1 : ¬ ((1 : Int32) = 0) := by decide
  rcases (by omega : va = 0 ∨ va = 1) with rfl | rfl
  · rw [if_pos z0]
    by_cases c14 : iT1 7 = nI 14
    · simp only [if_pos c14, if_neg o1]
      rw [u0]
      rcases (by omega : vb = 0 ∨ vb = 1) with rfl | rfl
      · rw [if_pos z0]; rfl
      · rw [if_neg z1]; rfl
    · simp only [if_neg c14]
      rcases (by omega : vb = 0 ∨ vb = 1) with rfl | rfl
      · simp only [if_pos z0, if_true]
        have u00 : va_up iS1 1 (nI (M + 0 + 0)) = iS1 := up_id h1
        rw [u00]
        rfl
      · simp only [if_neg z1, if_true]
        rw [x_adS N (m := M) (by omega) h1, q_bd]
        rfl
  · rw [if_neg z1, x_adS N (m := M) (by omega) h1, q_bd]
    dsimp only
    by_cases c14 : iT1 7 = nI 14
    · simp only [if_pos c14, if_neg o1]
      rcases (by omega : vb = 0 ∨ vb = 1) with rfl | rfl
      · rw [if_pos z0]; rfl
      · rw [if_neg z1]; rfl
    · simp only [if_neg c14]
      rcases (by omega : vb = 0 ∨ vb = 1) with rfl | rfl
      · simp only [if_pos z0, if_true]
        rfl
      · simp only [if_neg z1, if_true]
        rw [x_adS N (iS := va_up iS1 1 (nI (M + 1))) (m := M + 1) (by omega) rfl, q_bd]
        dsimp only
        rw [q_vv]
        rfl
end
