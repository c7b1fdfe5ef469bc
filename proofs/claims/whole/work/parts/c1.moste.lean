/-! PURE: most: the class, whole -/
section
variable (N : Nat) {s : Nat → Int32} {iC : Nat → Int32} {tC : Nat → Nat → Int64} {sC : Nat → Nat → Int32} {iM : Nat → Int32} {sM : Nat → Nat → Int32} {iE : Nat → Int32} {sE : Nat → Nat → Int32} {P Q : Nat}
theorem mn_le (s : Nat → Int32) (P g : Nat) : ∀ x, mnN s P g x ≤ 999 := by
  intro x
  induction x with
  | zero => exact Nat.le_refl _
  | succ x ih => rw [mnN]; omega
theorem p2_le : ∀ P, P ≤ 7 → 1 ≤ 2 ^ P ∧ 2 ^ P ≤ 128 := by decide
theorem x_mostOf (hN : 2000 ≤ N) (hC : CP s iC sC) (hM : MP s iM sM) (hL : IL s P Q) (hI : ID s P Q) {g : Nat} (hg : g < 5) : f_X9_mostOf N iE sE iM sM iC tC sC (nI g) = some (nI (mnN s P g (2 ^ P))) := by
  have hP := hL.P7
  obtain ⟨p1, p2⟩ := p2_le P hP
  unfold f_X9_mostOf
  rw [x_everyone N hC hL.s0, q_bd, ev_n P (by omega)]
  refine q_loopF (fun k x v => f_X9_mostOf_15 N iE sE iM sM iC tC sC (nI g) (nI (2 ^ P - 1)) k x v) some (2 ^ P) N (by omega) (fun x => nI (mnN s P g x)) 999 rfl (fun k => ?_) (fun k i hi => ?_)
  · show f_X9_mostOf_15 N iE sE iM sM iC tC sC (nI g) (nI (2 ^ P - 1)) (k + 1) _ _ = _
    rw [f_X9_mostOf_15, if_pos (show nI (2 ^ P - 1) < nI (2 ^ P) from (nI_ltI (by omega) (by omega)).mpr (by omega))]
  · show f_X9_mostOf_15 N iE sE iM sM iC tC sC (nI g) (nI (2 ^ P - 1)) (k + 1) _ _ = f_X9_mostOf_15 N iE sE iM sM iC tC sC (nI g) (nI (2 ^ P - 1)) k _ _
    have h1 := tm_le (P := P) hI hg (nI i) P hP
    have h2 := mn_le s P g i
    rw [f_X9_mostOf_15, if_neg (show ¬ nI (2 ^ P - 1) < nI i from fun x => by have := (nI_ltI (by omega) (by omega)).mp x; omega), q_jn, x_27 N hN hC hM hL hI hg, q_nv, nI_1, mnN]
    have mi : (if nI (tmN s P g (nI i) P) < nI (mnN s P g i) then nI (tmN s P g (nI i) P) else nI (mnN s P g i)) = nI (min (tmN s P g (nI i) P) (mnN s P g i)) := by
      rw [i_lt (by omega) (by omega)]
      split
      · exact congrArg nI (by omega)
      · exact congrArg nI (by omega)
    rw [mi]
end
