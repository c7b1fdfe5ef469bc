/-! PURE: most: the class, whole -/
def tmN (s : Nat → Int32) (P g : Nat) (X : Int32) : Nat → Nat
  | 0 => 0
  | i + 1 => tmN s P g X i + (if tb X i then 0 else ix (s (143 + (5 * i + g)))) + min (reN s P X i P) (ix (s (178 + (5 * i + g))))
def mnN (s : Nat → Int32) (P g : Nat) : Nat → Nat
  | 0 => 999
  | x + 1 => min (tmN s P g (nI x) P) (mnN s P g x)
theorem tm_le {s : Nat → Int32} {P Q g : Nat} (hI : ID s P Q) (hg : g < 5) (X : Int32) : ∀ i, i ≤ 7 → tmN s P g X i ≤ 18 * i := by
  intro i
  induction i with
  | zero => intro _; exact Nat.le_refl _
  | succ i ih =>
    intro hi
    have h1 := ih (by omega)
    obtain ⟨y, hy, e, -⟩ := hI.st i g (by omega) hg
    obtain ⟨z, hz, e2, -⟩ := hI.wa i g (by omega) hg
    rw [tmN, e, e2, show ix (nI y) = y from q_ix (by omega), show ix (nI z) = z from q_ix (by omega)]
    split <;> omega
section
variable (N : Nat) {s : Nat → Int32} {iC : Nat → Int32} {tC : Nat → Nat → Int64} {sC : Nat → Nat → Int32} {iM : Nat → Int32} {sM : Nat → Nat → Int32} {iE : Nat → Int32} {sE : Nat → Nat → Int32} {P Q : Nat}
theorem x_27 (hN : 2000 ≤ N) (hC : CP s iC sC) (hM : MP s iM sM) (hL : IL s P Q) (hI : ID s P Q) {g : Nat} (hg : g < 5) (X v2 v3 : Int32) (K : Int32 → Option Int32) : f_X9_mostOf_27 N iE sE iM sM iC tC sC (nI g) v2 v3 X K N 0 0 = K (nI (tmN s P g X P)) := by
  have hP := hL.P7
  refine q_loopF (fun k x v => f_X9_mostOf_27 N iE sE iM sM iC tC sC (nI g) v2 v3 X K k x v) K P N (by omega) (fun i => nI (tmN s P g X i)) 0 rfl (fun k => ?_) (fun k i hi => ?_)
  · show f_X9_mostOf_27 N iE sE iM sM iC tC sC (nI g) v2 v3 X K (k + 1) _ _ = _
    rw [f_X9_mostOf_27, hC.pe, hL.s0, if_pos (nI_le (Nat.le_refl _) (by omega))]
  · show f_X9_mostOf_27 N iE sE iM sM iC tC sC (nI g) v2 v3 X K (k + 1) _ _ = f_X9_mostOf_27 N iE sE iM sM iC tC sC (nI g) v2 v3 X K k _ _
    obtain ⟨y, hy, e, -⟩ := hI.st i g (by omega) hg
    obtain ⟨z, hz, e2, -⟩ := hI.wa i g (by omega) hg
    have hr := re_le (P := P) hI (show i < 7 by omega) X P hP
    have h35 : ∀ {α : Type} {y : Option α}, ck (nI (5 * i + g)) 35 y = y := q_ck (by omega) (by omega)
    rw [f_X9_mostOf_27, hC.pe, hL.s0, if_neg (nI_ge hi (by omega)), x_cellOf, q_bd, x_has N _ (by omega), q_bd]
    simp only [q_jn, h35, x_canReach N hN hC hM hL hI X hi, q_bd, q_nv]
    rw [show ix (nI (5 * i + g)) = 5 * i + g from q_ix (by omega), hM.st (by omega), hM.wa (by omega), e, e2, nI_1, tmN, e, e2, show ix (nI y) = y from q_ix (by omega), show ix (nI z) = z from q_ix (by omega)]
    have mi : (if nI (reN s P X i P) < nI z then nI (reN s P X i P) else nI z) = nI (min (reN s P X i P) z) := by
      rw [i_lt (by omega) (by omega)]
      split
      · exact congrArg nI (by omega)
      · exact congrArg nI (by omega)
    rw [mi]
    by_cases c : z = 0
    · rw [if_pos (show nI z ≤ 0 by rw [c]; decide), if_pos (show nI z ≤ 0 by rw [c]; decide), c, Nat.min_zero]
      cases tb X i with
      | true => rw [if_neg (show ¬ bI true = 0 by decide)]; rfl
      | false => rw [if_pos (show bI false = 0 from rfl), nI_add]; rfl
    · rw [if_neg (show ¬ nI z ≤ 0 from nI_ge (a := 0) (by omega) (by omega)), if_neg (show ¬ nI z ≤ 0 from nI_ge (a := 0) (by omega) (by omega))]
      cases tb X i with
      | true => rw [if_neg (show ¬ bI true = 0 by decide), nI_add]; rfl
      | false => rw [if_pos (show bI false = 0 from rfl), nI_add, nI_add]; rfl
end
