/-! PURE: most: the class, how much can reach a taker -/
/-- class: what giver i may still deal with taker j -/
def clN (s : Nat → Int32) (P j i : Nat) : Nat := if tb (s (124 + j)) i then 999 else if tb (my s P j) i then ix (s 2 - s (227 + (7 * j + i))) else 0
def reN (s : Nat → Int32) (P : Nat) (X : Int32) (j : Nat) : Nat → Nat
  | 0 => 0
  | i + 1 => reN s P X j i + (if tb X i then clN s P j i else 0)
theorem cl_le {s : Nat → Int32} {P Q i j : Nat} (hI : ID s P Q) (hi : i < 7) (hj : j < 7) : clN s P j i ≤ 999 := by
  unfold clN
  cases hf : tb (s (124 + j)) i with
  | true => rw [if_pos rfl]; omega
  | false =>
    rw [if_neg (by decide)]
    split
    · obtain ⟨k, hk, e⟩ := dl_c hI hj hi hf
      rw [e, show ix (nI k) = k from q_ix (by omega)]; omega
    · omega
theorem re_le {s : Nat → Int32} {P Q j : Nat} (hI : ID s P Q) (hj : j < 7) (X : Int32) : ∀ i, i ≤ 7 → reN s P X j i ≤ 999 * i := by
  intro i
  induction i with
  | zero => intro _; exact Nat.le_refl _
  | succ i ih =>
    intro hi
    have h1 := ih (by omega)
    have h2 := cl_le (P := P) hI (show i < 7 by omega) hj
    rw [reN]
    split <;> omega
section
variable (N : Nat) {s : Nat → Int32} {iC : Nat → Int32} {tC : Nat → Nat → Int64} {sC : Nat → Nat → Int32} {iM : Nat → Int32} {sM : Nat → Nat → Int32} {iE : Nat → Int32} {sE : Nat → Nat → Int32} {P Q : Nat}
theorem x_canReach (hN : 2000 ≤ N) (hC : CP s iC sC) (hM : MP s iM sM) (hL : IL s P Q) (hI : ID s P Q) (X : Int32) {j : Nat} (hj : j < P) : f_X9_canReach N iE sE iM sM iC tC sC (nI j) X = some (nI (reN s P X j P)) := by
  have hP := hL.P7
  unfold f_X9_canReach
  rw [x_dealable N hC hM hL.s0 (by omega), q_bd]
  refine q_loopF (fun k x v => f_X9_canReach_15 N iE sE iM sM iC tC sC (nI j) X (my s P j) k x v) some P N (by omega) (fun i => nI (reN s P X j i)) 0 rfl (fun k => ?_) (fun k i hi => ?_)
  · show f_X9_canReach_15 N iE sE iM sM iC tC sC (nI j) X (my s P j) (k + 1) _ _ = _
    rw [f_X9_canReach_15, hC.pe, hL.s0, if_pos (nI_le (Nat.le_refl _) (by omega))]
  · show f_X9_canReach_15 N iE sE iM sM iC tC sC (nI j) X (my s P j) (k + 1) _ _ = f_X9_canReach_15 N iE sE iM sM iC tC sC (nI j) X (my s P j) k _ _
    have h7 : ∀ {α : Type} {y : Option α}, ck (nI j) 7 y = y := q_ck (by omega) (by omega)
    rw [f_X9_canReach_15, hC.pe, hL.s0, if_neg (nI_ge hi (by omega)), x_has N _ (by omega), q_bd]
    simp only [q_jn, h7]
    rw [show ix (nI j) = j from q_ix (by omega), hC.fo (by omega)]
    simp only [x_has N _ (show i < 31 by omega), x_pairOf, q_bd, q_nv]
    rw [q_ck (show 7 * j + i < 49 by omega) (by omega), show ix (nI (7 * j + i)) = 7 * j + i from q_ix (by omega), hM.dl (by omega), hC.de, nI_1, reN]
    unfold clN
    cases hX : tb X i with
    | false => rw [if_pos (show bI false = 0 from rfl), if_pos (show bI false = 0 from rfl)]; rfl
    | true =>
      rw [if_neg (show ¬ bI true = 0 by decide)]
      cases hf : tb (s (124 + j)) i with
      | true => rw [if_neg (show ¬ bI true = 0 by decide), show (999 : Int32) = nI 999 from rfl, nI_add]; rfl
      | false =>
        rw [if_pos (show bI false = 0 from rfl), if_neg (show ¬ bI true = 0 by decide)]
        cases hm : tb (my s P j) i with
        | false => rw [if_pos (show bI false = 0 from rfl)]; rfl
        | true =>
          obtain ⟨x, hx, e⟩ := dl_c hI (show j < 7 by omega) (show i < 7 by omega) hf
          rw [if_neg (show ¬ bI true = 0 by decide), e, show ix (nI x) = x from q_ix (by omega)]
          have e2 : (if (0 : Int32) < nI x then nI x else 0) = nI x := by
            by_cases c : x = 0
            · rw [c]; decide
            · rw [if_pos (show (0 : Int32) < nI x from (nI_ltI (a := 0) (by omega) (by omega)).mpr (by omega))]
          rw [e2, nI_add]; rfl
end
