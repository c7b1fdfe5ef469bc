/-! PURE: sold out -/
def soB (s : Nat → Int32) (a : Nat) : Nat → Bool
  | 0 => false
  | g + 1 => soB s a g || decide (s (47 + (5 * a + g)) ≠ 0)
def stQ (s : Nat → Int32) (a : Nat) : Nat → Int32
  | 0 => 0
  | g + 1 => stQ s a g + s (143 + (5 * a + g))
def soldB (s : Nat → Int32) (a : Nat) : Bool := soB s a 5 && decide (stQ s a 5 = 0)
theorem so_Q {s : Nat → Int32} {P Q a : Nat} (hp : CE s 47 P Q 21) (hs : CE s 143 P Q 9) (ha : a < 7) (hQ : Q ≤ 5) : soB s a Q = soB s a 5 ∧ stQ s a Q = stQ s a 5 := by
  have h1 : ∀ j, Q + j ≤ 5 → soB s a (Q + j) = soB s a Q ∧ stQ s a (Q + j) = stQ s a Q := by
    intro j
    induction j with
    | zero => intro _; exact ⟨rfl, rfl⟩
    | succ j ih =>
      intro hj
      obtain ⟨x, hx, e, hz⟩ := hp a (Q + j) ha (by omega)
      obtain ⟨x2, hx2, e2, hz2⟩ := hs a (Q + j) ha (by omega)
      obtain ⟨i1, i2⟩ := ih (by omega)
      rw [show Q + (j + 1) = (Q + j) + 1 by omega, soB, stQ, i1, i2, e, e2, hz (Or.inr (by omega)), hz2 (Or.inr (by omega)), nI_0, Int32.add_zero]
      exact ⟨by rw [decide_eq_false (by decide), Bool.or_false], rfl⟩
  have h2 := h1 (5 - Q) (by omega)
  rw [show Q + (5 - Q) = 5 by omega] at h2
  exact ⟨h2.1.symm, h2.2.symm⟩
section
variable (N : Nat) (iY : Nat → Int32) (sY : Nat → Nat → Int32) (tY : Nat → Nat → Int64) (jY : Nat → Int64)
theorem y_isSold (hN : 2000 ≤ N) {P Q a : Nat} (ha : a < 7) (hL : IL (sY 6) P Q) (hI : ID (sY 6) P Q) : f_X11_isSold N iY sY tY jY (nI a) = some (bI (soldB (sY 6) a)) := by
  have hQ := hL.Q5
  obtain ⟨q1, q2⟩ := so_Q hL.pr hI.st ha hQ
  unfold f_X11_isSold
  rw [q_jn]
  have key := q_loopF (fun k (x : Int32 × Int32) v => f_X11_isSold_7 N iY sY tY jY (nI a) (fun z => if z.1 = 0 then some 0 else if z.2 = 0 then some 1 else some 0) k x.1 x.2 v) (fun z => if z.1 = 0 then some 0 else if z.2 = 0 then some 1 else some 0) Q N (by omega) (fun i => (bI (soB (sY 6) a i), stQ (sY 6) a i)) (0, 0) rfl (fun k => by
    show f_X11_isSold_7 N iY sY tY jY (nI a) _ (k + 1) _ _ _ = _
    rw [f_X11_isSold_7, hL.s1, if_pos (nI_le (Nat.le_refl _) (by omega))]) (fun k i hi => by
    show f_X11_isSold_7 N iY sY tY jY (nI a) _ (k + 1) _ _ _ = f_X11_isSold_7 N iY sY tY jY (nI a) _ k _ _ _
    obtain ⟨x, hx, e, -⟩ := hL.pr a i ha (by omega)
    rw [f_X11_isSold_7, hL.s1, if_neg (nI_ge hi (by omega))]
    simp (disch := omega) only [L2, L3, L4, L5, L6, L7, L8, L9, L10, L11, L12, L13, L14, L15, L16, L17, L18, L19, L20, L21, L22, L23, L24, L30, L35, L40, L41, L47, L48, L56, L57, L59, L60, L61, L62, L80, L82, L96, L97, L117, L122, L124, L131, L136, L143, L145, L178, L200, L213, L220, L224, L227, L256, L277, L400, L457, L900, L920, L940, L999, L1015, L9999, L1000000, nI_add, pk_mul, nI_1, q_ck, q_ix, q_nv, q_jn, Nat.add_assoc]
    rw [soB, stQ, e]
    cases soB (sY 6) a i with
    | true => rw [if_neg (show ¬ bI true = 0 by decide), Bool.true_or]; rfl
    | false =>
      rw [if_pos (show bI false = 0 from rfl), Bool.false_or]
      by_cases c : x = 0
      · subst c; rw [if_pos (show nI 0 ≤ 0 by decide), decide_eq_false (by decide)]; rfl
      · rw [if_neg (show ¬ nI x ≤ 0 from nI_ge (a := 0) (by omega) (by omega)), decide_eq_true (show nI x ≠ 0 from nI_nb (b := 0) c (by omega) (by omega))]; rfl)
  refine Eq.trans key ?_
  dsimp only
  rw [q1, q2]
  unfold soldB
  cases soB (sY 6) a 5 with
  | false => rw [if_pos (show bI false = 0 from rfl), Bool.false_and]; rfl
  | true =>
    rw [if_neg (show ¬ bI true = 0 by decide), Bool.true_and]
    by_cases c : stQ (sY 6) a 5 = 0
    · rw [if_pos c, decide_eq_true c]; rfl
    · rw [if_neg c, decide_eq_false c]; rfl
end
section
variable (N : Nat) {s : Nat → Int32} {iC : Nat → Int32} {tC : Nat → Nat → Int64} {sC : Nat → Nat → Int32} {iM : Nat → Int32} {sM : Nat → Nat → Int32} {P Q : Nat}
theorem x_sold (hN : 2000 ≤ N) (hC : CP s iC sC) (hM : MP s iM sM) (hL : IL s P Q) {a : Nat} (ha : a < 7) : f_X4_isSoldOut N iM sM iC tC sC (nI a) = some (bI (soldB s a)) := by
  unfold f_X4_isSoldOut
  rw [q_jn]
  have key := q_loopF (fun k (x : Int32 × Int32) v => f_X4_isSoldOut_7 N iM sM iC tC sC (nI a) (fun z => if z.1 = 0 then some 0 else if z.2 = 0 then some 1 else some 0) k x.1 x.2 v) (fun z => if z.1 = 0 then some 0 else if z.2 = 0 then some 1 else some 0) 5 N (by omega) (fun i => (bI (soB s a i), stQ s a i)) (0, 0) rfl (fun k => by
    show f_X4_isSoldOut_7 N iM sM iC tC sC (nI a) _ (k + 1) _ _ _ = _
    rw [f_X4_isSoldOut_7, L5, if_pos (nI_le (Nat.le_refl _) (by omega))]) (fun k i hi => by
    show f_X4_isSoldOut_7 N iM sM iC tC sC (nI a) _ (k + 1) _ _ _ = f_X4_isSoldOut_7 N iM sM iC tC sC (nI a) _ k _ _ _
    obtain ⟨x, hx, e, -⟩ := hL.pr a i ha (by omega)
    rw [f_X4_isSoldOut_7, L5, if_neg (nI_ge hi (by omega))]
    simp only [x_cellOf, q_bd, q_jn]
    rw [q_ck (show 5 * a + i < 35 by omega) (by omega), q_ck (show 5 * a + i < 35 by omega) (by omega), q_ck (show 5 * a + i < 35 by omega) (by omega), q_nv, q_nv, show ix (nI (5 * a + i)) = 5 * a + i from q_ix (by omega), hM.st (by omega), hC.pr (by omega), nI_1, e]
    rw [soB, stQ, e]
    cases soB s a i with
    | true => rw [if_neg (show ¬ bI true = 0 by decide), Bool.true_or]; rfl
    | false =>
      rw [if_pos (show bI false = 0 from rfl), Bool.false_or]
      by_cases c : x = 0
      · subst c; rw [if_pos (show nI 0 - 1 = -1 by decide), decide_eq_false (by decide)]; rfl
      · rw [if_neg (show ¬ nI x - 1 = -1 by rw [show (1 : Int32) = nI 1 from rfl, pk_sub (by omega)]; exact nI_m1 (by omega)), decide_eq_true (show nI x ≠ 0 from nI_nb (b := 0) c (by omega) (by omega))]; rfl)
  refine Eq.trans key ?_
  dsimp only
  unfold soldB
  cases soB s a 5 with
  | false => rw [if_pos (show bI false = 0 from rfl), Bool.false_and]; rfl
  | true =>
    rw [if_neg (show ¬ bI true = 0 by decide), Bool.true_and]
    by_cases c : stQ s a 5 = 0
    · rw [if_pos c, decide_eq_true c]; rfl
    · rw [if_neg c, decide_eq_false c]; rfl
end
