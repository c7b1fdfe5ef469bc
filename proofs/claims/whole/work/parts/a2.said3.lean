/-! PURE: what a leaf says of a person, in the class -/
section
variable (N : Nat) {s : Nat → Int32} {iC : Nat → Int32} {tC : Nat → Nat → Int64} {sC : Nat → Nat → Int32} {iM : Nat → Int32} {sM : Nat → Nat → Int32} {iS : Nat → Int32} {sS : Nat → Nat → Int32} {P Q : Nat}
theorem x_cmp {k : Nat} (hk : k < 40) (x : Int32) : f_X6_compares N iS sS x (nI k) = some (bI (cmpB x (sS 3 k) (sS 4 k))) := by
  unfold f_X6_compares
  have hc : ∀ {α : Type} {y : Option α}, ck (nI k) 40 y = y := q_ck hk (by omega)
  simp only [hc]
  rw [show ix (nI k) = k from q_ix (by omega), cmp_e]
theorem x_isTrue (hN : 2000 ≤ N) (hC : CP s iC sC) (hM : MP s iM sM) (hL : IL s P Q) (hI : ID s P Q) {p k : Nat} (hp : p < P) (hk : k < 40) {c0 c1 c2 : Int32} (h : LW P Q (sS 2 k) (sS 3 k) (sS 4 k) c0 c1 c2) : f_X6_isTrue N iS sS iM sM iC tC sC (nI k) (nI p) = some (bI (lb s p c0 c1 c2)) := by
  have hP := hL.P7
  have hQ := hL.Q5
  unfold f_X6_isTrue
  have hc : ∀ {α : Type} {y : Option α}, ck (nI k) 40 y = y := q_ck hk (by omega)
  have h7 : ∀ {α : Type} {y : Option α}, ck (nI p) 7 y = y := q_ck (by omega) (by omega)
  simp only [hc, h7]
  rw [show ix (nI k) = k from q_ix (by omega), show ix (nI p) = p from q_ix (by omega)]
  simp only [x_cmp N hk]
  rcases h with ⟨i, hi, hw, rfl⟩ | ⟨hw, rfl, q, hq, hv, rfl⟩ | ⟨hw, rfl, g, hg, hv, rfl⟩ | ⟨i, z, t, hi, hw, rfl, z1, z2, ht, hs, rfl, hv, rfl⟩
  · rw [hw]
    rcases (by omega : i = 0 ∨ i = 1 ∨ i = 2 ∨ i = 3) with rfl | rfl | rfl | rfl
    · rw [if_neg (show ¬ nI (16 + 0) = 3 by decide), if_neg (show ¬ nI (16 + 0) = 4 by decide), if_pos (show nI (16 + 0) = 16 from rfl), x_has N _ (by omega), q_bd, q_zb, hM.ho]; rfl
    · rw [if_neg (show ¬ nI (16 + 1) = 3 by decide), if_neg (show ¬ nI (16 + 1) = 4 by decide), if_neg (show ¬ nI (16 + 1) = 16 by decide), if_pos (show nI (16 + 1) = 17 from rfl), x_has N _ (by omega), q_bd, q_zb, hM.vd]; rfl
    · rw [if_neg (show ¬ nI (16 + 2) = 3 by decide), if_neg (show ¬ nI (16 + 2) = 4 by decide), if_neg (show ¬ nI (16 + 2) = 16 by decide), if_neg (show ¬ nI (16 + 2) = 17 by decide), if_pos (show nI (16 + 2) = 18 from rfl), x_wanting N hN hM (by omega), q_bd, ib]; rfl
    · rw [if_neg (show ¬ nI (16 + 3) = 3 by decide), if_neg (show ¬ nI (16 + 3) = 4 by decide), if_neg (show ¬ nI (16 + 3) = 16 by decide), if_neg (show ¬ nI (16 + 3) = 17 by decide), if_neg (show ¬ nI (16 + 3) = 18 by decide), if_pos (show nI (16 + 3) = 19 from rfl), x_sold N hN hC hM hL (by omega), q_bd, q_zb]; rfl
  · rw [hw, if_neg (show ¬ (4 : Int32) = 3 by decide), if_pos rfl, x_known N hC hM (by omega), q_bd, hv, x_has N _ (by omega), q_bd, q_zb]
    have e : lb s p 4 c1 (nI q) = tb (kn s p) (ix (nI q)) := rfl
    rw [e, show ix (nI q) = q from q_ix (by omega)]
  · rw [hw, if_pos rfl, hv, x_cellOf, q_bd, q_ck (show 5 * p + g < 35 by omega) (by omega), show ix (nI (5 * p + g)) = 5 * p + g from q_ix (by omega), hM.wa (by omega), ibn]
    have e : lb s p 5 c1 (nI g) = decide (¬ s (178 + (5 * p + ix (nI g))) ≤ 0) := rfl
    rw [e, show ix (nI g) = g from q_ix (by omega)]
  · have c : ∀ j, j < 6 → ¬ nI (6 + i) = nI j := fun j hj => nI_nb (by omega) (by omega) (by omega)
    have e : lb s p (nI (6 + i)) (nI z) (nI t) = cmpB (if nI (6 + i) = 6 then s (136 + p) else if nI (6 + i) = 7 then nI (pc (kn s p)) else if nI (6 + i) = 8 then s (213 + p) else nI p) (nI z) (nI t) := by
      unfold lb
      rw [if_neg (show ¬ nI (6 + i) = 0 from c 0 (by omega)), if_neg (show ¬ nI (6 + i) = 1 from c 1 (by omega)), if_neg (show ¬ nI (6 + i) = 2 from c 2 (by omega)), if_neg (show ¬ nI (6 + i) = 3 from c 3 (by omega)), if_neg (show ¬ nI (6 + i) = 4 from c 4 (by omega)), if_neg (show ¬ nI (6 + i) = 5 from c 5 (by omega))]
    rw [e, hw, hs, hv]
    have d : ∀ j, j < 20 → ¬ nI (20 + i) = nI j := fun j hj => nI_nb (by omega) (by omega) (by omega)
    rw [if_neg (show ¬ nI (20 + i) = 3 from d 3 (by omega)), if_neg (show ¬ nI (20 + i) = 4 from d 4 (by omega)), if_neg (show ¬ nI (20 + i) = 16 from d 16 (by omega)), if_neg (show ¬ nI (20 + i) = 17 from d 17 (by omega)), if_neg (show ¬ nI (20 + i) = 18 from d 18 (by omega)), if_neg (show ¬ nI (20 + i) = 19 from d 19 (by omega))]
    rcases (by omega : i = 0 ∨ i = 1 ∨ i = 2 ∨ i = 3) with rfl | rfl | rfl | rfl
    · rw [if_pos (show nI (20 + 0) = 20 from rfl), if_pos (show nI (6 + 0) = 6 from rfl), q_bd, q_zb, hM.co (by omega)]
    · rw [if_neg (show ¬ nI (20 + 1) = 20 by decide), if_pos (show nI (20 + 1) = 21 from rfl), if_neg (show ¬ nI (6 + 1) = 6 by decide), if_pos (show nI (6 + 1) = 7 from rfl), x_known N hC hM (by omega), q_bd, x_bc N (kn_sm hL hI (by omega)), q_bd, q_bd, q_zb]
    · rw [if_neg (show ¬ nI (20 + 2) = 20 by decide), if_neg (show ¬ nI (20 + 2) = 21 by decide), if_pos (show nI (20 + 2) = 22 from rfl), if_neg (show ¬ nI (6 + 2) = 6 by decide), if_neg (show ¬ nI (6 + 2) = 7 by decide), if_pos (show nI (6 + 2) = 8 from rfl), q_bd, q_zb, hM.hu (by omega)]
    · rw [if_neg (show ¬ nI (20 + 3) = 20 by decide), if_neg (show ¬ nI (20 + 3) = 21 by decide), if_neg (show ¬ nI (20 + 3) = 22 by decide), if_neg (show ¬ nI (6 + 3) = 6 by decide), if_neg (show ¬ nI (6 + 3) = 7 by decide), if_neg (show ¬ nI (6 + 3) = 8 by decide), q_bd, q_zb]
/-- the mask of those for whom a leaf holds -/
def lfM (s : Nat → Int32) (c0 c1 c2 : Int32) : Nat → Int32
  | 0 => 0
  | i + 1 => if lb s i c0 c1 c2 then lfM s c0 c1 c2 i ||| pb i else lfM s c0 c1 c2 i
theorem tb_lfM (s : Nat → Int32) (c0 c1 c2 : Int32) {q : Nat} (hq : q < 32) : ∀ i, i ≤ 7 → tb (lfM s c0 c1 c2 i) q = (decide (q < i) && lb s q c0 c1 c2) := by
  intro i
  induction i with
  | zero => intro _; rw [lfM, tb_0, decide_eq_false (by omega), Bool.false_and]
  | succ i ih =>
    intro hi
    have e := ih (by omega)
    rw [lfM]
    by_cases c : q = i
    · subst c
      rw [decide_eq_true (show q < q + 1 by omega), Bool.true_and]
      rw [decide_eq_false (show ¬ q < q by omega), Bool.false_and] at e
      cases hb : lb s q c0 c1 c2 with
      | true => rw [if_pos rfl, tb_or, tb_pb q (by omega) q hq, decide_eq_true rfl, Bool.or_true]
      | false => rw [if_neg (by decide)]; exact e
    · have d : decide (q < i + 1) = decide (q < i) := decide_eq_decide.mpr (by omega)
      rw [d, ← e]
      split
      · rw [tb_or, tb_pb i (by omega) q hq, decide_eq_false c, Bool.or_false]
      · rfl
theorem x_ofStep (hN : 2000 ≤ N) (hC : CP s iC sC) (hM : MP s iM sM) (hL : IL s P Q) (hI : ID s P Q) {k : Nat} (hk : k < 40) {c0 c1 c2 : Int32} (h : LW P Q (sS 2 k) (sS 3 k) (sS 4 k) c0 c1 c2) : f_X6_trueOfStep N iS sS iM sM iC tC sC (nI k) = some (lfM s c0 c1 c2 P) := by
  have hP := hL.P7
  unfold f_X6_trueOfStep
  refine q_loopF (fun j x v => f_X6_trueOfStep_6 N iS sS iM sM iC tC sC (nI k) j x v) some P N (by omega) (lfM s c0 c1 c2) 0 rfl (fun j => ?_) (fun j i hi => ?_)
  · show f_X6_trueOfStep_6 N iS sS iM sM iC tC sC (nI k) (j + 1) _ _ = _
    rw [f_X6_trueOfStep_6, hC.pe, hL.s0, if_pos (nI_le (Nat.le_refl _) (by omega))]
  · show f_X6_trueOfStep_6 N iS sS iM sM iC tC sC (nI k) (j + 1) _ _ = f_X6_trueOfStep_6 N iS sS iM sM iC tC sC (nI k) j _ _
    rw [f_X6_trueOfStep_6, hC.pe, hL.s0, if_neg (nI_ge hi (by omega)), x_isTrue N hN hC hM hL hI hi hk h, q_bd, q_jn, q_b0, nI_1, lfM, q_nv]
    cases lb s i c0 c1 c2 with
    | true => rfl
    | false => rfl
end
