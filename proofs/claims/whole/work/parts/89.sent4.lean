/-! PURE: sentences, one -/
def lfv (x : Int32) : Int32 := if x = nI 16 then 0 else if x = nI 17 then 1 else if x = nI 18 then 2 else if x = nI 19 then 3 else if x = nI 4 then 4 else if x = nI 3 then 5 else if x = nI 20 then 6 else if x = nI 21 then 7 else if x = nI 22 then 8 else if x = nI 23 then 9 else -1
theorem bg_m1 (N : Nat) : f_X7_beginsOne N (-1) = some 0 := by
  unfold f_X7_beginsOne
  rw [if_neg (by decide), if_neg (by decide), if_pos (by decide)]
theorem bg_k (N : Nat) : ∀ k, k < 24 → f_X7_beginsOne N (nI k) = some (if k = 3 ∨ k = 4 ∨ 15 ≤ k then 1 else 0) := by
  intro k hk
  unfold f_X7_beginsOne
  rw [show (4 : Int32) = nI 4 from rfl, show (3 : Int32) = nI 3 from rfl, show (15 : Int32) = nI 15 from rfl, show (23 : Int32) = nI 23 from rfl, i_eq (by omega) (by omega), i_eq (by omega) (by omega), i_lt (by omega) (by omega), i_lt (by omega) (by omega)]
  by_cases c4 : k = 4
  · rw [if_pos c4, if_pos (by omega)]
  · rw [if_neg c4]
    by_cases c3 : k = 3
    · rw [if_pos c3, if_pos (by omega)]
    · rw [if_neg c3]
      by_cases c5 : k < 15
      · rw [if_pos c5, if_neg (by omega)]
      · rw [if_neg c5, if_neg (by omega), if_pos (by omega)]
theorem lf_k : ∀ k, k < 24 → lfv (nI k) = if k = 3 then 5 else if k = 4 then 4 else if 16 ≤ k ∧ k < 20 then nI (k - 16) else if 20 ≤ k then nI (k - 14) else -1 := by decide +kernel
theorem lf_m1 : lfv (-1) = -1 := by decide
section
variable (N : Nat) {sT : Nat → Nat → Int32} {iT : Nat → Int32} {jT : Nat → Int64} {iY : Nat → Int32} {sY : Nat → Nat → Int32} {tY : Nat → Nat → Int64} {jY : Nat → Int64} {L lim st : Nat} {K6 : YZ → YK} {P Q m o h e : Nat} {iS : Nat → Int32} {sS : Nat → Nat → Int32} {iC : Nat → Int32} {tC : Nat → Nat → Int64} {sC : Nat → Nat → Int32}
/-- nothing begins here -/
theorem b_none (ro rc : RF) (hp : PO P Q L lim st m o h e sT iT jT iS sS iY sY jY) (h8 : ¬ iT 8 = nI 40) (h7 : ¬ iT 7 = nI 15) (hb : f_X7_beginsOne N (iT 7) = some 0) (hl : lfv (iT 7) = -1) : QF N tY K6 st iY sY jY (f_X7_readOne_o N ro rc sT iT jT iC tC sC iS sS (nI e)) := by
  obtain ⟨r1, r2, r3, r4⟩ := y_refuse N (sT := sT) (sY := sY) (tY := tY) hp.tr 1
  have ex : f_X7_readOne_o N ro rc sT iT jT iC tC sC iS sS (nI e) = some (0, va_up (va_up iT 11 1) 12 (nI st), jT, iS, sS) := by
    unfold f_X7_readOne_o
    simp only [q_jn]
    rw [if_neg (show ¬ iT 8 = 40 from h8), if_pos trivial, hb, q_bd, if_pos rfl, r1, q_bd]; rfl
  have ey : f_X11_operand N iY sY tY jY = some (0, va_up (va_up iY 15 1) 16 (nI st), sY, jY) := by
    unfold f_X11_operand
    rw [lw15, t_word N hp.tr (k := 15) (by omega), show (40 : Int32) = nI 40 from rfl, t_sign N hp.tr (c := 40) (by omega), show f_X11_leafOf N iY sY tY jY = some (lfv (iT 7)) from y_leaf N hp.tr, hl]
    simp only [q_bd, q_b0, decide_eq_true_eq, q_jn]
    rw [if_neg h7, if_neg h8, if_neg (show ¬ (0 : Int32) ≤ -1 by decide), r2, q_bd]; rfl
  exact QF_1 N hp.tr hp.y47 ex ey r3 r4 (fun _ _ _ => rfl)
/-- no room for another -/
theorem b_full (ro rc : RF) (hp : PO P Q L lim st m o h e sT iT jT iS sS iY sY jY) (hs : iT 8 = nI 40 ∨ (¬ iT 8 = nI 40 ∧ f_X7_beginsOne N (iT 7) = some 1)) (hs2 : iT 7 = nI 15 ∨ iT 8 = nI 40 ∨ 0 ≤ lfv (iT 7)) (hf : o = 20 ∨ e = 9) : QF N tY K6 st iY sY jY (f_X7_readOne_o N ro rc sT iT jT iC tC sC iS sS (nI e)) := by
  obtain ⟨r1, r2, r3, r4⟩ := y_refuse N (sT := sT) (sY := sY) (tY := tY) hp.tr 4
  have ho := hp.o20
  have he := hp.e9
  have fx : ∀ {α : Type} {x y : Option α}, (if (20 : Int32) ≤ iS 0 then x else if nI e ≤ 8 then y else x) = x := by
    intro α x y
    rw [hp.sr.s0, show (20 : Int32) = nI 20 from rfl, show (8 : Int32) = nI 8 from rfl, i_le (by omega) (by omega), i_le (by omega) (by omega)]
    by_cases c : o = 20
    · rw [if_pos (by omega)]
    · rw [if_neg (by omega), if_neg (by omega)]
  have fy : ∀ {α : Type} {x y : Option α}, (if iY 44 = 20 then x else if iY 46 ≤ 8 then y else x) = x := by
    intro α x y
    rw [hp.sr.y44, hp.sr.y46, show (20 : Int32) = nI 20 from rfl, show (8 : Int32) = nI 8 from rfl, i_eq (by omega) (by omega), i_le (by omega) (by omega)]
    by_cases c : o = 20
    · rw [if_pos c]
    · rw [if_neg c, if_neg (by omega)]
  have ex : f_X7_readOne_o N ro rc sT iT jT iC tC sC iS sS (nI e) = some (0, va_up (va_up iT 11 4) 12 (nI st), jT, iS, sS) := by
    unfold f_X7_readOne_o
    simp only [q_jn]
    rcases hs with h8 | ⟨h8, hb⟩
    · rw [if_pos (show iT 8 = 40 from h8), if_neg (show ¬ (1 : Int32) = 0 by decide), fx, r1, q_bd]; rfl
    · rw [if_neg (show ¬ iT 8 = 40 from h8), if_pos trivial, hb, q_bd, if_neg (show ¬ (1 : Int32) = 0 by decide), fx, r1, q_bd]; rfl
  have ey : f_X11_operand N iY sY tY jY = some (0, va_up (va_up iY 15 4) 16 (nI st), sY, jY) := by
    unfold f_X11_operand
    rw [lw15, t_word N hp.tr (k := 15) (by omega), show (40 : Int32) = nI 40 from rfl, t_sign N hp.tr (c := 40) (by omega), show f_X11_leafOf N iY sY tY jY = some (lfv (iT 7)) from y_leaf N hp.tr]
    simp only [q_bd, q_b0, decide_eq_true_eq, q_jn, fy]
    by_cases c7 : iT 7 = nI 15
    · rw [if_pos c7, r2, q_bd]; rfl
    · rw [if_neg c7]
      by_cases c8 : iT 8 = nI 40
      · rw [if_pos c8, r2, q_bd]; rfl
      · rw [if_neg c8, if_pos (by rcases hs2 with x | x | x; exact absurd x c7; exact absurd x c8; exact x), r2, q_bd]; rfl
  exact QF_1 N hp.tr hp.y47 ex ey r3 r4 (fun _ _ _ => rfl)
end
