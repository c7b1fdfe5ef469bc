/-! PURE: sentences, one that is plain -/
section
variable (N : Nat) {sT : Nat → Nat → Int32} {iT : Nat → Int32} {jT : Nat → Int64} {iY : Nat → Int32} {sY : Nat → Nat → Int32} {tY : Nat → Nat → Int64} {jY : Nat → Int64} {L lim st : Nat} {K6 : YZ → YK} {P Q m o h e : Nat} {iS : Nat → Int32} {sS : Nat → Nat → Int32} {iC : Nat → Int32} {tC : Nat → Nat → Int64} {sC : Nat → Nat → Int32}
theorem rm_x (hp : PO P Q L lim st m o h e sT iT jT iS sS iY sY jY) (ho : o < 20) (he : e ≤ 8) {α : Type} {x y : Option α} : (if (20 : Int32) ≤ iS 0 then x else if nI e ≤ 8 then y else x) = y := by
  rw [hp.sr.s0, show (20 : Int32) = nI 20 from rfl, show (8 : Int32) = nI 8 from rfl, i_le (by omega) (by omega), i_le (by omega) (by omega), if_neg (by omega), if_pos he]
theorem rm_y (hp : PO P Q L lim st m o h e sT iT jT iS sS iY sY jY) (ho : o < 20) (he : e ≤ 8) {α : Type} {x y : Option α} : (if iY 44 = 20 then x else if iY 46 ≤ 8 then y else x) = y := by
  rw [hp.sr.y44, hp.sr.y46, show (20 : Int32) = nI 20 from rfl, show (8 : Int32) = nI 8 from rfl, i_eq (by omega) (by omega), i_le (by omega) (by omega), if_neg (by omega), if_pos (by omega)]
/-- the class, at a plain one -/
theorem x_pl (ro rc : RF) (hp : PO P Q L lim st m o h e sT iT jT iS sS iY sY jY) (ho : o < 20) (he : e ≤ 8) {w : Nat} (hw : w = 3 ∨ w = 4 ∨ 16 ≤ w) (hw2 : w < 24) (h7 : iT 7 = nI w) (h8 : iT 8 = -1) {iT1 : Nat → Int32} {jT1 : Nat → Int64} (a1 : f_X8_next N sT iT jT = some (iT1, jT1)) : f_X7_readOne_o N ro rc sT iT jT iC tC sC iS sS (nI e) = bd (f_X7_readPlain N sT iT1 jT1 iC tC sC (va_up iS 0 (nI (o + 1))) sS (nI w)) (fun (r_32, iT_33, jT_34, iS_35, sS_36) => zb r_32 (some (r_32, iT_33, jT_34, iS_35, sS_36))) := by
  unfold f_X7_readOne_o
  simp only [q_jn]
  rw [if_neg (show ¬ iT 8 = 40 by rw [h8]; decide), if_pos trivial, h7, bg_k N w hw2, q_bd, if_pos (show w = 3 ∨ w = 4 ∨ 15 ≤ w by omega), if_neg (show ¬ (1 : Int32) = 0 by decide), rm_x hp ho he, a1, q_bd]
  dsimp only
  rw [if_pos trivial, if_neg (show ¬ nI w = 15 from nI_nb (b := 15) (by omega) (by omega) (by omega)), hp.sr.s0, nI_1]
theorem y_pl (hp : PO P Q L lim st m o h e sT iT jT iS sS iY sY jY) (ho : o < 20) (he : e ≤ 8) {w : Nat} (hw : w = 3 ∨ w = 4 ∨ 16 ≤ w) (hw2 : w < 24) (h7 : iT 7 = nI w) (h8 : iT 8 = -1) {r : Nat} (hr : lfv (nI w) = nI r) (hr9 : r < 10) {iY1 : Nat → Int32} {jY1 : Nat → Int64} (a2 : f_X11_next N (va_up iY 44 (nI (o + 1))) sY tY jY = some (iY1, jY1)) : f_X11_operand N iY sY tY jY = if 4 ≤ r then (if 6 ≤ r then (if (iY1 11) = 3 then (if (iY1 14) < 60 then bd (f_X11_bad N (va_up iY1 47 1) sY tY jY1 1) (fun (r_39, iY_40) => zb r_39 (some (r_39, iY_40, sY, jY1))) else (if (iY1 14) ≤ 62 then bd (f_X11_next N (va_up iY1 47 1) sY tY jY1) (fun (iY_46, jY_47) => (if (iY_46 11) = 2 then bd (f_X11_code N iY_46 sY tY jY_47 (nI r) (iY1 14) (iY_46 14)) (fun (iY_50, sY_51) => bd (f_X11_next N iY_50 sY_51 tY jY_47) (fun (iY_53, jY_54) => some (1, iY_53, sY_51, jY_54))) else bd (f_X11_bad N iY_46 sY tY jY_47 1) (fun (r_56, iY_57) => zb r_56 (some (r_56, iY_57, sY, jY_47))))) else bd (f_X11_bad N (va_up iY1 47 1) sY tY jY1 1) (fun (r_39, iY_40) => zb r_39 (some (r_39, iY_40, sY, jY1))))) else bd (f_X11_bad N (va_up iY1 47 1) sY tY jY1 1) (fun (r_39, iY_40) => zb r_39 (some (r_39, iY_40, sY, jY1)))) else bd (if r = 4 then f_X11_looksAt N (va_up iY1 47 1) sY tY jY1 0 ((sY 6) 0) else f_X11_looksAt N (va_up iY1 47 1) sY tY jY1 7 ((sY 6) 1)) (fun (y_63, iY_64) => (if y_63 = 0 then some (0, iY_64, sY, jY1) else bd (f_X11_code N iY_64 sY tY jY1 (nI r) 0 (iY_64 18)) (fun (iY_66, sY_67) => bd (f_X11_next N iY_66 sY_67 tY jY1) (fun (iY_69, jY_70) => some (1, iY_69, sY_67, jY_70)))))) else bd (f_X11_code N (va_up iY1 47 1) sY tY jY1 (nI r) 0 0) (fun (iY_79, sY_80) => some (1, iY_79, sY_80, jY1)) := by
  unfold f_X11_operand
  rw [lw15, t_word N hp.tr (k := 15) (by omega), show (40 : Int32) = nI 40 from rfl, t_sign N hp.tr (c := 40) (by omega), show f_X11_leafOf N iY sY tY jY = some (lfv (iT 7)) from y_leaf N hp.tr, h7, h8, hr]
  have n15 : ¬ nI w = nI 15 := nI_nb (by omega) (by omega) (by omega)
  have n40 : ¬ (-1 : Int32) = nI 40 := fun x => nI_m1 (b := 40) (by omega) x.symm
  simp only [q_bd, q_b0, decide_eq_true_eq, q_jn, rm_y hp ho he, if_neg n15, if_neg n40]
  rw [hp.sr.y44, nI_1, if_pos (show (0 : Int32) ≤ nI r from nI_le (a := 0) (by omega) (by omega)), a2, q_bd]
  dsimp only
  rw [show (4 : Int32) = nI 4 from rfl, show (6 : Int32) = nI 6 from rfl, i_le (by omega) (by omega), i_le (by omega) (by omega), i_eq (by omega) (by omega)]
  by_cases c4 : 4 ≤ r
  · rw [if_pos c4, if_pos c4]
    by_cases c6 : 6 ≤ r
    · rw [if_pos c6, if_pos c6]
    · rw [if_neg c6, if_neg c6]
      by_cases c : r = 4
      · rw [if_pos c, if_pos c]
      · rw [if_neg c, if_neg c]
  · rw [if_neg c4, if_neg c4]
end
