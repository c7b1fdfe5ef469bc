/-! PURE: sentences, one -/
theorem t_7 {L lim st : Nat} {iT : Nat → Int32} {jT : Nat → Int64} {iY : Nat → Int32} {jY : Nat → Int64} (h : TR L lim st iT jT iY jY) : (iT 7 = -1 ∨ ∃ k, k < 24 ∧ iT 7 = nI k ∧ iT 8 = -1) := by
  obtain ⟨-, -, -, a, b, -, hc⟩ := h
  rcases hc with ⟨-, -, -, -, h7, -⟩ | ⟨-, -, hc⟩
  · exact Or.inl h7
  · rcases hc with ⟨-, -, h8, -, hp⟩ | ⟨-, -, h7, -⟩ | ⟨-, -, h7, -⟩ | ⟨-, -, h7, -⟩
    · rcases hp with ⟨k, hk, h7, -⟩ | ⟨h7, -⟩
      · exact Or.inr ⟨k, hk, h7, h8⟩
      · exact Or.inl h7
    · exact Or.inl h7
    · exact Or.inl h7
    · exact Or.inl h7
section
variable (N : Nat) {sT : Nat → Nat → Int32} {iT : Nat → Int32} {jT : Nat → Int64} {iY : Nat → Int32} {sY : Nat → Nat → Int32} {tY : Nat → Nat → Int64} {jY : Nat → Int64} {L lim st : Nat}
theorem y_leaf (h : TR L lim st iT jT iY jY) : f_X11_leafOf N iY sY tY jY = some (if iT 7 = nI 16 then 0 else if iT 7 = nI 17 then 1 else if iT 7 = nI 18 then 2 else if iT 7 = nI 19 then 3 else if iT 7 = nI 4 then 4 else if iT 7 = nI 3 then 5 else if iT 7 = nI 20 then 6 else if iT 7 = nI 21 then 7 else if iT 7 = nI 22 then 8 else if iT 7 = nI 23 then 9 else -1) := by
  unfold f_X11_leafOf
  rw [lw16, lw17, lw18, lw19, lw4, lw3, lw20, lw21, lw22, lw23, t_word N h (k := 16) (by omega), t_word N h (k := 17) (by omega), t_word N h (k := 18) (by omega), t_word N h (k := 19) (by omega), t_word N h (k := 4) (by omega), t_word N h (k := 3) (by omega), t_word N h (k := 20) (by omega), t_word N h (k := 21) (by omega), t_word N h (k := 22) (by omega), t_word N h (k := 23) (by omega)]
  simp only [q_bd, q_b0, decide_eq_true_eq]
  repeat' split
  all_goals rfl
theorem QF_1 {K6 : YZ → YK} {fx : RX} {iY' : Nat → Int32} {jY' : Nat → Int64} {iT' : Nat → Int32} {jT' : Nat → Int64} {iS' : Nat → Int32} {sS' sY' : Nat → Nat → Int32} (h : TR L lim st iT jT iY jY) (h47 : iY 47 = 0) (ex : fx = some (0, iT', jT', iS', sS')) (ey : f_X11_operand N iY sY tY jY = some (0, iY', sY', jY')) (hF : FT iT' iY') (hG : GF iY iY') (hf : ∀ k, k ≠ 8 → k ≠ 42 → sY' k = sY k) : QF N tY K6 st iY sY jY fx := by
  have := TR_st h
  refine ⟨1, iT', jT', iS', sS', iY', sY', jY', ex, by omega, fun k => ?_, hF, hG, hf⟩
  rw [LoP_op h47, ey, q_bd]
  rfl
theorem QO_l {K6 : YZ → YK} {P Q m o h e st' : Nat} {fx : RX} {iY' : Nat → Int32} {jY' : Nat → Int64} {iT' : Nat → Int32} {jT' : Nat → Int64} {iS : Nat → Int32} {sS : Nat → Nat → Int32} {w sg v a b d : Int32} (hp : PO P Q L lim st m o h e sT iT jT iS sS iY sY jY) (ho : o < 20) (ex : fx = some (1, iT', jT', va_up (va_up iS 0 (nI (o + 1))) 1 (nI (m + 1)), adS sS m w sg v)) (ey : f_X11_operand N iY sY tY jY = some (1, iY', va_up sY 8 (ad3 (sY 8) m a b d), jY')) (hw : SW P Q w sg v a b d) (h15 : w ≠ 15) (h14 : w ≠ 14) (h13 : w ≠ 13) (y43 : iY' 43 = nI (m + 1)) (y44 : iY' 44 = nI (o + 1)) (y45 : iY' 45 = iY 45) (y46 : iY' 46 = iY 46) (y47 : iY' 47 = 1) (hT : TR L lim st' iT' jT' iY' jY') (hs : st < st') (h11 : iT' 11 = iT 11) (hy : iY' 15 = iY 15) (hg : GF iY iY') : QO N tY K6 P Q L lim st m o h e iT sS iY sY jY fx := by
  have c := hp.sr
  have hh := hp.hh
  refine ⟨1, iT', jT', va_up (va_up iS 0 (nI (o + 1))) 1 (nI (m + 1)), adS sS m w sg v, iY', va_up sY 8 (ad3 (sY 8) m a b d), jY', m + 1, 0, o + 1, st', ex, by omega, fun k => ?_, hT, y47, ⟨rfl, rfl, y44, y43, y45.trans c.y45, y46.trans c.y46, ?_, fun k hk => absurd hk (Nat.not_lt_zero _), fun k hk => absurd hk (Nat.not_lt_zero _)⟩, ?_, ?_, by omega, by omega, by omega, hp.e9, h11, hy, hg, fun k k1 _ => q_vn _ _ k1, fun k _ => rfl⟩
  · rw [LoP_op hp.y47, ey, q_bd]
    rfl
  · show CR P Q (m + 1) (adS sS m w sg v) (ad3 (sY 8) m a b d)
    refine CR_y (CR_c c.cr (fun k hk => ad_lt sS w sg v hk) (fun _ _ => rfl)) a b d ?_
    obtain ⟨e1, e2, e3⟩ := ad_at sS m w sg v
    rw [e1, e2, e3]; exact hw
  · exact HO_a hp.ho w sg v ⟨fun x => absurd x h15, fun x => by rcases x with x | x; exact absurd x h14; exact absurd x h13, fun _ _ => by omega⟩
  · show hgt _ (m + 1) = _
    rw [hgt_a, if_neg h15, if_neg (fun x => by rcases x with x | x; exact h14 x; exact h13 x)]
end
