/-! PURE: sentences, one that is a not or stands in brackets -/
theorem TR_y {L lim st : Nat} {iT : Nat → Int32} {jT : Nat → Int64} {iY iY' : Nat → Int32} {jY : Nat → Int64} (h : TR L lim st iT jT iY jY) (e : ∀ k, k ≠ 43 → k ≠ 45 → k ≠ 46 → iY' k = iY k) : TR L lim st iT jT iY' jY := by
  have e3 := e 3 (by omega) (by omega) (by omega)
  have e4 := e 4 (by omega) (by omega) (by omega)
  have e5 := e 5 (by omega) (by omega) (by omega)
  have e11 := e 11 (by omega) (by omega) (by omega)
  have e12 := e 12 (by omega) (by omega) (by omega)
  have e14 := e 14 (by omega) (by omega) (by omega)
  unfold TR TB PR TC at h ⊢
  rw [e3, e4, e5, e11, e12, e14]
  exact h
section
variable (N : Nat) {sT : Nat → Nat → Int32} {iT : Nat → Int32} {jT : Nat → Int64} {iY : Nat → Int32} {sY : Nat → Nat → Int32} {tY : Nat → Nat → Int64} {jY : Nat → Int64} {L lim st : Nat} {K6 : YZ → YK} {P Q m o h e : Nat} {iS : Nat → Int32} {sS : Nat → Nat → Int32} {iC : Nat → Int32} {tC : Nat → Nat → Int64} {sC : Nat → Nat → Int32}
/-- the reference pushes -/
theorem y_push (hN : 2000 ≤ N) (hp : PO P Q L lim st m o h e sT iT jT iS sS iY sY jY) (h3 : h + 1 ≤ 3 * e) (ho : o < 20) (he : e ≤ 8) {v : Int32} (hv : (iT 7 = nI 15 ∧ v = 20) ∨ (¬ iT 7 = nI 15 ∧ iT 8 = nI 40 ∧ v = 23)) :
    ∃ iT1 jT1 iY1 jY1 st1, f_X8_next N sT iT jT = some (iT1, jT1) ∧ (∀ k, LoP N tY K6 (k + 1) iY sY jY = LoP N tY K6 k iY1 (va_up sY 42 (upd (sY 42) h v)) jY1) ∧ 1 + st ≤ st1 ∧ GF iY iY1 ∧ iY1 15 = iY 15 ∧ iT1 11 = iT 11 ∧ PO P Q L lim st1 m (o + 1) (h + 1) (e + 1) sT iT1 jT1 (va_up iS 0 (nI (o + 1))) sS iY1 (va_up sY 42 (upd (sY 42) h v)) jY1 := by
  have h44 : TR L lim st iT jT (va_up iY 44 (nI (o + 1))) jY := hp.tr
  obtain ⟨iT1, jT1, iY1, jY1, st1, a1, a2, a3, a4, a5, a6, a7, a8⟩ := t_next N (sT := sT) (sY := sY) hN hp.hB tY h44
  have hs1 : st < st1 := a5 (by rcases hv with x | x; exact t_w7 hp.tr (by omega) x.1; exact t_sg8 hp.tr (by omega) x.2.1)
  have g1 : GF iY iY1 := ((GF.rf iY).up (k := 44) rfl _).tr a7.gf
  have i44 : iY1 44 = nI (o + 1) := a7 44 (by omega) (by omega) (by omega) (by omega) (by omega) (by omega)
  have i43 : iY1 43 = nI m := (a7 43 (by omega) (by omega) (by omega) (by omega) (by omega) (by omega)).trans hp.sr.y43
  have i45 : iY1 45 = nI h := (a7 45 (by omega) (by omega) (by omega) (by omega) (by omega) (by omega)).trans hp.sr.y45
  have i46 : iY1 46 = nI e := (a7 46 (by omega) (by omega) (by omega) (by omega) (by omega) (by omega)).trans hp.sr.y46
  have i15 : iY1 15 = iY 15 := a7 15 (by omega) (by omega) (by omega) (by omega) (by omega) (by omega)
  have i47 : iY1 47 = 0 := (a7 47 (by omega) (by omega) (by omega) (by omega) (by omega) (by omega)).trans hp.y47
  have ey : f_X11_operand N iY sY tY jY = some (1, va_up (va_up iY1 45 (nI (h + 1))) 46 (nI (e + 1)), va_up sY 42 (upd (sY 42) h v), jY1) := by
    unfold f_X11_operand
    rw [lw15, t_word N hp.tr (k := 15) (by omega), show (40 : Int32) = nI 40 from rfl, t_sign N hp.tr (c := 40) (by omega), show f_X11_leafOf N iY sY tY jY = some (lfv (iT 7)) from y_leaf N hp.tr]
    simp only [q_bd, q_b0, decide_eq_true_eq, q_jn, rm_y hp ho he]
    rw [hp.sr.y44, nI_1, a2, q_bd]
    dsimp only
    rcases hv with ⟨h7, rfl⟩ | ⟨h7, h8, rfl⟩
    · simp only [if_pos h7]
      rw [i45, i46, q_ck (show h < 45 by omega) (by omega), q_nv, show ix (nI h) = h from q_ix (by omega), nI_1, nI_1]
    · simp only [if_neg h7, if_pos h8]
      rw [i45, i46, q_ck (show h < 45 by omega) (by omega), q_nv, show ix (nI h) = h from q_ix (by omega), nI_1, nI_1]
  have c := hp.sr
  refine ⟨iT1, jT1, va_up (va_up iY1 45 (nI (h + 1))) 46 (nI (e + 1)), jY1, st1, a1, fun k => ?_, by omega, (g1.up (k := 45) rfl _).up (k := 46) rfl _, i15, a6, hp.hB, hp.hL, a3, i47, ⟨rfl, c.s1, i44, i43, rfl, rfl, c.cr, fun k hk => absurd hk (Nat.not_lt_zero _), fun k hk => absurd hk (Nat.not_lt_zero _)⟩, hp.ho, by have := hp.hh; omega, by omega, by have := hp.m2; omega, by omega, by omega⟩
  rw [LoP_op hp.y47, ey, q_bd]
  rfl
theorem b_not (hN : 2000 ≤ N) (ro rc : RF) (ih : OneP N tY K6 P Q L lim sT iC tC sC (e + 1) ro) (hp : PO P Q L lim st m o h e sT iT jT iS sS iY sY jY) (h3 : h + 1 ≤ 3 * e) (ho : o < 20) (he : e ≤ 8) (h7 : iT 7 = nI 15) (h8 : iT 8 = -1) : QF N tY K6 st iY sY jY (f_X7_readOne_o N ro rc sT iT jT iC tC sC iS sS (nI e)) ∨ QO N tY K6 P Q L lim st m o h e iT sS iY sY jY (f_X7_readOne_o N ro rc sT iT jT iC tC sC iS sS (nI e)) := by
  obtain ⟨iT1, jT1, iY1, jY1, st1, a1, a2, a3, a4, a5, a6, a7⟩ := y_push N (K6 := K6) (tY := tY) hN hp h3 ho he (Or.inl ⟨h7, rfl⟩)
  have ex : f_X7_readOne_o N ro rc sT iT jT iC tC sC iS sS (nI e) = bd (ro sT iT1 jT1 iC tC sC (va_up iS 0 (nI (o + 1))) sS (nI (e + 1))) (fun (r_22, iT_23, jT_24, iS_25, sS_26) => (if r_22 = 0 then some ((0 : Int32), iT_23, jT_24, iS_25, sS_26) else bd (f_X6_addStep N iS_25 sS_26 15 (-1) (-1)) (fun (iS_29, sS_30) => some (1, iT_23, jT_24, iS_29, sS_30)))) := by
    unfold f_X7_readOne_o
    simp only [q_jn]
    rw [if_neg (show ¬ iT 8 = 40 by rw [h8]; decide), if_pos trivial, h7, bg_k N 15 (by omega), q_bd, if_pos (show 15 = 3 ∨ 15 = 4 ∨ 15 ≤ 15 by omega), if_neg (show ¬ (1 : Int32) = 0 by decide), rm_x hp ho he, a1, q_bd]
    dsimp only
    rw [if_pos trivial, if_pos (show nI 15 = 15 from rfl), hp.sr.s0, nI_1, nI_1]
  have fr : ∀ k, k ≠ 8 → k ≠ 42 → va_up sY 42 (upd (sY 42) h 20) k = sY k := fun k _ k2 => q_vn _ _ k2
  rcases ih st1 m (o + 1) (h + 1) iT1 jT1 (va_up iS 0 (nI (o + 1))) sS iY1 _ jY1 a7 (by omega) with x | x
  · obtain ⟨iT', jT', iS', sS', e1, e2⟩ := x.pre a3 a2 a4 fr
    rw [ex, e1, q_bd]
    dsimp only
    rw [if_pos rfl]
    exact Or.inl e2
  · obtain ⟨j, iT', jT', iS', sS', iY', sY', jY', m', n, o', st', e1, e2, e3, e4, e5, e6, e7, e8, e9, e10, e11, e12, e13⟩ := x
    have hm := hp.m2
    rw [ex, e1, q_bd]
    dsimp only
    rw [if_neg (show ¬ (1 : Int32) = 0 by decide), x_adS N (m := m' + n) (by omega) e6.s1, q_bd]
    refine Or.inr ⟨j + 1, iT', jT', va_up iS' 1 (nI (m' + n + 1)), adS sS' (m' + n) 15 (-1) (-1), iY', sY', jY', m', n + 1, o', st', rfl, by omega, fun k => ?_, e4, e5, ⟨e6.s0, rfl, e6.y44, e6.y43, e6.y45.trans (congrArg nI (by omega)), e6.y46.trans (congrArg nI (by omega)), CR_c e6.cr (fun k hk => ad_lt sS' _ _ _ (by omega)) (fun _ _ => rfl), fun k hk => ?_, fun k hk => ?_⟩, ?_, ?_, by omega, e10, by omega, by omega, e13.t.trans a6, e13.y.trans a5, a4.tr e13.g, fun k k1 k2 => (e13.f k k1 k2).trans (fr k k1 k2), fun k hk => (e13.s k (by omega)).trans ?_⟩
    · rw [← Nat.add_assoc, a2, e3]
    · by_cases c : k < n
      · rw [(ad_lt sS' _ _ _ (by omega)).1]; exact e6.nn k c
      · rw [show k = n by omega]; exact (ad_at sS' _ _ _ _).1
    · by_cases c : k = 0
      · subst c
        rw [show h + 0 = h from rfl, e13.s h (by omega)]
        show upd (sY 42) h 20 h = 20
        rw [pk_us]
      · rw [show h + k = h + 1 + (k - 1) by omega]; exact e6.st (k - 1) (by omega)
    · exact HO_a e7 15 (-1) (-1) ⟨fun _ => by omega, fun x => by rcases x with x | x; exact absurd x (by decide); exact absurd x (by decide), fun x => absurd rfl x⟩
    · show hgt _ (m' + n + 1) = _
      rw [hgt_a, if_pos rfl]; exact e8
    · show upd (sY 42) h 20 k = _
      rw [pk_un (by omega)]
end
