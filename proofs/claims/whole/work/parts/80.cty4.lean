/-! PURE: a county's text -/
section
variable (N : Nat) {sT : Nat → Nat → Int32}
theorem b_line (hN : 2000 ≤ N) {iT : Nat → Int32} {jT : Nat → Int64} {iY : Nat → Int32} {sY : Nat → Nat → Int32} {tY : Nat → Nat → Int64} {jY : Nat → Int64} {iR iC : Nat → Int32} {tC : Nat → Nat → Int64} {sC : Nat → Nat → Int32} {L lim st P Q : Nat} (hB : ∀ k, k < 940 → sT 0 k = sY 1 k &&& 255) (hR : ∀ k, k < 24 → tY 10 k = lN (e256 (wds k))) (hD : DR iR iC tC sC iY sY tY P Q) (h : TR L lim st iT jT iY jY) :
    LO L lim st iT iY sY tY (f_X2_readLine N iR sT iT jT iC tC sC) (f_X11_line N iY sY tY jY) := by
  unfold f_X2_readLine f_X11_line
  rw [lw0, lw1, lw2, lw3, lw4, lw5, lw6, lw7, lw8, t_word N h (k := 0) (by omega), t_word N h (k := 1) (by omega), t_word N h (k := 2) (by omega), t_word N h (k := 3) (by omega), t_word N h (k := 4) (by omega), t_word N h (k := 5) (by omega), t_word N h (k := 6) (by omega), t_word N h (k := 7) (by omega), t_word N h (k := 8) (by omega)]
  simp only [q_bd, q_b0, decide_eq_true_eq]
  by_cases c0 : iT 7 = nI 0
  · rw [if_pos (show iT 7 = 0 from c0), if_pos c0]; exact b_rPerson N hN hB hR hD h (t_w7 h (c := 0) (by omega) c0)
  rw [if_neg (show ¬ iT 7 = 0 from c0), if_neg c0]
  by_cases c1 : iT 7 = nI 1
  · rw [if_pos (show iT 7 = 1 from c1), if_pos c1]; exact b_rGood N hN hB hR hD h (t_w7 h (c := 1) (by omega) c1)
  rw [if_neg (show ¬ iT 7 = 1 from c1), if_neg c1]
  by_cases c2 : iT 7 = nI 2
  · rw [if_pos (show iT 7 = 2 from c2), if_pos c2]; exact b_rSells N hN hB hR hD h (t_w7 h (c := 2) (by omega) c2)
  rw [if_neg (show ¬ iT 7 = 2 from c2), if_neg c2]
  by_cases c3 : iT 7 = nI 3
  · rw [if_pos (show iT 7 = 3 from c3), if_pos c3]; exact b_rWants N hN hB hR hD h (t_w7 h (c := 3) (by omega) c3)
  rw [if_neg (show ¬ iT 7 = 3 from c3), if_neg c3]
  by_cases c4 : iT 7 = nI 4
  · rw [if_pos (show iT 7 = 4 from c4), if_pos c4]; exact b_rPair4 N hN hB hR hD h (t_w7 h (c := 4) (by omega) c4)
  rw [if_neg (show ¬ iT 7 = 4 from c4), if_neg c4]
  by_cases c5 : iT 7 = nI 5
  · rw [if_pos (show iT 7 = 5 from c5), if_pos c5]; exact b_rPair5 N hN hB hR hD h (t_w7 h (c := 5) (by omega) c5)
  rw [if_neg (show ¬ iT 7 = 5 from c5), if_neg c5]
  by_cases c6 : iT 7 = nI 6
  · rw [if_pos (show iT 7 = 6 from c6), if_pos c6]; exact b_rDeals N hN hB hD h (t_w7 h (c := 6) (by omega) c6)
  rw [if_neg (show ¬ iT 7 = 6 from c6), if_neg c6]
  by_cases c7 : iT 7 = nI 7
  · rw [if_pos (show iT 7 = 7 from c7), if_pos c7]; exact b_rVeils N hN hB hD h (t_w7 h (c := 7) (by omega) c7)
  rw [if_neg (show ¬ iT 7 = 7 from c7), if_neg c7]
  by_cases c8 : iT 7 = nI 8
  · rw [if_pos (show iT 7 = 8 from c8), if_pos c8]; exact b_rBell N hN hB hD h (t_w7 h (c := 8) (by omega) c8)
  rw [if_neg (show ¬ iT 7 = 8 from c8), if_neg c8]
  obtain ⟨r1, r2, r3, r4⟩ := y_refuse N (sT := sT) (sY := sY) (tY := tY) h 1
  rw [r1, r2, q_bd, q_bd]
  exact Or.inl ⟨_, _, _, _, _, _, _, _, _, _, rfl, rfl, r3, (YF.rf iY sY tY).i r4⟩
/-- at a text's end, on both sides -/
theorem t_end {iT : Nat → Int32} {jT : Nat → Int64} {iY : Nat → Int32} {jY : Nat → Int64} {L lim st : Nat} (h : TR L lim st iT jT iY jY) : (iT 5 = 0 ∧ iT 7 = -1 ∧ iT 8 = -1 ∧ iT 3 = bI (decide (lim < L)) ∧ iY 11 = (if lim < L then 4 else 0)) ∨ (¬ iT 5 = 0 ∧ ¬ iY 11 = 0 ∧ st < min L lim) := by
  obtain ⟨hTB, -, -, a, b, -, hc⟩ := h
  rcases hc with ⟨-, -, -, h5, h7, h8, h11⟩ | ⟨hs, -, hc⟩
  · exact Or.inl ⟨h5, h7, h8, hTB.2.2.2.2.1, h11⟩
  · refine Or.inr ?_
    rcases hc with ⟨h5, h11, -⟩ | ⟨h5, h11, -⟩ | ⟨h5, h11, -⟩ | ⟨h5, h11, -⟩ <;> exact ⟨by rw [h5]; decide, by rw [h11]; decide, hs⟩
theorem x_passEnd {iT : Nat → Int32} {jT : Nat → Int64} {L lim : Nat} (h5 : iT 5 = 0) (h3 : iT 3 = bI (decide (lim < L))) : f_X8_passEnd N sT iT jT = if lim < L then some (0, va_up (va_up iT 11 1) 12 (iT 6)) else some (1, iT) := by
  unfold f_X8_passEnd f_X8_refuse
  rw [q_jn, if_pos h5, h3]
  by_cases c : lim < L
  · rw [if_pos c, q_dt c]; rfl
  · rw [if_neg c, q_df c]
abbrev CO : Type := Option (Int32 × (Nat → Int32) × (Nat → Int32) × (Nat → Int64) × (Nat → Int32) × (Nat → Nat → Int64) × (Nat → Nat → Int32))
def KXc (N : Nat) (sT : Nat → Nat → Int32) (z : (Int32) × (Nat → Int32) × (Nat → Int32) × (Nat → Int64) × (Nat → Int32) × (Nat → Nat → Int64) × (Nat → Nat → Int32)) : CO :=
  match z with | (x1_11, iR_12, iT_13, jT_14, iC_15, tC_16, sC_17) => bd (f_X8_passEnd N sT iT_13 jT_14) (fun (r_18, iT_19) => (if r_18 = 0 then some ((-1), iR_12, iT_19, jT_14, iC_15, tC_16, sC_17) else some (x1_11, iR_12, iT_19, jT_14, iC_15, tC_16, sC_17)))
theorem y_lineE {iT : Nat → Int32} {jT : Nat → Int64} {iY : Nat → Int32} {sY : Nat → Nat → Int32} {tY : Nat → Nat → Int64} {jY : Nat → Int64} {L lim st : Nat} (h : TR L lim st iT jT iY jY) (h7 : iT 7 = -1) : f_X11_line N iY sY tY jY = some (0, va_up (va_up iY 15 1) 16 (nI st), sY, tY, jY) := by
  unfold f_X11_line
  rw [lw0, lw1, lw2, lw3, lw4, lw5, lw6, lw7, lw8, t_word N h (k := 0) (by omega), t_word N h (k := 1) (by omega), t_word N h (k := 2) (by omega), t_word N h (k := 3) (by omega), t_word N h (k := 4) (by omega), t_word N h (k := 5) (by omega), t_word N h (k := 6) (by omega), t_word N h (k := 7) (by omega), t_word N h (k := 8) (by omega)]
  simp only [q_bd, q_b0, decide_eq_true_eq]
  have no : ∀ k, k < 24 → ¬ iT 7 = nI k := fun k hk e => nI_m1 (b := k) (by omega) (by rw [← e, h7])
  rw [if_neg (no 0 (by omega)), if_neg (no 1 (by omega)), if_neg (no 2 (by omega)), if_neg (no 3 (by omega)), if_neg (no 4 (by omega)), if_neg (no 5 (by omega)), if_neg (no 6 (by omega)), if_neg (no 7 (by omega)), if_neg (no 8 (by omega))]
  obtain ⟨r1, r2, r3, r4⟩ := y_refuse N (sT := fun _ _ => 0) (sY := sY) (tY := tY) h 1
  rw [r2, q_bd]; rfl
theorem cty_loop (hN : 2000 ≤ N) {L lim : Nat} (hlim : lim ≤ 900) (K72 K8 : ((Nat → Int32) × (Nat → Nat → Int32) × (Nat → Nat → Int64) × (Nat → Int64)) → Option (Int32 × (Nat → Int32) × (Nat → Nat → Int32) × (Nat → Nat → Int64) × (Nat → Int64))) :
    ∀ (d kx ky st n P Q : Nat) (iR iT : Nat → Int32) (jT : Nat → Int64) (iC : Nat → Int32) (tC : Nat → Nat → Int64) (sC : Nat → Nat → Int32) (iY : Nat → Int32) (sY : Nat → Nat → Int32) (tY : Nat → Nat → Int64) (jY : Nat → Int64),
      min L lim - st ≤ d → d + 1 < kx → d + 1 < ky → 2 * n ≤ st → (∀ k, k < 940 → sT 0 k = sY 1 k &&& 255) → (∀ k, k < 24 → tY 10 k = lN (e256 (wds k))) → TR L lim st iT jT iY jY → DR iR iC tC sC iY sY tY P Q → iY 19 = nI n → iT 11 = 0 → iY 15 = 0 →
      (∃ iR' iT' jT' iC' tC' sC' iY' sY' tY' jY', f_X2_readText_34 N sT (KXc N sT) kx iR iT jT iC tC sC (nI n) = some (-1, iR', iT', jT', iC', tC', sC') ∧ f_X11_county_35 N K72 K8 ky iY sY tY jY = K72 (iY', sY', tY', jY') ∧ FT iT' iY' ∧ YF iY sY tY iY' sY' tY') ∨
      (∃ m P' Q' iR' iT' jT' iC' tC' sC' iY' sY' tY' jY', m ≤ 900 ∧ f_X2_readText_34 N sT (KXc N sT) kx iR iT jT iC tC sC (nI n) = some (nI m, iR', iT', jT', iC', tC', sC') ∧ f_X11_county_35 N K72 K8 ky iY sY tY jY = K8 (iY', sY', tY', jY') ∧ iY' 19 = nI m ∧ iT' 11 = 0 ∧ iY' 15 = 0 ∧ DR iR' iC' tC' sC' iY' sY' tY' P' Q' ∧ YF iY sY tY iY' sY' tY') := by
  have fin : ∀ (kx ky st n P Q : Nat) (iR iT : Nat → Int32) (jT : Nat → Int64) (iC : Nat → Int32) (tC : Nat → Nat → Int64) (sC : Nat → Nat → Int32) (iY : Nat → Int32) (sY : Nat → Nat → Int32) (tY : Nat → Nat → Int64) (jY : Nat → Int64), n ≤ 450 → TR L lim st iT jT iY jY → DR iR iC tC sC iY sY tY P Q → iY 19 = nI n → iT 11 = 0 → iY 15 = 0 → iT 5 = 0 → iT 7 = -1 → iT 3 = bI (decide (lim < L)) → iY 11 = (if lim < L then 4 else 0) →
      (∃ iR' iT' jT' iC' tC' sC' iY' sY' tY' jY', f_X2_readText_34 N sT (KXc N sT) (kx + 1) iR iT jT iC tC sC (nI n) = some (-1, iR', iT', jT', iC', tC', sC') ∧ f_X11_county_35 N K72 K8 (ky + 1) iY sY tY jY = K72 (iY', sY', tY', jY') ∧ FT iT' iY' ∧ YF iY sY tY iY' sY' tY') ∨
      (∃ m P' Q' iR' iT' jT' iC' tC' sC' iY' sY' tY' jY', m ≤ 900 ∧ f_X2_readText_34 N sT (KXc N sT) (kx + 1) iR iT jT iC tC sC (nI n) = some (nI m, iR', iT', jT', iC', tC', sC') ∧ f_X11_county_35 N K72 K8 (ky + 1) iY sY tY jY = K8 (iY', sY', tY', jY') ∧ iY' 19 = nI m ∧ iT' 11 = 0 ∧ iY' 15 = 0 ∧ DR iR' iC' tC' sC' iY' sY' tY' P' Q' ∧ YF iY sY tY iY' sY' tY') := by
    intro kx ky st n P Q iR iT jT iC tC sC iY sY tY jY hn h hD h19 h11 h15 h5 h7 h3 hy
    rw [f_X2_readText_34, f_X11_county_35, L900, if_neg (nI_ge (show n < 900 by omega) (by omega))]
    unfold f_X8_isAtEnd
    rw [if_pos h5, q_bd, if_neg (show ¬ (1 : Int32) = 0 by decide)]
    unfold KXc
    dsimp only
    rw [x_passEnd N h5 h3]
    by_cases c : lim < L
    · rw [if_pos c] at hy ⊢
      rw [q_bd, if_neg (show ¬ iY 11 = 0 by rw [hy]; decide), y_lineE N h h7, q_bd, h.2.1]
      exact Or.inl ⟨_, _, _, _, _, _, _, _, _, _, rfl, rfl, ⟨rfl, rfl⟩, (YF.rf iY sY tY).i (((GF.rf iY).up rfl _).up rfl _)⟩
    · rw [if_neg c] at hy ⊢
      rw [q_bd, if_pos hy]
      exact Or.inr ⟨n, P, Q, _, _, _, _, _, _, _, _, _, _, by omega, rfl, rfl, h19, h11, h15, hD, YF.rf _ _ _⟩
  have stL : ∀ {st : Nat} {iT : Nat → Int32} {jT : Nat → Int64} {iY : Nat → Int32} {jY : Nat → Int64}, TR L lim st iT jT iY jY → st ≤ min L lim := by
    intro st iT jT iY jY h
    obtain ⟨-, -, -, a, b, -, hc⟩ := h
    rcases hc with ⟨e, _⟩ | ⟨e, _⟩ <;> omega
  intro d
  induction d with
  | zero =>
    intro kx ky st n P Q iR iT jT iC tC sC iY sY tY jY hd hkx hky hn hB hR h hD h19 h11 h15
    obtain ⟨kx, rfl⟩ : ∃ m, kx = m + 1 := ⟨kx - 1, by omega⟩
    obtain ⟨ky, rfl⟩ : ∃ m, ky = m + 1 := ⟨ky - 1, by omega⟩
    have := stL h
    rcases t_end h with ⟨h5, h7, h8, h3, hy⟩ | ⟨h5, hy, hs⟩
    · exact fin kx ky st n P Q iR iT jT iC tC sC iY sY tY jY (by omega) h hD h19 h11 h15 h5 h7 h3 hy
    · omega
  | succ d ih =>
    intro kx ky st n P Q iR iT jT iC tC sC iY sY tY jY hd hkx hky hn hB hR h hD h19 h11 h15
    obtain ⟨kx, rfl⟩ : ∃ m, kx = m + 1 := ⟨kx - 1, by omega⟩
    obtain ⟨ky, rfl⟩ : ∃ m, ky = m + 1 := ⟨ky - 1, by omega⟩
    have hst := stL h
    rcases t_end h with ⟨h5, h7, h8, h3, hy⟩ | ⟨h5, hy, hs⟩
    · exact fin kx ky st n P Q iR iT jT iC tC sC iY sY tY jY (by omega) h hD h19 h11 h15 h5 h7 h3 hy
    · rw [f_X2_readText_34, f_X11_county_35, L900, if_neg (nI_ge (show n < 900 by omega) (by omega)), if_neg hy]
      unfold f_X8_isAtEnd
      rw [if_neg h5, q_bd, if_pos rfl]
      rcases b_line N hN hB hR hD h with ⟨iR', iT', jT', iC', tC', sC', iY', sY', tY', jY', e1, e2, e3, e4⟩ | ⟨iR', iT', jT', iC', tC', sC', iY', sY', tY', jY', st', P', Q', e1, e2, e3, e4, e5, e6, e7, e8, e9⟩
      · rw [e1, e2, q_bd, q_bd]
        exact Or.inl ⟨_, _, _, _, _, _, _, _, _, _, rfl, rfl, e3, e4⟩
      · rw [e1, e2, q_bd, q_bd]
        dsimp only
        rw [if_neg (show ¬ (1 : Int32) = 0 by decide), if_neg (show ¬ (1 : Int32) = 0 by decide)]
        have hB' : ∀ k, k < 940 → sT 0 k = sY' 1 k &&& 255 := fun k hk => by rw [e9.2.1 1 (by omega)]; exact hB k hk
        have hR' : ∀ k, k < 24 → tY' 10 k = lN (e256 (wds k)) := fun k hk => by rw [e9.2.2.1 10 (by omega)]; exact hR k hk
        rcases b_sign N (tY := tY') hN hB' e4 (c := 59) (by omega) with ⟨iT2, iY2, f1, f2, f3, f4⟩ | ⟨iT2, jT2, iY2, jY2, st2, f1, f2, f3, f4, f5, f6⟩
        · rw [show f_X8_passSign N sT iT' jT' 59 = _ from f1, show f_X11_sign N iY' sY' tY' jY' 59 = _ from f2, q_bd, q_bd]
          exact Or.inl ⟨_, _, _, _, _, _, _, _, _, _, rfl, rfl, f3, e9.i f4⟩
        · rw [show f_X8_passSign N sT iT' jT' 59 = _ from f1, show f_X11_sign N iY' sY' tY' jY' 59 = _ from f2, q_bd, q_bd]
          dsimp only
          rw [if_neg (show ¬ (1 : Int32) = 0 by decide), if_neg (show ¬ (1 : Int32) = 0 by decide), f6.at.2.1, e8, h19, nI_1]
          have hD2 : DR iR' iC' tC' sC' (va_up iY2 19 (nI (n + 1))) sY' tY' P' Q' := by
            obtain ⟨x1, x2, x3, x4, x5, x6⟩ := e3
            have e20 : va_up iY2 19 (nI (n + 1)) 20 = iY' 20 := f6.at.2.2
            exact ⟨x1, x2, x3, by rw [e20]; exact x4, by rw [e20]; exact x5, by rw [e20]; exact x6⟩
          have hY2 : YF iY sY tY (va_up iY2 19 (nI (n + 1))) sY' tY' := e9.i (f6.gf.up rfl _)
          have hst2 := stL f3
          rcases ih kx ky st2 (n + 1) P' Q' iR' iT2 jT2 iC' tC' sC' (va_up iY2 19 (nI (n + 1))) sY' tY' jY2 (by omega) (by omega) (by omega) (by omega) hB' hR' f3 hD2 rfl (f5.trans (e6.trans h11)) (f6.at.1.trans (e7.trans h15)) with ⟨a1, a2, a3, a4, a5, a6, a7, a8, a9, a10, g1, g2, g3, g4⟩ | ⟨m, P3, Q3, a1, a2, a3, a4, a5, a6, a7, a8, a9, a10, hm, g1, g2, g3, g4, g5, g6, g7⟩
          · exact Or.inl ⟨_, _, _, _, _, _, _, _, _, _, g1, g2, g3, hY2.tr g4⟩
          · exact Or.inr ⟨m, P3, Q3, _, _, _, _, _, _, _, _, _, _, hm, g1, g2, g3, g4, g5, g6, hY2.tr g7⟩
end
