/-! PURE: person, both sides -/
section
variable {N : Nat} {aU : Nat → Nat → Nat} {iX iT iC iR iC2 iM iM2 iE iP iB iS iS2 iI iC3 iM3 iS3 iI2 iC4 iM4 iS4 iY : Nat → Int32} {sT sC sC2 sM sM2 iU sE sP sB sS sS2 sC3 sM3 sS3 sC4 sM4 sS4 sY : Nat → Nat → Int32} {jT jY : Nat → Int64} {tC tC2 tC3 tC4 tY : Nat → Nat → Int64} {sU : Nat → Nat → Nat → Int32}
theorem y_thr0 : f_X11_throwsIf N iY sY tY jY 0 = some (0, va_up iY 0 0) := by
  unfold f_X11_throwsIf
  rw [q_jn, if_pos rfl]
  dsimp only
  rw [q_z0]
theorem y_thr1 : f_X11_throwsIf N iY sY tY jY 1 = some (1, va_up iY 0 1) := by
  unfold f_X11_throwsIf
  rw [q_jn, if_neg (by decide)]
  dsimp only
  rw [q_z1]
theorem y_perT (p1 p2 : Int32) (h : f_X11_isPerson N iY sY tY jY p1 = some 0 ∨ (f_X11_isPerson N iY sY tY jY p1 = some 1 ∧ f_X11_isIn N p2 0 7 = some 0)) : f_X11_person N iY sY tY jY p1 p2 = some (0, va_up iY 0 1) := by
  unfold f_X11_person
  rcases h with h | ⟨h, h2⟩
  · rw [h, q_bd, q_jn, q_jn, if_pos rfl]
    dsimp only
    rw [y_thr1, q_bd]
    dsimp only
    rw [if_neg (by decide)]
  · rw [h, q_bd, q_jn, q_jn, if_neg (by decide), h2, q_bd, if_pos rfl]
    dsimp only
    rw [y_thr1, q_bd]
    dsimp only
    rw [if_neg (by decide)]
theorem y_perR (p1 p2 : Int32) (h : f_X11_isPerson N iY sY tY jY p1 = some 1) (h2 : f_X11_isIn N p2 0 7 = some 1) : f_X11_person N iY sY tY jY p1 p2 = (if p2 = 0 then ck ((136 : Int32) + p1) 457 (some (((sY 6) (ix ((136 : Int32) + p1))), (va_up iY 0 0))) else (if p2 = 1 then bd (f_X11_knownBy N (va_up iY 0 0) sY tY jY p1) (fun r_14 => some (r_14, (va_up iY 0 0))) else (if p2 = 2 then ck ((124 : Int32) + p1) 457 (some (((sY 6) (ix ((124 : Int32) + p1))), (va_up iY 0 0))) else (if p2 = 3 then bd (f_X11_mayBy N (va_up iY 0 0) sY tY jY p1) (fun r_19 => some (r_19, (va_up iY 0 0))) else (if p2 = 4 then some (((((sY 6) 133) >>> (p1 &&& 31)) &&& 1), (va_up iY 0 0)) else (if p2 = 5 then some (((((sY 6) 134) >>> (p1 &&& 31)) &&& 1), (va_up iY 0 0)) else (if p2 = 6 then ck ((213 : Int32) + p1) 457 (some (((sY 6) (ix ((213 : Int32) + p1))), (va_up iY 0 0))) else bd (f_X11_wantsOf N (va_up iY 0 0) sY tY jY p1) (fun r_25 => some (r_25, (va_up iY 0 0)))))))))) := by
  unfold f_X11_person
  rw [h, q_bd, q_jn, q_jn, if_neg (by decide), h2, q_bd, if_neg (by decide)]
  dsimp only
  rw [y_thr0, q_bd]
  dsimp only
  rw [if_pos rfl]
set_option maxHeartbeats 2000000 in
theorem st_person (hN : 2000 ≤ N) (h : REL aU iX sT iT jT iC tC sC iR iC2 tC2 sC2 iM sM iM2 sM2 iU sU iE sE sP iP sB iB iS sS iS2 sS2 iI iC3 tC3 sC3 iM3 sM3 iS3 sS3 iI2 iC4 tC4 sC4 iM4 sM4 iS4 sS4 iY sY tY jY) (p1 p2 : Int32) :
    (∃ (k : Nat) (r : Int32), k < 8 ∧ p2 = nI k ∧ f_X1_isPerson N iC tC sC p1 = some 1 ∧ f_X10_pv N iM sM iC tC sC p1 k = some r ∧ f_X11_person N iY sY tY jY p1 p2 = some (r, va_up iY 0 0)) ∨
    ((f_X1_isPerson N iC tC sC p1 = some 0 ∨ (f_X1_isPerson N iC tC sC p1 = some 1 ∧ (p2 < 0 ∨ ¬ p2 ≤ 7))) ∧ f_X11_person N iY sY tY jY p1 p2 = some (0, va_up iY 0 1)) := by
  obtain ⟨P, Q, L, n, hC, hM, hL, hI, hNm, hSP, hL9, hT1, hY2, hB, h15, hX, hY, hK, hA, hS, hPk, hCk, hF, hB7, hBv, hR, hI0, hI1⟩ := h
  have hP := hL.P7
  have hQ := hL.Q5
  have x1 := x_isPerson N (tC := tC) hC hL.s0 p1
  have y1 := y_isPerson N iY sY tY jY hL.P7 hL.s0 p1
  cases hp : perB P p1 with
  | false =>
    rw [hp] at x1 y1
    exact Or.inr ⟨Or.inl x1, y_perT p1 p2 (Or.inl y1)⟩
  | true =>
    rw [hp] at x1 y1
    obtain ⟨a, ha, rfl⟩ := perB_t hL.P7 hp
    by_cases h0 : p2 < 0
    · refine Or.inr ⟨Or.inr ⟨x1, Or.inl h0⟩, y_perT _ p2 (Or.inr ⟨y1, ?_⟩)⟩
      unfold f_X11_isIn; rw [if_pos h0]
    · by_cases h7 : p2 ≤ 7
      · obtain ⟨k, hk, rfl⟩ := nI_of h0
        have hk8 : k < 8 := by
          rw [L7] at h7
          refine Nat.lt_of_not_le (fun h8 => ?_)
          exact nI_ge (show 7 < k by omega) hk h7
        have hin : f_X11_isIn N (nI k) 0 7 = some 1 := by unfold f_X11_isIn; rw [if_neg h0, if_neg (fun h => Int32.not_lt.mpr h7 h)]
        have e := y_perR (tY := tY) (jY := jY) (iY := iY) (nI a) (nI k) y1 hin
        match k, hk8, e with
        | 0, _, e =>
          refine Or.inl ⟨0, sY 6 (136 + a), by decide, rfl, x1, ?_, ?_⟩
          · show ck (nI a) 7 (some (sM 6 (ix (nI a)))) = _
            rw [q_ck (show a < 7 by omega) (by omega), show ix (nI a) = a from q_ix (by omega), hM.co (by omega)]
          · rw [e, if_pos (show nI 0 = 0 from rfl), show (136 : Int32) = nI 136 from rfl, nI_add, q_ck (show 136 + a < 457 by omega) (by omega), show ix (nI (136 + a)) = 136 + a from q_ix (by omega)]
        | 1, _, e =>
          refine Or.inl ⟨1, kn (sY 6) a, by decide, rfl, x1, ?_, ?_⟩
          · show f_X4_known N iM sM iC tC sC (nI a) = _
            exact x_known N hC hM (by omega)
          · rw [e, if_neg (show ¬ nI 1 = 0 by decide), if_pos (show nI 1 = 1 from rfl), y_knownBy N _ sY tY jY (by omega), q_bd]
        | 2, _, e =>
          refine Or.inl ⟨2, sY 6 (124 + a), by decide, rfl, x1, ?_, ?_⟩
          · show ck (nI a) 7 (some (sC 5 (ix (nI a)))) = _
            rw [q_ck (show a < 7 by omega) (by omega), show ix (nI a) = a from q_ix (by omega), hC.fo (by omega)]
          · rw [e, if_neg (show ¬ nI 2 = 0 by decide), if_neg (show ¬ nI 2 = 1 by decide), if_pos (show nI 2 = 2 from rfl), show (124 : Int32) = nI 124 from rfl, nI_add, q_ck (show 124 + a < 457 by omega) (by omega), show ix (nI (124 + a)) = 124 + a from q_ix (by omega)]
        | 3, _, e =>
          refine Or.inl ⟨3, my (sY 6) P a, by decide, rfl, x1, ?_, ?_⟩
          · show f_X4_dealable N iM sM iC tC sC (nI a) = _
            exact x_dealable N hC hM hL.s0 (by omega)
          · rw [e, if_neg (show ¬ nI 3 = 0 by decide), if_neg (show ¬ nI 3 = 1 by decide), if_neg (show ¬ nI 3 = 2 by decide), if_pos (show nI 3 = 3 from rfl), y_mayBy N _ sY tY jY (by omega) hL.s0, q_bd]
        | 4, _, e =>
          refine Or.inl ⟨4, bI (tb (sY 6 133) a), by decide, rfl, x1, ?_, ?_⟩
          · show some ((us (iM 2) (nI a)) &&& 1) = _
            rw [hM.ho, q_usb _ (by omega)]
          · rw [e, if_neg (show ¬ nI 4 = 0 by decide), if_neg (show ¬ nI 4 = 1 by decide), if_neg (show ¬ nI 4 = 2 by decide), if_neg (show ¬ nI 4 = 3 by decide), if_pos (show nI 4 = 4 from rfl), q_srb _ (by omega)]
        | 5, _, e =>
          refine Or.inl ⟨5, bI (tb (sY 6 134) a), by decide, rfl, x1, ?_, ?_⟩
          · show some ((us (iM 3) (nI a)) &&& 1) = _
            rw [hM.vd, q_usb _ (by omega)]
          · rw [e, if_neg (show ¬ nI 5 = 0 by decide), if_neg (show ¬ nI 5 = 1 by decide), if_neg (show ¬ nI 5 = 2 by decide), if_neg (show ¬ nI 5 = 3 by decide), if_neg (show ¬ nI 5 = 4 by decide), if_pos (show nI 5 = 5 from rfl), q_srb _ (by omega)]
        | 6, _, e =>
          refine Or.inl ⟨6, sY 6 (213 + a), by decide, rfl, x1, ?_, ?_⟩
          · show ck (nI a) 7 (some (sM 7 (ix (nI a)))) = _
            rw [q_ck (show a < 7 by omega) (by omega), show ix (nI a) = a from q_ix (by omega), hM.hu (by omega)]
          · rw [e, if_neg (show ¬ nI 6 = 0 by decide), if_neg (show ¬ nI 6 = 1 by decide), if_neg (show ¬ nI 6 = 2 by decide), if_neg (show ¬ nI 6 = 3 by decide), if_neg (show ¬ nI 6 = 4 by decide), if_neg (show ¬ nI 6 = 5 by decide), if_pos (show nI 6 = 6 from rfl), show (213 : Int32) = nI 213 from rfl, nI_add, q_ck (show 213 + a < 457 by omega) (by omega), show ix (nI (213 + a)) = 213 + a from q_ix (by omega)]
        | 7, _, e =>
          refine Or.inl ⟨7, wan (sY 6) a, by decide, rfl, x1, ?_, ?_⟩
          · show f_X4_wanting N iM sM iC tC sC (nI a) = _
            exact x_wanting N hN hM (by omega)
          · rw [e, if_neg (show ¬ nI 7 = 0 by decide), if_neg (show ¬ nI 7 = 1 by decide), if_neg (show ¬ nI 7 = 2 by decide), if_neg (show ¬ nI 7 = 3 by decide), if_neg (show ¬ nI 7 = 4 by decide), if_neg (show ¬ nI 7 = 5 by decide), if_neg (show ¬ nI 7 = 6 by decide), y_wantsOf N _ sY tY jY hN (show a < 7 by omega) hL.Q5 hL.s1 hI.wa, q_bd]
        | n + 8, h, _ => exact absurd h (by omega)
      · refine Or.inr ⟨Or.inr ⟨x1, Or.inr h7⟩, y_perT _ p2 (Or.inr ⟨y1, ?_⟩)⟩
        unfold f_X11_isIn; rw [if_neg h0, if_pos (Int32.not_le.mp h7)]
end
