/-! PURE: odds; calls that only read; the tape -/
noncomputable def oddC (P Q : Nat) (s : Nat → Int32) (a : Nat) (z : Int32) : Nat → Int32
  | 0 => 0
  | i + 1 => if (drS P Q 10 (z + nI i) s).2.2 (136 + a) ≤ s (136 + a) then oddC P Q s a z i else oddC P Q s a z i + 1
section
variable (N : Nat) {qX : Nat → Option Nat} {iX : Nat → Int32} {iC : Nat → Int32} {tC : Nat → Nat → Int64} {sC : Nat → Nat → Int32} {iM iM2 : Nat → Int32} {sM sM2 : Nat → Nat → Int32} {P Q : Nat}
variable (iY : Nat → Int32) (sY : Nat → Nat → Int32) (tY : Nat → Nat → Int64) (jY : Nat → Int64)
theorem x_odds {s : Nat → Int32} (hN : 2000 ≤ N) (hC : CP s iC sC) (hM : MP s iM sM) (hL : IL s P Q) (hI : ID s P Q) {a m : Nat} (ha : a < 7) (hm : m ≤ 30) (z : Int32) :
    ∃ iM' sM', f_X10_odds_30 N qX iX iM sM iC tC sC (nI a) (nI m) z N iM2 sM2 0 0 = some (oddC P Q s a z m, iM', sM') := by
  obtain ⟨y, hy, e⟩ := q_loop0 (fun k (x : Int32 × (Nat → Int32) × (Nat → Nat → Int32)) v => f_X10_odds_30 N qX iX iM sM iC tC sC (nI a) (nI m) z k x.2.1 x.2.2 x.1 v) (fun x => some (x.1, x.2.1, x.2.2)) m N (by omega) (fun i x => x.1 = oddC P Q s a z i) (0, iM2, sM2) rfl (fun k x hx => by
      show f_X10_odds_30 N qX iX iM sM iC tC sC (nI a) (nI m) z (k + 1) _ _ _ _ = _
      rw [f_X10_odds_30, if_pos (nI_le (Nat.le_refl _) (by omega))]) (fun k i x hi hx => by
      obtain ⟨iM3, sM3, e3, hM3⟩ := x_copyM N hM x.2.1 x.2.2
      obtain ⟨iM4, sM4, e4, hM4⟩ := x_passDrawn N (tC := tC) hN 10 (by omega) 10 0 N s (va_up iM3 12 (z + nI i)) sM3 (by omega) (by omega) (hM3.i12 _) hC hL hI
      rw [q_ve] at e4 hM4
      have e4' : f_X4_passDrawnDays N iM3 sM3 iC tC sC 10 (z + nI i) = some (nI (0 + (drS P Q 10 (z + nI i) s).1), iM4, sM4) := e4
      refine ⟨(oddC P Q s a z (i + 1), iM4, sM4), rfl, ?_⟩
      show f_X10_odds_30 N qX iX iM sM iC tC sC (nI a) (nI m) z (k + 1) x.2.1 x.2.2 x.1 (nI i) = f_X10_odds_30 N qX iX iM sM iC tC sC (nI a) (nI m) z k iM4 sM4 (oddC P Q s a z (i + 1)) (nI (i + 1))
      rw [f_X10_odds_30, if_neg (nI_ge hi (by omega)), e3, q_bd]
      dsimp only
      rw [e4', q_bd]
      dsimp only
      rw [q_ck ha (by omega), q_ck ha (by omega), q_jn]
      simp only [show ix (nI a) = a from q_ix (by omega), hM4.co ha, hM.co ha, nI_1, hx, oddC]
      split
      · rfl
      · rfl)
  obtain ⟨c, iM', sM'⟩ := y
  have hy' : c = oddC P Q s a z m := hy
  subst hy'
  exact ⟨iM', sM', e⟩
theorem y_odds (hN : 2000 ≤ N) (hL : IL (sY 6) P Q) (hI : ID (sY 6) P Q) {a m : Nat} (ha : a < 7) (hm : m ≤ 30) (z : Int32) (hb : ∀ k, k < 145 → sY 22 k = sY 6 (131 + k)) :
    ∃ w, f_X11_odds_47 N tY jY (nI a) (nI m) z (sY 6 (136 + a)) N iY sY 0 0 = some (oddC P Q (sY 6) a z m, va_up iY 38 w, sY) := by
  obtain ⟨y, hy, e⟩ := q_loop0 (fun k (x : Int32 × Int32) v => f_X11_odds_47 N tY jY (nI a) (nI m) z (sY 6 (136 + a)) k (va_up iY 38 x.2) sY x.1 v) (fun x => some (x.1, va_up iY 38 x.2, sY)) m N (by omega) (fun i x => x.1 = oddC P Q (sY 6) a z i) (0, iY 38) rfl (fun k x hx => by
      show f_X11_odds_47 N tY jY (nI a) (nI m) z (sY 6 (136 + a)) (k + 1) _ _ _ _ = _
      rw [f_X11_odds_47, if_pos (nI_le (Nat.le_refl _) (by omega))]) (fun k i x hi hx => by
      obtain ⟨w, e4⟩ := y_draws N hN tY jY 10 (by omega) 10 0 N (va_up (va_up iY 38 x.2) 38 (z + nI i)) sY (by omega) (by omega) (P := P) (Q := Q) hL hI
      rw [q_ve, q_vv, q_vv] at e4
      have e4' : f_X11_draws N (va_up iY 38 x.2) sY tY jY 10 (z + nI i) = some (nI (0 + (drS P Q 10 (z + nI i) (sY 6)).1), va_up iY 38 w, va_up sY 6 (drS P Q 10 (z + nI i) (sY 6)).2.2) := by
        unfold f_X11_draws; rw [q_vv]; exact e4
      have eb : va_up (va_up sY 6 (drS P Q 10 (z + nI i) (sY 6)).2.2) 6 (bkS (drS P Q 10 (z + nI i) (sY 6)).2.2 (sY 22) 0 145) = sY := by
        rw [q_vv]
        refine up_idS ?_
        funext k
        unfold bkS
        by_cases h : 131 ≤ k ∧ k < 131 + 145
        · rw [if_pos h, hb _ (by omega), show 131 + (0 + (k - 131)) = k by omega]
        · rw [if_neg h, drS_o hL.P7 hL.Q5 _ _ _ _ (by omega)]
      refine ⟨(oddC P Q (sY 6) a z (i + 1), w), rfl, ?_⟩
      show f_X11_odds_47 N tY jY (nI a) (nI m) z (sY 6 (136 + a)) (k + 1) (va_up iY 38 x.2) sY x.1 (nI i) = f_X11_odds_47 N tY jY (nI a) (nI m) z (sY 6 (136 + a)) k (va_up iY 38 w) sY (oddC P Q (sY 6) a z (i + 1)) (nI (i + 1))
      rw [f_X11_odds_47, if_neg (nI_ge hi (by omega)), e4', q_bd]
      dsimp only
      rw [q_jn]
      dsimp only
      rw [y_back N _ _ tY jY hN, q_bd, q_ve, q_vn _ _ (show 22 ≠ 6 by omega), eb]
      simp (disch := omega) only [L2, L3, L4, L5, L6, L7, L8, L9, L10, L11, L12, L13, L14, L15, L16, L17, L18, L19, L20, L21, L22, L23, L24, L30, L35, L40, L41, L47, L48, L56, L57, L59, L60, L61, L62, L80, L82, L96, L97, L117, L122, L124, L131, L136, L143, L145, L178, L200, L213, L220, L224, L227, L256, L277, L400, L457, L900, L920, L940, L999, L1015, L9999, L1000000, nI_add, pk_mul, nI_1, q_ck, q_ix]
      rw [hx, oddC]
      split
      · rw [Int32.add_zero]
      · rfl)
  obtain ⟨c, w⟩ := y
  have hy' : c = oddC P Q (sY 6) a z m := hy
  subst hy'
  have e' : f_X11_odds_47 N tY jY (nI a) (nI m) z (sY 6 (136 + a)) N (va_up iY 38 (iY 38)) sY 0 0 = some (oddC P Q (sY 6) a z m, va_up iY 38 w, sY) := e
  rw [q_vid] at e'
  exact ⟨w, e'⟩
where up_idS {sY : Nat → Nat → Int32} {k : Nat} {v : Nat → Int32} (h : v = sY k) : va_up sY k v = sY := by rw [h, q_vid]
end
