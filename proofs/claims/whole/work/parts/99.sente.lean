/-! PURE: sentence, whole -/
def KS6 (N : Nat) (tY : Nat → Nat → Int64) (z : YZ) : YK := match z with | (iY_9, sY_10, jY_11) => nv (upd (sY_10 6) 276 (iY_9 43)) (fun g_12 => f_X11_sentence_146 N iY_9 tY jY_11 N (va_up sY_10 6 g_12) 0)
section
variable (N : Nat) {qX : Nat → Option Nat} {iX : Nat → Int32} {iC : Nat → Int32} {tC : Nat → Nat → Int64} {sC : Nat → Nat → Int32} {sT : Nat → Nat → Int32} {iT : Nat → Int32} {jT : Nat → Int64} {iS iS2 : Nat → Int32} {sS sS2 : Nat → Nat → Int32} {P Q : Nat}
variable (iY : Nat → Int32) (sY : Nat → Nat → Int32) (tY : Nat → Nat → Int64) (jY : Nat → Int64)
theorem b_sentence (hN : 2000 ≤ N) {L : Nat} (hL9 : L ≤ 940) (h1 : iT 1 = nI L) (h2 : iY 2 = nI L) (hB : ∀ k, k < 940 → sT 0 k = sY 1 k &&& 255) (hR : ∀ k, k < 24 → tY 10 k = lN (e256 (wds k))) (hL : IL (sY 6) P Q) (hNm : NM (tC 2) (tY 9) 0 P Q) (hS : SP (sY 6) iS2 sS2 P Q) :
    ∃ r iT' jT' iS' sS' iS2' sS2' iY' sY' jY', f_X10_sentence N qX iX sT iT jT iC tC sC iS sS iS2 sS2 = some (r, va_up iT' 1 0, jT', iS', sS', iS2', sS2') ∧ f_X11_sentence N iY sY tY jY = some (r, iY', sY', jY') ∧ iT' 11 = iY' 15 ∧ iY' 2 = 0 ∧ (∀ k, gk k = true → k ≠ 0 → k ≠ 2 → iY' k = iY k) ∧ (∀ k, k ≠ 6 → k ≠ 8 → k ≠ 42 → sY' k = sY k) ∧ (∀ k, k < 276 → sY' 6 k = sY 6 k) ∧ SP (sY' 6) iS2' sS2' P Q := by
  unfold f_X10_sentence f_X7_readText f_X6_clear f_X11_sentence f_X11_taken
  rw [q_bd, q_bd]
  generalize hz : va_up (va_up (va_up (va_up (va_up (va_up (va_up (va_up (va_up (va_up (va_up iY 0 0) 3 (va_up iY 0 0 2)) 2 0) 4 0) 5 200) 15 0) 43 0) 44 0) 45 0) 46 1) 47 0 = zY
  have z3 : zY 3 = nI L := by rw [← hz]; exact h2
  have z4 : zY 4 = 0 := by rw [← hz]; rfl
  have z5 : zY 5 = nI 200 := by rw [← hz]; rfl
  have z2 : zY 2 = 0 := by rw [← hz]; rfl
  have z15 : zY 15 = 0 := by rw [← hz]; rfl
  have z43 : zY 43 = nI 0 := by rw [← hz]; rfl
  have z44 : zY 44 = nI 0 := by rw [← hz]; rfl
  have z45 : zY 45 = nI 0 := by rw [← hz]; rfl
  have z46 : zY 46 = nI 1 := by rw [← hz]; rfl
  have z47 : zY 47 = 0 := by rw [← hz]; rfl
  have zo : ∀ k, gk k = true → k ≠ 0 → k ≠ 2 → zY k = iY k := by
    intro k hk h0 h2
    have ne : ∀ j, gk j = false → k ≠ j := fun j hj e => by rw [e, hj] at hk; cases hk
    rw [← hz, q_vn _ _ (ne 47 rfl), q_vn _ _ (ne 46 rfl), q_vn _ _ (ne 45 rfl), q_vn _ _ (ne 44 rfl), q_vn _ _ (ne 43 rfl), q_vn _ _ (ne 15 rfl), q_vn _ _ (ne 5 rfl), q_vn _ _ (ne 4 rfl), q_vn _ _ h2, q_vn _ _ (ne 3 rfl), q_vn _ _ h0]
  obtain ⟨iT1, jT1, iY1, jY1, st, o1, o2, o3, o4, o5⟩ := b_open N (sT := sT) (iT := iT) (jT := jT) (iY := zY) (sY := sY) (jY := jY) (lim := 200) hN hB tY hL9 (by omega) h1 z3 z4 z5
  rw [show f_X8_open N sT iT jT 200 = _ from o1, o2, q_bd, q_bd]
  dsimp only
  simp only [q_jn]
  have k5 : ∀ {k : Nat} {v : Int32}, zY k = v → k ≠ 4 → k ≠ 11 → k ≠ 12 → k ≠ 13 → k ≠ 14 → k ≠ 18 → iY1 k = v := fun e a b c d f g => (o5 _ a b c d f g).trans e
  have hpo : PO P Q L 200 st 0 0 0 1 sT iT1 jT1 (va_up (va_up iS 0 0) 1 0) sS iY1 sY jY1 := by
    refine ⟨hB, hL, o3, k5 z47 (by omega) (by omega) (by omega) (by omega) (by omega) (by omega), ⟨rfl, rfl, k5 z44 (by omega) (by omega) (by omega) (by omega) (by omega) (by omega), k5 z43 (by omega) (by omega) (by omega) (by omega) (by omega) (by omega), k5 z45 (by omega) (by omega) (by omega) (by omega) (by omega) (by omega), k5 z46 (by omega) (by omega) (by omega) (by omega) (by omega) (by omega), fun k hk => absurd hk (Nat.not_lt_zero _), fun k hk => absurd hk (Nat.not_lt_zero _), fun k hk => absurd hk (Nat.not_lt_zero _)⟩, fun k hk => absurd hk (Nat.not_lt_zero _), Nat.le_refl _, by omega, by omega, by omega, by omega⟩
  have main := fun K6 => (b_rec N (K6 := K6) (P := P) (Q := Q) (L := L) (lim := 200) (sT := sT) (iC := iC) (sC := sC) hN hR hNm 22 1).2 (by omega) st 0 0 0 iT1 jT1 (va_up (va_up iS 0 0) 1 0) sS iY1 sY jY1 hpo (by omega) (Or.inl rfl)
  have y2 : iY1 2 = 0 := k5 z2 (by omega) (by omega) (by omega) (by omega) (by omega) (by omega)
  have gf : ∀ iZ, GF iY1 iZ → iZ 2 = 0 ∧ ∀ k, gk k = true → k ≠ 0 → k ≠ 2 → iZ k = iY k := fun iZ g => ⟨(g 2 rfl).trans y2, fun k hk h0 h2 => by rw [g k hk, o5.gf k hk]; exact zo k hk h0 h2⟩
  have fl : ∀ {j : Nat} {iZ : Nat → Int32} {sZ : Nat → Nat → Int32} {jZ : Nat → Int64} {iV : Nat → Int32} {jV : Nat → Int64} {iSV : Nat → Int32} {sSV : Nat → Nat → Int32}, j ≤ 1900 → (∀ k, LoP N tY (KS6 N tY) (k + j) iY1 sY jY1 = some (-1 - iZ 16, iZ, sZ, jZ)) → FT iV iZ → GF iY1 iZ → (∀ k, k ≠ 8 → k ≠ 42 → sZ k = sY k) → ∃ r iT' jT' iS' sS' iS2' sS2' iY' sY' jY', some ((-1 : Int32) - iV 12, va_up iV 1 0, jV, iSV, sSV, iS2, sS2) = some (r, va_up iT' 1 0, jT', iS', sS', iS2', sS2') ∧ LoP N tY (KS6 N tY) N iY1 sY jY1 = some (r, iY', sY', jY') ∧ iT' 11 = iY' 15 ∧ iY' 2 = 0 ∧ (∀ k, gk k = true → k ≠ 0 → k ≠ 2 → iY' k = iY k) ∧ (∀ k, k ≠ 6 → k ≠ 8 → k ≠ 42 → sY' k = sY k) ∧ (∀ k, k < 276 → sY' 6 k = sY 6 k) ∧ SP (sY' 6) iS2' sS2' P Q := by
    intro j iZ sZ jZ iV jV iSV sSV hj hl hF hG hf
    have e := hl (N - j)
    rw [show N - j + j = N by omega] at e
    obtain ⟨g2, g3⟩ := gf iZ hG
    refine ⟨_, _, _, _, _, _, _, iZ, sZ, jZ, rfl, by rw [hF.2]; exact e, hF.1, g2, g3, fun k _ k8 k42 => hf k k8 k42, fun k _ => by rw [hf 6 (by omega) (by omega)], ?_⟩
    rw [hf 6 (by omega) (by omega)]; exact hS
  show ∃ r iT' jT' iS' sS' iS2' sS2' iY' sY' jY', _ = some (r, va_up iT' 1 0, jT', iS', sS', iS2', sS2') ∧ LoP N tY (KS6 N tY) N iY1 sY jY1 = some (r, iY', sY', jY') ∧ _
  rcases main (KS6 N tY) with q | q
  · obtain ⟨j, iT', jT', iS', sS', iY', sY', jY', q1, q2, q3, q4, q5, q6⟩ := q
    rw [show f_X7_readCond N sT iT1 jT1 iC tC sC (va_up (va_up iS 0 0) 1 0) sS 1 = _ from q1]
    simp only [q_bd, if_true]
    exact fl (by omega) q3 q4 q5 q6
  · obtain ⟨j, iT', jT', iS', sS', iY', sY', jY', iY2, sY2, iY3, sY3, m', o', st', e1, e2, e3, e4, e5, n13, n14, c1, c2, f2, f3, e6, e7, e8, e9, e10, e11, e13⟩ := q
    have o1 : ¬ ((1 : Int32) = 0) := by decide
    have hst := TR_st e4
    have t3 := TR_y e4 f3
    have y45 : iY3 45 = nI 0 := e6.y45
    have hbe := y_behE N (h' := 0) (by omega) e4 n13 n14 c1 c2 f2 f3 y45
    rw [if_neg (fun x => x.2 rfl)] at hbe
    have h6 : iT' 6 = nI st' := e4.2.1
    have bad : ¬ iY' 11 = 0 → ∀ k, LoP N tY (KS6 N tY) (k + (1 + j)) iY1 sY jY1 = some (-1 - va_up (va_up iY3 15 1) 16 (nI st') 16, va_up (va_up iY3 15 1) 16 (nI st'), sY3, jY') := by
      intro n11 k
      rw [← Nat.add_assoc, e3, LoP_be e5 n11, hbe, q_bd]
      rfl
    obtain ⟨r1, r2, r3, r4⟩ := y_refuse N (sT := sT) (sY := sY3) (tY := tY) t3 1
    rw [show f_X7_readCond N sT iT1 jT1 iC tC sC (va_up (va_up iS 0 0) 1 0) sS 1 = _ from e1]
    simp only [q_bd, if_neg o1]
    rcases t_end e4 with ⟨t5, t7, t8, tt3, t11⟩ | ⟨t5, t11, ts⟩
    · rw [x_passEnd N t5 tt3]
      by_cases cL : 200 < L
      · rw [if_pos cL, h6]
        rw [if_pos cL] at t11
        simp only [q_bd, if_true]
        exact fl (by omega) (bad (by rw [t11]; decide)) r3 (e13.g.tr r4) e13.f
      · rw [if_neg cL]
        rw [if_neg cL] at t11
        simp only [q_bd, if_neg o1]
        unfold f_X6_copyFrom
        simp only [q_nv, q_bd]
        have hm : m' ≤ 40 := by omega
        have hm1 : m' ≠ 0 := by
          intro h0
          subst h0
          exact absurd e8 (by show ¬ 0 = 0 + 1; omega)
        have e : LoP N tY (KS6 N tY) N iY1 sY jY1 = some (iY3 44, iY3, va_up sY3 6 (snS (sY3 6) (sY3 8) m' (3 * m')), jY') := by
          have e := e3 (N - j)
          rw [show N - j + j = N by omega] at e
          rw [e]
          obtain ⟨k, hk⟩ : ∃ k, N - j = k + 2 := ⟨N - j - 2, by omega⟩
          rw [hk, LoP_end e5 t11 c1 c2, if_pos (show iY3 45 ≤ 0 by rw [y45]; decide)]
          unfold KS6
          dsimp only
          rw [q_nv]
          exact y_146 N hN hm e6.y43
        obtain ⟨g2, g3⟩ := gf iY3 e13.g
        refine ⟨_, iT', jT', iS', sS', _, _, iY3, _, jY', rfl, by rw [e]; exact congrArg (fun x => some (x, _)) (e6.y44.trans e6.s0.symm), ?_, g2, g3, fun k k6 k8 k42 => ?_, fun k hk => ?_, m', o', hm, e10, ?_, e6.s1, e6.s0, by omega, ?_, ?_, fun _ => ?_⟩
        · rw [e13.t, e13.y, o4]
          exact (k5 z15 (by omega) (by omega) (by omega) (by omega) (by omega) (by omega)).symm
        · rw [q_vn _ _ k6]; exact e13.f k k8 k42
        · rw [q_ve]; unfold snS; rw [if_neg (by omega), if_neg (by omega), e13.f 6 (by omega) (by omega)]
        · rw [q_ve]; unfold snS; rw [if_pos rfl]
        · refine CR_c e6.cr (fun k hk => ⟨?_, ?_, ?_⟩) (fun k hk => ?_)
          · show va_cpy (sS' 2) (sS2 2) 0 0 40 k = _
            rw [sb_cpy0 (by omega)]
          · show va_cpy (sS' 3) (sS2 3) 0 0 40 k = _
            rw [sb_cpy0 (by omega)]
          · show va_cpy (sS' 4) (sS2 4) 0 0 40 k = _
            rw [sb_cpy0 (by omega)]
          · show va_up sY3 6 (snS (sY3 6) (sY3 8) m' (3 * m')) 6 (277 + k) = _
            rw [q_ve]; unfold snS; rw [if_neg (by omega), if_pos (by omega), show 277 + k - 277 = k by omega]
        · refine HO_c (w := sS' 2) (fun k hk => ?_) e7
          show va_cpy (sS' 2) (sS2 2) 0 0 40 k = _
          rw [sb_cpy0 (by omega)]
        · rw [hgt_c (w := sS' 2) (fun k hk => ?_), e8]
          · rfl
          · show va_cpy (sS' 2) (sS2 2) 0 0 40 k = _
            rw [sb_cpy0 (by omega)]
    · rw [x_pEnd N t5, h6]
      simp only [q_bd, if_true]
      exact fl (by omega) (bad t11) r3 (e13.g.tr r4) e13.f
end
