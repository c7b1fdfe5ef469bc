/-! PURE: a book read and judged -/
def BLs (P Q n : Nat) (sB : Nat → Nat → Int32) (r : Nat → Int32) : Prop := ∀ j, j < n → BL P Q (sB 2 j) (sB 3 j) (sB 4 j) (sB 5 j) (r (4 * j)) (r (4 * j + 1)) (r (4 * j + 2)) (r (4 * j + 3))
abbrev KB : Type := Option (Int32 × (Nat → Nat → Int32) × (Nat → Int32) × (Nat → Int32) × (Nat → Int64))
def KXb (N : Nat) (sT : Nat → Nat → Int32) (z : (Nat → Nat → Int32) × (Nat → Int32) × (Nat → Int32) × (Nat → Int64)) : KB :=
  match z with | (sB_7, iB_8, iT_9, jT_10) => bd (f_X8_passEnd N sT iT_9 jT_10) (fun (r_11, iT_12) => zb r_11 (some (r_11, sB_7, iB_8, iT_12, jT_10)))
section
variable (N : Nat) {sT : Nat → Nat → Int32}
theorem y_bLineE (hN : 2000 ≤ N) {iT : Nat → Int32} {jT : Nat → Int64} {iY : Nat → Int32} {sY : Nat → Nat → Int32} {tY : Nat → Nat → Int64} {jY : Nat → Int64} {L lim st : Nat} (hR : ∀ k, k < 24 → tY 10 k = lN (e256 (wds k))) (h : TR L lim st iT jT iY jY) (h5 : iT 5 = 0) (h7 : iT 7 = -1) : f_X11_bookLine N iY sY tY jY = some (0, va_up (va_up iY 15 1) 16 (nI st), sY, jY) := by
  unfold f_X11_bookLine
  have e : ¬ iT 7 = nI 12 := fun e => nI_m1 (b := 12) (by omega) (by rw [← e, h7])
  rw [q_nv, lw12, t_word N h (k := 12) (by omega), q_bd, q_jn, q_df e]
  unfold f_X11_looksAt
  have hnm : nmB iT = false := decide_eq_false (fun e => by rw [h5] at e; exact absurd e.1 (by decide))
  obtain ⟨r1, r2, r3, r4⟩ := y_refuse N (sT := fun _ _ => 0) (sY := sY) (tY := tY) h 1
  rw [y_isName N hN hR h, q_bd, hnm, bI_ff, r2, q_bd]
  dsimp only
  rw [q_z0, q_bd]; rfl
theorem bk_loop (hN : 2000 ≤ N) {L lim P Q : Nat} {iC : Nat → Int32} {tC : Nat → Nat → Int64} {sC : Nat → Nat → Int32} {tY : Nat → Nat → Int64} {iB : Nat → Int32} (v1 : Int32) (hlim : lim ≤ 900) (hR : ∀ k, k < 24 → tY 10 k = lN (e256 (wds k))) (K101 K9 : ((Nat → Int32) × (Nat → Nat → Int32) × (Nat → Int64)) → Option (Int32 × (Nat → Int32) × (Nat → Nat → Int32) × (Nat → Int64))) :
    ∀ (d kx ky st n : Nat) (sB : Nat → Nat → Int32) (iT : Nat → Int32) (jT : Nat → Int64) (iY : Nat → Int32) (sY : Nat → Nat → Int32) (jY : Nat → Int64),
      min L lim - st ≤ d → d + 1 < kx → d + 1 < ky → n ≤ 40 → (∀ k, k < 940 → sT 0 k = sY 1 k &&& 255) → IL (sY 6) P Q → NM (tC 2) (tY 9) 0 P Q → TR L lim st iT jT iY jY → BLs P Q n sB (sY 8) → iY 39 = nI n → iT 11 = 0 → iY 15 = 0 →
      (∃ m sB' iT' jT' iY' sY' jY', f_X0_readText_17 N sT iC tC sC (KXb N sT) kx sB (va_up iB 6 (nI n)) iT jT (nI n) = some (0, sB', va_up iB 6 (nI m), iT', jT') ∧ f_X11_book_39 N tY v1 K101 K9 ky iY sY jY = K101 (iY', sY', jY') ∧ FT iT' iY' ∧ GF iY iY' ∧ ∀ k, k ≠ 8 → sY' k = sY k) ∨
      (∃ m sB' iT' jT' iY' sY' jY', m ≤ 40 ∧ f_X0_readText_17 N sT iC tC sC (KXb N sT) kx sB (va_up iB 6 (nI n)) iT jT (nI n) = some (1, sB', va_up iB 6 (nI m), iT', jT') ∧ f_X11_book_39 N tY v1 K101 K9 ky iY sY jY = K9 (iY', sY', jY') ∧ BLs P Q m sB' (sY' 8) ∧ iY' 39 = nI m ∧ iT' 11 = 0 ∧ iY' 15 = 0 ∧ GF iY iY' ∧ ∀ k, k ≠ 8 → sY' k = sY k) := by
  have stL : ∀ {st : Nat} {iT : Nat → Int32} {jT : Nat → Int64} {iY : Nat → Int32} {jY : Nat → Int64}, TR L lim st iT jT iY jY → st ≤ min L lim := by
    intro st iT jT iY jY h
    obtain ⟨-, -, -, a, b, -, hc⟩ := h
    rcases hc with ⟨e, _⟩ | ⟨e, _⟩ <;> omega
  have fin : ∀ (kx ky st n : Nat) (sB : Nat → Nat → Int32) (iT : Nat → Int32) (jT : Nat → Int64) (iY : Nat → Int32) (sY : Nat → Nat → Int32) (jY : Nat → Int64), n ≤ 40 → TR L lim st iT jT iY jY → BLs P Q n sB (sY 8) → iY 39 = nI n → iT 11 = 0 → iY 15 = 0 → iT 5 = 0 → iT 7 = -1 → iT 3 = bI (decide (lim < L)) → iY 11 = (if lim < L then 4 else 0) →
      (∃ m sB' iT' jT' iY' sY' jY', f_X0_readText_17 N sT iC tC sC (KXb N sT) (kx + 1) sB (va_up iB 6 (nI n)) iT jT (nI n) = some (0, sB', va_up iB 6 (nI m), iT', jT') ∧ f_X11_book_39 N tY v1 K101 K9 (ky + 1) iY sY jY = K101 (iY', sY', jY') ∧ FT iT' iY' ∧ GF iY iY' ∧ ∀ k, k ≠ 8 → sY' k = sY k) ∨
      (∃ m sB' iT' jT' iY' sY' jY', m ≤ 40 ∧ f_X0_readText_17 N sT iC tC sC (KXb N sT) (kx + 1) sB (va_up iB 6 (nI n)) iT jT (nI n) = some (1, sB', va_up iB 6 (nI m), iT', jT') ∧ f_X11_book_39 N tY v1 K101 K9 (ky + 1) iY sY jY = K9 (iY', sY', jY') ∧ BLs P Q m sB' (sY' 8) ∧ iY' 39 = nI m ∧ iT' 11 = 0 ∧ iY' 15 = 0 ∧ GF iY iY' ∧ ∀ k, k ≠ 8 → sY' k = sY k) := by
    intro kx ky st n sB iT jT iY sY jY hn h hb h39 h11 h15 h5 h7 h3 hy
    rw [f_X0_readText_17, f_X11_book_39, if_neg (show ¬ (40 : Int32) < nI n from fun e => by have := (nI_ltI (a := 40) (by omega) (by omega)).mp e; omega)]
    unfold f_X8_isAtEnd
    rw [if_pos h5, q_bd, if_neg (show ¬ (1 : Int32) = 0 by decide)]
    unfold KXb
    dsimp only
    rw [x_passEnd N h5 h3]
    by_cases c : lim < L
    · rw [if_pos c] at hy ⊢
      rw [q_bd, if_neg (show ¬ iY 11 = 0 by rw [hy]; decide), y_bLineE N hN hR h h5 h7, q_bd, h.2.1]
      exact Or.inl ⟨n, _, _, _, _, _, _, rfl, rfl, ⟨rfl, rfl⟩, ((GF.rf iY).up rfl _).up rfl _, fun _ _ => rfl⟩
    · rw [if_neg c] at hy ⊢
      rw [q_bd, if_pos hy]
      exact Or.inr ⟨n, _, _, _, _, _, _, hn, rfl, rfl, hb, h39, h11, h15, GF.rf _, fun _ _ => rfl⟩
  intro d
  induction d with
  | zero =>
    intro kx ky st n sB iT jT iY sY jY hd hkx hky hn hB hL hNm h hb h39 h11 h15
    obtain ⟨kx, rfl⟩ : ∃ m, kx = m + 1 := ⟨kx - 1, by omega⟩
    obtain ⟨ky, rfl⟩ : ∃ m, ky = m + 1 := ⟨ky - 1, by omega⟩
    have := stL h
    rcases t_end h with ⟨h5, h7, h8, h3, hy⟩ | ⟨h5, hy, hs⟩
    · exact fin kx ky st n sB iT jT iY sY jY hn h hb h39 h11 h15 h5 h7 h3 hy
    · omega
  | succ d ih =>
    intro kx ky st n sB iT jT iY sY jY hd hkx hky hn hB hL hNm h hb h39 h11 h15
    obtain ⟨kx, rfl⟩ : ∃ m, kx = m + 1 := ⟨kx - 1, by omega⟩
    obtain ⟨ky, rfl⟩ : ∃ m, ky = m + 1 := ⟨ky - 1, by omega⟩
    have hst := stL h
    rcases t_end h with ⟨h5, h7, h8, h3, hy⟩ | ⟨h5, hy, hs⟩
    · exact fin kx ky st n sB iT jT iY sY jY hn h hb h39 h11 h15 h5 h7 h3 hy
    · rw [f_X0_readText_17, f_X11_book_39, if_neg (show ¬ (40 : Int32) < nI n from fun e => by have := (nI_ltI (a := 40) (by omega) (by omega)).mp e; omega), if_neg hy]
      unfold f_X8_isAtEnd
      rw [if_neg h5, q_bd, if_pos rfl]
      rcases b_bLine N (iC := iC) (sC := sC) (sB := sB) (iB := va_up iB 6 (nI n)) hN hB hR hL hNm h hn rfl h39 with ⟨sB', iT', jT', iY', sY', jY', e1, e2, e3, e4, e5⟩ | ⟨sB', iT', jT', iY', sY', jY', st', e1, e2, e3, e4, e5, e6, e7, e8, e9, e10, e11⟩
      · rw [e1, e2, q_bd, q_bd]
        exact Or.inl ⟨n, _, _, _, _, _, _, rfl, rfl, e3, e4, e5⟩
      · rw [e1, e2, q_bd, q_bd]
        dsimp only
        rw [if_neg (show ¬ (1 : Int32) = 0 by decide), if_neg (show ¬ (1 : Int32) = 0 by decide)]
        have hB' : ∀ k, k < 940 → sT 0 k = sY' 1 k &&& 255 := fun k hk => by rw [e7 1 (by omega)]; exact hB k hk
        have hL' : IL (sY' 6) P Q := by rw [e7 6 (by omega)]; exact hL
        have hb' : BLs P Q (n + 1) sB' (sY' 8) := by
          intro j hj
          rcases Nat.lt_or_ge j n with h1 | h1
          · obtain ⟨x1, x2, x3, x4⟩ := e5 j h1
            rw [x1, x2, x3, x4, e6 _ (by omega), e6 _ (by omega), e6 _ (by omega), e6 _ (by omega)]
            exact hb j h1
          · rw [show j = n by omega]; exact e4
        have e39 : iY' 39 = nI n := (e11 39 (by omega) (by omega) (by omega) (by omega) (by omega) (by omega)).trans h39
        rcases b_sign N (sY := sY') (tY := tY) hN hB' e8 (c := 59) (by omega) with ⟨iT2, iY2, f1, f2, f3, f4⟩ | ⟨iT2, jT2, iY2, jY2, st2, f1, f2, f3, f4, f5, f6⟩
        · rw [show f_X8_passSign N sT iT' jT' 59 = _ from f1, show f_X11_sign N iY' sY' tY jY' 59 = _ from f2, q_bd, q_bd]
          exact Or.inl ⟨n, _, _, _, _, _, _, rfl, rfl, f3, e11.gf.tr f4, e7⟩
        · rw [show f_X8_passSign N sT iT' jT' 59 = _ from f1, show f_X11_sign N iY' sY' tY jY' 59 = _ from f2, q_bd, q_bd]
          dsimp only
          rw [if_neg (show ¬ (1 : Int32) = 0 by decide), if_neg (show ¬ (1 : Int32) = 0 by decide), q_ve, q_vv, nI_1, f6 39 (by omega) (by omega) (by omega) (by omega) (by omega) (by omega), e39, nI_1]
          have gf2 : GF iY (va_up iY2 39 (nI (n + 1))) := (e11.gf.tr f6.gf).up rfl _
          have hst2 := stL f3
          rcases ih kx ky st2 (n + 1) sB' iT2 jT2 (va_up iY2 39 (nI (n + 1))) sY' jY2 (by omega) (by omega) (by omega) (by omega) hB' hL' hNm f3 hb' rfl (f5.trans (e10.trans h11)) (f6.at.1.trans (e11.at.1.trans h15)) with ⟨m, a1, a2, a3, a4, a5, a6, g1, g2, g3, g4, g5⟩ | ⟨m, a1, a2, a3, a4, a5, a6, hm, g1, g2, g3, g4, g5, g6, g7, g8⟩
          · exact Or.inl ⟨m, _, _, _, _, _, _, g1, g2, g3, gf2.tr g4, fun k hk => (g5 k hk).trans (e7 k hk)⟩
          · exact Or.inr ⟨m, _, _, _, _, _, _, hm, g1, g2, g3, g4, g5, g6, gf2.tr g7, fun k hk => (g8 k hk).trans (e7 k hk)⟩
theorem wI_z {w base : Nat} (hw : w < 40) (hb : base < 100) : ((0 : Int32) = nI w ↔ w = 0) := by
  rw [show (0 : Int32) = nI 0 from rfl, nI_eq (by omega) (by omega)]; omega
/-- a line lived on both sides -/
theorem b_live (hN : 2000 ≤ N) {P Q i : Nat} {iC : Nat → Int32} {tC : Nat → Nat → Int64} {sC : Nat → Nat → Int32} {iM : Nat → Int32} {sM : Nat → Nat → Int32} {sB : Nat → Nat → Int32} {iB : Nat → Int32} (iY : Nat → Int32) (sY : Nat → Nat → Int32) (tY : Nat → Nat → Int64) (jY : Nat → Int64) {r0 r1 r2 r3 : Int32} (hi : i < 40) (hC : CP (sY 6) iC sC) (hM : MP (sY 6) iM sM) (hL : IL (sY 6) P Q) (hI : ID (sY 6) P Q) (hb : BL P Q (sB 2 i) (sB 3 i) (sB 4 i) (sB 5 i) r0 r1 r2 r3) :
    ∃ w s' iM' sM', w < 100 ∧ f_X0_liveLine N sB iB iM sM iC tC sC (nI i) = some (nI w, iM', sM') ∧ f_X11_does N iY sY tY jY r0 r1 r2 r3 = some (nI w, va_up sY 6 s') ∧ MP s' iM' sM' ∧ ID s' P Q ∧ (∀ k, k < 131 ∨ 276 ≤ k → s' k = sY 6 k) ∧ (w ≠ 0 → s' = sY 6) := by
  have hP := hL.P7
  have hQ := hL.Q5
  have e6 : va_up sY 6 (sY 6) = sY := q_vid _ _
  unfold f_X0_liveLine f_X11_does
  rw [q_ck hi (by omega), show ix (nI i) = i from q_ix (by omega), q_jn]
  simp only [q_ck hi (show 40 ≤ 2000 by omega)]
  have out : ∀ (m w : Nat), m ≤ 3 → w < 10 → w ≠ 0 → (if nI w ≤ 0 then some ((0 : Int32), sY) else some ((((10 : Int32) * nI m) + nI w), sY)) = some (nI (10 * m + w), va_up sY 6 (sY 6)) := by
    intro m w hm hw h0
    rw [nI_le0 (by omega), if_neg h0, e6, L10, pk_mul, nI_add]
  rcases hb with ⟨hw, hr, v, v1, v2, e3, er⟩ | ⟨hw, hr, p, g, q, hp, hg, hq, e3, er, e4, er2, e5, er3⟩ | ⟨hw, hr, p, q, hp, hq, e3, er, e4, er2⟩ | ⟨hw, hr, p, hp, e3, er⟩ | ⟨hw, hr, p, q, x, hp, hq, hx, e3, er, e4, er2, e5, er3⟩
  · -- days
    rw [hw, hr, e3, er, if_neg (by decide), if_neg (by decide), if_neg (by decide), if_neg (by decide), if_neg (by decide), if_neg (by decide), if_neg (by decide), if_neg (by decide)]
    unfold f_X0_liveDays
    obtain ⟨d, hd, ed⟩ := hI.da
    rw [hM.da, ed, L400, pk_sub hd, i_le (by omega) (by omega), nI_add, i_le (by omega) (by omega)]
    by_cases c : v ≤ 400 - d
    · rw [if_pos c, if_pos (by omega)]
      obtain ⟨iM', sM', g1, g2⟩ := x_passDays N (tC := tC) hN v v2 v 0 N (sY 6) iM sM (by omega) (by omega) hM hC hL hI
      have g3 := y_goesOn N hN iY tY jY v v2 v 0 N sY (by omega) (by omega) (P := P) (Q := Q) hL hI
      refine ⟨0, (goS P v (sY 6)).2, iM', sM', by omega, ?_, ?_, g2, ID_go v _ hL hI, fun k hk => goS_o hP v _ k hk, fun h => absurd rfl h⟩
      · rw [show f_X4_passDays N iM sM iC tC sC (nI v) = _ from g1, q_bd]; rfl
      · rw [show f_X11_goesOn N iY sY tY jY (nI v) = _ from g3, q_bd]; rfl
    · rw [if_neg c, if_neg (by omega)]
      exact ⟨41, sY 6, iM, sM, by omega, rfl, by rw [e6]; rfl, hM, hI, fun _ _ => rfl, fun _ => rfl⟩
  · -- buys
    rw [hw, hr, e3, er, e4, er2, e5, er3, if_neg (by decide), if_pos rfl, if_pos rfl]
    unfold f_X0_liveBuy
    rw [x_whyNotBuy N hC hM hI hL.s0 (by omega) (by omega) (by omega), q_bd, y_whyBuy N _ sY tY jY (P := P) (by omega) (by omega) (by omega) hL.s0, q_bd, nI_eq0 (whyB_lt _ _ _ _ _), nI_eq0 (whyB_lt _ _ _ _ _)]
    by_cases c : whyB (sY 6) P p g q = 0
    · obtain ⟨iM', sM', g1, g2, -⟩ := x_doBuy N (tC := tC) hC hM (a := p) (g := g) (b := q) (by omega) (by omega) (by omega)
      rw [if_pos c, if_pos c, g1, q_bd, y_buys N _ sY tY jY (by omega) (by omega) (by omega), q_bd, c]
      exact ⟨0, _, _, _, by omega, rfl, rfl, g2, ID_buy hL hI hp hq (by omega) c, fun k hk => buy_o (by omega) (by omega) (by omega) hk, fun h => absurd rfl h⟩
    · rw [if_neg c, if_neg c]
      have hlt : whyB (sY 6) P p g q < 10 := by
        unfold whyB
        repeat' split
        all_goals omega
      exact ⟨whyB (sY 6) P p g q, sY 6, iM, sM, by omega, rfl, (out 0 _ (by omega) hlt c).trans (by rw [show 10 * 0 + whyB (sY 6) P p g q = whyB (sY 6) P p g q by omega]), hM, hI, fun _ _ => rfl, fun _ => rfl⟩
  · -- nods
    rw [hw, hr, e3, er, e4, er2, if_neg (by decide), if_neg (by decide), if_pos rfl, if_neg (by decide), if_pos rfl]
    unfold f_X0_liveNod
    rw [x_whyNotNod N hC hM (by omega) (by omega), q_bd, y_whyNod N _ sY tY jY (by omega) (by omega), q_bd, nI_eq0 (whyN_lt _ _ _), nI_eq0 (whyN_lt _ _ _)]
    by_cases c : whyN (sY 6) p q = 0
    · obtain ⟨iM', sM', g1, g2, -⟩ := x_doNod N (iC := iC) (tC := tC) (sC := sC) hM (a := p) (b := q) (by omega) (by omega)
      rw [if_pos c, if_pos c, g1, q_bd, y_nods N _ sY tY jY (by omega) (by omega), q_bd, c]
      exact ⟨0, _, _, _, by omega, rfl, rfl, g2, ID_nod hP hI hp hq (whyN_0 c), fun k hk => nod_o (by omega) (by omega) hk, fun h => absurd rfl h⟩
    · rw [if_neg c, if_neg c]
      have hlt : whyN (sY 6) p q < 10 := by
        unfold whyN
        repeat' split
        all_goals omega
      exact ⟨10 + whyN (sY 6) p q, sY 6, iM, sM, by omega, by rw [q_bd, L10, nI_add], out 1 _ (by omega) hlt c, hM, hI, fun _ _ => rfl, fun _ => rfl⟩
  · -- veils
    rw [hw, hr, e3, er, if_pos rfl, if_neg (by decide), if_neg (by decide), if_pos rfl]
    unfold f_X0_liveVeil
    rw [x_whyNotVeil N hM hI (by omega), q_bd, y_whyVeil N _ sY tY jY (by omega), q_bd, nI_eq0 (whyV_lt _ _), nI_eq0 (whyV_lt _ _)]
    by_cases c : whyV (sY 6) p = 0
    · obtain ⟨iM', g1, g2, -⟩ := x_doVeil N (iC := iC) (tC := tC) (sC := sC) hM (a := p)
      rw [if_pos c, if_pos c, g1, q_bd, y_veils, q_bd, c]
      exact ⟨0, _, _, _, by omega, rfl, rfl, g2, ID_veil hP hI c, fun k hk => veil_o hk, fun h => absurd rfl h⟩
    · rw [if_neg c, if_neg c]
      have hlt : whyV (sY 6) p < 10 := by
        unfold whyV
        repeat' split
        all_goals omega
      exact ⟨20 + whyV (sY 6) p, sY 6, iM, sM, by omega, by rw [q_bd, L20, nI_add], out 2 _ (by omega) hlt c, hM, hI, fun _ _ => rfl, fun _ => rfl⟩
  · -- tells
    rw [hw, hr, e3, er, e4, er2, e5, er3, if_neg (by decide), if_neg (by decide), if_neg (by decide), if_pos rfl, if_neg (by decide), if_neg (by decide), if_neg (by decide), if_pos rfl]
    unfold f_X0_liveTell
    rw [x_whyNotTell N hC hM (by omega) (by omega) (by omega), q_bd, y_whyTell N _ sY tY jY (by omega) (by omega) (by omega), q_bd, nI_eq0 (whyT_lt _ _ _ _), nI_eq0 (whyT_lt _ _ _ _)]
    by_cases c : whyT (sY 6) p q x = 0
    · obtain ⟨sM', g1, g2, -⟩ := x_meet N (iC := iC) (tC := tC) (sC := sC) hM (a := q) (b := x) (by omega) (by omega)
      rw [if_pos c, if_pos c, g1, q_bd, y_meets N _ sY tY jY (by omega) (by omega), q_bd, c]
      exact ⟨0, _, _, _, by omega, rfl, rfl, g2, ID_meet hP hI hq hx (whyT_0 c), fun k hk => meet_o (by omega) (by omega) (by omega), fun h => absurd rfl h⟩
    · rw [if_neg c, if_neg c]
      have hlt : whyT (sY 6) p q x < 10 := by
        unfold whyT
        repeat' split
        all_goals omega
      exact ⟨30 + whyT (sY 6) p q x, sY 6, iM, sM, by omega, by rw [q_bd, L30, nI_add], out 3 _ (by omega) hlt c, hM, hI, fun _ _ => rfl, fun _ => rfl⟩
end
