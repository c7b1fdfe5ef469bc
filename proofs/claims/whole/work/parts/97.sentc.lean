/-! PURE: sentences, a condition, whole -/
section
variable (N : Nat) {sT : Nat → Nat → Int32} {tY : Nat → Nat → Int64} {L lim : Nat} {K6 : YZ → YK} {P Q h e mc oc x : Nat} {iC : Nat → Int32} {tC : Nat → Nat → Int64} {sC : Nat → Nat → Int32}
theorem b_cond7 (hN : 2000 ≤ N) (ro rc : RF) (ih : OneP N tY K6 P Q L lim sT iC tC sC e ro) (h3 : h + 3 ≤ 3 * e) : ∀ (k i st m o va vb : Nat) (iT : Nat → Int32) (jT : Nat → Int64) (iS : Nat → Int32) (sS : Nat → Nat → Int32) (iY : Nat → Int32) (sY : Nat → Nat → Int32) (jY : Nat → Int64), 22 ≤ k + i → i ≤ o → va ≤ 1 → vb ≤ 1 → PO P Q L lim st m o (h + vb + va) e sT iT jT iS sS iY sY jY → (va = 1 → sY 42 (h + vb) = 21) → (vb = 1 → sY 42 h = 22) → (h = 0 ∨ sY 42 (h - 1) = 23) → m + va + vb + 2 * oc ≤ mc + 2 * o → oc ≤ o → mc ≤ 2 * oc → hgt (sS 2) m = x + va + vb → QF N tY K6 st iY sY jY (f_X7_readCond_o_7 N ro rc sT iC tC sC (nI e) k iT jT iS sS (nI va) (nI vb) (nI i)) ∨ QD N tY K6 P Q L lim st mc oc x h e iT iY sY jY (f_X7_readCond_o_7 N ro rc sT iC tC sC (nI e) k iT jT iS sS (nI va) (nI vb) (nI i)) := by
  intro k
  induction k with
  | zero =>
    intro i st m o va vb iT jT iS sS iY sY jY hk hi ha hb hp
    have := hp.o20
    omega
  | succ k ihk =>
    intro i st m o va vb iT jT iS sS iY sY jY hk hi ha hb hp t21 t22 tb hm hoc hmc hhg
    have o20 := hp.o20
    have e9' := hp.e9
    have hho := hp.hh
    rcases ih st m o (h + vb + va) iT jT iS sS iY sY jY hp (by omega) with q | q
    · obtain ⟨j, iT', jT', iS', sS', iY', sY', jY', q1, q2, q3, q4, q5, q6⟩ := q
      refine Or.inl ⟨j, iT', jT', iS', sS', iY', sY', jY', ?_, q2, q3, q4, q5, q6⟩
      rw [f_X7_readCond_o_7, if_neg (show ¬ (20 : Int32) < nI i from fun y => by have := (nI_ltI (a := 20) (by omega) (by omega)).mp y; omega), q1, q_bd]
      dsimp only
      rw [if_pos rfl]
    · obtain ⟨j, iT1, jT1, iS1, sS1, iY1, sY1, jY1, m1, n, o1, st1, e1, e2, e3, e4, e5, e6, e7, e8, e9, e10, e11, e12, e13⟩ := q
      have s21 : va = 1 → sY1 42 (h + vb) = 21 := fun y => (e13.s (h + vb) (by omega)).trans (t21 y)
      have s22 : vb = 1 → sY1 42 h = 22 := fun y => (e13.s h (by omega)).trans (t22 y)
      have sb : h = 0 ∨ sY1 42 (h - 1) = 23 := by
        rcases Nat.eq_zero_or_pos h with y | y
        · exact Or.inl y
        · rcases tb with z | z
          · exact Or.inl z
          · exact Or.inr ((e13.s (h - 1) (by omega)).trans z)
      have top : h + vb + va = 0 ∨ sY1 42 (h + vb + va - 1) ≠ 20 := by
        by_cases ca : va = 1
        · refine Or.inr ?_
          rw [show h + vb + va - 1 = h + vb by omega, s21 ca]; decide
        · by_cases cb : vb = 1
          · refine Or.inr ?_
            rw [show h + vb + va - 1 = h by omega, s22 cb]; decide
          · rcases sb with y | y
            · exact Or.inl (by omega)
            · refine Or.inr ?_
              rw [show h + vb + va - 1 = h - 1 by omega, y]; decide
      obtain ⟨iY2, c, n1, n43, n45, n46, nf, nCR⟩ := y_nots N (tY := tY) (jY := jY1) (P := P) (Q := Q) (h := h + vb + va) (e := e) (sS := sS1) hN n N m1 iY1 sY1 (by omega) (by omega) (by omega) (by omega) e6.y43 e6.y45 e6.y46 e6.st top e6.cr e6.nn
      have n1' : f_X11_nots N iY1 sY1 tY jY1 = some (iY2, va_up sY1 8 c) := n1
      have i44 : iY2 44 = nI o1 := (nf 44 (by omega) (by omega) (by omega)).trans e6.y44
      obtain ⟨u1, u2⟩ := adF_H (sS := sS1) (m := m1 + n) (fl := va) (y := x + vb + 1) (w := 14) e7 (by omega) (by omega) ha (Or.inl rfl)
      obtain ⟨w1, w2⟩ := adF_H (sS := adF sS1 (m1 + n) va 14) (m := m1 + n + va) (fl := vb) (y := x + 1) (w := 13) u1 (by omega) (by omega) hb (Or.inr rfl)
      rw [x_cstep N ro rc (k := k) (i := i) (M := m1 + n) (va := va) (vb := vb) (by omega) e1 e6.s1 (by omega) ha hb]
      have stb21 : h = 0 ∨ upd (sY1 42) (h + vb) 21 (h - 1) = 23 := by
        by_cases h0 : h = 0
        · exact Or.inl h0
        · rcases sb with y | y
          · exact Or.inl y
          · refine Or.inr ?_
            rw [pk_un (by omega)]; exact y
      have stb22 : h = 0 ∨ upd (sY1 42) h 22 (h - 1) = 23 := by
        by_cases h0 : h = 0
        · exact Or.inl h0
        · rcases sb with y | y
          · exact Or.inl y
          · refine Or.inr ?_
            rw [pk_un (by omega)]; exact y
      by_cases c14 : iT1 7 = nI 14
      · rw [if_pos c14]
        obtain ⟨iY3, c3, j1, j43, j45, jf, jCR⟩ := y_j21 N (tY := tY) (jY := jY1) (P := P) (Q := Q) (M := m1 + n) (h := h) (va := va) (vb := vb) (iY := iY2) (sY := va_up sY1 8 c) (sS := sS1) hN ha hb (by omega) (by omega) n43 n45 s21 s22 sb nCR
        have f3 : ∀ k, k ≠ 43 → k ≠ 45 → k ≠ 46 → iY3 k = iY1 k := fun k k1 k2 k3 => (jf k k1 k2).trans (nf k k1 k2 k3)
        have hbe := y_behJ N (g := h + vb) (v := 21) (by omega) e4 (Or.inl ⟨c14, rfl⟩) n1' j1 nf f3 j45
        have t4 : TR L lim st1 iT1 jT1 (va_up (va_up iY3 45 (nI (h + vb + 1))) 47 0) jY1 := by
          have y := TR_y e4 f3
          exact y
        have hB1 : ∀ k, k < 940 → sT 0 k = sY1 1 k &&& 255 := fun k hk => by rw [e13.f 1 (by omega) (by omega)]; exact hp.hB k hk
        obtain ⟨iT4, jT4, iY4, jY4, st4, d1, d2, d3, d4, d5, d6, d7, d8⟩ := t_next N (sT := sT) (sY := va_up (va_up (va_up sY1 8 c) 8 c3) 42 (upd (va_up (va_up sY1 8 c) 8 c3 42) (h + vb) 21)) hN hB1 tY t4
        rw [d2, q_bd] at hbe
        rw [d1, q_bd]
        dsimp only at hbe ⊢
        have n11 : ¬ iY1 11 = 0 := by
          rcases t_end e4 with y | y
          · rw [c14] at y; exact absurd y.2.1 (nI_m1 (by omega))
          · exact y.2.1
        have hs4 := d5 (t_w7 e4 (by omega) c14)
        have kk : ∀ i, i ≠ 4 → i ≠ 11 → i ≠ 12 → i ≠ 13 → i ≠ 14 → i ≠ 18 → i ≠ 45 → i ≠ 47 → iY4 i = iY3 i := by
          intro i i1 i2 i3 i4 i5 i6 i7 i8
          rw [d7 i i1 i2 i3 i4 i5 i6, q_vn _ _ i8, q_vn _ _ i7]
        have hl : ∀ k, LoP N tY K6 (k + (1 + j)) iY sY jY = LoP N tY K6 k iY4 (va_up (va_up (va_up sY1 8 c) 8 c3) 42 (upd (va_up (va_up sY1 8 c) 8 c3 42) (h + vb) 21)) jY4 := by
          intro k
          rw [← Nat.add_assoc, e3, LoP_be e5 n11, hbe, q_bd]
          rfl
        have hpo : PO P Q L lim st4 (m1 + n + va) o1 (h + vb + 1) e sT iT4 jT4 (va_up iS1 1 (nI (m1 + n + va))) (adF sS1 (m1 + n) va 14) iY4 (va_up (va_up (va_up sY1 8 c) 8 c3) 42 (upd (va_up (va_up sY1 8 c) 8 c3 42) (h + vb) 21)) jY4 := by
          refine ⟨hB1, ?_, d3, ?_, ⟨?_, rfl, ?_, ?_, ?_, ?_, jCR, fun k hk => absurd hk (Nat.not_lt_zero _), fun k hk => absurd hk (Nat.not_lt_zero _)⟩, (And.intro u1 u2).1, by rw [(And.intro u1 u2).2]; omega, e10, by omega, hp.e1, hp.e9⟩
          · show IL (sY1 6) P Q
            rw [e13.f 6 (by omega) (by omega)]; exact hp.hL
          · exact d7 47 (by omega) (by omega) (by omega) (by omega) (by omega) (by omega)
          · exact e6.s0
          · rw [kk 44 (by omega) (by omega) (by omega) (by omega) (by omega) (by omega) (by omega) (by omega), jf 44 (by omega) (by omega)]; exact i44
          · rw [kk 43 (by omega) (by omega) (by omega) (by omega) (by omega) (by omega) (by omega) (by omega)]; exact j43
          · exact (d7 45 (by omega) (by omega) (by omega) (by omega) (by omega) (by omega)).trans (congrArg nI (by omega))
          · rw [kk 46 (by omega) (by omega) (by omega) (by omega) (by omega) (by omega) (by omega) (by omega), jf 46 (by omega) (by omega)]; exact n46
        have hfr : FR h iT iT4 iY iY4 sY (va_up (va_up (va_up sY1 8 c) 8 c3) 42 (upd (va_up (va_up sY1 8 c) 8 c3 42) (h + vb) 21)) := by
          refine ⟨d6.trans e13.t, ?_, e13.g.tr ?_, fun k k1 k2 => ?_, fun k hk => ?_⟩
          · rw [kk 15 (by omega) (by omega) (by omega) (by omega) (by omega) (by omega) (by omega) (by omega), f3 15 (by omega) (by omega) (by omega)]; exact e13.y
          · intro k hk
            have ne : ∀ j, gk j = false → k ≠ j := fun j hj e => by rw [e, hj] at hk; cases hk
            rw [kk k (ne 4 rfl) (ne 11 rfl) (ne 12 rfl) (ne 13 rfl) (ne 14 rfl) (ne 18 rfl) (ne 45 rfl) (ne 47 rfl)]
            exact f3 k (ne 43 rfl) (ne 45 rfl) (ne 46 rfl)
          · rw [q_vn _ _ k2, q_vn _ _ k1, q_vn _ _ k1]; exact e13.f k k1 k2
          · show upd (sY1 42) (h + vb) 21 k = _
            rw [pk_un (by omega)]; exact e13.s k (by omega)
        rcases ihk (i + 1) st4 (m1 + n + va) o1 1 vb iT4 jT4 _ _ iY4 _ jY4 (by omega) (by omega) (by omega) hb hpo (fun _ => by show upd (sY1 42) (h + vb) 21 (h + vb) = 21; rw [pk_us]) (fun y => by show upd (sY1 42) (h + vb) 21 h = 22; rw [pk_un (by omega)]; exact s22 y) stb21 (by omega) (by omega) hmc (by rw [u2]; omega) with y | y
        · exact Or.inl (y.pre2 (by omega) hl hfr.g hfr.f)
        · exact Or.inr (y.pre (by omega) hl hfr)
      · rw [if_neg c14]
        by_cases c13 : iT1 7 = nI 13
        · rw [if_pos c13]
          obtain ⟨iY3, c3, j1, j43, j45, jf, jCR⟩ := y_j22 N (tY := tY) (jY := jY1) (P := P) (Q := Q) (M := m1 + n) (h := h) (va := va) (vb := vb) (iY := iY2) (sY := va_up sY1 8 c) (sS := sS1) hN ha hb (by omega) (by omega) n43 n45 s21 s22 sb nCR
          have f3 : ∀ k, k ≠ 43 → k ≠ 45 → k ≠ 46 → iY3 k = iY1 k := fun k k1 k2 k3 => (jf k k1 k2).trans (nf k k1 k2 k3)
          have hbe := y_behJ N (g := h) (v := 22) (by omega) e4 (Or.inr ⟨c13, rfl⟩) n1' j1 nf f3 j45
          have t4 : TR L lim st1 iT1 jT1 (va_up (va_up iY3 45 (nI (h + 1))) 47 0) jY1 := by
            have y := TR_y e4 f3
            exact y
          have hB1 : ∀ k, k < 940 → sT 0 k = sY1 1 k &&& 255 := fun k hk => by rw [e13.f 1 (by omega) (by omega)]; exact hp.hB k hk
          obtain ⟨iT4, jT4, iY4, jY4, st4, d1, d2, d3, d4, d5, d6, d7, d8⟩ := t_next N (sT := sT) (sY := va_up (va_up (va_up sY1 8 c) 8 c3) 42 (upd (va_up (va_up sY1 8 c) 8 c3 42) (h) 22)) hN hB1 tY t4
          rw [d2, q_bd] at hbe
          rw [d1, q_bd]
          dsimp only at hbe ⊢
          have n11 : ¬ iY1 11 = 0 := by
            rcases t_end e4 with y | y
            · rw [c13] at y; exact absurd y.2.1 (nI_m1 (by omega))
            · exact y.2.1
          have hs4 := d5 (t_w7 e4 (by omega) c13)
          have kk : ∀ i, i ≠ 4 → i ≠ 11 → i ≠ 12 → i ≠ 13 → i ≠ 14 → i ≠ 18 → i ≠ 45 → i ≠ 47 → iY4 i = iY3 i := by
            intro i i1 i2 i3 i4 i5 i6 i7 i8
            rw [d7 i i1 i2 i3 i4 i5 i6, q_vn _ _ i8, q_vn _ _ i7]
          have hl : ∀ k, LoP N tY K6 (k + (1 + j)) iY sY jY = LoP N tY K6 k iY4 (va_up (va_up (va_up sY1 8 c) 8 c3) 42 (upd (va_up (va_up sY1 8 c) 8 c3 42) (h) 22)) jY4 := by
            intro k
            rw [← Nat.add_assoc, e3, LoP_be e5 n11, hbe, q_bd]
            rfl
          have hpo : PO P Q L lim st4 (m1 + n + va + vb) o1 (h + 1 + 0) e sT iT4 jT4 (va_up iS1 1 (nI (m1 + n + va + vb))) (adF (adF sS1 (m1 + n) va 14) (m1 + n + va) vb 13) iY4 (va_up (va_up (va_up sY1 8 c) 8 c3) 42 (upd (va_up (va_up sY1 8 c) 8 c3 42) (h) 22)) jY4 := by
            refine ⟨hB1, ?_, d3, ?_, ⟨?_, rfl, ?_, ?_, ?_, ?_, jCR, fun k hk => absurd hk (Nat.not_lt_zero _), fun k hk => absurd hk (Nat.not_lt_zero _)⟩, (And.intro w1 w2).1, by rw [(And.intro w1 w2).2]; omega, e10, by omega, hp.e1, hp.e9⟩
            · show IL (sY1 6) P Q
              rw [e13.f 6 (by omega) (by omega)]; exact hp.hL
            · exact d7 47 (by omega) (by omega) (by omega) (by omega) (by omega) (by omega)
            · exact e6.s0
            · rw [kk 44 (by omega) (by omega) (by omega) (by omega) (by omega) (by omega) (by omega) (by omega), jf 44 (by omega) (by omega)]; exact i44
            · rw [kk 43 (by omega) (by omega) (by omega) (by omega) (by omega) (by omega) (by omega) (by omega)]; exact j43
            · exact (d7 45 (by omega) (by omega) (by omega) (by omega) (by omega) (by omega)).trans (congrArg nI (by omega))
            · rw [kk 46 (by omega) (by omega) (by omega) (by omega) (by omega) (by omega) (by omega) (by omega), jf 46 (by omega) (by omega)]; exact n46
          have hfr : FR h iT iT4 iY iY4 sY (va_up (va_up (va_up sY1 8 c) 8 c3) 42 (upd (va_up (va_up sY1 8 c) 8 c3 42) (h) 22)) := by
            refine ⟨d6.trans e13.t, ?_, e13.g.tr ?_, fun k k1 k2 => ?_, fun k hk => ?_⟩
            · rw [kk 15 (by omega) (by omega) (by omega) (by omega) (by omega) (by omega) (by omega) (by omega), f3 15 (by omega) (by omega) (by omega)]; exact e13.y
            · intro k hk
              have ne : ∀ j, gk j = false → k ≠ j := fun j hj e => by rw [e, hj] at hk; cases hk
              rw [kk k (ne 4 rfl) (ne 11 rfl) (ne 12 rfl) (ne 13 rfl) (ne 14 rfl) (ne 18 rfl) (ne 45 rfl) (ne 47 rfl)]
              exact f3 k (ne 43 rfl) (ne 45 rfl) (ne 46 rfl)
            · rw [q_vn _ _ k2, q_vn _ _ k1, q_vn _ _ k1]; exact e13.f k k1 k2
            · show upd (sY1 42) (h) 22 k = _
              rw [pk_un (by omega)]; exact e13.s k (by omega)
          rcases ihk (i + 1) st4 (m1 + n + va + vb) o1 0 1 iT4 jT4 _ _ iY4 _ jY4 (by omega) (by omega) (by omega) (by omega) hpo (fun y => absurd y (by omega)) (fun _ => by show upd (sY1 42) h 22 h = 22; rw [pk_us]) stb22 (by omega) (by omega) hmc (by rw [w2]) with y | y
          · exact Or.inl (y.pre2 (by omega) hl hfr.g hfr.f)
          · exact Or.inr (y.pre (by omega) hl hfr)
        · rw [if_neg c13]
          obtain ⟨iY3, c3, j1, j43, j45, jf, jCR⟩ := y_j22 N (tY := tY) (jY := jY1) (P := P) (Q := Q) (M := m1 + n) (h := h) (va := va) (vb := vb) (iY := iY2) (sY := va_up sY1 8 c) (sS := sS1) hN ha hb (by omega) (by omega) n43 n45 s21 s22 sb nCR
          have f3 : ∀ k, k ≠ 43 → k ≠ 45 → k ≠ 46 → iY3 k = iY1 k := fun k k1 k2 k3 => (jf k k1 k2).trans (nf k k1 k2 k3)
          refine Or.inr ⟨j, iT1, jT1, va_up iS1 1 (nI (m1 + n + va + vb)), adF (adF sS1 (m1 + n) va 14) (m1 + n + va) vb 13, iY1, sY1, jY1, iY2, va_up sY1 8 c, iY3, va_up (va_up sY1 8 c) 8 c3, m1 + n + va + vb, o1, st1, rfl, e2, e3, e4, e5, c13, c14, n1', j1, nf, f3, ⟨e6.s0, rfl, (jf 44 (by omega) (by omega)).trans i44, j43, j45, (jf 46 (by omega) (by omega)).trans n46, jCR, fun k hk => absurd hk (Nat.not_lt_zero _), fun k hk => absurd hk (Nat.not_lt_zero _)⟩, w1, w2, by omega, e10, by omega, e13.t, (f3 15 (by omega) (by omega) (by omega)).trans e13.y, e13.g.tr ?_, fun k k1 k2 => ?_, fun k hk => e13.s k (by omega)⟩
          · intro k hk
            have ne : ∀ j, gk j = false → k ≠ j := fun j hj e => by rw [e, hj] at hk; cases hk
            exact f3 k (ne 43 rfl) (ne 45 rfl) (ne 46 rfl)
          · rw [q_vn _ _ k1, q_vn _ _ k1]; exact e13.f k k1 k2
theorem b_cond (hN : 2000 ≤ N) (ro rc : RF) (ih : OneP N tY K6 P Q L lim sT iC tC sC e ro) : CondP N tY K6 P Q L lim sT iC tC sC e (f_X7_readCond_o N ro rc) := by
  intro st m o h iT jT iS sS iY sY jY hp h3 tb
  exact b_cond7 N (mc := m) (oc := o) (x := hgt (sS 2) m) (h := h) hN ro rc ih h3 N 0 st m o 0 0 iT jT iS sS iY sY jY (by omega) (by omega) (by omega) (by omega) hp (fun y => absurd y (by omega)) (fun y => absurd y (by omega)) tb (by omega) (Nat.le_refl _) hp.m2 rfl
theorem b_rec (hN : 2000 ≤ N) (hR : ∀ k, k < 24 → tY 10 k = lN (e256 (wds k))) (hNm : NM (tC 2) (tY 9) 0 P Q) : ∀ d e, (2 * (9 - e) + 1 ≤ d → OneP N tY K6 P Q L lim sT iC tC sC e (f_X7_rec N d).1) ∧ (2 * (9 - e) + 2 ≤ d → CondP N tY K6 P Q L lim sT iC tC sC e (f_X7_rec N d).2) := by
  intro d
  induction d with
  | zero => intro e; exact ⟨fun y => by omega, fun y => by omega⟩
  | succ d ih =>
    intro e
    refine ⟨fun y => ?_, fun y => ?_⟩
    · show OneP N tY K6 P Q L lim sT iC tC sC e (f_X7_readOne_o N (f_X7_rec N d).1 (f_X7_rec N d).2)
      exact b_one N hN hR hNm _ _ (fun he => ⟨(ih (e + 1)).1 (by omega), (ih (e + 1)).2 (by omega)⟩)
    · show CondP N tY K6 P Q L lim sT iC tC sC e (f_X7_readCond_o N (f_X7_rec N d).1 (f_X7_rec N d).2)
      exact b_cond N hN _ _ ((ih e).1 (by omega))
end
