/-! PURE: sentences, one in brackets; one, whole -/
section
variable (N : Nat) {sT : Nat → Nat → Int32} {iT : Nat → Int32} {jT : Nat → Int64} {iY : Nat → Int32} {sY : Nat → Nat → Int32} {tY : Nat → Nat → Int64} {jY : Nat → Int64} {L lim st : Nat} {K6 : YZ → YK} {P Q m o h e : Nat} {iS : Nat → Int32} {sS : Nat → Nat → Int32} {iC : Nat → Int32} {tC : Nat → Nat → Int64} {sC : Nat → Nat → Int32}
/-- behind a condition, where neither and nor or stands -/
theorem y_behE {iY2 iY3 : Nat → Int32} {sY2 sY3 : Nat → Nat → Int32} {h' : Nat} (hh : h' < 1000) (hT : TR L lim st iT jT iY jY) (n13 : ¬ iT 7 = nI 13) (n14 : ¬ iT 7 = nI 14) (e1 : f_X11_nots N iY sY tY jY = some (iY2, sY2)) (e2 : f_X11_joins N iY2 sY2 tY jY 22 = some (iY3, sY3)) (f2 : ∀ k, k ≠ 43 → k ≠ 45 → k ≠ 46 → iY2 k = iY k) (f3 : ∀ k, k ≠ 43 → k ≠ 45 → k ≠ 46 → iY3 k = iY k) (y45 : iY3 45 = nI h') : f_X11_behind N iY sY tY jY = if iT 8 = nI 41 ∧ h' ≠ 0 then bd (f_X11_next N (va_up (va_up iY3 45 ((iY3 45) - 1)) 46 ((iY3 46) - 1)) sY3 tY jY) (fun (iY_49, jY_50) => some ((1 : Int32), iY_49, sY3, jY_50)) else some ((0 : Int32), va_up (va_up iY3 15 1) 16 (nI st), sY3, jY) := by
  have t2 := TR_y hT f2
  have t3 := TR_y hT f3
  obtain ⟨r1, r2, r3, r4⟩ := y_refuse N (sT := fun _ _ => 0) (sY := sY3) (tY := tY) t3 1
  unfold f_X11_behind
  rw [e1, q_bd]
  dsimp only
  rw [lw14, lw13, t_word N t2 (k := 14) (by omega), t_word N t2 (k := 13) (by omega)]
  simp only [q_bd, q_b0, decide_eq_true_eq, q_jn]
  rw [if_neg n14, if_neg n13, e2, q_bd]
  dsimp only
  rw [show (41 : Int32) = nI 41 from rfl, t_sign N t3 (c := 41) (by omega)]
  simp only [q_bd, q_b0, decide_eq_true_eq]
  rw [r2, q_bd]
  dsimp only
  rw [q_z0]
  by_cases c : iT 8 = nI 41
  · rw [if_pos c]
    by_cases c2 : h' = 0
    · rw [if_pos (show iY3 45 = 0 by rw [y45, c2]; rfl), if_neg (fun x => x.2 c2)]
    · rw [if_neg (show ¬ iY3 45 = 0 by rw [y45]; exact nI_nb (b := 0) c2 (by omega) (by omega)), if_pos ⟨c, c2⟩]
  · rw [if_neg c, if_neg (fun x => c x.1)]
theorem b_par (hN : 2000 ≤ N) (ro rc : RF) (ih : CondP N tY K6 P Q L lim sT iC tC sC (e + 1) rc) (hp : PO P Q L lim st m o h e sT iT jT iS sS iY sY jY) (h3 : h + 1 ≤ 3 * e) (ho : o < 20) (he : e ≤ 8) (h7 : iT 7 = -1) (h8 : iT 8 = nI 40) : QF N tY K6 st iY sY jY (f_X7_readOne_o N ro rc sT iT jT iC tC sC iS sS (nI e)) ∨ QO N tY K6 P Q L lim st m o h e iT sS iY sY jY (f_X7_readOne_o N ro rc sT iT jT iC tC sC iS sS (nI e)) := by
  have n15 : ¬ iT 7 = nI 15 := fun x => nI_m1 (b := 15) (by omega) (by rw [← x, h7])
  obtain ⟨iT1, jT1, iY1, jY1, st1, a1, a2, a3, a4, a5, a6, a7⟩ := y_push N (K6 := K6) (tY := tY) hN hp h3 ho he (Or.inr ⟨n15, h8, rfl⟩)
  have ex : f_X7_readOne_o N ro rc sT iT jT iC tC sC iS sS (nI e) = bd (rc sT iT1 jT1 iC tC sC (va_up iS 0 (nI (o + 1))) sS (nI (e + 1))) (fun (r_39, iT_40, jT_41, iS_42, sS_43) => (if r_39 = 0 then some ((0 : Int32), iT_40, jT_41, iS_42, sS_43) else bd (f_X8_passSign N sT iT_40 jT_41 41) (fun (r_46, iT_47, jT_48) => (if r_46 = 0 then some (0, iT_47, jT_48, iS_42, sS_43) else some (1, iT_47, jT_48, iS_42, sS_43))))) := by
    unfold f_X7_readOne_o
    simp only [q_jn]
    rw [if_pos (show iT 8 = 40 from h8), if_neg (show ¬ (1 : Int32) = 0 by decide), rm_x hp ho he, a1, q_bd]
    dsimp only
    rw [if_neg (show ¬ (1 : Int32) = 0 by decide), hp.sr.s0, nI_1, nI_1]
  have fr : ∀ k, k ≠ 8 → k ≠ 42 → va_up sY 42 (upd (sY 42) h 23) k = sY k := fun k _ k2 => q_vn _ _ k2
  rcases ih st1 m (o + 1) (h + 1) iT1 jT1 (va_up iS 0 (nI (o + 1))) sS iY1 _ jY1 a7 (by omega) (Or.inr (by show upd (sY 42) h 23 h = 23; rw [pk_us])) with x | x
  · obtain ⟨iT', jT', iS', sS', e1, e2⟩ := x.pre a3 a2 a4 fr
    rw [ex, e1, q_bd]
    dsimp only
    rw [if_pos rfl]
    exact Or.inl e2
  · obtain ⟨j, iT', jT', iS', sS', iY', sY', jY', iY2, sY2, iY3, sY3, m', o', st', e1, e2, e3, e4, e5, n13, n14, c1, c2, f2, f3, e6, e7, e8, e9, e10, e11, e13⟩ := x
    have hm := hp.m2
    have y45 : iY3 45 = nI (h + 1) := e6.y45
    have y46 : iY3 46 = nI (e + 1) := e6.y46
    have hst := TR_st e4
    have hbe := y_behE N (h' := h + 1) (by omega) e4 n13 n14 c1 c2 f2 f3 y45
    rw [ex, e1, q_bd]
    dsimp only
    rw [if_neg (show ¬ (1 : Int32) = 0 by decide)]
    have t3 := TR_y e4 f3
    by_cases c : iT' 8 = nI 41
    · have t3' : TR L lim st' iT' jT' (va_up (va_up iY3 45 (nI h)) 46 (nI e)) jY' := t3
      obtain ⟨iT4, jT4, iY4, jY4, st4, d1, d2, d3, d4, d5, d6, d7, d8⟩ := t_next N (sT := sT) (sY := sY3) hN (fun k hk => by rw [e13.f 1 (by omega) (by omega)]; exact a7.hB k hk) tY t3'
      have hs4 := d5 (t_sg8 e4 (by omega) c)
      have n11 : ¬ iY' 11 = 0 := by
        rcases t_end e4 with x | x
        · rw [c] at x; exact absurd x.2.2.1 (nI_m1 (by omega))
        · exact x.2.1
      rw [if_pos ⟨c, by omega⟩, y45, y46, show nI (h + 1) - 1 = nI h from by rw [show (1 : Int32) = nI 1 from rfl, pk_sub (by omega)]; rfl, show nI (e + 1) - 1 = nI e from by rw [show (1 : Int32) = nI 1 from rfl, pk_sub (by omega)]; rfl, d2, q_bd] at hbe
      have px : f_X8_passSign N sT iT' jT' 41 = some (1, iT4, jT4) := by
        unfold f_X8_passSign
        rw [if_pos (show iT' 8 = 41 from c), d1, q_bd]
      rw [px, q_bd]
      dsimp only
      rw [if_neg (show ¬ (1 : Int32) = 0 by decide)]
      have k : ∀ i, i ≠ 4 → i ≠ 11 → i ≠ 12 → i ≠ 13 → i ≠ 14 → i ≠ 18 → i ≠ 45 → i ≠ 46 → iY4 i = iY3 i := by
        intro i i1 i2 i3 i4 i5 i6 i7 i8
        rw [d7 i i1 i2 i3 i4 i5 i6, q_vn _ _ i8, q_vn _ _ i7]
      refine Or.inr ⟨1 + j + 1, iT4, jT4, iS', sS', iY4, sY3, jY4, m', 0, o', st4, rfl, by omega, fun k => ?_, d3, ?_, ⟨e6.s0, e6.s1, ?_, ?_, ?_, ?_, e6.cr, fun k hk => absurd hk (Nat.not_lt_zero _), fun k hk => absurd hk (Nat.not_lt_zero _)⟩, e7, e8, by omega, e10, by omega, by omega, d6.trans (e13.t.trans a6), ?_, (a4.tr e13.g).tr ?_, fun k k1 k2 => (e13.f k k1 k2).trans (fr k k1 k2), fun k hk => (e13.s k (by omega)).trans ?_⟩
      · rw [← Nat.add_assoc, a2, ← Nat.add_assoc, e3, LoP_be e5 n11, hbe, q_bd]
        rfl
      · rw [k 47 (by omega) (by omega) (by omega) (by omega) (by omega) (by omega) (by omega) (by omega), f3 47 (by omega) (by omega) (by omega)]; exact e5
      · rw [k 44 (by omega) (by omega) (by omega) (by omega) (by omega) (by omega) (by omega) (by omega)]; exact e6.y44
      · rw [k 43 (by omega) (by omega) (by omega) (by omega) (by omega) (by omega) (by omega) (by omega)]; exact e6.y43
      · exact d7 45 (by omega) (by omega) (by omega) (by omega) (by omega) (by omega)
      · exact d7 46 (by omega) (by omega) (by omega) (by omega) (by omega) (by omega)
      · rw [k 15 (by omega) (by omega) (by omega) (by omega) (by omega) (by omega) (by omega) (by omega)]; exact e13.y.trans a5
      · exact ((GF.rf iY3).up (k := 45) rfl _).tr (((GF.rf _).up (k := 46) rfl _).tr d7.gf)
      · show upd (sY 42) h 23 k = _
        rw [pk_un (by omega)]
    · obtain ⟨r1, r2, r3, r4⟩ := y_refuse N (sT := sT) (sY := sY3) (tY := tY) t3 1
      have px : f_X8_passSign N sT iT' jT' 41 = some (0, va_up (va_up iT' 11 1) 12 (nI st'), jT') := by
        unfold f_X8_passSign
        rw [if_neg (show ¬ iT' 8 = 41 from c), r1, q_bd]
        dsimp only
        rw [q_z0]
      rw [px, q_bd]
      dsimp only
      rw [if_pos rfl]
      rw [if_neg (fun x => c x.1)] at hbe
      refine Or.inl ⟨2 + j + 1, _, _, _, _, va_up (va_up iY3 15 1) 16 (nI st'), sY3, jY', rfl, by omega, fun k => ?_, r3, (a4.tr e13.g).tr r4, fun k k1 k2 => (e13.f k k1 k2).trans (fr k k1 k2)⟩
      rw [← Nat.add_assoc, a2, ← Nat.add_assoc, e3]
      by_cases n11 : iY' 11 = 0
      · rw [LoP_end e5 n11 c1 c2, if_neg (show ¬ iY3 45 ≤ 0 by rw [y45]; exact nI_ge (a := 0) (by omega) (by omega))]
        unfold KSb
        dsimp only
        rw [r2, q_bd]
      · rw [LoP_be e5 n11, hbe, q_bd]
        rfl
theorem b_one (hN : 2000 ≤ N) (hR : ∀ k, k < 24 → tY 10 k = lN (e256 (wds k))) (hNm : NM (tC 2) (tY 9) 0 P Q) (ro rc : RF) (ih : e ≤ 8 → OneP N tY K6 P Q L lim sT iC tC sC (e + 1) ro ∧ CondP N tY K6 P Q L lim sT iC tC sC (e + 1) rc) : OneP N tY K6 P Q L lim sT iC tC sC e (f_X7_readOne_o N ro rc) := by
  intro st m o h iT jT iS sS iY sY jY hp h3
  have he9 := hp.e9
  have ho := hp.o20
  rcases t_7 hp.tr with h7 | ⟨k, hk, h7, h8⟩
  · have n15 : ¬ iT 7 = nI 15 := fun x => nI_m1 (b := 15) (by omega) (by rw [← x, h7])
    by_cases c : iT 8 = nI 40
    · by_cases f : o = 20 ∨ e = 9
      · exact Or.inl (b_full N ro rc hp (Or.inl c) (Or.inr (Or.inl c)) f)
      · exact b_par N hN ro rc (ih (by omega)).2 hp h3 (by omega) (by omega) h7 c
    · exact Or.inl (b_none N ro rc hp c n15 (by rw [h7]; exact bg_m1 N) (by rw [h7]; exact lf_m1))
  · have n40 : ¬ iT 8 = nI 40 := fun x => nI_m1 (b := 40) (by omega) (by rw [← x, h8])
    by_cases c : k = 3 ∨ k = 4 ∨ 15 ≤ k
    · have hb : f_X7_beginsOne N (iT 7) = some 1 := by rw [h7, bg_k N k hk, if_pos c]
      by_cases f : o = 20 ∨ e = 9
      · refine Or.inl (b_full N ro rc hp (Or.inr ⟨n40, hb⟩) ?_ f)
        by_cases k15 : k = 15
        · exact Or.inl (by rw [h7, k15])
        · refine Or.inr (Or.inr ?_)
          rw [h7, lf_k k hk]
          by_cases d3 : k = 3
          · rw [if_pos d3]; decide
          · rw [if_neg d3]
            by_cases d4 : k = 4
            · rw [if_pos d4]; decide
            · rw [if_neg d4]
              by_cases d5 : 16 ≤ k ∧ k < 20
              · rw [if_pos d5]; exact nI_le (a := 0) (by omega) (by omega)
              · rw [if_neg d5, if_pos (by omega)]; exact nI_le (a := 0) (by omega) (by omega)
      · by_cases k15 : k = 15
        · exact b_not N hN ro rc (ih (by omega)).1 hp h3 (by omega) (by omega) (by rw [h7, k15]) h8
        · exact b_plain N hN hR hNm ro rc hp (by omega) (by omega) (w := k) (by omega) hk h7 h8
    · refine Or.inl (b_none N ro rc hp n40 ?_ ?_ ?_)
      · rw [h7]; exact nI_nb (by omega) (by omega) (by omega)
      · rw [h7, bg_k N k hk, if_neg c]
      · rw [h7, lf_k k hk, if_neg (by omega), if_neg (by omega), if_neg (by omega), if_neg (by omega)]
end
