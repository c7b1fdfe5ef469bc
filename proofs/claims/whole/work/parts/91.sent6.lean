/-! PURE: sentences, one that is plain -/
theorem t_cmp {L lim st : Nat} {iT : Nat → Int32} {jT : Nat → Int64} {iY : Nat → Int32} {jY : Nat → Int64} (h : TR L lim st iT jT iY jY) : (∃ z, 60 ≤ z ∧ z ≤ 62 ∧ iT 8 = nI z ∧ iY 11 = 3 ∧ iY 14 = nI z ∧ st < min L lim) ∨ (¬ iT 8 = 60 ∧ ¬ iT 8 = 61 ∧ ¬ iT 8 = 62 ∧ (iY 11 = 3 → iY 14 < 60 ∨ ¬ iY 14 ≤ 62)) := by
  obtain ⟨-, -, -, a, b, -, hc⟩ := h
  have no : iT 8 = -1 → ¬ iY 11 = 3 → (¬ iT 8 = 60 ∧ ¬ iT 8 = 61 ∧ ¬ iT 8 = 62 ∧ (iY 11 = 3 → iY 14 < 60 ∨ ¬ iY 14 ≤ 62)) := by
    intro h8 h3
    rw [h8]
    exact ⟨by decide, by decide, by decide, fun x => absurd x h3⟩
  rcases hc with ⟨-, -, -, -, -, h8, h11⟩ | ⟨hs, -, hc⟩
  · refine Or.inr (no h8 ?_)
    rw [h11]; split <;> decide
  · rcases hc with ⟨-, h11, h8, -⟩ | ⟨-, h11, -, h8, -⟩ | ⟨-, h11, -, c, hc, h8, h14⟩ | ⟨-, h11, -, h8⟩
    · exact Or.inr (no h8 (by rw [h11]; decide))
    · exact Or.inr (no h8 (by rw [h11]; decide))
    · by_cases d : 60 ≤ c ∧ c ≤ 62
      · exact Or.inl ⟨c, d.1, d.2, h8, h11, h14, hs⟩
      · refine Or.inr ?_
        rw [h8, h14]
        rcases sgn_in hc with rfl | rfl | rfl | rfl | rfl | rfl
        · exact ⟨by decide, by decide, by decide, fun _ => Or.inl (by decide)⟩
        · omega
        · omega
        · omega
        · exact ⟨by decide, by decide, by decide, fun _ => Or.inl (by decide)⟩
        · exact ⟨by decide, by decide, by decide, fun _ => Or.inl (by decide)⟩
    · exact Or.inr (no h8 (by rw [h11]; decide))
section
variable (N : Nat) {sT : Nat → Nat → Int32} {iT : Nat → Int32} {jT : Nat → Int64} {iY : Nat → Int32} {sY : Nat → Nat → Int32} {tY : Nat → Nat → Int64} {jY : Nat → Int64} {L lim st : Nat} {K6 : YZ → YK} {P Q m o h e : Nat} {iS : Nat → Int32} {sS : Nat → Nat → Int32} {iC : Nat → Int32} {tC : Nat → Nat → Int64} {sC : Nat → Nat → Int32}
theorem b_plain (hN : 2000 ≤ N) (hR : ∀ k, k < 24 → tY 10 k = lN (e256 (wds k))) (hNm : NM (tC 2) (tY 9) 0 P Q) (ro rc : RF) (hp : PO P Q L lim st m o h e sT iT jT iS sS iY sY jY) (ho : o < 20) (he : e ≤ 8) {w : Nat} (hw : w = 3 ∨ w = 4 ∨ 16 ≤ w) (hw2 : w < 24) (h7 : iT 7 = nI w) (h8 : iT 8 = -1) : QF N tY K6 st iY sY jY (f_X7_readOne_o N ro rc sT iT jT iC tC sC iS sS (nI e)) ∨ QO N tY K6 P Q L lim st m o h e iT sS iY sY jY (f_X7_readOne_o N ro rc sT iT jT iC tC sC iS sS (nI e)) := by
  have hP := hp.hL.P7
  have hQ := hp.hL.Q5
  have hm : m < 40 := by have := hp.m2; omega
  have h44 : TR L lim st iT jT (va_up iY 44 (nI (o + 1))) jY := hp.tr
  obtain ⟨iT1, jT1, iY1, jY1, st1, a1, a2, a3, a4, a5, a6, a7, a8⟩ := t_next N (sT := sT) (sY := sY) hN hp.hB tY h44
  have hs1 : st < st1 := a5 (t_w7 hp.tr (by omega) h7)
  have g1 : GF iY iY1 := ((GF.rf iY).up (k := 44) rfl _).tr a7.gf
  have i44 : iY1 44 = nI (o + 1) := a7 44 (by omega) (by omega) (by omega) (by omega) (by omega) (by omega)
  have i43 : iY1 43 = nI m := (a7 43 (by omega) (by omega) (by omega) (by omega) (by omega) (by omega)).trans hp.sr.y43
  have i45 : iY1 45 = iY 45 := a7 45 (by omega) (by omega) (by omega) (by omega) (by omega) (by omega)
  have i46 : iY1 46 = iY 46 := a7 46 (by omega) (by omega) (by omega) (by omega) (by omega) (by omega)
  have i15 : iY1 15 = iY 15 := a7 15 (by omega) (by omega) (by omega) (by omega) (by omega) (by omega)
  have ex := x_pl N (iC := iC) (tC := tC) (sC := sC) ro rc hp ho he hw hw2 h7 h8 a1
  have s1 : va_up iS 0 (nI (o + 1)) 1 = nI m := hp.sr.s1
  have xa : ∀ (a b c : Int32), f_X6_addStep N (va_up iS 0 (nI (o + 1))) sS a b c = some (va_up (va_up iS 0 (nI (o + 1))) 1 (nI (m + 1)), adS sS m a b c) := fun a b c => x_adS N hm s1 a b c
  by_cases c1 : 16 ≤ w ∧ w < 20
  · -- no value
    have hr : lfv (nI w) = nI (w - 16) := by rw [lf_k w hw2, if_neg (by omega), if_neg (by omega), if_pos c1]
    have ey := y_pl N hp ho he hw hw2 h7 h8 hr (by omega) a2
    rw [if_neg (by omega), y_code N (iY := va_up iY1 47 1) (m := m) (by omega) i43, q_bd] at ey
    unfold f_X7_readPlain at ex
    simp only [q_jn] at ex
    rw [show (16 : Int32) = nI 16 from rfl, show (19 : Int32) = nI 19 from rfl, i_lt (by omega) (by omega), i_lt (by omega) (by omega), if_neg (by omega), if_neg (by omega), xa, q_bd, q_bd] at ex
    dsimp only at ex
    rw [q_z1] at ex
    refine Or.inr (QO_l N hp ho ex ey (Or.inr (Or.inr (Or.inr (Or.inl ⟨w - 16, by omega, congrArg nI (by omega), rfl⟩)))) (nI_nb (b := 15) (by omega) (by omega) (by omega)) (nI_nb (b := 14) (by omega) (by omega) (by omega)) (nI_nb (b := 13) (by omega) (by omega) (by omega)) rfl i44 i45 i46 rfl a3 hs1 a6 i15 ((g1.up (k := 47) rfl _).up (k := 43) rfl _))
  · by_cases c2 : 20 ≤ w
    · -- a sign and a number
      have hr : lfv (nI w) = nI (w - 14) := by rw [lf_k w hw2, if_neg (by omega), if_neg (by omega), if_neg c1, if_pos c2]
      have ey := y_pl N hp ho he hw hw2 h7 h8 hr (by omega) a2
      rw [if_pos (by omega), if_pos (by omega)] at ey
      unfold f_X7_readPlain at ex
      simp only [q_jn] at ex
      rw [show (16 : Int32) = nI 16 from rfl, show (19 : Int32) = nI 19 from rfl, show (4 : Int32) = nI 4 from rfl, show (3 : Int32) = nI 3 from rfl, i_lt (by omega) (by omega), i_lt (by omega) (by omega), i_eq (by omega) (by omega), i_eq (by omega) (by omega), if_neg (show ¬ w < 16 by omega), if_pos (show 19 < w by omega), if_neg (show ¬ w = 4 by omega), if_neg (show ¬ nI w = nI 3 from nI_nb (by omega) (by omega) (by omega))] at ex
      have hT47 : TR L lim st1 iT1 jT1 (va_up iY1 47 1) jY1 := a3
      rcases t_cmp a3 with ⟨z, z1, z2, z3, z4, z5, z6⟩ | ⟨z1, z2, z3, z4⟩
      · rw [z4, if_pos rfl, z5, if_neg (show ¬ nI z < 60 from fun x => by have := (nI_ltI (b := 60) (by omega) (by omega)).mp x; omega), if_pos (show nI z ≤ 62 from nI_le (b := 62) z2 (by omega))] at ey
        have e3 : ∀ {α : Type} {x y : Option α}, (if iT1 8 = 60 then x else if iT1 8 = 61 then x else if iT1 8 = 62 then x else y) = x := by
          intro α x y
          rw [z3, show (60 : Int32) = nI 60 from rfl, show (61 : Int32) = nI 61 from rfl, show (62 : Int32) = nI 62 from rfl, i_eq (by omega) (by omega), i_eq (by omega) (by omega), i_eq (by omega) (by omega)]
          by_cases d0 : z = 60
          · rw [if_pos d0]
          · rw [if_neg d0]
            by_cases d1 : z = 61
            · rw [if_pos d1]
            · rw [if_neg d1, if_pos (by omega)]
        rw [e3] at ex
        obtain ⟨iT2, jT2, iY2, jY2, st2, b1, b2, b3, b4, b5, b6, b7, b8⟩ := t_next N (sT := sT) (sY := sY) hN hp.hB tY hT47
        have hs2 : st1 < st2 := b5 z6
        rw [b1, q_bd] at ex
        rw [b2, q_bd] at ey
        dsimp only at ex ey
        have g2 : GF iY iY2 := (g1.up (k := 47) rfl 1).tr b7.gf
        have j43 : iY2 43 = nI m := (b7 43 (by omega) (by omega) (by omega) (by omega) (by omega) (by omega)).trans i43
        rcases t_num b3 with ⟨h5, h11, hs, v, hv, h9, h14⟩ | ⟨h5, h11⟩
        · rw [if_pos h11, y_code N (m := m) (by omega) j43, q_bd, h14] at ey
          dsimp only at ey
          have hT43 : TR L lim st2 iT2 jT2 (va_up iY2 43 (nI (m + 1))) jY2 := b3
          obtain ⟨iT3, jT3, iY3, jY3, st3, d1, d2, d3, d4, d5, d6, d7, d8⟩ := t_next N (sT := sT) (sY := va_up sY 8 (ad3 (sY 8) m (nI (w - 14)) (nI z) (nI v))) hN hp.hB tY hT43
          rw [d2, q_bd] at ey
          have pn : f_X8_passNumber N sT iT2 jT2 0 999 = some (nI v, iT3, jT3) := by
            unfold f_X8_passNumber
            rw [if_pos h5, q_jn, h9, if_neg (nI_n0 (by omega)), if_pos (show nI v ≤ 999 from nI_le (b := 999) hv (by omega)), d1, q_bd]
          rw [pn, q_bd] at ex
          dsimp only at ex
          rw [if_neg (nI_m1 (by omega)), xa, q_bd, q_bd] at ex
          dsimp only at ex
          rw [q_z1, z3] at ex
          have k : ∀ i, i ≠ 4 → i ≠ 11 → i ≠ 12 → i ≠ 13 → i ≠ 14 → i ≠ 18 → i ≠ 43 → i ≠ 47 → iY3 i = iY1 i := by
            intro i i1 i2 i3 i4 i5 i6 i7 i8
            rw [d7 i i1 i2 i3 i4 i5 i6, q_vn _ _ i7, b7 i i1 i2 i3 i4 i5 i6, q_vn _ _ i8]
          refine Or.inr (QO_l N hp ho ex ey (Or.inr (Or.inr (Or.inr (Or.inr (Or.inr (Or.inr ⟨w - 20, z, v, by omega, congrArg nI (by omega), congrArg nI (by omega), z1, z2, hv, rfl, rfl, rfl, rfl⟩)))))) (nI_nb (b := 15) (by omega) (by omega) (by omega)) (nI_nb (b := 14) (by omega) (by omega) (by omega)) (nI_nb (b := 13) (by omega) (by omega) (by omega)) ?_ ?_ ?_ ?_ ?_ d3 (by have := d5 hs; omega) (d6.trans (b6.trans a6)) ?_ ((g2.up (k := 43) rfl _).tr d7.gf))
          · exact d7 43 (by omega) (by omega) (by omega) (by omega) (by omega) (by omega)
          · exact (k 44 (by omega) (by omega) (by omega) (by omega) (by omega) (by omega) (by omega) (by omega)).trans i44
          · exact (k 45 (by omega) (by omega) (by omega) (by omega) (by omega) (by omega) (by omega) (by omega)).trans i45
          · exact (k 46 (by omega) (by omega) (by omega) (by omega) (by omega) (by omega) (by omega) (by omega)).trans i46
          · exact (d7 47 (by omega) (by omega) (by omega) (by omega) (by omega) (by omega)).trans (b7 47 (by omega) (by omega) (by omega) (by omega) (by omega) (by omega))
          · exact (k 15 (by omega) (by omega) (by omega) (by omega) (by omega) (by omega) (by omega) (by omega)).trans i15
        · obtain ⟨r1, r2, r3, r4⟩ := y_refuse N (sT := sT) (sY := sY) (tY := tY) b3 1
          have pn : f_X8_passNumber N sT iT2 jT2 0 999 = some (-1, va_up (va_up iT2 11 1) 12 (nI st2), jT2) := by
            unfold f_X8_passNumber
            rw [if_neg h5, r1, q_bd]
          rw [pn, q_bd] at ex
          dsimp only at ex
          rw [if_pos rfl, q_bd] at ex
          dsimp only at ex
          rw [q_z0] at ex
          rw [if_neg h11, r2, q_bd] at ey
          dsimp only at ey
          rw [q_z0] at ey
          exact Or.inl (QF_1 N hp.tr hp.y47 ex ey r3 (g2.tr r4) (fun _ _ _ => rfl))
      · obtain ⟨r1, r2, r3, r4⟩ := y_refuse N (sT := sT) (sY := sY) (tY := tY) hT47 1
        rw [if_neg z1, if_neg z2, if_neg z3, r1, q_bd] at ex
        dsimp only at ex
        rw [q_z0, q_bd] at ex
        dsimp only at ex
        rw [q_z0] at ex
        have ey2 : f_X11_operand N iY sY tY jY = some (0, va_up (va_up (va_up iY1 47 1) 15 1) 16 (nI st1), sY, jY1) := by
          rw [ey, r2, q_bd]
          dsimp only
          rw [q_z0]
          by_cases d0 : iY1 11 = 3
          · rw [if_pos d0]
            rcases z4 d0 with d1 | d1
            · rw [if_pos d1]
            · rw [if_neg d1]; split <;> rfl
          · rw [if_neg d0]
        exact Or.inl (QF_1 N hp.tr hp.y47 ex ey2 r3 ((g1.up (k := 47) rfl 1).tr r4) (fun _ _ _ => rfl))
    · -- a name
      have hT47 : TR L lim st1 iT1 jT1 (va_up iY1 47 1) jY1 := a3
      rcases (by omega : w = 4 ∨ w = 3) with rfl | rfl
      · have hr : lfv (nI 4) = nI 4 := rfl
        have ey := y_pl N hp ho he hw hw2 h7 h8 hr (by omega) a2
        rw [if_pos (show 4 ≤ 4 by omega), if_neg (show ¬ 6 ≤ 4 by omega), if_pos (show 4 = 4 from rfl), hp.hL.s0] at ey
        unfold f_X7_readPlain at ex
        simp only [q_jn] at ex
        rw [if_pos (show nI 4 < 16 by decide), if_pos (show nI 4 = 4 from rfl), if_pos (show nI 4 = 4 from rfl)] at ex
        rcases b_perH N (sT := sT) (iC := iC) (sC := sC) (sY := sY) (base := 0) hN hR hP hQ (by omega) hNm hT47 with ⟨iT2, iY2, e1, e2, e3, e4⟩ | ⟨p, hpP, e1, e2, hs⟩
        · rw [show f_X11_looksAt N (va_up iY1 47 1) sY tY jY1 0 (nI P) = _ from e2, q_bd] at ey
          dsimp only at ey
          rw [if_pos rfl] at ey
          have pn : f_X8_passPerson N sT iT1 jT1 iC tC sC = some (-1, iT2, jT1) := by
            unfold f_X8_passPerson
            rw [e1, q_bd]
            dsimp only
            rw [if_pos rfl]
          rw [pn, q_bd] at ex
          dsimp only at ex
          rw [if_pos rfl, q_bd] at ex
          dsimp only at ex
          rw [q_z0] at ex
          exact Or.inl (QF_1 N hp.tr hp.y47 ex ey e3 ((g1.up (k := 47) rfl 1).tr e4) (fun _ _ _ => rfl))
        · rw [show f_X11_looksAt N (va_up iY1 47 1) sY tY jY1 0 (nI P) = _ from e2, q_bd] at ey
          dsimp only at ey
          rw [if_neg (show ¬ (1 : Int32) = 0 by decide), y_code N (iY := va_up (va_up iY1 47 1) 18 (nI p)) (m := m) (by omega) i43, q_bd, q_ve] at ey
          dsimp only at ey
          have hT43 : TR L lim st1 iT1 jT1 (va_up (va_up (va_up iY1 47 1) 18 (nI p)) 43 (nI (m + 1))) jY1 := a3
          obtain ⟨iT3, jT3, iY3, jY3, st3, d1, d2, d3, d4, d5, d6, d7, d8⟩ := t_next N (sT := sT) (sY := va_up sY 8 (ad3 (sY 8) m (nI 4) 0 (nI p))) hN hp.hB tY hT43
          rw [d2, q_bd] at ey
          have pn : f_X8_passPerson N sT iT1 jT1 iC tC sC = some (nI p, iT3, jT3) := by
            unfold f_X8_passPerson
            rw [e1, q_bd]
            dsimp only
            rw [if_neg (nI_m1 (by omega)), d1, q_bd]
          rw [pn, q_bd] at ex
          dsimp only at ex
          rw [if_neg (nI_m1 (by omega)), xa, q_bd, q_bd] at ex
          dsimp only at ex
          rw [q_z1] at ex
          refine Or.inr (QO_l N hp ho ex ey (Or.inr <| Or.inr <| Or.inr <| Or.inr <| Or.inl ⟨rfl, rfl, p, hpP, rfl, rfl⟩) (by decide) (by decide) (by decide) ?_ ?_ ?_ ?_ ?_ d3 (by have := d5 hs; omega) (d6.trans a6) ?_ ((((g1.up (k := 47) rfl 1).up (k := 18) rfl _).up (k := 43) rfl _).tr d7.gf))
          · exact d7 43 (by omega) (by omega) (by omega) (by omega) (by omega) (by omega)
          · exact (d7 44 (by omega) (by omega) (by omega) (by omega) (by omega) (by omega)).trans i44
          · exact (d7 45 (by omega) (by omega) (by omega) (by omega) (by omega) (by omega)).trans i45
          · exact (d7 46 (by omega) (by omega) (by omega) (by omega) (by omega) (by omega)).trans i46
          · exact d7 47 (by omega) (by omega) (by omega) (by omega) (by omega) (by omega)
          · exact (d7 15 (by omega) (by omega) (by omega) (by omega) (by omega) (by omega)).trans i15
      · have hr : lfv (nI 3) = nI 5 := rfl
        have ey := y_pl N hp ho he hw hw2 h7 h8 hr (by omega) a2
        rw [if_pos (show 4 ≤ 5 by omega), if_neg (show ¬ 6 ≤ 5 by omega), if_neg (show ¬ 5 = 4 by omega), hp.hL.s1] at ey
        unfold f_X7_readPlain at ex
        simp only [q_jn] at ex
        rw [if_pos (show nI 3 < 16 by decide), if_neg (show ¬ nI 3 = 4 by decide), if_pos (show nI 3 = 3 from rfl), if_neg (show ¬ nI 3 = 4 by decide)] at ex
        rcases b_goodH N (sT := sT) (iC := iC) (sC := sC) (sY := sY) (base := 0) hN hR hP hQ (by omega) hNm hT47 with ⟨iT2, iY2, e1, e2, e3, e4⟩ | ⟨p, hpP, e1, e2, hs⟩
        · rw [show f_X11_looksAt N (va_up iY1 47 1) sY tY jY1 7 (nI Q) = _ from e2, q_bd] at ey
          dsimp only at ey
          rw [if_pos rfl] at ey
          have pn : f_X8_passGood N sT iT1 jT1 iC tC sC = some (-1, iT2, jT1) := by
            unfold f_X8_passGood
            rw [e1, q_bd]
            dsimp only
            rw [if_pos rfl]
          rw [pn, q_bd] at ex
          dsimp only at ex
          rw [if_pos rfl, q_bd] at ex
          dsimp only at ex
          rw [q_z0] at ex
          exact Or.inl (QF_1 N hp.tr hp.y47 ex ey e3 ((g1.up (k := 47) rfl 1).tr e4) (fun _ _ _ => rfl))
        · rw [show f_X11_looksAt N (va_up iY1 47 1) sY tY jY1 7 (nI Q) = _ from e2, q_bd] at ey
          dsimp only at ey
          rw [if_neg (show ¬ (1 : Int32) = 0 by decide), y_code N (iY := va_up (va_up iY1 47 1) 18 (nI p)) (m := m) (by omega) i43, q_bd, q_ve] at ey
          dsimp only at ey
          have hT43 : TR L lim st1 iT1 jT1 (va_up (va_up (va_up iY1 47 1) 18 (nI p)) 43 (nI (m + 1))) jY1 := a3
          obtain ⟨iT3, jT3, iY3, jY3, st3, d1, d2, d3, d4, d5, d6, d7, d8⟩ := t_next N (sT := sT) (sY := va_up sY 8 (ad3 (sY 8) m (nI 5) 0 (nI p))) hN hp.hB tY hT43
          rw [d2, q_bd] at ey
          have pn : f_X8_passGood N sT iT1 jT1 iC tC sC = some (nI p, iT3, jT3) := by
            unfold f_X8_passGood
            rw [e1, q_bd]
            dsimp only
            rw [if_neg (nI_m1 (by omega)), d1, q_bd]
          rw [pn, q_bd] at ex
          dsimp only at ex
          rw [if_neg (nI_m1 (by omega)), xa, q_bd, q_bd] at ex
          dsimp only at ex
          rw [q_z1] at ex
          refine Or.inr (QO_l N hp ho ex ey (Or.inr <| Or.inr <| Or.inr <| Or.inr <| Or.inr <| Or.inl ⟨rfl, rfl, p, hpP, rfl, rfl⟩) (by decide) (by decide) (by decide) ?_ ?_ ?_ ?_ ?_ d3 (by have := d5 hs; omega) (d6.trans a6) ?_ ((((g1.up (k := 47) rfl 1).up (k := 18) rfl _).up (k := 43) rfl _).tr d7.gf))
          · exact d7 43 (by omega) (by omega) (by omega) (by omega) (by omega) (by omega)
          · exact (d7 44 (by omega) (by omega) (by omega) (by omega) (by omega) (by omega)).trans i44
          · exact (d7 45 (by omega) (by omega) (by omega) (by omega) (by omega) (by omega)).trans i45
          · exact (d7 46 (by omega) (by omega) (by omega) (by omega) (by omega) (by omega)).trans i46
          · exact d7 47 (by omega) (by omega) (by omega) (by omega) (by omega) (by omega)
          · exact (d7 15 (by omega) (by omega) (by omega) (by omega) (by omega) (by omega)).trans i15
end
