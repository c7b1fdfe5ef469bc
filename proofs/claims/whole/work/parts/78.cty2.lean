/-! PURE: a county's lines, one by one -/
abbrev XO : Type := Option (Int32 × (Nat → Int32) × (Nat → Int32) × (Nat → Int64) × (Nat → Int32) × (Nat → Nat → Int64) × (Nat → Nat → Int32))
abbrev YO : Type := Option (Int32 × (Nat → Int32) × (Nat → Nat → Int32) × (Nat → Nat → Int64) × (Nat → Int64))
def LO (L lim st : Nat) (iT iY : Nat → Int32) (sY : Nat → Nat → Int32) (tY : Nat → Nat → Int64) (fx : XO) (fy : YO) : Prop :=
  (∃ iR' iT' jT' iC' tC' sC' iY' sY' tY' jY', fx = some (0, iR', iT', jT', iC', tC', sC') ∧ fy = some (0, iY', sY', tY', jY') ∧ FT iT' iY' ∧ YF iY sY tY iY' sY' tY') ∨
  (∃ iR' iT' jT' iC' tC' sC' iY' sY' tY' jY' st' P' Q', fx = some (1, iR', iT', jT', iC', tC', sC') ∧ fy = some (1, iY', sY', tY', jY') ∧ DR iR' iC' tC' sC' iY' sY' tY' P' Q' ∧ TR L lim st' iT' jT' iY' jY' ∧ st < st' ∧ iT' 11 = iT 11 ∧ iY' 15 = iY 15 ∧ iY' 19 = iY 19 ∧ YF iY sY tY iY' sY' tY')
theorem SF.at {a b : Nat → Int32} (h : SF a b) : b 15 = a 15 ∧ b 19 = a 19 ∧ b 20 = a 20 := ⟨h 15 (by omega) (by omega) (by omega) (by omega) (by omega) (by omega), h 19 (by omega) (by omega) (by omega) (by omega) (by omega) (by omega), h 20 (by omega) (by omega) (by omega) (by omega) (by omega) (by omega)⟩
section
variable (N : Nat) {sT : Nat → Nat → Int32} {iT : Nat → Int32} {jT : Nat → Int64} {iY : Nat → Int32} {sY : Nat → Nat → Int32} {tY : Nat → Nat → Int64} {jY : Nat → Int64} {iR iC : Nat → Int32} {tC : Nat → Nat → Int64} {sC : Nat → Nat → Int32} {L lim st P Q : Nat}
/-- a county's picture under single changes -/
theorem CP.per {h : Nat → Int32} (hc : CP h iC sC) (hP : P < 7) (v w : Int32) : CP (upd (upd h (5 + P) v) 0 w) (va_up iC 0 w) (va_up sC 3 (upd (sC 3) P v)) := by
  refine ⟨rfl, ?_, ?_, ?_, ?_, fun k hk => ⟨?_, ?_, ?_⟩, fun k hk => ⟨?_, ?_, ?_⟩⟩
  · rw [pk_un (by omega), pk_un (by omega)]; exact hc.go
  · rw [pk_un (by omega), pk_un (by omega)]; exact hc.de
  · rw [pk_un (by omega), pk_un (by omega)]; exact hc.ve
  · rw [pk_un (by omega), pk_un (by omega)]; exact hc.be
  · rw [q_ve, q_us, q_us, q_us, if_neg (show ¬ 5 + k = 0 by omega), hc.co hk]; simp only [Nat.add_left_cancel_iff]
  · rw [q_vn _ _ (by omega), pk_un (by omega), pk_un (by omega)]; exact hc.kn hk
  · rw [q_vn _ _ (by omega), pk_un (by omega), pk_un (by omega)]; exact hc.fo hk
  · rw [q_vn _ _ (by omega), pk_un (by omega), pk_un (by omega)]; exact hc.st hk
  · rw [q_vn _ _ (by omega), pk_un (by omega), pk_un (by omega)]; exact hc.wa hk
  · rw [q_vn _ _ (by omega), pk_un (by omega), pk_un (by omega)]; exact hc.pr hk
theorem CP.gd {h : Nat → Int32} (hc : CP h iC sC) (w : Int32) : CP (upd h 1 w) (va_up iC 1 w) sC := by
  refine ⟨hc.pe, rfl, hc.de, hc.ve, hc.be, fun k hk => ⟨?_, ?_, ?_⟩, fun k hk => ⟨?_, ?_, ?_⟩⟩
  · rw [pk_un (by omega)]; exact hc.co hk
  · rw [pk_un (by omega)]; exact hc.kn hk
  · rw [pk_un (by omega)]; exact hc.fo hk
  · rw [pk_un (by omega)]; exact hc.st hk
  · rw [pk_un (by omega)]; exact hc.wa hk
  · rw [pk_un (by omega)]; exact hc.pr hk
theorem b_rPerson (hN : 2000 ≤ N) (hB : ∀ k, k < 940 → sT 0 k = sY 1 k &&& 255) (hR : ∀ k, k < 24 → tY 10 k = lN (e256 (wds k))) (hD : DR iR iC tC sC iY sY tY P Q) (h : TR L lim st iT jT iY jY) (hs : st < min L lim) :
    LO L lim st iT iY sY tY (bd (f_X2_readPerson N iR sT iT jT iC tC sC) (fun (z : Int32 × (Nat → Int32) × (Nat → Int64) × (Nat → Int32) × (Nat → Nat → Int64) × (Nat → Nat → Int32)) => match z with | (r_2, iT_3, jT_4, iC_5, tC_6, sC_7) => zb r_2 (some (r_2, iR, iT_3, jT_4, iC_5, tC_6, sC_7)))) (bd (f_X11_readPerson N iY sY tY jY) (fun (z : Int32 × (Nat → Int32) × (Nat → Nat → Int32) × (Nat → Nat → Int64) × (Nat → Int64)) => match z with | (r_81, iY_82, sY_83, tY_84, jY_85) => zb r_81 (some (r_81, iY_82, sY_83, tY_84, jY_85)))) := by
  obtain ⟨hC, hL, hNm, f2, f3, f4⟩ := hD
  have hP := hL.P7
  have hQ := hL.Q5
  unfold f_X2_readPerson f_X11_readPerson
  rw [hC.pe, hL.s0]
  rcases Nat.lt_or_ge P 7 with h7 | h7
  · rw [if_pos (show nI P < 7 from (nI_ltI (b := 7) (by omega) (by omega)).mpr h7), if_neg (show ¬ nI P = 7 from nI_nb (b := 7) (by omega) (by omega) (by omega))]
    obtain ⟨iT1, jT1, iY1, jY1, st1, a1, a2, a3, a4, a5, a6, a7, a8⟩ := t_next N hN hB tY h
    rw [a1, a2, q_bd, q_bd]
    dsimp only
    rw [show (12 : Int32) = nI 12 from rfl, nI_add]
    have h15 := a5 hs
    rcases b_fresh N (iR := iR) (iC := iC) (sC := sC) hN hB hR hP hQ hNm hL.s0 hL.s1 a3 (k := P) (by omega) with ⟨iT2, iY2, c1, c2, c3, c4⟩ | ⟨iT2, jT2, iY2, jY2, st2, c1, c2, c3, c4, c5, c6, c7, c8⟩
    · rw [c1, c2, q_bd, q_bd]
      exact Or.inl ⟨_, _, _, _, _, _, _, _, _, _, rfl, rfl, c3, (YF.rf iY sY tY).i (a7.gf.tr c4)⟩
    · rw [c1, c2, q_bd, q_bd]
      dsimp only
      rw [if_neg (show ¬ (1 : Int32) = 0 by decide), if_neg (show ¬ (1 : Int32) = 0 by decide), show (5 : Int32) = nI 5 from rfl, nI_add]
      have hB2 : ∀ k, k < 940 → sT 0 k = sY 1 k &&& 255 := hB
      rcases b_puts N (tY := va_up tY 9 (vp_updL (tY 9) (12 + P) (jY1 17))) hN hB c5 (to := 5 + P) (lo := 0) (hi := 99) (by omega) (by omega) (by omega) with ⟨iT3, iY3, d1, d2, d3, d4⟩ | ⟨v, iT3, jT3, iY3, jY3, st3, v1, v2, d1, d2, d3, d4, d5, d6⟩
      · rw [show f_X8_passNumber N sT iT2 jT2 0 99 = _ from d1, show f_X11_puts N iY2 sY (va_up tY 9 (vp_updL (tY 9) (12 + P) (jY1 17))) jY2 (nI (5 + P)) 0 99 = _ from d2, q_bd, q_bd]
        exact Or.inl ⟨_, _, _, _, _, _, _, _, _, _, rfl, rfl, d3, ((YF.rf iY sY tY).i (a7.gf.tr (c8.gf.tr d4))).n (by omega) _⟩
      · rw [show f_X8_passNumber N sT iT2 jT2 0 99 = _ from d1, show f_X11_puts N iY2 sY (va_up tY 9 (vp_updL (tY 9) (12 + P) (jY1 17))) jY2 (nI (5 + P)) 0 99 = _ from d2, q_bd, q_bd]
        dsimp only
        rw [if_neg (nI_m1 (by omega)), if_neg (show ¬ (1 : Int32) = 0 by decide), q_ck h7 (by omega), q_nv, q_nv, q_ve, q_vv, show ix (nI P) = P from q_ix (by omega), nI_1, pk_un (show 0 ≠ 5 + P by omega), hL.s0, nI_1, q_bd, q_bd]
        have hsf := (a7.tr c8).tr d6
        refine Or.inr ⟨_, _, _, _, _, _, _, _, _, _, st3, P + 1, Q, rfl, rfl, ⟨?_, ?_, ?_, ?_, ?_, ?_⟩, d3, by omega, d5.trans (c7.trans a6), hsf.at.1, hsf.at.2.1, (((YF.rf iY sY tY).i hsf.gf).n (by omega) _).h _⟩
        · dsimp only; rw [q_ve]; exact hC.per h7 _ _
        · dsimp only; rw [q_ve]
          refine hL.up (P' := P + 1) (Q' := Q) (by omega) (by omega) (by omega) hQ rfl ?_ (fun k k0 k1 k2 k3 => ?_)
          · rw [pk_un (by omega), pk_un (by omega)]; exact hL.s1
          · rw [pk_un k0, pk_un (by omega)]
        · dsimp only; rw [q_ve, q_ve]; exact hNm.per h7 c3 c4
        · dsimp only; rw [hsf.at.2.2]; exact f2
        · dsimp only; rw [hsf.at.2.2]; exact f3
        · dsimp only; rw [hsf.at.2.2]; exact f4
  · have : P = 7 := by omega
    subst this
    obtain ⟨r1, r2, r3, r4⟩ := y_refuse N (sT := sT) (sY := sY) (tY := tY) h 4
    rw [if_neg (by decide), if_pos (by decide), r1, r2, q_bd, q_bd]
    exact Or.inl ⟨_, _, _, _, _, _, _, _, _, _, rfl, rfl, r3, (YF.rf iY sY tY).i r4⟩
theorem b_rGood (hN : 2000 ≤ N) (hB : ∀ k, k < 940 → sT 0 k = sY 1 k &&& 255) (hR : ∀ k, k < 24 → tY 10 k = lN (e256 (wds k))) (hD : DR iR iC tC sC iY sY tY P Q) (h : TR L lim st iT jT iY jY) (hs : st < min L lim) :
    LO L lim st iT iY sY tY (bd (f_X2_readGood N iR sT iT jT iC tC sC) (fun (z : Int32 × (Nat → Int32) × (Nat → Int64) × (Nat → Int32) × (Nat → Nat → Int64)) => match z with | (r_11, iT_12, jT_13, iC_14, tC_15) => zb r_11 (some (r_11, iR, iT_12, jT_13, iC_14, tC_15, sC)))) (bd (f_X11_readGood N iY sY tY jY) (fun (z : Int32 × (Nat → Int32) × (Nat → Nat → Int32) × (Nat → Nat → Int64) × (Nat → Int64)) => match z with | (r_74, iY_75, sY_76, tY_77, jY_78) => zb r_74 (some (r_74, iY_75, sY_76, tY_77, jY_78)))) := by
  obtain ⟨hC, hL, hNm, f2, f3, f4⟩ := hD
  have hP := hL.P7
  have hQ := hL.Q5
  unfold f_X2_readGood f_X11_readGood
  rw [hC.go, hL.s1]
  rcases Nat.lt_or_ge Q 5 with h7 | h7
  · rw [if_pos (show nI Q < 5 from (nI_ltI (b := 5) (by omega) (by omega)).mpr h7), if_neg (show ¬ nI Q = 5 from nI_nb (b := 5) (by omega) (by omega) (by omega))]
    obtain ⟨iT1, jT1, iY1, jY1, st1, a1, a2, a3, a4, a5, a6, a7, a8⟩ := t_next N hN hB tY h
    rw [a1, a2, q_bd, q_bd]
    dsimp only
    rw [show (19 : Int32) = nI 19 from rfl, nI_add, show (7 : Int32) = nI 7 from rfl, nI_add, show 19 + Q = 12 + (7 + Q) by omega]
    have h15 := a5 hs
    rcases b_fresh N (iR := iR) (iC := iC) (sC := sC) hN hB hR hP hQ hNm hL.s0 hL.s1 a3 (k := 7 + Q) (by omega) with ⟨iT2, iY2, c1, c2, c3, c4⟩ | ⟨iT2, jT2, iY2, jY2, st2, c1, c2, c3, c4, c5, c6, c7, c8⟩
    · rw [c1, c2, q_bd, q_bd]
      exact Or.inl ⟨_, _, _, _, _, _, _, _, _, _, rfl, rfl, c3, (YF.rf iY sY tY).i (a7.gf.tr c4)⟩
    · rw [c1, c2, q_bd, q_bd]
      dsimp only
      rw [if_neg (show ¬ (1 : Int32) = 0 by decide), if_neg (show ¬ (1 : Int32) = 0 by decide), q_nv, nI_1, q_bd, q_bd]
      have hsf := a7.tr c8
      refine Or.inr ⟨_, _, _, _, _, _, _, _, _, _, st2, P, Q + 1, rfl, rfl, ⟨?_, ?_, ?_, ?_, ?_, ?_⟩, c5, by omega, c7.trans a6, hsf.at.1, hsf.at.2.1, (((YF.rf iY sY tY).i hsf.gf).n (by omega) _).h _⟩
      · dsimp only; rw [q_ve]; exact hC.gd _
      · dsimp only; rw [q_ve]
        refine hL.up (P' := P) (Q' := Q + 1) (by omega) (by omega) hP (by omega) ?_ rfl (fun k k0 k1 k2 k3 => ?_)
        · rw [pk_un (by omega)]; exact hL.s0
        · rw [pk_un k1]
      · dsimp only; rw [q_ve, q_ve]; exact hNm.gd hP h7 c3 c4
      · dsimp only; rw [hsf.at.2.2]; exact f2
      · dsimp only; rw [hsf.at.2.2]; exact f3
      · dsimp only; rw [hsf.at.2.2]; exact f4
  · have : Q = 5 := by omega
    subst this
    obtain ⟨r1, r2, r3, r4⟩ := y_refuse N (sT := sT) (sY := sY) (tY := tY) h 4
    rw [if_neg (by decide), if_pos (by decide), r1, r2, q_bd, q_bd]
    exact Or.inl ⟨_, _, _, _, _, _, _, _, _, _, rfl, rfl, r3, (YF.rf iY sY tY).i r4⟩
theorem CP.sDe {h : Nat → Int32} (hc : CP h iC sC) (w : Int32) : CP (upd h 2 w) (va_up iC 9 w) sC := by
  refine ⟨hc.pe, hc.go, rfl, hc.ve, hc.be, fun k hk => ⟨?_, ?_, ?_⟩, fun k hk => ⟨?_, ?_, ?_⟩⟩
  · rw [pk_un (by omega)]; exact hc.co hk
  · rw [pk_un (by omega)]; exact hc.kn hk
  · rw [pk_un (by omega)]; exact hc.fo hk
  · rw [pk_un (by omega)]; exact hc.st hk
  · rw [pk_un (by omega)]; exact hc.wa hk
  · rw [pk_un (by omega)]; exact hc.pr hk
theorem IL.sDe {h : Nat → Int32} (hL : IL h P Q) {v : Nat} (h1 : 1 ≤ v) (h2 : v ≤ 9) : IL (upd h 2 (nI v)) P Q := by
  refine ⟨hL.P7, hL.Q5, hL.s0, hL.s1, ⟨v, h1, h2, rfl⟩, hL.ve, hL.be, hL.st.to (fun k hk => pk_un (by omega)), hL.pr.to (fun k hk => pk_un (by omega)), hL.wa.to (fun k hk => pk_un (by omega)), hL.kn.to hL.P7 (fun k hk => pk_un (by omega)), hL.fo.to hL.P7 (fun k hk => pk_un (by omega))⟩
theorem b_rDeals (hN : 2000 ≤ N) (hB : ∀ k, k < 940 → sT 0 k = sY 1 k &&& 255) (hD : DR iR iC tC sC iY sY tY P Q) (h : TR L lim st iT jT iY jY) (hs : st < min L lim) :
    LO L lim st iT iY sY tY (bd (f_X2_readDeals N iR sT iT jT iC tC sC) (fun (z : Int32 × (Nat → Int32) × (Nat → Int32) × (Nat → Int64) × (Nat → Int32)) => match z with | (r_47, iR_48, iT_49, jT_50, iC_51) => zb r_47 (some (r_47, iR_48, iT_49, jT_50, iC_51, tC, sC)))) (bd (f_X11_once N iY sY tY jY 0 2 1 9) (fun (z : Int32 × (Nat → Int32) × (Nat → Nat → Int32) × (Nat → Int64)) => match z with | (r_44, iY_45, sY_46, jY_47) => zb r_44 (some (r_44, iY_45, sY_46, tY, jY_47)))) := by
  obtain ⟨hC, hL, hNm, f2, f3, f4⟩ := hD
  unfold f_X2_readDeals f_X11_once
  rw [f2, show f_X11_bitOf N (iY 20) 0 = some (bI (tb (iY 20) 0)) from y_bitOf N _ (k := 0) (by omega), q_bd, q_b0, q_b0]
  cases hb : tb (iY 20) 0 with
  | true =>
    obtain ⟨r1, r2, r3, r4⟩ := y_refuse N (sT := sT) (sY := sY) (tY := tY) h 3
    rw [if_pos rfl, if_pos rfl, r1, r2, q_bd, q_bd]
    exact Or.inl ⟨_, _, _, _, _, _, _, _, _, _, rfl, rfl, r3, (YF.rf iY sY tY).i r4⟩
  | false =>
    have hTR : TR L lim st iT jT (va_up iY 20 (iY 20 ||| pb 0)) jY := h
    obtain ⟨iT1, jT1, iY1, jY1, st1, a1, a2, a3, a4, a5, a6, a7, a8⟩ := t_next N hN hB tY hTR
    have h15 := a5 hs
    have g20 : GF iY (va_up iY 20 (iY 20 ||| pb 0)) := (GF.rf iY).up rfl _
    rw [if_neg (by decide), if_neg (by decide), q_nv, a1, show f_X11_next N (va_up iY 20 (iY 20 ||| ((1 : Int32) <<< ((0 : Int32) &&& 31)))) sY tY jY = _ from a2, q_bd, q_bd]
    dsimp only
    rcases b_puts N (tY := tY) hN hB a3 (to := 2) (lo := 1) (hi := 9) (by omega) (by omega) (by omega) with ⟨iT3, iY3, d1, d2, d3, d4⟩ | ⟨v, iT3, jT3, iY3, jY3, st3, v1, v2, d1, d2, d3, d4, d5, d6⟩
    · rw [show f_X8_passNumber N sT iT1 jT1 1 9 = _ from d1, show f_X11_puts N iY1 sY tY jY1 2 1 9 = _ from d2, q_bd, q_bd]
      exact Or.inl ⟨_, _, _, _, _, _, _, _, _, _, rfl, rfl, d3, (YF.rf iY sY tY).i (g20.tr (a7.gf.tr d4))⟩
    · rw [show f_X8_passNumber N sT iT1 jT1 1 9 = _ from d1, show f_X11_puts N iY1 sY tY jY1 2 1 9 = _ from d2, q_bd, q_bd]
      dsimp only
      rw [if_neg (nI_m1 (by omega)), q_bd, q_z1, q_z1, q_bd]
      have hsf := a7.tr d6
      have e20 : iY3 20 = iY 20 ||| pb 0 := hsf.at.2.2
      have tbs : ∀ i, i < 3 → tb (iY 20 ||| pb 0) i = (tb (iY 20) i || decide (i = 0)) := fun i hi => by rw [tb_or, tb_pb 0 (by omega) i (by omega)]
      refine Or.inr ⟨_, _, _, _, _, _, _, _, _, _, st3, P, Q, rfl, rfl, ⟨?_, ?_, ?_, ?_, ?_, ?_⟩, d3, by omega, d5.trans a6, hsf.at.1, hsf.at.2.1, ((YF.rf iY sY tY).i (g20.tr hsf.gf)).h _⟩
      · dsimp only; rw [q_ve]; exact hC.sDe _
      · dsimp only; rw [q_ve]; exact hL.sDe v1 v2
      · exact hNm
      · dsimp only; rw [e20, tbs 0 (by omega)]; rw [decide_eq_true rfl, Bool.or_true]; rfl
      · dsimp only; rw [e20, tbs 1 (by omega)]; rw [decide_eq_false (by omega), Bool.or_false]; exact f3
      · dsimp only; rw [e20, tbs 2 (by omega)]; rw [decide_eq_false (by omega), Bool.or_false]; exact f4
theorem CP.sVe {h : Nat → Int32} (hc : CP h iC sC) (w : Int32) : CP (upd h 3 w) (va_up iC 10 w) sC := by
  refine ⟨hc.pe, hc.go, hc.de, rfl, hc.be, fun k hk => ⟨?_, ?_, ?_⟩, fun k hk => ⟨?_, ?_, ?_⟩⟩
  · rw [pk_un (by omega)]; exact hc.co hk
  · rw [pk_un (by omega)]; exact hc.kn hk
  · rw [pk_un (by omega)]; exact hc.fo hk
  · rw [pk_un (by omega)]; exact hc.st hk
  · rw [pk_un (by omega)]; exact hc.wa hk
  · rw [pk_un (by omega)]; exact hc.pr hk
theorem IL.sVe {h : Nat → Int32} (hL : IL h P Q) {v : Nat} (h1 : 0 ≤ v) (h2 : v ≤ 9) : IL (upd h 3 (nI v)) P Q := by
  refine ⟨hL.P7, hL.Q5, hL.s0, hL.s1, hL.de, ⟨v, h2, rfl⟩, hL.be, hL.st.to (fun k hk => pk_un (by omega)), hL.pr.to (fun k hk => pk_un (by omega)), hL.wa.to (fun k hk => pk_un (by omega)), hL.kn.to hL.P7 (fun k hk => pk_un (by omega)), hL.fo.to hL.P7 (fun k hk => pk_un (by omega))⟩
theorem b_rVeils (hN : 2000 ≤ N) (hB : ∀ k, k < 940 → sT 0 k = sY 1 k &&& 255) (hD : DR iR iC tC sC iY sY tY P Q) (h : TR L lim st iT jT iY jY) (hs : st < min L lim) :
    LO L lim st iT iY sY tY (bd (f_X2_readVeils N iR sT iT jT iC tC sC) (fun (z : Int32 × (Nat → Int32) × (Nat → Int32) × (Nat → Int64) × (Nat → Int32)) => match z with | (r_47, iR_48, iT_49, jT_50, iC_51) => zb r_47 (some (r_47, iR_48, iT_49, jT_50, iC_51, tC, sC)))) (bd (f_X11_once N iY sY tY jY 1 3 0 9) (fun (z : Int32 × (Nat → Int32) × (Nat → Nat → Int32) × (Nat → Int64)) => match z with | (r_44, iY_45, sY_46, jY_47) => zb r_44 (some (r_44, iY_45, sY_46, tY, jY_47)))) := by
  obtain ⟨hC, hL, hNm, f2, f3, f4⟩ := hD
  unfold f_X2_readVeils f_X11_once
  rw [f3, show f_X11_bitOf N (iY 20) 1 = some (bI (tb (iY 20) 1)) from y_bitOf N _ (k := 1) (by omega), q_bd, q_b0, q_b0]
  cases hb : tb (iY 20) 1 with
  | true =>
    obtain ⟨r1, r2, r3, r4⟩ := y_refuse N (sT := sT) (sY := sY) (tY := tY) h 3
    rw [if_pos rfl, if_pos rfl, r1, r2, q_bd, q_bd]
    exact Or.inl ⟨_, _, _, _, _, _, _, _, _, _, rfl, rfl, r3, (YF.rf iY sY tY).i r4⟩
  | false =>
    have hTR : TR L lim st iT jT (va_up iY 20 (iY 20 ||| pb 1)) jY := h
    obtain ⟨iT1, jT1, iY1, jY1, st1, a1, a2, a3, a4, a5, a6, a7, a8⟩ := t_next N hN hB tY hTR
    have h15 := a5 hs
    have g20 : GF iY (va_up iY 20 (iY 20 ||| pb 1)) := (GF.rf iY).up rfl _
    rw [if_neg (by decide), if_neg (by decide), q_nv, a1, show f_X11_next N (va_up iY 20 (iY 20 ||| ((1 : Int32) <<< ((1 : Int32) &&& 31)))) sY tY jY = _ from a2, q_bd, q_bd]
    dsimp only
    rcases b_puts N (tY := tY) hN hB a3 (to := 3) (lo := 0) (hi := 9) (by omega) (by omega) (by omega) with ⟨iT3, iY3, d1, d2, d3, d4⟩ | ⟨v, iT3, jT3, iY3, jY3, st3, v1, v2, d1, d2, d3, d4, d5, d6⟩
    · rw [show f_X8_passNumber N sT iT1 jT1 0 9 = _ from d1, show f_X11_puts N iY1 sY tY jY1 3 0 9 = _ from d2, q_bd, q_bd]
      exact Or.inl ⟨_, _, _, _, _, _, _, _, _, _, rfl, rfl, d3, (YF.rf iY sY tY).i (g20.tr (a7.gf.tr d4))⟩
    · rw [show f_X8_passNumber N sT iT1 jT1 0 9 = _ from d1, show f_X11_puts N iY1 sY tY jY1 3 0 9 = _ from d2, q_bd, q_bd]
      dsimp only
      rw [if_neg (nI_m1 (by omega)), q_bd, q_z1, q_z1, q_bd]
      have hsf := a7.tr d6
      have e20 : iY3 20 = iY 20 ||| pb 1 := hsf.at.2.2
      have tbs : ∀ i, i < 3 → tb (iY 20 ||| pb 1) i = (tb (iY 20) i || decide (i = 1)) := fun i hi => by rw [tb_or, tb_pb 1 (by omega) i (by omega)]
      refine Or.inr ⟨_, _, _, _, _, _, _, _, _, _, st3, P, Q, rfl, rfl, ⟨?_, ?_, ?_, ?_, ?_, ?_⟩, d3, by omega, d5.trans a6, hsf.at.1, hsf.at.2.1, ((YF.rf iY sY tY).i (g20.tr hsf.gf)).h _⟩
      · dsimp only; rw [q_ve]; exact hC.sVe _
      · dsimp only; rw [q_ve]; exact hL.sVe v1 v2
      · exact hNm
      · dsimp only; rw [e20, tbs 0 (by omega)]; rw [decide_eq_false (by omega), Bool.or_false]; exact f2
      · dsimp only; rw [e20, tbs 1 (by omega)]; rw [decide_eq_true rfl, Bool.or_true]; rfl
      · dsimp only; rw [e20, tbs 2 (by omega)]; rw [decide_eq_false (by omega), Bool.or_false]; exact f4
theorem CP.sBe {h : Nat → Int32} (hc : CP h iC sC) (w : Int32) : CP (upd h 4 w) (va_up iC 11 w) sC := by
  refine ⟨hc.pe, hc.go, hc.de, hc.ve, rfl, fun k hk => ⟨?_, ?_, ?_⟩, fun k hk => ⟨?_, ?_, ?_⟩⟩
  · rw [pk_un (by omega)]; exact hc.co hk
  · rw [pk_un (by omega)]; exact hc.kn hk
  · rw [pk_un (by omega)]; exact hc.fo hk
  · rw [pk_un (by omega)]; exact hc.st hk
  · rw [pk_un (by omega)]; exact hc.wa hk
  · rw [pk_un (by omega)]; exact hc.pr hk
theorem IL.sBe {h : Nat → Int32} (hL : IL h P Q) {v : Nat} (h1 : 2 ≤ v) (h2 : v ≤ 30) : IL (upd h 4 (nI v)) P Q := by
  refine ⟨hL.P7, hL.Q5, hL.s0, hL.s1, hL.de, hL.ve, ⟨v, h2, rfl⟩, hL.st.to (fun k hk => pk_un (by omega)), hL.pr.to (fun k hk => pk_un (by omega)), hL.wa.to (fun k hk => pk_un (by omega)), hL.kn.to hL.P7 (fun k hk => pk_un (by omega)), hL.fo.to hL.P7 (fun k hk => pk_un (by omega))⟩
theorem b_rBell (hN : 2000 ≤ N) (hB : ∀ k, k < 940 → sT 0 k = sY 1 k &&& 255) (hD : DR iR iC tC sC iY sY tY P Q) (h : TR L lim st iT jT iY jY) (hs : st < min L lim) :
    LO L lim st iT iY sY tY (bd (f_X2_readBell N iR sT iT jT iC tC sC) (fun (z : Int32 × (Nat → Int32) × (Nat → Int32) × (Nat → Int64) × (Nat → Int32)) => match z with | (r_47, iR_48, iT_49, jT_50, iC_51) => zb r_47 (some (r_47, iR_48, iT_49, jT_50, iC_51, tC, sC)))) (bd (f_X11_once N iY sY tY jY 2 4 2 30) (fun (z : Int32 × (Nat → Int32) × (Nat → Nat → Int32) × (Nat → Int64)) => match z with | (r_44, iY_45, sY_46, jY_47) => zb r_44 (some (r_44, iY_45, sY_46, tY, jY_47)))) := by
  obtain ⟨hC, hL, hNm, f2, f3, f4⟩ := hD
  unfold f_X2_readBell f_X11_once
  rw [f4, show f_X11_bitOf N (iY 20) 2 = some (bI (tb (iY 20) 2)) from y_bitOf N _ (k := 2) (by omega), q_bd, q_b0, q_b0]
  cases hb : tb (iY 20) 2 with
  | true =>
    obtain ⟨r1, r2, r3, r4⟩ := y_refuse N (sT := sT) (sY := sY) (tY := tY) h 3
    rw [if_pos rfl, if_pos rfl, r1, r2, q_bd, q_bd]
    exact Or.inl ⟨_, _, _, _, _, _, _, _, _, _, rfl, rfl, r3, (YF.rf iY sY tY).i r4⟩
  | false =>
    have hTR : TR L lim st iT jT (va_up iY 20 (iY 20 ||| pb 2)) jY := h
    obtain ⟨iT1, jT1, iY1, jY1, st1, a1, a2, a3, a4, a5, a6, a7, a8⟩ := t_next N hN hB tY hTR
    have h15 := a5 hs
    have g20 : GF iY (va_up iY 20 (iY 20 ||| pb 2)) := (GF.rf iY).up rfl _
    rw [if_neg (by decide), if_neg (by decide), q_nv, a1, show f_X11_next N (va_up iY 20 (iY 20 ||| ((1 : Int32) <<< ((2 : Int32) &&& 31)))) sY tY jY = _ from a2, q_bd, q_bd]
    dsimp only
    rcases b_puts N (tY := tY) hN hB a3 (to := 4) (lo := 2) (hi := 30) (by omega) (by omega) (by omega) with ⟨iT3, iY3, d1, d2, d3, d4⟩ | ⟨v, iT3, jT3, iY3, jY3, st3, v1, v2, d1, d2, d3, d4, d5, d6⟩
    · rw [show f_X8_passNumber N sT iT1 jT1 2 30 = _ from d1, show f_X11_puts N iY1 sY tY jY1 4 2 30 = _ from d2, q_bd, q_bd]
      exact Or.inl ⟨_, _, _, _, _, _, _, _, _, _, rfl, rfl, d3, (YF.rf iY sY tY).i (g20.tr (a7.gf.tr d4))⟩
    · rw [show f_X8_passNumber N sT iT1 jT1 2 30 = _ from d1, show f_X11_puts N iY1 sY tY jY1 4 2 30 = _ from d2, q_bd, q_bd]
      dsimp only
      rw [if_neg (nI_m1 (by omega)), q_bd, q_z1, q_z1, q_bd]
      have hsf := a7.tr d6
      have e20 : iY3 20 = iY 20 ||| pb 2 := hsf.at.2.2
      have tbs : ∀ i, i < 3 → tb (iY 20 ||| pb 2) i = (tb (iY 20) i || decide (i = 2)) := fun i hi => by rw [tb_or, tb_pb 2 (by omega) i (by omega)]
      refine Or.inr ⟨_, _, _, _, _, _, _, _, _, _, st3, P, Q, rfl, rfl, ⟨?_, ?_, ?_, ?_, ?_, ?_⟩, d3, by omega, d5.trans a6, hsf.at.1, hsf.at.2.1, ((YF.rf iY sY tY).i (g20.tr hsf.gf)).h _⟩
      · dsimp only; rw [q_ve]; exact hC.sBe _
      · dsimp only; rw [q_ve]; exact hL.sBe v1 v2
      · exact hNm
      · dsimp only; rw [e20, tbs 0 (by omega)]; rw [decide_eq_false (by omega), Bool.or_false]; exact f2
      · dsimp only; rw [e20, tbs 1 (by omega)]; rw [decide_eq_false (by omega), Bool.or_false]; exact f3
      · dsimp only; rw [e20, tbs 2 (by omega)]; rw [decide_eq_true rfl, Bool.or_true]; rfl
end
