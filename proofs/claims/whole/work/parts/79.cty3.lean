/-! PURE: a county's lines: sells, wants, knows, foes -/
def trT (N : Nat) (iY : Nat → Int32) (sY : Nat → Nat → Int32) (tY : Nat → Nat → Int64) (jY : Nat → Int64) (p1 : Int32) (c : Nat) : Option (Int32 × (Nat → Int32) × (Nat → Nat → Int32) × (Nat → Int64)) :=
  (if p1 = 0 then bd (f_X11_puts N iY sY tY jY (nI (82 + c)) 1 9) (fun (r_44, iY_45, sY_46, jY_47) => zb r_44 (some (r_44, iY_45, sY_46, jY_47))) else bd (f_X11_puts N iY sY tY jY (nI (12 + c)) 1 9) (fun (r_29, iY_30, sY_31, jY_32) => (if r_29 = 0 then some (0, iY_30, sY_31, jY_32) else bd (f_X11_puts N iY_30 sY_31 tY jY_32 (nI (47 + c)) 0 20) (fun (r_35, iY_36, sY_37, jY_38) => (if r_35 = 0 then some (0, iY_36, sY_37, jY_38) else ck (nI (47 + c)) 131 (ck (nI (47 + c)) 131 (nv (upd (sY_37 7) (47 + c) (((sY_37 7) (47 + c)) + 1)) (fun g_43 => some (1, iY_36, (va_up sY_37 7 g_43), jY_38))))))))) 
section
variable (N : Nat) {sT : Nat → Nat → Int32} {iT : Nat → Int32} {jT : Nat → Int64} {iY : Nat → Int32} {sY : Nat → Nat → Int32} {tY : Nat → Nat → Int64} {jY : Nat → Int64} {iR iC : Nat → Int32} {tC : Nat → Nat → Int64} {sC : Nat → Nat → Int32} {L lim st P Q : Nat}
theorem b_cell (hN : 2000 ≤ N) (hB : ∀ k, k < 940 → sT 0 k = sY 1 k &&& 255) (hR : ∀ k, k < 24 → tY 10 k = lN (e256 (wds k))) (hD : DR iR iC tC sC iY sY tY P Q) (h : TR L lim st iT jT iY jY) (hs : st < min L lim) (p1 : Int32) :
    (∃ iT' jT' iY' jY', f_X2_passNewCell N iR sT iT jT iC tC sC = some (-1, iT', jT') ∧ f_X11_readTrade N iY sY tY jY p1 = some (0, iY', sY, jY') ∧ FT iT' iY' ∧ GF iY iY') ∨
    (∃ p g iT' jT' iY' jY' st', p < P ∧ g < Q ∧ f_X2_passNewCell N iR sT iT jT iC tC sC = some (nI (5 * p + g), iT', jT') ∧ f_X11_readTrade N iY sY tY jY p1 = trT N iY' sY tY jY' p1 (5 * p + g) ∧ TR L lim st' iT' jT' iY' jY' ∧ st < st' ∧ iT' 11 = iT 11 ∧ SF iY iY') := by
  obtain ⟨hC, hL, hNm, -⟩ := hD
  have hP := hL.P7
  have hQ := hL.Q5
  unfold f_X2_passNewCell f_X11_readTrade
  obtain ⟨iT1, jT1, iY1, jY1, st1, a1, a2, a3, a4, a5, a6, a7, a8⟩ := t_next N hN hB tY h
  have h15 := a5 hs
  rw [a1, a2, q_bd, q_bd]
  dsimp only
  rw [hL.s0, hL.s1, show (12 : Int32) = nI 12 from rfl, show (19 : Int32) = nI (12 + 7) from rfl]
  rcases b_perP N (iC := iC) (sC := sC) hN hB hR hP hQ (by omega) hNm a3 with ⟨iT2, iY2, c1, c2, c3, c4⟩ | ⟨p, iT2, jT2, iY2, jY2, st2, hp, c1, c2, c3, c4, c5, c6, c7⟩
  · rw [c1, c2, q_bd, q_bd]
    exact Or.inl ⟨_, _, _, _, rfl, rfl, c3, a7.gf.tr c4⟩
  · rw [c1, c2, q_bd, q_bd]
    dsimp only
    rw [if_neg (nI_m1 (by omega)), if_neg (show ¬ (1 : Int32) = 0 by decide), q_nv, c3, show (5 : Int32) = nI 5 from rfl, pk_mul]
    rcases b_goodH N (sT := sT) (iC := iC) (sC := sC) (sY := sY) hN hR hP hQ (by omega) hNm c4 with ⟨iT3, iY3, d1, d2, d3, d4⟩ | ⟨g, hg, d1, d2, d3⟩
    · rw [d1, d2, q_bd, q_bd]
      exact Or.inl ⟨_, _, _, _, rfl, rfl, d3, a7.gf.tr (c7.gf.tr d4)⟩
    · rw [d1, d2, q_bd, q_bd]
      dsimp only
      rw [if_neg (nI_m1 (by omega)), if_neg (show ¬ (1 : Int32) = 0 by decide)]
      simp only [q_ve, nI_add, L47, L82, L12]
      rw [q_ck (show 47 + (5 * p + g) < 131 by omega) (by omega), q_jn, q_ck (show 82 + (5 * p + g) < 131 by omega) (by omega), show ix (nI (47 + (5 * p + g))) = 47 + (5 * p + g) from q_ix (by omega), show ix (nI (82 + (5 * p + g))) = 82 + (5 * p + g) from q_ix (by omega)]
      unfold f_X1_sellsOrWants
      obtain ⟨x, hx, ex, -⟩ := hL.pr p g (by omega) (by omega)
      obtain ⟨y, hy, ey, -⟩ := hL.wa p g (by omega) (by omega)
      rw [x_cellOf, q_bd, q_ck (show 5 * p + g < 35 by omega) (by omega), show ix (nI (5 * p + g)) = 5 * p + g from q_ix (by omega), hC.pr (by omega), hC.wa (by omega), q_ck (show 5 * p + g < 35 by omega) (by omega), ex, ey, nI_le0 (by omega), nI_le0 (by omega)]
      have e1 : ∀ {α : Type} {a b : α}, (if (0 : Int32) < nI x then a else b) = if x = 0 then b else a := by
        intro α a b
        rw [show (0 : Int32) = nI 0 from rfl, i_lt (by omega) (by omega)]
        by_cases c : x = 0
        · rw [if_pos c, if_neg (by omega)]
        · rw [if_neg c, if_pos (by omega)]
      have e2 : ∀ {α : Type} {a b : α}, (if nI x - 1 = -1 then a else b) = if x = 0 then a else b := by
        intro α a b
        by_cases c : x = 0
        · rw [if_pos c, if_pos ((m1_0 _).mpr (by rw [c]; rfl))]
        · rw [if_neg c, if_neg (fun e => nI_nb (b := 0) c (by omega) (by omega) ((m1_0 _).mp e))]
      rw [e1, e2]
      obtain ⟨r1, r2, r3, r4⟩ := y_refuse N (sT := sT) (sY := sY) (tY := tY) (t_got c4 (nI g)) 3
      by_cases cx : x = 0
      · rw [if_pos cx, if_pos cx]
        by_cases cy : y = 0
        · rw [if_pos cy, if_pos cy, q_bd, if_pos rfl]
          obtain ⟨iT4, jT4, iY4, jY4, st4, f1, f2, f3, f4, f5, f6, f7, f8⟩ := t_next N hN hB tY (t_got c4 (nI g))
          rw [f1, f2, q_bd, q_bd]
          dsimp only
          rw [q_bd]
          refine Or.inr ⟨p, g, iT4, jT4, iY4, jY4, st4, hp, hg, rfl, by unfold trT; rfl, f3, by have := f5 d3; omega, f6.trans (c6.trans a6), fun k k1 k2 k3 k4 k5 k6 => ?_⟩
          rw [f7 k k1 k2 k3 k4 k5 k6, q_vn _ _ k6, c7 k k1 k2 k3 k4 k5 k6, a7 k k1 k2 k3 k4 k5 k6]
        · rw [if_neg cy, if_neg cy, q_bd, if_neg (show ¬ (1 : Int32) = 0 by decide), r1, q_bd]
          dsimp only
          rw [r2, q_bd]
          exact Or.inl ⟨_, _, _, _, rfl, rfl, r3, a7.gf.tr (c7.gf.tr (((GF.rf iY2).up rfl _).tr r4))⟩
      · rw [if_neg cx, if_neg cx, q_bd, if_neg (show ¬ (1 : Int32) = 0 by decide), r1, q_bd]
        dsimp only
        rw [r2, q_bd]
        exact Or.inl ⟨_, _, _, _, rfl, rfl, r3, a7.gf.tr (c7.gf.tr (((GF.rf iY2).up rfl _).tr r4))⟩
theorem CE.set {s : Nat → Int32} {base m p g v : Nat} (h : CE s base P Q m) (hp : p < P) (hg : g < Q) (hP : P ≤ 7) (hQ : Q ≤ 5) (hv : v ≤ m) : CE (upd s (base + (5 * p + g)) (nI v)) base P Q m := by
  intro p' g' hp' hg'
  by_cases c : p' = p ∧ g' = g
  · obtain ⟨rfl, rfl⟩ := c
    exact ⟨v, hv, pk_us, fun hz => by omega⟩
  · rw [pk_un (by omega)]; exact h p' g' hp' hg'
theorem CP.want {h : Nat → Int32} (hc : CP h iC sC) {c : Nat} (hcc : c < 35) (v : Int32) : CP (upd h (82 + c) v) iC (va_up sC 7 (upd (sC 7) c v)) := by
  refine ⟨?_, ?_, ?_, ?_, ?_, fun k hk => ⟨?_, ?_, ?_⟩, fun k hk => ⟨?_, ?_, ?_⟩⟩
  · rw [pk_un (by omega)]; exact hc.pe
  · rw [pk_un (by omega)]; exact hc.go
  · rw [pk_un (by omega)]; exact hc.de
  · rw [pk_un (by omega)]; exact hc.ve
  · rw [pk_un (by omega)]; exact hc.be
  · rw [q_vn _ _ (by omega), pk_un (by omega)]; exact hc.co hk
  · rw [q_vn _ _ (by omega), pk_un (by omega)]; exact hc.kn hk
  · rw [q_vn _ _ (by omega), pk_un (by omega)]; exact hc.fo hk
  · rw [q_vn _ _ (by omega), pk_un (by omega)]; exact hc.st hk
  · rw [q_ve, q_us, q_us, hc.wa hk]; simp only [Nat.add_left_cancel_iff]
  · rw [q_vn _ _ (by omega), pk_un (by omega)]; exact hc.pr hk
theorem CP.sell {h : Nat → Int32} (hc : CP h iC sC) {c : Nat} (hcc : c < 35) (v w : Int32) : CP (upd (upd h (12 + c) v) (47 + c) (w + 1)) iC (va_up (va_up sC 6 (upd (sC 6) c v)) 8 (upd (sC 8) c w)) := by
  refine ⟨?_, ?_, ?_, ?_, ?_, fun k hk => ⟨?_, ?_, ?_⟩, fun k hk => ⟨?_, ?_, ?_⟩⟩
  · rw [pk_un (by omega), pk_un (by omega)]; exact hc.pe
  · rw [pk_un (by omega), pk_un (by omega)]; exact hc.go
  · rw [pk_un (by omega), pk_un (by omega)]; exact hc.de
  · rw [pk_un (by omega), pk_un (by omega)]; exact hc.ve
  · rw [pk_un (by omega), pk_un (by omega)]; exact hc.be
  · rw [q_vn _ _ (by omega), q_vn _ _ (by omega), pk_un (by omega), pk_un (by omega)]; exact hc.co hk
  · rw [q_vn _ _ (by omega), q_vn _ _ (by omega), pk_un (by omega), pk_un (by omega)]; exact hc.kn hk
  · rw [q_vn _ _ (by omega), q_vn _ _ (by omega), pk_un (by omega), pk_un (by omega)]; exact hc.fo hk
  · rw [q_vn _ _ (by omega), q_ve, q_us, q_us, if_neg (show ¬ 12 + k = 47 + c by omega), q_us, hc.st hk]; simp only [Nat.add_left_cancel_iff]
  · rw [q_vn _ _ (by omega), q_vn _ _ (by omega), pk_un (by omega), pk_un (by omega)]; exact hc.wa hk
  · rw [q_ve, q_us, q_us, q_us, if_neg (show ¬ 47 + k = 12 + c by omega), hc.pr hk]
    simp only [Nat.add_left_cancel_iff]
    split
    · rw [Int32.add_sub_cancel]
    · rfl
theorem b_rWants (hN : 2000 ≤ N) (hB : ∀ k, k < 940 → sT 0 k = sY 1 k &&& 255) (hR : ∀ k, k < 24 → tY 10 k = lN (e256 (wds k))) (hD : DR iR iC tC sC iY sY tY P Q) (h : TR L lim st iT jT iY jY) (hs : st < min L lim) :
    LO L lim st iT iY sY tY (bd (f_X2_readWants N iR sT iT jT iC tC sC) (fun (z : Int32 × (Nat → Int32) × (Nat → Int64) × (Nat → Nat → Int32)) => match z with | (r_26, iT_27, jT_28, sC_29) => zb r_26 (some (r_26, iR, iT_27, jT_28, iC, tC, sC_29)))) (bd (f_X11_readTrade N iY sY tY jY 0) (fun (z : Int32 × (Nat → Int32) × (Nat → Nat → Int32) × (Nat → Int64)) => match z with | (r_62, iY_63, sY_64, jY_65) => zb r_62 (some (r_62, iY_63, sY_64, tY, jY_65)))) := by
  unfold f_X2_readWants
  have hD0 := hD
  obtain ⟨hC, hL, hNm, g2, g3, g4⟩ := hD
  have hP := hL.P7
  have hQ := hL.Q5
  rcases b_cell N hN hB hR hD0 h hs 0 with ⟨iT1, jT1, iY1, jY1, e1, e2, e3, e4⟩ | ⟨p, g, iT1, jT1, iY1, jY1, st1, hp, hg, e1, e2, e3, e4, e5, e6⟩
  · rw [e1, e2, q_bd]
    dsimp only
    rw [if_pos rfl, q_bd, q_bd]
    exact Or.inl ⟨_, _, _, _, _, _, _, _, _, _, rfl, rfl, e3, (YF.rf iY sY tY).i e4⟩
  · rw [e1, e2, q_bd]
    dsimp only
    unfold trT
    rw [if_neg (nI_m1 (by omega)), if_pos rfl]
    rcases b_puts N (tY := tY) hN hB e3 (to := 82 + (5 * p + g)) (lo := 1) (hi := 9) (by omega) (by omega) (by omega) with ⟨iT3, iY3, d1, d2, d3, d4⟩ | ⟨v, iT3, jT3, iY3, jY3, st3, v1, v2, d1, d2, d3, d4, d5, d6⟩
    · rw [show f_X8_passNumber N sT iT1 jT1 1 9 = _ from d1, show f_X11_puts N iY1 sY tY jY1 (nI (82 + (5 * p + g))) 1 9 = _ from d2, q_bd, q_bd]
      exact Or.inl ⟨_, _, _, _, _, _, _, _, _, _, rfl, rfl, d3, (YF.rf iY sY tY).i (e6.gf.tr d4)⟩
    · rw [show f_X8_passNumber N sT iT1 jT1 1 9 = _ from d1, show f_X11_puts N iY1 sY tY jY1 (nI (82 + (5 * p + g))) 1 9 = _ from d2, q_bd, q_bd]
      dsimp only
      rw [if_neg (nI_m1 (by omega)), q_ck (show 5 * p + g < 35 by omega) (by omega), q_nv, show ix (nI (5 * p + g)) = 5 * p + g from q_ix (by omega), q_bd, q_z1, q_z1, q_bd]
      have hsf := e6.tr d6
      refine Or.inr ⟨_, _, _, _, _, _, _, _, _, _, st3, P, Q, rfl, rfl, ⟨?_, ?_, ?_, ?_, ?_, ?_⟩, d3, by omega, d5.trans e5, hsf.at.1, hsf.at.2.1, ((YF.rf iY sY tY).i hsf.gf).h _⟩
      · dsimp only; rw [q_ve]; exact hC.want (by omega) _
      · dsimp only; rw [q_ve]
        exact ⟨hP, hQ, by rw [pk_un (by omega)]; exact hL.s0, by rw [pk_un (by omega)]; exact hL.s1, by rw [pk_un (by omega)]; exact hL.de, by rw [pk_un (by omega)]; exact hL.ve, by rw [pk_un (by omega)]; exact hL.be, hL.st.to (fun k hk => pk_un (by omega)), hL.pr.to (fun k hk => pk_un (by omega)), hL.wa.set hp hg hP hQ v2, hL.kn.to hP (fun k hk => pk_un (by omega)), hL.fo.to hP (fun k hk => pk_un (by omega))⟩
      · exact hNm
      · dsimp only; rw [hsf.at.2.2]; exact g2
      · dsimp only; rw [hsf.at.2.2]; exact g3
      · dsimp only; rw [hsf.at.2.2]; exact g4
theorem b_rSells (hN : 2000 ≤ N) (hB : ∀ k, k < 940 → sT 0 k = sY 1 k &&& 255) (hR : ∀ k, k < 24 → tY 10 k = lN (e256 (wds k))) (hD : DR iR iC tC sC iY sY tY P Q) (h : TR L lim st iT jT iY jY) (hs : st < min L lim) :
    LO L lim st iT iY sY tY (bd (f_X2_readSells N iR sT iT jT iC tC sC) (fun (z : Int32 × (Nat → Int32) × (Nat → Int64) × (Nat → Nat → Int32)) => match z with | (r_19, iT_20, jT_21, sC_22) => zb r_19 (some (r_19, iR, iT_20, jT_21, iC, tC, sC_22)))) (bd (f_X11_readTrade N iY sY tY jY 1) (fun (z : Int32 × (Nat → Int32) × (Nat → Nat → Int32) × (Nat → Int64)) => match z with | (r_68, iY_69, sY_70, jY_71) => zb r_68 (some (r_68, iY_69, sY_70, tY, jY_71)))) := by
  unfold f_X2_readSells
  have hD0 := hD
  obtain ⟨hC, hL, hNm, g2, g3, g4⟩ := hD
  have hP := hL.P7
  have hQ := hL.Q5
  rcases b_cell N hN hB hR hD0 h hs 1 with ⟨iT1, jT1, iY1, jY1, e1, e2, e3, e4⟩ | ⟨p, g, iT1, jT1, iY1, jY1, st1, hp, hg, e1, e2, e3, e4, e5, e6⟩
  · rw [e1, e2, q_bd]
    dsimp only
    rw [if_pos rfl, q_bd, q_bd]
    exact Or.inl ⟨_, _, _, _, _, _, _, _, _, _, rfl, rfl, e3, (YF.rf iY sY tY).i e4⟩
  · rw [e1, e2, q_bd]
    dsimp only
    unfold trT
    rw [if_neg (nI_m1 (by omega)), if_neg (show ¬ (1 : Int32) = 0 by decide)]
    rcases b_puts N (tY := tY) hN hB e3 (to := 12 + (5 * p + g)) (lo := 1) (hi := 9) (by omega) (by omega) (by omega) with ⟨iT3, iY3, d1, d2, d3, d4⟩ | ⟨v, iT3, jT3, iY3, jY3, st3, v1, v2, d1, d2, d3, d4, d5, d6⟩
    · rw [show f_X8_passNumber N sT iT1 jT1 1 9 = _ from d1, show f_X11_puts N iY1 sY tY jY1 (nI (12 + (5 * p + g))) 1 9 = _ from d2, q_bd, q_bd]
      exact Or.inl ⟨_, _, _, _, _, _, _, _, _, _, rfl, rfl, d3, (YF.rf iY sY tY).i (e6.gf.tr d4)⟩
    · rw [show f_X8_passNumber N sT iT1 jT1 1 9 = _ from d1, show f_X11_puts N iY1 sY tY jY1 (nI (12 + (5 * p + g))) 1 9 = _ from d2, q_bd, q_bd]
      dsimp only
      rw [if_neg (nI_m1 (by omega)), q_ck (show 5 * p + g < 35 by omega) (by omega), q_nv, if_neg (show ¬ (1 : Int32) = 0 by decide), show ix (nI (5 * p + g)) = 5 * p + g from q_ix (by omega)]
      have hsf := e6.tr d6
      rcases b_puts N (sY := va_up sY 7 (upd (sY 7) (12 + (5 * p + g)) (nI v))) (tY := tY) hN hB d3 (to := 47 + (5 * p + g)) (lo := 0) (hi := 20) (by omega) (by omega) (by omega) with ⟨iT4, iY4, m1, m2, m3, m4⟩ | ⟨w, iT4, jT4, iY4, jY4, st4, w1, w2, m1, m2, m3, m4, m5, m6⟩
      · rw [show f_X8_passNumber N sT iT3 jT3 0 20 = _ from m1, show f_X11_puts N iY3 (va_up sY 7 (upd (sY 7) (12 + (5 * p + g)) (nI v))) tY jY3 (nI (47 + (5 * p + g))) 0 20 = _ from m2, q_bd, q_bd]
        dsimp only
        rw [q_ck (show 5 * p + g < 35 by omega) (by omega), q_nv, q_ck (show 5 * p + g < 35 by omega) (by omega), pk_us, if_pos rfl, if_pos rfl, q_bd, q_bd]
        exact Or.inl ⟨_, _, _, _, _, _, _, _, _, _, rfl, rfl, m3, ((YF.rf iY sY tY).i (hsf.gf.tr m4)).h _⟩
      · rw [show f_X8_passNumber N sT iT3 jT3 0 20 = _ from m1, show f_X11_puts N iY3 (va_up sY 7 (upd (sY 7) (12 + (5 * p + g)) (nI v))) tY jY3 (nI (47 + (5 * p + g))) 0 20 = _ from m2, q_bd, q_bd]
        dsimp only
        rw [q_ck (show 5 * p + g < 35 by omega) (by omega), q_nv, q_ck (show 5 * p + g < 35 by omega) (by omega), pk_us, if_neg (nI_m1 (by omega)), if_neg (show ¬ (1 : Int32) = 0 by decide), q_ck (show 47 + (5 * p + g) < 131 by omega) (by omega), q_ck (show 47 + (5 * p + g) < 131 by omega) (by omega), q_nv, q_bd, q_bd]
        have hsf2 := hsf.tr m6
        have eh : upd (upd (upd (sY 7) (12 + (5 * p + g)) (nI v)) (47 + (5 * p + g)) (nI w)) (47 + (5 * p + g)) (upd (upd (sY 7) (12 + (5 * p + g)) (nI v)) (47 + (5 * p + g)) (nI w) (47 + (5 * p + g)) + 1) = upd (upd (sY 7) (12 + (5 * p + g)) (nI v)) (47 + (5 * p + g)) (nI w + 1) := by
          rw [pk_us]
          funext k
          by_cases c : k = 47 + (5 * p + g)
          · rw [c, pk_us, pk_us]
          · rw [pk_un c, pk_un c, pk_un c]
        refine Or.inr ⟨_, _, _, _, _, _, _, _, _, _, st4, P, Q, rfl, rfl, ⟨?_, ?_, ?_, ?_, ?_, ?_⟩, m3, by omega, m5.trans (d5.trans e5), hsf2.at.1, hsf2.at.2.1, ((((YF.rf iY sY tY).i hsf2.gf).h _).h _).h _⟩
        · dsimp only; rw [q_ve, q_ve, q_ve, eh]; exact hC.sell (by omega) _ _
        · dsimp only; rw [q_ve, q_ve, q_ve, eh, nI_1]
          exact ⟨hP, hQ, by rw [pk_un (by omega), pk_un (by omega)]; exact hL.s0, by rw [pk_un (by omega), pk_un (by omega)]; exact hL.s1, by rw [pk_un (by omega), pk_un (by omega)]; exact hL.de, by rw [pk_un (by omega), pk_un (by omega)]; exact hL.ve, by rw [pk_un (by omega), pk_un (by omega)]; exact hL.be, (hL.st.set hp hg hP hQ v2).to (fun k hk => pk_un (by omega)), CE.set (hL.pr.to (fun k hk => pk_un (by omega))) hp hg hP hQ (by omega), hL.wa.to (fun k hk => by rw [pk_un (by omega), pk_un (by omega)]), hL.kn.to hP (fun k hk => by rw [pk_un (by omega), pk_un (by omega)]), hL.fo.to hP (fun k hk => by rw [pk_un (by omega), pk_un (by omega)])⟩
        · exact hNm
        · dsimp only; rw [hsf2.at.2.2]; exact g2
        · dsimp only; rw [hsf2.at.2.2]; exact g3
        · dsimp only; rw [hsf2.at.2.2]; exact g4
def pairS (h : Nat → Int32) (base p q : Nat) : Nat → Int32 := upd (upd h (base + p) (h (base + p) ||| pb q)) (base + q) ((upd h (base + p) (h (base + p) ||| pb q)) (base + q) ||| pb p)
theorem pair_tb {h : Nat → Int32} {base p q a b : Nat} (hp : p < 7) (hq : q < 7) (hpq : p ≠ q) (hb : b < 32) : tb (pairS h base p q (base + a)) b = (tb (h (base + a)) b || (decide (a = p ∧ b = q) || decide (a = q ∧ b = p))) := by
  unfold pairS
  by_cases ca : a = q
  · subst ca
    rw [pk_us, pk_un (by omega), tb_or, tb_pb p (by omega) b hb, decide_eq_false (show ¬ (a = p ∧ b = a) by omega), Bool.false_or]
    have : decide (b = p) = decide (a = a ∧ b = p) := decide_eq_decide.mpr (by omega)
    rw [this]
  · rw [pk_un (by omega)]
    by_cases cp : a = p
    · subst cp
      rw [pk_us, tb_or, tb_pb q (by omega) b hb, decide_eq_false (show ¬ (a = q ∧ b = a) by omega), Bool.or_false]
      have : decide (b = q) = decide (a = a ∧ b = q) := decide_eq_decide.mpr (by omega)
      rw [this]
    · rw [pk_un (by omega), decide_eq_false (by omega), decide_eq_false (by omega), Bool.or_false, Bool.or_false]
theorem SY.pair {h : Nat → Int32} {base p q : Nat} (hs : SY h base P) (hP : P ≤ 7) (hp : p < P) (hq : q < P) (hpq : p ≠ q) : SY (pairS h base p q) base P := by
  intro a b ha hb
  have h32 := tb_lt hb
  rw [pair_tb (by omega) (by omega) hpq h32, Bool.or_eq_true, Bool.or_eq_true, decide_eq_true_eq, decide_eq_true_eq] at hb
  rcases hb with hb | hb | hb
  · obtain ⟨x1, x2, x3, x4⟩ := hs a b ha hb
    exact ⟨x1, x2, x3, by rw [pair_tb (by omega) (by omega) hpq (by omega), x4]; rfl⟩
  · refine ⟨by omega, by omega, by omega, ?_⟩
    rw [pair_tb (by omega) (by omega) hpq (by omega), decide_eq_true (show b = q ∧ a = p by omega), Bool.or_true, Bool.or_true]
  · refine ⟨by omega, by omega, by omega, ?_⟩
    rw [pair_tb (by omega) (by omega) hpq (by omega), decide_eq_true (show b = p ∧ a = q by omega), Bool.true_or, Bool.or_true]
theorem pair_o {h : Nat → Int32} {base p q k : Nat} (h1 : k ≠ base + p) (h2 : k ≠ base + q) : pairS h base p q k = h k := by
  unfold pairS; rw [pk_un h2, pk_un h1]
theorem CP.pair4 {h : Nat → Int32} (hc : CP h iC sC) {p q : Nat} (hp : p < 7) (hq : q < 7) : CP (pairS h 117 p q) iC (va_up sC 4 (upd (upd (sC 4) p (sC 4 p ||| pb q)) q ((upd (sC 4) p (sC 4 p ||| pb q)) q ||| pb p))) := by
  refine ⟨?_, ?_, ?_, ?_, ?_, fun k hk => ⟨?_, ?_, ?_⟩, fun k hk => ⟨?_, ?_, ?_⟩⟩
  · rw [pair_o (by omega) (by omega)]; exact hc.pe
  · rw [pair_o (by omega) (by omega)]; exact hc.go
  · rw [pair_o (by omega) (by omega)]; exact hc.de
  · rw [pair_o (by omega) (by omega)]; exact hc.ve
  · rw [pair_o (by omega) (by omega)]; exact hc.be
  · rw [q_vn _ _ (by omega), pair_o (by omega) (by omega)]; exact hc.co hk
  · rw [q_ve]
    unfold pairS
    simp only [q_us, hc.kn hp, hc.kn hq, hc.kn hk, Nat.add_left_cancel_iff]
  · rw [q_vn _ _ (by omega), pair_o (by omega) (by omega)]; exact hc.fo hk
  · rw [q_vn _ _ (by omega), pair_o (by omega) (by omega)]; exact hc.st hk
  · rw [q_vn _ _ (by omega), pair_o (by omega) (by omega)]; exact hc.wa hk
  · rw [q_vn _ _ (by omega), pair_o (by omega) (by omega)]; exact hc.pr hk
theorem b_rPair4 (hN : 2000 ≤ N) (hB : ∀ k, k < 940 → sT 0 k = sY 1 k &&& 255) (hR : ∀ k, k < 24 → tY 10 k = lN (e256 (wds k))) (hD : DR iR iC tC sC iY sY tY P Q) (h : TR L lim st iT jT iY jY) (hs : st < min L lim) :
    LO L lim st iT iY sY tY (bd (f_X2_readPair_4 N iR sT iT jT iC tC sC) (fun (z : Int32 × (Nat → Int32) × (Nat → Int64) × (Nat → Nat → Int32)) => match z with | (r_33, iT_34, jT_35, sC_36) => zb r_33 (some (r_33, iR, iT_34, jT_35, iC, tC, sC_36)))) (bd (f_X11_readPair N iY sY tY jY 117) (fun (z : Int32 × (Nat → Int32) × (Nat → Nat → Int32) × (Nat → Int64)) => match z with | (r_56, iY_57, sY_58, jY_59) => zb r_56 (some (r_56, iY_57, sY_58, tY, jY_59)))) := by
  obtain ⟨hC, hL, hNm, g2, g3, g4⟩ := hD
  have hP := hL.P7
  have hQ := hL.Q5
  unfold f_X2_readPair_4 f_X11_readPair
  obtain ⟨iT1, jT1, iY1, jY1, st1, a1, a2, a3, a4, a5, a6, a7, a8⟩ := t_next N hN hB tY h
  have h15 := a5 hs
  rw [a1, a2, q_bd, q_bd]
  dsimp only
  rw [hL.s0, show (12 : Int32) = nI 12 from rfl, show (117 : Int32) = nI 117 from rfl]
  rcases b_perP N (iC := iC) (sC := sC) hN hB hR hP hQ (by omega) hNm a3 with ⟨iT2, iY2, c1, c2, c3, c4⟩ | ⟨p, iT2, jT2, iY2, jY2, st2, hp, c1, c2, c3, c4, c5, c6, c7⟩
  · rw [c1, c2, q_bd, q_bd]
    exact Or.inl ⟨_, _, _, _, _, _, _, _, _, _, rfl, rfl, c3, (YF.rf iY sY tY).i (a7.gf.tr c4)⟩
  · rw [c1, c2, q_bd, q_bd]
    dsimp only
    rw [if_neg (nI_m1 (by omega)), if_neg (show ¬ (1 : Int32) = 0 by decide)]
    simp only [c3, nI_add]
    rcases b_perH N (sT := sT) (iC := iC) (sC := sC) (sY := sY) hN hR hP hQ (by omega) hNm c4 with ⟨iT3, iY3, d1, d2, d3, d4⟩ | ⟨q, hq, d1, d2, d3⟩
    · rw [d1, d2, q_bd, q_bd]
      exact Or.inl ⟨_, _, _, _, _, _, _, _, _, _, rfl, rfl, d3, (YF.rf iY sY tY).i (a7.gf.tr (c7.gf.tr d4))⟩
    · rw [d1, d2, q_bd, q_bd]
      dsimp only
      rw [if_neg (nI_m1 (by omega)), if_neg (show ¬ (1 : Int32) = 0 by decide)]
      simp only [q_ve, nI_add]
      rw [q_jn, q_jn, i_eq (a := p) (b := q) (by omega) (by omega), i_eq (a := q) (b := p) (by omega) (by omega), q_ck (show p < 7 by omega) (by omega), q_ck (show 117 + p < 131 by omega) (by omega), show ix (nI p) = p from q_ix (by omega), show ix (nI q) = q from q_ix (by omega), show ix (nI (117 + p)) = 117 + p from q_ix (by omega), show ix (nI (117 + q)) = 117 + q from q_ix (by omega), x_has N _ (by omega), q_bd, y_bitOf N _ (by omega), q_bd, hC.kn (show p < 7 by omega), q_b0, q_b0]
      obtain ⟨r1, r2, r3, r4⟩ := y_refuse N (sT := sT) (sY := sY) (tY := tY) (t_got c4 (nI q)) 3
      by_cases cx : p = q
      · rw [if_pos cx, if_pos cx.symm]
        dsimp only
        rw [r1, r2, q_bd, q_bd]
        exact Or.inl ⟨_, _, _, _, _, _, _, _, _, _, rfl, rfl, r3, (YF.rf iY sY tY).i (a7.gf.tr (c7.gf.tr (((GF.rf iY2).up rfl _).tr r4)))⟩
      · rw [if_neg cx, if_neg (show ¬ q = p from fun e => cx e.symm)]
        cases hb : tb (sY 7 (117 + p)) q with
        | true =>
          rw [if_pos rfl, if_pos rfl]
          dsimp only
          rw [r1, r2, q_bd, q_bd]
          exact Or.inl ⟨_, _, _, _, _, _, _, _, _, _, rfl, rfl, r3, (YF.rf iY sY tY).i (a7.gf.tr (c7.gf.tr (((GF.rf iY2).up rfl _).tr r4)))⟩
        | false =>
          obtain ⟨iT4, jT4, iY4, jY4, st4, f1, f2, f3, f4, f5, f6, f7, f8⟩ := t_next N (sY := va_up sY 7 (pairS (sY 7) 117 p q)) hN hB tY (t_got c4 (nI q))
          rw [if_neg (by decide), if_neg (by decide), q_ck (show p < 7 by omega) (by omega), q_ck (show p < 7 by omega) (by omega), q_nv, q_ck (show q < 7 by omega) (by omega), q_ck (show q < 7 by omega) (by omega), q_nv, f1, q_bd, q_ck (show 117 + p < 131 by omega) (by omega), q_ck (show 117 + p < 131 by omega) (by omega), q_nv, q_ck (show 117 + q < 131 by omega) (by omega), q_ck (show 117 + q < 131 by omega) (by omega), q_nv, show f_X11_next N (va_up iY2 18 (nI q)) (va_up sY 7 (upd (upd (sY 7) (117 + p) (sY 7 (117 + p) ||| ((1 : Int32) <<< (nI q &&& 31)))) (117 + q) ((upd (sY 7) (117 + p) (sY 7 (117 + p) ||| ((1 : Int32) <<< (nI q &&& 31)))) (117 + q) ||| ((1 : Int32) <<< (nI p &&& 31))))) tY jY2 = _ from f2, q_bd, q_bd]
          dsimp only
          rw [q_bd, q_z1, q_z1]
          have hsf : SF iY iY4 := fun k k1 k2 k3 k4 k5 k6 => by rw [f7 k k1 k2 k3 k4 k5 k6, q_vn _ _ k6, c7 k k1 k2 k3 k4 k5 k6, a7 k k1 k2 k3 k4 k5 k6]
          refine Or.inr ⟨_, _, _, _, _, _, _, _, _, _, st4, P, Q, rfl, rfl, ⟨?_, ?_, ?_, ?_, ?_, ?_⟩, f3, by have := f5 d3; omega, f6.trans (c6.trans a6), hsf.at.1, hsf.at.2.1, ((YF.rf iY sY tY).i hsf.gf).h _⟩
          · have hcp := hC.pair4 (p := p) (q := q) (by omega) (by omega)
            rw [hC.kn (show p < 7 by omega)] at hcp
            exact hcp
          · show IL (pairS (sY 7) 117 p q) P Q
            exact ⟨hP, hQ, by rw [pair_o (by omega) (by omega)]; exact hL.s0, by rw [pair_o (by omega) (by omega)]; exact hL.s1, by rw [pair_o (by omega) (by omega)]; exact hL.de, by rw [pair_o (by omega) (by omega)]; exact hL.ve, by rw [pair_o (by omega) (by omega)]; exact hL.be, hL.st.to (fun k hk => pair_o (by omega) (by omega)), hL.pr.to (fun k hk => pair_o (by omega) (by omega)), hL.wa.to (fun k hk => pair_o (by omega) (by omega)), hL.kn.pair hP hp hq cx, hL.fo.to hP (fun k hk => pair_o (by omega) (by omega))⟩
          · exact hNm
          · dsimp only; rw [hsf.at.2.2]; exact g2
          · dsimp only; rw [hsf.at.2.2]; exact g3
          · dsimp only; rw [hsf.at.2.2]; exact g4
theorem CP.pair5 {h : Nat → Int32} (hc : CP h iC sC) {p q : Nat} (hp : p < 7) (hq : q < 7) : CP (pairS h 124 p q) iC (va_up sC 5 (upd (upd (sC 5) p (sC 5 p ||| pb q)) q ((upd (sC 5) p (sC 5 p ||| pb q)) q ||| pb p))) := by
  refine ⟨?_, ?_, ?_, ?_, ?_, fun k hk => ⟨?_, ?_, ?_⟩, fun k hk => ⟨?_, ?_, ?_⟩⟩
  · rw [pair_o (by omega) (by omega)]; exact hc.pe
  · rw [pair_o (by omega) (by omega)]; exact hc.go
  · rw [pair_o (by omega) (by omega)]; exact hc.de
  · rw [pair_o (by omega) (by omega)]; exact hc.ve
  · rw [pair_o (by omega) (by omega)]; exact hc.be
  · rw [q_vn _ _ (by omega), pair_o (by omega) (by omega)]; exact hc.co hk
  · rw [q_vn _ _ (by omega), pair_o (by omega) (by omega)]; exact hc.kn hk
  · rw [q_ve]
    unfold pairS
    simp only [q_us, hc.fo hp, hc.fo hq, hc.fo hk, Nat.add_left_cancel_iff]
  · rw [q_vn _ _ (by omega), pair_o (by omega) (by omega)]; exact hc.st hk
  · rw [q_vn _ _ (by omega), pair_o (by omega) (by omega)]; exact hc.wa hk
  · rw [q_vn _ _ (by omega), pair_o (by omega) (by omega)]; exact hc.pr hk
theorem b_rPair5 (hN : 2000 ≤ N) (hB : ∀ k, k < 940 → sT 0 k = sY 1 k &&& 255) (hR : ∀ k, k < 24 → tY 10 k = lN (e256 (wds k))) (hD : DR iR iC tC sC iY sY tY P Q) (h : TR L lim st iT jT iY jY) (hs : st < min L lim) :
    LO L lim st iT iY sY tY (bd (f_X2_readPair_5 N iR sT iT jT iC tC sC) (fun (z : Int32 × (Nat → Int32) × (Nat → Int64) × (Nat → Nat → Int32)) => match z with | (r_33, iT_34, jT_35, sC_36) => zb r_33 (some (r_33, iR, iT_34, jT_35, iC, tC, sC_36)))) (bd (f_X11_readPair N iY sY tY jY 124) (fun (z : Int32 × (Nat → Int32) × (Nat → Nat → Int32) × (Nat → Int64)) => match z with | (r_56, iY_57, sY_58, jY_59) => zb r_56 (some (r_56, iY_57, sY_58, tY, jY_59)))) := by
  obtain ⟨hC, hL, hNm, g2, g3, g4⟩ := hD
  have hP := hL.P7
  have hQ := hL.Q5
  unfold f_X2_readPair_5 f_X11_readPair
  obtain ⟨iT1, jT1, iY1, jY1, st1, a1, a2, a3, a4, a5, a6, a7, a8⟩ := t_next N hN hB tY h
  have h15 := a5 hs
  rw [a1, a2, q_bd, q_bd]
  dsimp only
  rw [hL.s0, show (12 : Int32) = nI 12 from rfl, show (124 : Int32) = nI 124 from rfl]
  rcases b_perP N (iC := iC) (sC := sC) hN hB hR hP hQ (by omega) hNm a3 with ⟨iT2, iY2, c1, c2, c3, c4⟩ | ⟨p, iT2, jT2, iY2, jY2, st2, hp, c1, c2, c3, c4, c5, c6, c7⟩
  · rw [c1, c2, q_bd, q_bd]
    exact Or.inl ⟨_, _, _, _, _, _, _, _, _, _, rfl, rfl, c3, (YF.rf iY sY tY).i (a7.gf.tr c4)⟩
  · rw [c1, c2, q_bd, q_bd]
    dsimp only
    rw [if_neg (nI_m1 (by omega)), if_neg (show ¬ (1 : Int32) = 0 by decide)]
    simp only [c3, nI_add]
    rcases b_perH N (sT := sT) (iC := iC) (sC := sC) (sY := sY) hN hR hP hQ (by omega) hNm c4 with ⟨iT3, iY3, d1, d2, d3, d4⟩ | ⟨q, hq, d1, d2, d3⟩
    · rw [d1, d2, q_bd, q_bd]
      exact Or.inl ⟨_, _, _, _, _, _, _, _, _, _, rfl, rfl, d3, (YF.rf iY sY tY).i (a7.gf.tr (c7.gf.tr d4))⟩
    · rw [d1, d2, q_bd, q_bd]
      dsimp only
      rw [if_neg (nI_m1 (by omega)), if_neg (show ¬ (1 : Int32) = 0 by decide)]
      simp only [q_ve, nI_add]
      rw [q_jn, q_jn, i_eq (a := p) (b := q) (by omega) (by omega), i_eq (a := q) (b := p) (by omega) (by omega), q_ck (show p < 7 by omega) (by omega), q_ck (show 124 + p < 131 by omega) (by omega), show ix (nI p) = p from q_ix (by omega), show ix (nI q) = q from q_ix (by omega), show ix (nI (124 + p)) = 124 + p from q_ix (by omega), show ix (nI (124 + q)) = 124 + q from q_ix (by omega), x_has N _ (by omega), q_bd, y_bitOf N _ (by omega), q_bd, hC.fo (show p < 7 by omega), q_b0, q_b0]
      obtain ⟨r1, r2, r3, r4⟩ := y_refuse N (sT := sT) (sY := sY) (tY := tY) (t_got c4 (nI q)) 3
      by_cases cx : p = q
      · rw [if_pos cx, if_pos cx.symm]
        dsimp only
        rw [r1, r2, q_bd, q_bd]
        exact Or.inl ⟨_, _, _, _, _, _, _, _, _, _, rfl, rfl, r3, (YF.rf iY sY tY).i (a7.gf.tr (c7.gf.tr (((GF.rf iY2).up rfl _).tr r4)))⟩
      · rw [if_neg cx, if_neg (show ¬ q = p from fun e => cx e.symm)]
        cases hb : tb (sY 7 (124 + p)) q with
        | true =>
          rw [if_pos rfl, if_pos rfl]
          dsimp only
          rw [r1, r2, q_bd, q_bd]
          exact Or.inl ⟨_, _, _, _, _, _, _, _, _, _, rfl, rfl, r3, (YF.rf iY sY tY).i (a7.gf.tr (c7.gf.tr (((GF.rf iY2).up rfl _).tr r4)))⟩
        | false =>
          obtain ⟨iT4, jT4, iY4, jY4, st4, f1, f2, f3, f4, f5, f6, f7, f8⟩ := t_next N (sY := va_up sY 7 (pairS (sY 7) 124 p q)) hN hB tY (t_got c4 (nI q))
          rw [if_neg (by decide), if_neg (by decide), q_ck (show p < 7 by omega) (by omega), q_ck (show p < 7 by omega) (by omega), q_nv, q_ck (show q < 7 by omega) (by omega), q_ck (show q < 7 by omega) (by omega), q_nv, f1, q_bd, q_ck (show 124 + p < 131 by omega) (by omega), q_ck (show 124 + p < 131 by omega) (by omega), q_nv, q_ck (show 124 + q < 131 by omega) (by omega), q_ck (show 124 + q < 131 by omega) (by omega), q_nv, show f_X11_next N (va_up iY2 18 (nI q)) (va_up sY 7 (upd (upd (sY 7) (124 + p) (sY 7 (124 + p) ||| ((1 : Int32) <<< (nI q &&& 31)))) (124 + q) ((upd (sY 7) (124 + p) (sY 7 (124 + p) ||| ((1 : Int32) <<< (nI q &&& 31)))) (124 + q) ||| ((1 : Int32) <<< (nI p &&& 31))))) tY jY2 = _ from f2, q_bd, q_bd]
          dsimp only
          rw [q_bd, q_z1, q_z1]
          have hsf : SF iY iY4 := fun k k1 k2 k3 k4 k5 k6 => by rw [f7 k k1 k2 k3 k4 k5 k6, q_vn _ _ k6, c7 k k1 k2 k3 k4 k5 k6, a7 k k1 k2 k3 k4 k5 k6]
          refine Or.inr ⟨_, _, _, _, _, _, _, _, _, _, st4, P, Q, rfl, rfl, ⟨?_, ?_, ?_, ?_, ?_, ?_⟩, f3, by have := f5 d3; omega, f6.trans (c6.trans a6), hsf.at.1, hsf.at.2.1, ((YF.rf iY sY tY).i hsf.gf).h _⟩
          · have hcp := hC.pair5 (p := p) (q := q) (by omega) (by omega)
            rw [hC.fo (show p < 7 by omega)] at hcp
            exact hcp
          · show IL (pairS (sY 7) 124 p q) P Q
            exact ⟨hP, hQ, by rw [pair_o (by omega) (by omega)]; exact hL.s0, by rw [pair_o (by omega) (by omega)]; exact hL.s1, by rw [pair_o (by omega) (by omega)]; exact hL.de, by rw [pair_o (by omega) (by omega)]; exact hL.ve, by rw [pair_o (by omega) (by omega)]; exact hL.be, hL.st.to (fun k hk => pair_o (by omega) (by omega)), hL.pr.to (fun k hk => pair_o (by omega) (by omega)), hL.wa.to (fun k hk => pair_o (by omega) (by omega)), hL.kn.to hP (fun k hk => pair_o (by omega) (by omega)), hL.fo.pair hP hp hq cx⟩
          · exact hNm
          · dsimp only; rw [hsf.at.2.2]; exact g2
          · dsimp only; rw [hsf.at.2.2]; exact g3
          · dsimp only; rw [hsf.at.2.2]; exact g4
end
