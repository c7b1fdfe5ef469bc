/-! PURE: days by draws, both sides -/
section
variable (N : Nat) {s : Nat → Int32} {iC : Nat → Int32} {tC : Nat → Nat → Int64} {sC : Nat → Nat → Int32} {iM : Nat → Int32} {sM : Nat → Nat → Int32} {P Q : Nat}
theorem x_draw (iM : Nat → Int32) {m : Nat} (h0 : 0 < m) (hm : m ≤ 7) : f_X4_draw N iM sM iC tC sC (nI m) = some (nI (rvN (rnd (iM 12)) m), va_up iM 12 (rnd (iM 12))) := by
  unfold f_X4_draw
  have enz : ∀ k : Option (Int32 × (Nat → Int32)), nz (nI m) k = k := fun k => by unfold nz; rw [if_neg (nI_ne0 h0 (by omega))]
  rw [q_nv, if_neg (nI_nle h0 (by omega)), enz, rnd_eq, rv_eq _ h0 hm]
theorem x_drawAct (hM : MP s iM sM) (hC : CP s iC sC) (hL : IL s P Q) (hI : ID s P Q) {a : Nat} (ha : a < P) :
    ∃ iM' sM', f_X4_drawAct N iM sM iC tC sC (nI a) = some (iM', sM') ∧ MP (drawP P Q s (iM 12) a).2 iM' sM' ∧ iM' 12 = (drawP P Q s (iM 12) a).1 := by
  have hP := hL.P7
  have hQ := hL.Q5
  have hb : ∀ z, rvN z P < P := fun z => rvN_lt z (by omega)
  have h6 := rvN_lt (rnd (iM 12)) (m := 6) (by omega)
  have r2 : rnd (va_up iM 12 (rnd (iM 12)) 12) = rnd (rnd (iM 12)) := by rw [q_ve]
  have r3 : rnd (va_up iM 12 (rnd (rnd (iM 12))) 12) = rnd (rnd (rnd (iM 12))) := by rw [q_ve]
  have hg2 := rv_c (Q := Q) hQ (rnd (rnd (iM 12)))
  have hb2 := hb (rnd (rnd (iM 12)))
  have hb3 := hb (rnd (rnd (rnd (iM 12))))
  have hdQ : ∀ (h : 0 < Q), f_X4_draw N (va_up iM 12 (rnd (iM 12))) sM iC tC sC (nI Q) = some (nI (rvN (rnd (rnd (iM 12))) Q), va_up iM 12 (rnd (rnd (iM 12)))) := by
    intro h; rw [x_draw N _ h (by omega), r2, q_vv]
  have hdP : f_X4_draw N (va_up iM 12 (rnd (iM 12))) sM iC tC sC (nI P) = some (nI (rvN (rnd (rnd (iM 12))) P), va_up iM 12 (rnd (rnd (iM 12)))) := by
    rw [x_draw N _ (by omega) (by omega), r2, q_vv]
  have hdP3 : f_X4_draw N (va_up iM 12 (rnd (rnd (iM 12)))) sM iC tC sC (nI P) = some (nI (rvN (rnd (rnd (rnd (iM 12)))) P), va_up iM 12 (rnd (rnd (rnd (iM 12))))) := by
    rw [x_draw N _ (by omega) (by omega), r3, q_vv]
  unfold f_X4_drawAct f_X4_drawBuy
  rw [L6, x_draw N iM (m := 6) (by omega) (by omega), q_bd, hC.pe, hC.go, hL.s0, hL.s1]
  unfold drawP
  clear r2 r3
  generalize rvN (rnd (iM 12)) 6 = w at *
  generalize rvN (rnd (rnd (rnd (iM 12)))) P = b at *
  generalize rvN (rnd (rnd (iM 12))) P = c at *
  generalize rvN (rnd (rnd (iM 12))) Q = g at *
  generalize rnd (rnd (rnd (iM 12))) = z3 at *
  generalize rnd (rnd (iM 12)) = z2 at *
  generalize rnd (iM 12) = z1 at *
  have M1 := hM.i12 z1
  have M2 := hM.i12 z2
  have M3 := hM.i12 z3
  have c2 : ((2 : Int32) < nI w) ↔ 2 < w := nI_ltI (a := 2) (by omega) (by omega)
  have d3 : (nI w = (3 : Int32)) ↔ w = 3 := nI_eq (b := 3) (by omega) (by omega)
  have d4 : (nI w = (4 : Int32)) ↔ w = 4 := nI_eq (b := 4) (by omega) (by omega)
  have cq : ((1 : Int32) ≤ nI Q) ↔ 1 ≤ Q := nI_leI (a := 1) (by omega) (by omega)
  have ez : ∀ n, n < 100 → ((nI n = (0 : Int32)) ↔ n = 0) := fun n hn => nI_eq (b := 0) (by omega) (by omega)
  simp only [c2, d3, d4, cq]
  unfold drawQ
  by_cases k1 : w < 3
  · rw [if_pos k1, if_neg (show ¬ 2 < w by omega)]
    by_cases k2 : Q = 0
    · rw [if_pos k2, if_neg (show ¬ 1 ≤ Q by omega), q_bd]
      exact ⟨_, _, rfl, M1, (q_ve iM 12 z1 : va_up iM 12 z1 12 = z1)⟩
    · rw [if_neg k2, if_pos (show 1 ≤ Q by omega), hdQ (by omega), q_bd, hdP3, q_bd, x_whyNotBuy N hC M3 hI hL.s0 (by omega) (by omega) (hg2 k2), q_bd]
      simp only [ez _ (whyB_lt _ _ _ _ _)]
      split
      · obtain ⟨iM', sM', e, h, h12⟩ := x_doBuy N (tC := tC) hC M3 (a := a) (b := b) (g := g) (by omega) (by omega) (hg2 k2)
        rw [e]
        exact ⟨_, _, rfl, h, h12.trans (q_ve _ _ _)⟩
      · exact ⟨_, _, rfl, M3, (q_ve iM 12 z3 : va_up iM 12 z3 12 = z3)⟩
  · rw [if_neg k1, if_pos (show 2 < w by omega)]
    by_cases k3 : w = 3
    · rw [if_pos k3, if_pos k3, hdP, q_bd, x_whyNotNod N hC M2 (by omega) (by omega), q_bd]
      simp only [ez _ (whyN_lt _ _ _)]
      split
      · obtain ⟨iM', sM', e, h, h12⟩ := x_doNod N (iC := iC) (sC := sC) (tC := tC) M2 (a := a) (b := c) (by omega) (by omega)
        rw [e]
        exact ⟨_, _, rfl, h, h12.trans (q_ve _ _ _)⟩
      · exact ⟨_, _, rfl, M2, q_ve _ _ _⟩
    · rw [if_neg k3, if_neg k3]
      by_cases k4 : w = 4
      · rw [if_pos k4, if_pos k4, x_whyNotVeil N M1 hI (by omega), q_bd]
        simp only [ez _ (whyV_lt _ _)]
        split
        · obtain ⟨iM', e, h, h12⟩ := x_doVeil N (iC := iC) (sC := sC) (tC := tC) M1 (a := a)
          rw [e]
          exact ⟨_, _, rfl, h, h12.trans (q_ve _ _ _)⟩
        · exact ⟨_, _, rfl, M1, q_ve _ _ _⟩
      · rw [if_neg k4, if_neg k4]
        exact ⟨_, _, rfl, M1, q_ve _ _ _⟩
theorem x_passDrawn (hN : 2000 ≤ N) (n : Nat) (hn : n ≤ 60) : ∀ (r i k : Nat) (s iM : Nat → Int32) (sM : Nat → Nat → Int32), i + r = n → r < k → MP s iM sM → CP s iC sC → IL s P Q → ID s P Q →
    ∃ iM' sM', f_X4_passDrawnDays_7 N iC tC sC (nI n) k iM sM (nI i) = some (nI (i + (drS P Q r (iM 12) s).1), iM', sM') ∧ MP (drS P Q r (iM 12) s).2.2 iM' sM' := by
  intro r
  induction r with
  | zero =>
    intro i k s iM sM hi hk hM hC hL hI
    obtain ⟨k, rfl⟩ : ∃ m, k = m + 1 := ⟨k - 1, by omega⟩
    rw [f_X4_passDrawnDays_7, if_pos (nI_le (by omega) (by omega))]
    exact ⟨_, _, rfl, hM⟩
  | succ r ih =>
    intro i k s iM sM hi hk hM hC hL hI
    have hP := hL.P7
    obtain ⟨k, rfl⟩ : ∃ m, k = m + 1 := ⟨k - 1, by omega⟩
    rw [f_X4_passDrawnDays_7, if_neg (nI_ge (by omega) (by omega)), hM.da, drS]
    split
    · exact ⟨_, _, rfl, hM⟩
    · rename_i h4
      rw [q_jn]
      generalize hK : (fun (z : (Nat → Int32) × (Nat → Nat → Int32)) => match z with | (iM_32, sM_33) => bd (f_X4_passDay N iM_32 sM_33 iC tC sC) (fun (iM_34, sM_35) => f_X4_passDrawnDays_7 N iC tC sC (nI n) k iM_34 sM_35 (nI i + 1))) = K
      obtain ⟨y, ⟨h1, h12⟩, e1⟩ := q_loop0 (fun k (x : (Nat → Int32) × (Nat → Nat → Int32)) v => f_X4_passDrawnDays_25 N iC tC sC (nI n) (nI i) K k x.1 x.2 v) K P N (by omega) (fun i x => MP (drawR P Q s (iM 12) i).2 x.1 x.2 ∧ x.1 12 = (drawR P Q s (iM 12) i).1) (iM, sM) ⟨hM, rfl⟩ (fun k x hx => by
          show f_X4_passDrawnDays_25 N iC tC sC (nI n) (nI i) K (k + 1) _ _ _ = _
          rw [f_X4_passDrawnDays_25, hC.pe, hL.s0, if_pos (nI_le (Nat.le_refl _) (by omega))]) (fun k j x hj hx => by
          have es : ∀ k, k < 131 → (drawR P Q s (iM 12) j).2 k = s k := fun k hk => drawR_o hP hL.Q5 _ _ (by omega) (by omega)
          obtain ⟨iM', sM', e, h, h12⟩ := x_drawAct N (tC := tC) hx.1 (hC.to es) (hL.to es) (ID_drawR hL hI _ j (by omega)) hj
          refine ⟨(iM', sM'), ⟨?_, ?_⟩, ?_⟩
          · rw [hx.2] at h; exact h
          · rw [hx.2] at h12; exact h12
          · show f_X4_passDrawnDays_25 N iC tC sC (nI n) (nI i) K (k + 1) _ _ _ = f_X4_passDrawnDays_25 N iC tC sC (nI n) (nI i) K k _ _ _
            rw [f_X4_passDrawnDays_25, hC.pe, hL.s0, if_neg (nI_ge hj (by omega)), e, q_bd, nI_1])
      have e1' : f_X4_passDrawnDays_25 N iC tC sC (nI n) (nI i) K N iM sM 0 = K y := e1
      rw [e1', ← hK]
      obtain ⟨iM1, sM1⟩ := y
      have es : ∀ k, k < 131 → (drawR P Q s (iM 12) P).2 k = s k := fun k hk => drawR_o hP hL.Q5 _ _ (Nat.le_refl _) (by omega)
      have hL1 := hL.to es
      have hI1 := ID_drawR hL hI (iM 12) P (Nat.le_refl _)
      obtain ⟨iM2, sM2, e2, h2, h212⟩ := x_passDay N (tC := tC) hN h1 (hC.to es) hL1
      have es2 : ∀ k, k < 131 → dayS (drawR P Q s (iM 12) P).2 P k = (drawR P Q s (iM 12) P).2 k := fun k hk => day_o hP (by omega)
      obtain ⟨iM3, sM3, e3, h3⟩ := ih (i + 1) k (dayS (drawR P Q s (iM 12) P).2 P) iM2 sM2 (by omega) (by omega) h2 ((hC.to es).to es2) (hL1.to es2) (ID_day hL1 hI1 (by rw [drawR_day hP hL.Q5 _ P (Nat.le_refl _)]; exact Int32.not_le.mp h4)).1
      have e12 : iM2 12 = (drawR P Q s (iM 12) P).1 := h212.trans h12
      rw [e12] at e3 h3
      refine ⟨iM3, sM3, ?_, h3⟩
      show bd (f_X4_passDay N iM1 sM1 iC tC sC) _ = _
      rw [e2, q_bd]
      show f_X4_passDrawnDays_7 N iC tC sC (nI n) k iM2 sM2 (nI i + 1) = some (nI (i + ((drS P Q r (drawR P Q s (iM 12) P).1 (dayS (drawR P Q s (iM 12) P).2 P)).1 + 1)), iM3, sM3)
      rw [nI_1, e3, show ∀ x, i + 1 + x = i + (x + 1) from fun x => by omega]
theorem y_draws (hN : 2000 ≤ N) (tY : Nat → Nat → Int64) (jY : Nat → Int64) (n : Nat) (hn : n ≤ 60) : ∀ (r i k : Nat) (iY : Nat → Int32) (sY : Nat → Nat → Int32), i + r = n → r < k → IL (sY 6) P Q → ID (sY 6) P Q →
    ∃ z, f_X11_draws_7 N tY jY (nI n) k iY sY (nI i) = some (nI (i + (drS P Q r (iY 38) (sY 6)).1), va_up iY 38 z, va_up sY 6 (drS P Q r (iY 38) (sY 6)).2.2) := by
  intro r
  induction r with
  | zero =>
    intro i k iY sY hi hk hL hI
    obtain ⟨k, rfl⟩ : ∃ m, k = m + 1 := ⟨k - 1, by omega⟩
    rw [f_X11_draws_7, if_pos (nI_le (by omega) (by omega)), drS]
    refine ⟨iY 38, ?_⟩
    rw [q_vid]
    show some (nI i, iY, sY) = some (nI (i + 0), iY, va_up sY 6 (sY 6))
    rw [q_vid]; rfl
  | succ r ih =>
    intro i k iY sY hi hk hL hI
    have hP := hL.P7
    obtain ⟨k, rfl⟩ : ∃ m, k = m + 1 := ⟨k - 1, by omega⟩
    rw [f_X11_draws_7, if_neg (nI_ge (by omega) (by omega)), drS]
    split
    · refine ⟨iY 38, ?_⟩
      rw [q_vid]
      show some (nI i, iY, sY) = some (nI (i + 0), iY, va_up sY 6 (sY 6))
      rw [q_vid]; rfl
    · rename_i h4
      rw [q_jn]
      generalize hK : (fun (z : (Nat → Int32) × (Nat → Nat → Int32)) => match z with | (iY_31, sY_32) => bd (f_X11_day N iY_31 sY_32 tY jY) (fun sY_33 => f_X11_draws_7 N tY jY (nI n) k iY_31 sY_33 (nI i + 1))) = K
      have e1 := q_loopF (fun k (x : (Nat → Int32) × (Nat → Nat → Int32)) v => f_X11_draws_29 N tY jY (nI n) (nI i) K k x.1 x.2 v) K P N (by omega) (fun i => (va_up iY 38 (drawR P Q (sY 6) (iY 38) i).1, va_up sY 6 (drawR P Q (sY 6) (iY 38) i).2)) (iY, sY) (by
          show (iY, sY) = (va_up iY 38 (iY 38), va_up sY 6 (sY 6))
          rw [q_vid, q_vid]) (fun k => by
          show f_X11_draws_29 N tY jY (nI n) (nI i) K (k + 1) (va_up iY 38 (drawR P Q (sY 6) (iY 38) P).1) (va_up sY 6 (drawR P Q (sY 6) (iY 38) P).2) (nI P) = _
          have : (va_up sY 6 (drawR P Q (sY 6) (iY 38) P).2) 6 0 = nI P := by rw [q_ve, drawR_o hP hL.Q5 _ _ (Nat.le_refl _) (by omega)]; exact hL.s0
          rw [f_X11_draws_29, this, if_pos (nI_le (Nat.le_refl _) (by omega))]) (fun k j hj => by
          show f_X11_draws_29 N tY jY (nI n) (nI i) K (k + 1) (va_up iY 38 (drawR P Q (sY 6) (iY 38) j).1) (va_up sY 6 (drawR P Q (sY 6) (iY 38) j).2) (nI j) = f_X11_draws_29 N tY jY (nI n) (nI i) K k (va_up iY 38 (drawR P Q (sY 6) (iY 38) (j + 1)).1) (va_up sY 6 (drawR P Q (sY 6) (iY 38) (j + 1)).2) (nI (j + 1))
          have c0 : (va_up sY 6 (drawR P Q (sY 6) (iY 38) j).2) 6 0 = nI P := by rw [q_ve, drawR_o hP hL.Q5 _ _ (by omega) (by omega)]; exact hL.s0
          have c1 : (va_up sY 6 (drawR P Q (sY 6) (iY 38) j).2) 6 1 = nI Q := by rw [q_ve, drawR_o hP hL.Q5 _ _ (by omega) (by omega)]; exact hL.s1
          rw [f_X11_draws_29, c0, if_neg (nI_ge hj (by omega)), y_drawPerson N _ _ tY jY hP hL.Q5 hj c0 c1, q_bd, q_vv, q_vv, q_ve, q_ve, nI_1, drawR])
      have e1' : f_X11_draws_29 N tY jY (nI n) (nI i) K N iY sY 0 = K (va_up iY 38 (drawR P Q (sY 6) (iY 38) P).1, va_up sY 6 (drawR P Q (sY 6) (iY 38) P).2) := e1
      rw [e1', ← hK]
      have es : ∀ k, k < 131 → (drawR P Q (sY 6) (iY 38) P).2 k = sY 6 k := fun k hk => drawR_o hP hL.Q5 _ _ (Nat.le_refl _) (by omega)
      have hL1 := hL.to es
      have hI1 := ID_drawR hL hI (iY 38) P (Nat.le_refl _)
      show ∃ z, bd (f_X11_day N (va_up iY 38 (drawR P Q (sY 6) (iY 38) P).1) (va_up sY 6 (drawR P Q (sY 6) (iY 38) P).2) tY jY) (fun sY_33 => f_X11_draws_7 N tY jY (nI n) k (va_up iY 38 (drawR P Q (sY 6) (iY 38) P).1) sY_33 (nI i + 1)) = _
      rw [y_day N _ _ tY jY hN (P := P) (Q := Q) hP hL.Q5 (by rw [q_ve]; exact hL1.s0) (by rw [q_ve]; exact hL1.s1) (by rw [q_ve]; exact hI1.wa), q_bd, q_vv, q_ve, nI_1]
      have es2 : ∀ k, k < 131 → dayS (drawR P Q (sY 6) (iY 38) P).2 P k = (drawR P Q (sY 6) (iY 38) P).2 k := fun k hk => day_o hP (by omega)
      obtain ⟨z, e3⟩ := ih (i + 1) k (va_up iY 38 (drawR P Q (sY 6) (iY 38) P).1) (va_up sY 6 (dayS (drawR P Q (sY 6) (iY 38) P).2 P)) (by omega) (by omega) (by rw [q_ve]; exact hL1.to es2) (by rw [q_ve]; exact (ID_day hL1 hI1 (by rw [drawR_day hP hL.Q5 _ P (Nat.le_refl _)]; exact Int32.not_le.mp h4)).1)
      rw [q_ve, q_ve, q_vv, q_vv] at e3
      refine ⟨z, ?_⟩
      rw [e3, show ∀ x, i + 1 + x = i + (x + 1) from fun x => by omega]
end
