/-! PURE: days of the class; days keep what holds -/
section
variable {s : Nat → Int32} {iC : Nat → Int32} {sC : Nat → Nat → Int32} {iM : Nat → Int32} {sM : Nat → Nat → Int32} {P Q : Nat}
theorem mo1_a (s : Nat → Int32) {k : Nat} (hk : k < 35) : mo1 s 35 (143 + k) = s (12 + k) := by
  unfold mo1; rw [if_pos (by omega), show 12 + (143 + k - 143) = 12 + k by omega]
theorem mo1_b (s : Nat → Int32) {k : Nat} (hk : k < 35) : mo1 s 35 (178 + k) = s (82 + k) := by
  unfold mo1; rw [if_neg (by omega), if_pos (by omega), show 82 + (178 + k - 178) = 82 + k by omega]
theorem morn_a (s : Nat → Int32) {k : Nat} (hk : k < 35) : mornS s (143 + k) = s (12 + k) := by
  unfold mornS; rw [pk_un (by omega), pk_un (by omega), pk_un (by omega), mo1_a s hk]
theorem morn_b (s : Nat → Int32) {k : Nat} (hk : k < 35) : mornS s (178 + k) = s (82 + k) := by
  unfold mornS; rw [pk_un (by omega), pk_un (by omega), pk_un (by omega), mo1_b s hk]
theorem MP.dawn (hM : MP s iM sM) (hC : CP s iC sC) : MP (mornS s) (va_up (va_up (va_up iM 2 0) 3 0) 4 (iC 10)) (va_up (va_up sM 9 (va_cpy (sC 6) (sM 9) 0 0 35)) 10 (va_cpy (sC 7) (sM 10) 0 0 35)) := by
  refine ⟨?_, ?_, ?_, ?_, ?_, fun k hk => ⟨?_, ?_, ?_⟩, fun k hk => ⟨?_, ?_⟩, fun k hk => ?_⟩
  · rw [morn_o _ (by omega)]; exact hM.da
  · rfl
  · rfl
  · show iC 10 = s 3; exact hC.ve
  · rw [morn_o _ (by omega)]; exact hM.bo
  · rw [morn_o _ (by omega)]; exact hM.co hk
  · rw [morn_o _ (by omega)]; exact hM.hu hk
  · rw [morn_o _ (by omega)]; exact hM.me hk
  · rw [q_vn _ _ (by omega), q_ve, pk_cpy_in (by omega) (by omega), morn_a _ hk, hC.st (by omega), show 0 + (k - 0) = k by omega]
  · rw [q_ve, pk_cpy_in (by omega) (by omega), morn_b _ hk, hC.wa (by omega), show 0 + (k - 0) = k by omega]
  · rw [morn_o _ (by omega)]; exact hM.dl hk
theorem MP.forg (hM : MP s iM sM) : MP (forgS s 56) iM (va_up (va_up sM 8 (fl_i 7 (sM 8) 0)) 11 (fl_i 49 (sM 11) 0)) := by
  have e : ∀ k, k < 220 → forgS s 56 k = s k := fun k hk => by unfold forgS; rw [if_neg (by omega)]
  have z : ∀ k, 220 ≤ k → k < 276 → forgS s 56 k = 0 := fun k h1 h2 => by unfold forgS; rw [if_pos (by omega)]
  refine ⟨?_, ?_, ?_, ?_, ?_, fun k hk => ⟨?_, ?_, ?_⟩, fun k hk => ⟨?_, ?_⟩, fun k hk => ?_⟩
  · rw [e _ (by omega)]; exact hM.da
  · rw [e _ (by omega)]; exact hM.ho
  · rw [e _ (by omega)]; exact hM.vd
  · rw [e _ (by omega)]; exact hM.vl
  · rw [e _ (by omega)]; exact hM.bo
  · rw [e _ (by omega)]; exact hM.co hk
  · rw [e _ (by omega)]; exact hM.hu hk
  · rw [q_vn _ _ (by omega), q_ve, z _ (by omega) (by omega)]; unfold fl_i; rw [if_pos hk]
  · rw [e _ (by omega)]; exact hM.st hk
  · rw [e _ (by omega)]; exact hM.wa hk
  · rw [q_ve, z _ (by omega) (by omega)]; unfold fl_i; rw [if_pos hk]
theorem dayA_o {k : Nat} (hP : P ≤ 7) (hk : k < 131 ∨ k = 132 ∨ (135 < k ∧ k < 143) ∨ 220 ≤ k) : dayA s P k = s k := by
  unfold dayA; rw [pk_un (by omega), morn_o _ (by omega), dayH_o _ _ (by omega)]
theorem day_o {k : Nat} (hP : P ≤ 7) (hk : k < 131 ∨ 276 ≤ k) : dayS s P k = s k := by
  unfold dayS
  repeat' split
  · exact dayA_o hP (by omega)
  · unfold forgS; rw [if_neg (by omega)]; exact dayA_o hP (by omega)
  · exact dayA_o hP (by omega)
theorem ID_day (hL : IL s P Q) (h : ID s P Q) (hd : s 131 < 400) : ID (dayS s P) P Q ∧ ¬ dayS s P 131 < 0 := by
  have hP := hL.P7
  obtain ⟨d, hd4, ed⟩ := h.da
  rw [ed, L400, nI_ltI (by omega) (by omega)] at hd
  have a131 : dayA s P 131 = nI (d + 1) := by unfold dayA; rw [pk_us, ed, nI_1]
  have hA : ID (dayA s P) P Q := by
    refine ⟨⟨d + 1, by omega, a131⟩, ?_, ?_, ?_, h.me.to hP (fun k hk => dayA_o hP (by omega)), fun p hp hPp => ?_, fun p q hp hq => ?_⟩
    · have : dayA s P 135 = s 3 := by unfold dayA; rw [pk_un (by omega)]; show dayH s P 3 = s 3; exact dayH_o _ _ (by omega)
      rw [this]; exact hL.ve
    · intro p g hp hg
      have : dayA s P (143 + (5 * p + g)) = s (12 + (5 * p + g)) := by unfold dayA; rw [pk_un (by omega), morn_a _ (by omega)]; exact dayH_o _ _ (by omega)
      rw [this]; exact hL.st p g hp hg
    · intro p g hp hg
      have : dayA s P (178 + (5 * p + g)) = s (82 + (5 * p + g)) := by unfold dayA; rw [pk_un (by omega), morn_b _ (by omega)]; exact dayH_o _ _ (by omega)
      rw [this]; exact hL.wa p g hp hg
    · have : dayA s P (213 + p) = s (213 + p) := by unfold dayA; rw [pk_un (by omega), morn_o _ (by omega)]; exact dayH_o _ _ (by omega)
      rw [this]; exact h.hu p hp hPp
    · rw [dayA_o hP (by omega), dayA_o hP (by omega), dayA_o hP (by omega), dayA_o hP (by omega), dayA_o hP (by omega)]
      exact h.dl p q hp hq
  have hF : ID (forgS (dayA s P) 56) P Q := by
    have e : ∀ k, k < 220 → forgS (dayA s P) 56 k = dayA s P k := fun k hk => by unfold forgS; rw [if_neg (by omega)]
    have z : ∀ k, 220 ≤ k → k < 276 → forgS (dayA s P) 56 k = 0 := fun k h1 h2 => by unfold forgS; rw [if_pos (by omega)]
    refine ⟨by rw [e _ (by omega)]; exact hA.da, by rw [e _ (by omega)]; exact hA.vl, hA.st.to (fun k hk => e _ (by omega)), hA.wa.to (fun k hk => e _ (by omega)), fun p q hp hq => ?_, fun p hp hPp => by rw [e _ (by omega)]; exact hA.hu p hp hPp, fun p q hp hq => ?_⟩
    · rw [z _ (by omega) (by omega), tb_0] at hq; cases hq
    · rw [z _ (by omega) (by omega), z _ (by omega) (by omega), e 2 (by omega), dayA_o hP (by omega)]
      obtain ⟨d, hd1, hd9, ed⟩ := hL.de
      exact ⟨rfl, Or.inr ⟨0, d, hd9, ed, rfl, Or.inl (by omega)⟩⟩
  unfold dayS
  repeat' split
  · exact ⟨hA, by rw [a131]; exact nI_pos (by omega)⟩
  · refine ⟨hF, ?_⟩
    have : forgS (dayA s P) 56 131 = nI (d + 1) := by unfold forgS; rw [if_neg (by omega)]; exact a131
    rw [this]; exact nI_pos (by omega)
  · exact ⟨hA, by rw [a131]; exact nI_pos (by omega)⟩
theorem goS_o (hP : P ≤ 7) (r : Nat) : ∀ s : Nat → Int32, ∀ k, k < 131 ∨ 276 ≤ k → (goS P r s).2 k = s k := by
  induction r with
  | zero => intro s k _; rfl
  | succ r ih =>
    intro s k hk
    rw [goS]
    split
    · rfl
    · show (goS P r (dayS s P)).2 k = s k
      rw [ih _ k hk, day_o hP hk]
theorem ID_go (r : Nat) : ∀ s : Nat → Int32, IL s P Q → ID s P Q → ID (goS P r s).2 P Q := by
  induction r with
  | zero => intro s _ h; exact h
  | succ r ih =>
    intro s hL h
    rw [goS]
    split
    · exact h
    · rename_i h4
      exact ih _ (hL.to (fun k hk => day_o hL.P7 (by omega))) (ID_day hL h (Int32.not_le.mp h4)).1
end
section
variable (N : Nat) {s : Nat → Int32} {iC : Nat → Int32} {tC : Nat → Nat → Int64} {sC : Nat → Nat → Int32} {iM : Nat → Int32} {sM : Nat → Nat → Int32} {P Q : Nat}
theorem x_wanting (hN : 2000 ≤ N) (hM : MP s iM sM) {a : Nat} (ha : a < 7) : f_X4_wanting N iM sM iC tC sC (nI a) = some (wan s a) := by
  unfold f_X4_wanting wan
  refine q_loopF (fun k x v => f_X4_wanting_4 N iM sM iC tC sC (nI a) k x v) some 5 N (by omega) (wanQ s a) 0 rfl (fun k => ?_) (fun k i hi => ?_)
  · rw [f_X4_wanting_4, L5, if_pos (nI_le (Nat.le_refl _) (by omega))]
  · show f_X4_wanting_4 N iM sM iC tC sC (nI a) (k + 1) _ _ = f_X4_wanting_4 N iM sM iC tC sC (nI a) k _ _
    rw [f_X4_wanting_4, L5, if_neg (nI_ge hi (by omega)), x_cellOf, q_bd, q_ck (by omega) (by omega), q_nv, show ix (nI (5 * a + i)) = 5 * a + i from q_ix (by omega), hM.wa (by omega), nI_1]
    rfl
theorem x_fed (hN : 2000 ≤ N) (hM : MP s iM sM) (hC : CP s iC sC) (hP : P ≤ 7) (h0 : s 0 = nI P) : f_X4_fed N iM sM iC tC sC = some (fedS s P) := by
  unfold f_X4_fed
  refine q_loopF (fun k x v => f_X4_fed_4 N iM sM iC tC sC k x v) some P N (by omega) (fedS s) 0 rfl (fun k => ?_) (fun k i hi => ?_)
  · show f_X4_fed_4 N iM sM iC tC sC (k + 1) _ _ = _
    rw [f_X4_fed_4, hC.pe, h0, if_pos (nI_le (Nat.le_refl _) (by omega))]
  · show f_X4_fed_4 N iM sM iC tC sC (k + 1) _ _ = f_X4_fed_4 N iM sM iC tC sC k _ _
    rw [f_X4_fed_4, hC.pe, h0, if_neg (nI_ge hi (by omega)), x_wanting N hN hM (by omega), q_bd, q_jn, nI_1, fedS]
    split
    · rfl
    · rfl
theorem x_passDay (hN : 2000 ≤ N) (hM : MP s iM sM) (hC : CP s iC sC) (hL : IL s P Q) :
    ∃ iM' sM', f_X4_passDay N iM sM iC tC sC = some (iM', sM') ∧ MP (dayS s P) iM' sM' ∧ iM' 12 = iM 12 := by
  have hP := hL.P7
  unfold f_X4_passDay
  rw [q_jn]
  generalize hK : (fun (z : (Nat → Nat → Int32)) => match z with | sM_4 => bd (f_X4_dawn N iM sM_4 iC tC sC) (fun (iM_5, sM_6) => (if (iC 11) ≤ 0 then some ((va_up iM_5 1 ((iM_5 1) + 1)), sM_6) else nz (iC 11) ((if (((iM_5 1) + 1) - ((iM_5 1) + 1) / (iC 11) * (iC 11)) = 0 then bd (f_X4_forget N (va_up iM_5 1 ((iM_5 1) + 1)) sM_6 iC tC sC) (fun sM_11 => some ((va_up iM_5 1 ((iM_5 1) + 1)), sM_11)) else some ((va_up iM_5 1 ((iM_5 1) + 1)), sM_6)))))) = K
  obtain ⟨sM1, h1, e1⟩ := q_loop0 (fun k x v => f_X4_passDay_2 N iM iC tC sC K k x v) K P N (by omega) (fun i x => MP (dayH s i) iM x) sM hM (fun k x hx => by
      show f_X4_passDay_2 N iM iC tC sC K (k + 1) _ _ = _
      rw [f_X4_passDay_2, hC.pe, hL.s0, if_pos (nI_le (Nat.le_refl _) (by omega))]) (fun k i x hi hx => by
      refine ⟨va_up x 7 (upd (x 7) i (hng (dayH s i (213 + i) + wan (dayH s i) i))), hx.u7 (by omega) rfl, ?_⟩
      show f_X4_passDay_2 N iM iC tC sC K (k + 1) _ _ = f_X4_passDay_2 N iM iC tC sC K k _ _
      rw [f_X4_passDay_2, hC.pe, hL.s0, if_neg (nI_ge hi (by omega)), x_wanting N hN hx (by omega), q_bd, q_ck (by omega) (by omega), q_ck (by omega) (by omega), q_nv, show ix (nI i) = i from q_ix (by omega), hx.hu (by omega), nI_1]
      rfl)
  have e1' : f_X4_passDay_2 N iM iC tC sC K N sM 0 = K sM1 := e1
  rw [e1', ← hK]
  have h2 := h1.dawn (hC.to (fun k hk => dayH_o s P (by omega)))
  have h3 := h2.i1 (v := s 131 + 1) (v' := (va_up (va_up (va_up iM 2 0) 3 0) 4 (iC 10)) 1 + 1) (by show iM 1 + 1 = _; rw [hM.da])
  show ∃ iM' sM', bd (f_X4_dawn N iM sM1 iC tC sC) _ = some (iM', sM') ∧ _
  unfold f_X4_dawn
  rw [q_nv, q_nv, q_bd]
  obtain ⟨b, hb, eb⟩ := hL.be
  have e0 : (iC 11 ≤ 0) ↔ s 4 = 0 := by rw [hC.be, eb, show (0 : Int32) = nI 0 from rfl, nI_leI (by omega) (by omega), nI_eq (by omega) (by omega)]; omega
  have ed : (va_up (va_up (va_up iM 2 0) 3 0) 4 (iC 10)) 1 = s 131 := hM.da
  unfold dayS
  by_cases c0 : s 4 = 0
  · rw [if_pos c0]
    show ∃ iM' sM', (if iC 11 ≤ 0 then _ else _) = some (iM', sM') ∧ _
    rw [if_pos (e0.mpr c0)]
    exact ⟨_, _, rfl, h3, rfl⟩
  · rw [if_neg c0]
    show ∃ iM' sM', (if iC 11 ≤ 0 then _ else nz (iC 11) (if ((va_up (va_up (va_up iM 2 0) 3 0) 4 (iC 10)) 1 + 1) - ((va_up (va_up (va_up iM 2 0) 3 0) 4 (iC 10)) 1 + 1) / iC 11 * iC 11 = 0 then _ else _)) = some (iM', sM') ∧ _
    rw [if_neg (fun h => c0 (e0.mp h)), hC.be, ed]
    rw [ed] at h3
    have enz : ∀ k : Option ((Nat → Int32) × (Nat → Nat → Int32)), nz (s 4) k = k := fun k => by unfold nz; rw [if_neg c0]
    rw [enz]
    split
    · unfold f_X4_forget
      rw [q_nv, q_nv, q_bd]
      exact ⟨_, _, rfl, h3.forg, rfl⟩
    · exact ⟨_, _, rfl, h3, rfl⟩
theorem x_passDays (hN : 2000 ≤ N) (n : Nat) (hn : n ≤ 60) : ∀ (r i k : Nat) (s iM : Nat → Int32) (sM : Nat → Nat → Int32), i + r = n → r < k → MP s iM sM → CP s iC sC → IL s P Q → ID s P Q →
    ∃ iM' sM', f_X4_passDays_2 N iC tC sC (nI n) k iM sM (nI i) = some (nI (i + (goS P r s).1), iM', sM') ∧ MP (goS P r s).2 iM' sM' := by
  intro r
  induction r with
  | zero =>
    intro i k s iM sM hi hk hM hC hL hI
    obtain ⟨k, rfl⟩ : ∃ m, k = m + 1 := ⟨k - 1, by omega⟩
    rw [f_X4_passDays_2, if_pos (nI_le (by omega) (by omega))]
    exact ⟨_, _, rfl, hM⟩
  | succ r ih =>
    intro i k s iM sM hi hk hM hC hL hI
    obtain ⟨k, rfl⟩ : ∃ m, k = m + 1 := ⟨k - 1, by omega⟩
    rw [f_X4_passDays_2, if_neg (nI_ge (by omega) (by omega)), hM.da, goS]
    split
    · exact ⟨_, _, rfl, hM⟩
    · rename_i h4
      obtain ⟨iM1, sM1, e1, h1, -⟩ := x_passDay N (tC := tC) hN hM hC hL
      have es : ∀ k, k < 131 → dayS s P k = s k := fun k hk => day_o hL.P7 (by omega)
      obtain ⟨iM2, sM2, e2, h2⟩ := ih (i + 1) k (dayS s P) iM1 sM1 (by omega) (by omega) h1 (hC.to es) (hL.to es) (ID_day hL hI (Int32.not_le.mp h4)).1
      refine ⟨iM2, sM2, ?_, h2⟩
      rw [e1, q_bd]
      show f_X4_passDays_2 N iC tC sC (nI n) k iM1 sM1 (nI i + 1) = some (nI (i + ((goS P r (dayS s P)).1 + 1)), iM2, sM2)
      rw [nI_1, e2, show i + 1 + (goS P r (dayS s P)).1 = i + ((goS P r (dayS s P)).1 + 1) by omega]
theorem y_goesOn (hN : 2000 ≤ N) (iY : Nat → Int32) (tY : Nat → Nat → Int64) (jY : Nat → Int64) (n : Nat) (hn : n ≤ 60) : ∀ (r i k : Nat) (sY : Nat → Nat → Int32), i + r = n → r < k → IL (sY 6) P Q → ID (sY 6) P Q →
    f_X11_goesOn_2 N iY tY jY (nI n) k sY (nI i) = some (nI (i + (goS P r (sY 6)).1), va_up sY 6 (goS P r (sY 6)).2) := by
  intro r
  induction r with
  | zero =>
    intro i k sY hi hk hL hI
    obtain ⟨k, rfl⟩ : ∃ m, k = m + 1 := ⟨k - 1, by omega⟩
    rw [f_X11_goesOn_2, if_pos (nI_le (by omega) (by omega)), goS, q_vid]
    rfl
  | succ r ih =>
    intro i k sY hi hk hL hI
    obtain ⟨k, rfl⟩ : ∃ m, k = m + 1 := ⟨k - 1, by omega⟩
    rw [f_X11_goesOn_2, if_neg (nI_ge (by omega) (by omega)), goS]
    split
    · rw [q_vid]; rfl
    · rename_i h4
      have es : ∀ k, k < 131 → dayS (sY 6) P k = sY 6 k := fun k hk => day_o hL.P7 (by omega)
      rw [y_day N iY sY tY jY hN hL.P7 hL.Q5 hL.s0 hL.s1 hI.wa, q_bd, nI_1]
      have := ih (i + 1) k (va_up sY 6 (dayS (sY 6) P)) (by omega) (by omega) (by rw [q_ve]; exact hL.to es) (by rw [q_ve]; exact (ID_day hL hI (Int32.not_le.mp h4)).1)
      rw [q_ve, q_vv] at this
      rw [this, show i + 1 + (goS P r (dayS (sY 6) P)).1 = i + ((goS P r (dayS (sY 6) P)).1 + 1) by omega]
end
