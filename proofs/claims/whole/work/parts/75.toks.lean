/-! PURE: tokens taken on both sides -/
def gk (k : Nat) : Bool := k == 0 || k == 2 || k == 23 || k == 27 || k == 28 || k == 29 || k == 30 || k == 33 || k == 34 || k == 35 || k == 37 || k == 38 || k == 41
def GF (iY iY' : Nat → Int32) : Prop := ∀ k, gk k = true → iY' k = iY k
def SF (iY iY' : Nat → Int32) : Prop := ∀ k, k ≠ 4 → k ≠ 11 → k ≠ 12 → k ≠ 13 → k ≠ 14 → k ≠ 18 → iY' k = iY k
def FT (iT iY : Nat → Int32) : Prop := iT 11 = iY 15 ∧ iT 12 = iY 16
theorem GF.rf (iY : Nat → Int32) : GF iY iY := fun _ _ => rfl
theorem GF.tr {a b c : Nat → Int32} (h1 : GF a b) (h2 : GF b c) : GF a c := fun k hk => (h2 k hk).trans (h1 k hk)
theorem SF.rf (iY : Nat → Int32) : SF iY iY := fun _ _ _ _ _ _ _ => rfl
theorem SF.tr {a b c : Nat → Int32} (h1 : SF a b) (h2 : SF b c) : SF a c := fun k k1 k2 k3 k4 k5 k6 => (h2 k k1 k2 k3 k4 k5 k6).trans (h1 k k1 k2 k3 k4 k5 k6)
theorem SF.gf {a b : Nat → Int32} (h : SF a b) : GF a b := fun k hk => h k (fun e => by subst e; cases hk) (fun e => by subst e; cases hk) (fun e => by subst e; cases hk) (fun e => by subst e; cases hk) (fun e => by subst e; cases hk) (fun e => by subst e; cases hk)
theorem GF.up {a b : Nat → Int32} (h : GF a b) {k : Nat} (hk : gk k = false) (v : Int32) : GF a (va_up b k v) := fun j hj => by
  rw [q_vn _ _ (fun e => by subst e; rw [hk] at hj; cases hj)]; exact h j hj
theorem SF.got {a b : Nat → Int32} (h : SF a b) (v : Int32) : SF a (va_up b 18 v) := fun k k1 k2 k3 k4 k5 k6 => by rw [q_vn _ _ k6]; exact h k k1 k2 k3 k4 k5 k6
section
variable (N : Nat) {sT : Nat → Nat → Int32} {iT : Nat → Int32} {jT : Nat → Int64} {iY : Nat → Int32} {sY : Nat → Nat → Int32} {tY : Nat → Nat → Int64} {jY : Nat → Int64} {L lim st : Nat}
theorem b_open (hN : 2000 ≤ N) (hB : ∀ k, k < 940 → sT 0 k = sY 1 k &&& 255) (tY : Nat → Nat → Int64) (hL : L ≤ 940) (hlim : lim ≤ 940) (h1 : iT 1 = nI L) (h3 : iY 3 = nI L) (h4 : iY 4 = 0) (h5 : iY 5 = nI lim) :
    ∃ iT' jT' iY' jY' st, f_X8_open N sT iT jT (nI lim) = some (iT', jT') ∧ f_X11_next N iY sY tY jY = some (iY', jY') ∧ TR L lim st iT' jT' iY' jY' ∧ iT' 11 = 0 ∧ SF iY iY' := by
  unfold f_X8_open
  have e2 : (if nI lim < iT 1 then nI lim else iT 1) = nI (min L lim) := by
    rw [h1, i_lt (by omega) (by omega)]
    split
    · exact congrArg nI (by omega)
    · exact congrArg nI (by omega)
  have e3 : ∀ K : Int32 → Option ((Nat → Int32) × (Nat → Int64)), (if iT 1 ≤ nI lim then K 0 else K 1) = K (bI (decide (lim < L))) := by
    intro K
    rw [h1, i_le (by omega) (by omega)]
    by_cases c : L ≤ lim
    · rw [if_pos c, decide_eq_false (by omega)]; rfl
    · rw [if_neg c, decide_eq_true (by omega)]; rfl
  rw [q_nv, e2, q_jn]
  have hz := e3 (fun y_5 => zb y_5 (bd (f_X8_next N sT (va_up (va_up (va_up (va_up (va_up iT 2 (nI (min L lim))) 3 y_5) 4 0) 11 0) 12 0) jT) (fun (z : (Nat → Int32) × (Nat → Int64)) => match z with | (iT_7, jT_8) => some (iT_7, jT_8))))
  obtain ⟨iT', jT', iY', jY', st, a1, a2, a3, a4, a5, a6⟩ := b_next N hN (sT := sT) (iT := va_up (va_up (va_up (va_up (va_up iT 2 (nI (min L lim))) 3 (bI (decide (lim < L)))) 4 0) 11 0) 12 0) (jT := jT) (iY := iY) (sY := sY) tY (jY := jY) (a := 0) (b := 0) hB ⟨hL, hlim, h1, rfl, rfl, h3, h5⟩ ⟨rfl, h4, Nat.zero_le _, Nat.zero_le _, Or.inl rfl⟩
  refine ⟨iT', jT', iY', jY', st, hz.trans ?_, a2, a3, a5 11 (by omega) (by omega) (by omega) (by omega) (by omega) (by omega), fun k k1 k2 k3 k4 k5 _ => a6 k k1 k2 k3 k4 k5⟩
  dsimp only
  rw [q_zb, a1, q_bd]
theorem t_next (hN : 2000 ≤ N) (hB : ∀ k, k < 940 → sT 0 k = sY 1 k &&& 255) (tY : Nat → Nat → Int64) (h : TR L lim st iT jT iY jY) :
    ∃ iT' jT' iY' jY' st', f_X8_next N sT iT jT = some (iT', jT') ∧ f_X11_next N iY sY tY jY = some (iY', jY') ∧ TR L lim st' iT' jT' iY' jY' ∧ st ≤ st' ∧ (st < min L lim → st < st') ∧ iT' 11 = iT 11 ∧ SF iY iY' ∧ iY' 18 = iY 18 := by
  obtain ⟨hTB, h6, h12, a, b, hPR, hc⟩ := h
  obtain ⟨iT', jT', iY', jY', st', a1, a2, a3, a4, a5, a6⟩ := b_next N hN (sT := sT) (jT := jT) (sY := sY) tY (jY := jY) hB hTB hPR
  refine ⟨iT', jT', iY', jY', st', a1, a2, a3, ?_, ?_, a5 11 (by omega) (by omega) (by omega) (by omega) (by omega) (by omega), fun k k1 k2 k3 k4 k5 _ => a6 k k1 k2 k3 k4 k5, a6 18 (by omega) (by omega) (by omega) (by omega) (by omega)⟩
  · rcases hc with ⟨e1, e2, _⟩ | ⟨e1, e2, _⟩ <;> omega
  · intro hs
    rcases hc with ⟨e1, e2, _⟩ | ⟨e1, e2, _⟩ <;> omega
theorem t_got (h : TR L lim st iT jT iY jY) (v : Int32) : TR L lim st iT jT (va_up iY 18 v) jY := h
theorem y_refuse (h : TR L lim st iT jT iY jY) (k : Int32) : f_X8_refuse N sT iT jT k = some (0, va_up (va_up iT 11 k) 12 (nI st)) ∧ f_X11_bad N iY sY tY jY k = some (0, va_up (va_up iY 15 k) 16 (nI st)) ∧ FT (va_up (va_up iT 11 k) 12 (nI st)) (va_up (va_up iY 15 k) 16 (nI st)) ∧ GF iY (va_up (va_up iY 15 k) 16 (nI st)) := by
  unfold f_X8_refuse f_X11_bad
  rw [h.2.1, h.2.2.1]
  exact ⟨rfl, rfl, ⟨rfl, rfl⟩, ((GF.rf iY).up rfl _).up rfl _⟩
theorem t_word (h : TR L lim st iT jT iY jY) {k : Nat} (hk : k < 24) : f_X11_isWord N iY sY tY jY (lN (e256 (wds k))) = some (bI (decide (iT 7 = nI k))) := by
  unfold f_X11_isWord
  have no : iT 7 = -1 → ¬ iY 11 = 1 → (if (iY 11) = 1 then (if (lg_cmp (jY 17) (lN (e256 (wds k)))) = 0 then some (1 : Int32) else some 0) else some 0) = some (bI (decide (iT 7 = nI k))) := by
    intro h7 h11
    rw [if_neg h11, decide_eq_false (fun e => nI_m1 (b := k) (by omega) (by rw [← e, h7]))]; rfl
  obtain ⟨-, -, -, a, b, -, hc⟩ := h
  rcases hc with ⟨-, -, -, -, h7, -, h11⟩ | ⟨-, -, hc⟩
  · refine no h7 ?_
    rw [h11]; split <;> decide
  · rcases hc with ⟨-, h11, -, hw, hp⟩ | ⟨-, h11, h7, -⟩ | ⟨-, h11, h7, -⟩ | ⟨-, h11, h7, -⟩
    · rw [if_pos h11]
      have e := WR_eq hw (WR_w hk)
      by_cases c : jT 10 = lN (e32 (wds k))
      · rw [if_pos ((lg_cmp_eq _ _).mpr (e.mp c))]
        rcases hp with ⟨j, hj, h7, hl⟩ | ⟨h7, hl⟩
        · obtain ⟨o1, o2, o3⟩ := wds_ok k hk
          obtain ⟨o4, o5, o6⟩ := wds_ok j hj
          have b1 := e32_b (wok_d o1) o3
          have b2 := e32_b (wok_d o4) o6
          have e2 := (pk_lEQ (by omega) (by omega)).mp (c.symm.trans hl)
          have e3 := wds_inj k hk j hj (e32_inj _ _ (wok_d o1) (wok_d o4) e2)
          rw [h7, e3, decide_eq_true rfl]; rfl
        · exact absurd c (hl k hk)
      · rw [if_neg (fun h => c (e.mpr ((lg_cmp_eq _ _).mp h)))]
        rcases hp with ⟨j, hj, h7, hl⟩ | ⟨h7, hl⟩
        · have hne : ¬ iT 7 = nI k := fun e2 => by
            rw [h7] at e2
            have := (nI_eq (by omega) (by omega)).mp e2
            subst this
            exact c hl
          rw [decide_eq_false hne]; rfl
        · rw [decide_eq_false (fun e => nI_m1 (b := k) (by omega) (by rw [← e, h7]))]; rfl
    · exact no h7 (by rw [h11]; decide)
    · exact no h7 (by rw [h11]; decide)
    · exact no h7 (by rw [h11]; decide)
def nmB (iT : Nat → Int32) : Bool := decide (iT 5 = 1 ∧ iT 7 = -1)
theorem x_isName : f_X8_isName N sT iT jT = some (bI (nmB iT)) := by
  unfold f_X8_isName nmB
  by_cases h5 : iT 5 = 1
  · rw [if_pos h5]
    by_cases h7 : iT 7 = -1
    · rw [if_pos h7, decide_eq_true ⟨h5, h7⟩]; rfl
    · rw [if_neg h7, decide_eq_false (fun h => h7 h.2)]; rfl
  · rw [if_neg h5, decide_eq_false (fun h => h5 h.1)]; rfl
theorem nm_WR (h : TR L lim st iT jT iY jY) (hn : nmB iT = true) : WR (jT 10) (jY 17) ∧ st < min L lim := by
  have hn := of_decide_eq_true hn
  obtain ⟨-, -, -, a, b, -, hc⟩ := h
  rcases hc with ⟨-, -, -, h5, -⟩ | ⟨hs, -, hc⟩
  · rw [h5] at hn; exact absurd hn.1 (by decide)
  · rcases hc with ⟨-, -, -, hw, -⟩ | ⟨h5, -⟩ | ⟨h5, -⟩ | ⟨h5, -⟩
    · exact ⟨hw, hs⟩
    · rw [h5] at hn; exact absurd hn.1 (by decide)
    · rw [h5] at hn; exact absurd hn.1 (by decide)
    · rw [h5] at hn; exact absurd hn.1 (by decide)
theorem y_isName (hN : 2000 ≤ N) (hR : ∀ k, k < 24 → tY 10 k = lN (e256 (wds k))) (h : TR L lim st iT jT iY jY) : f_X11_isName N iY sY tY jY = some (bI (nmB iT)) := by
  have key : ∀ t : Bool, f_X11_isName_16 N iY sY tY jY N (bI t) 0 = some (bI (t && allF (fun k => !decide (jY 17 = lN (e256 (wds k)))) 0 24)) := by
    intro t
    have := q_loopG (fun k i => f_X11_isName_16 N iY sY tY jY k (bI (t && allF (fun k => !decide (jY 17 = lN (e256 (wds k)))) 0 i)) (nI i)) (some (bI (t && allF (fun k => !decide (jY 17 = lN (e256 (wds k)))) 0 24))) 24 N (by omega) (fun k => by
      show f_X11_isName_16 N iY sY tY jY (k + 1) _ _ = _
      rw [f_X11_isName_16, L24, if_pos (nI_le (Nat.le_refl _) (by omega)), q_zb]) (fun k i hi => by
      show f_X11_isName_16 N iY sY tY jY (k + 1) _ _ = f_X11_isName_16 N iY sY tY jY k _ _
      rw [f_X11_isName_16, L24, if_neg (nI_ge hi (by omega)), q_jn, q_jn, q_b0, q_ck hi (by omega), show ix (nI i) = i from q_ix (by omega), hR i hi, nI_1, allF_0, ← Bool.and_assoc]
      cases (t && allF (fun k => !decide (jY 17 = lN (e256 (wds k)))) 0 i) with
      | false => rfl
      | true =>
        rw [if_pos rfl]
        by_cases c : jY 17 = lN (e256 (wds i))
        · rw [if_pos ((lg_cmp_eq _ _).mpr c), decide_eq_true c]; rfl
        · rw [if_neg (fun h => c ((lg_cmp_eq _ _).mp h)), decide_eq_false c]; rfl)
    have e0 : bI (t && allF (fun k => !decide (jY 17 = lN (e256 (wds k)))) 0 0) = bI t := by rw [allF, Bool.and_true]
    rw [e0] at this
    exact this
  unfold f_X11_isName
  rw [q_jn]
  by_cases h11 : iY 11 = 1
  · rw [if_pos h11]
    refine (key true).trans ?_
    obtain ⟨-, -, -, a, b, -, hc⟩ := h
    rcases hc with ⟨-, -, -, -, -, -, h1⟩ | ⟨-, -, hc⟩
    · rw [h11] at h1
      split at h1 <;> exact absurd h1 (by decide)
    · rcases hc with ⟨h5, -, -, hw, hp⟩ | ⟨-, h1, -⟩ | ⟨-, h1, -⟩ | ⟨-, h1, -⟩
      · unfold nmB
        rw [Bool.true_and]
        rcases hp with ⟨j, hj, h7, hl⟩ | ⟨h7, hl⟩
        · have e1 : decide (iT 5 = 1 ∧ iT 7 = -1) = false := decide_eq_false (fun e => nI_m1 (b := j) (by omega) (by rw [← e.2, h7]))
          rw [e1]
          cases ha : allF (fun k => !decide (jY 17 = lN (e256 (wds k)))) 0 24 with
          | false => rfl
          | true =>
            have h2 := allF_t ha j hj
            rw [Nat.zero_add, (WR_eq hw (WR_w hj)).mp hl, decide_eq_true rfl] at h2
            cases h2
        · rw [decide_eq_true ⟨h5, h7⟩]
          have : allF (fun k => !decide (jY 17 = lN (e256 (wds k)))) 0 24 = true := by
            have st : ∀ j, j ≤ 24 → allF (fun k => !decide (jY 17 = lN (e256 (wds k)))) 0 j = true := by
              intro j
              induction j with
              | zero => intro _; rfl
              | succ j ih =>
                intro hj
                rw [allF_0, ih (by omega), decide_eq_false (fun e => hl j (by omega) ((WR_eq hw (WR_w (by omega))).mpr e))]; rfl
            exact st 24 (Nat.le_refl _)
          rw [this]
      · rw [h11] at h1; exact absurd h1 (by decide)
      · rw [h11] at h1; exact absurd h1 (by decide)
      · rw [h11] at h1; exact absurd h1 (by decide)
  · rw [if_neg h11]
    refine (key false).trans ?_
    have h5 : ¬ iT 5 = 1 := by
      obtain ⟨-, -, -, a, b, -, hc⟩ := h
      rcases hc with ⟨-, -, -, h5, -⟩ | ⟨-, -, hc⟩
      · rw [h5]; decide
      · rcases hc with ⟨_, h1, -⟩ | ⟨h5, -⟩ | ⟨h5, -⟩ | ⟨h5, -⟩
        · exact absurd h1 h11
        · rw [h5]; decide
        · rw [h5]; decide
        · rw [h5]; decide
    unfold nmB
    rw [decide_eq_false (fun e => h5 e.1)]; rfl
theorem t_sign (h : TR L lim st iT jT iY jY) {c : Nat} (hc : c < 1000) : f_X11_isSign N iY sY tY jY (nI c) = some (bI (decide (iT 8 = nI c))) := by
  unfold f_X11_isSign
  have no : iT 8 = -1 → ¬ iY 11 = 3 → (if (iY 11) = 3 then (if (iY 14) = nI c then some (1 : Int32) else some 0) else some 0) = some (bI (decide (iT 8 = nI c))) := by
    intro h7 h11
    rw [if_neg h11, decide_eq_false (fun e => nI_m1 (b := c) hc (by rw [← e, h7]))]; rfl
  obtain ⟨-, -, -, a, b, -, hc⟩ := h
  rcases hc with ⟨-, -, -, -, -, h8, h11⟩ | ⟨-, -, hc⟩
  · refine no h8 ?_
    rw [h11]; split <;> decide
  · rcases hc with ⟨-, h11, h8, -⟩ | ⟨-, h11, -, h8, -⟩ | ⟨-, h11, -, d, hd, h8, h14⟩ | ⟨-, h11, -, h8⟩
    · exact no h8 (by rw [h11]; decide)
    · exact no h8 (by rw [h11]; decide)
    · rw [if_pos h11, h14, h8]
      by_cases e : nI d = nI c
      · rw [if_pos e, decide_eq_true e]; rfl
      · rw [if_neg e, decide_eq_false e]; rfl
    · exact no h8 (by rw [h11]; decide)
theorem t_sg8 (h : TR L lim st iT jT iY jY) {c : Nat} (hc : c < 1000) (h8 : iT 8 = nI c) : st < min L lim := by
  obtain ⟨-, -, -, a, b, -, hx⟩ := h
  rcases hx with ⟨-, -, -, -, -, h, -⟩ | ⟨hs, -⟩
  · rw [h8] at h; exact absurd h (nI_m1 hc)
  · exact hs
theorem t_w7 (h : TR L lim st iT jT iY jY) {c : Nat} (hc : c < 1000) (h7 : iT 7 = nI c) : st < min L lim := by
  obtain ⟨-, -, -, a, b, -, hx⟩ := h
  rcases hx with ⟨-, -, -, -, h, -⟩ | ⟨hs, -⟩
  · rw [h7] at h; exact absurd h (nI_m1 hc)
  · exact hs
theorem b_sign (hN : 2000 ≤ N) (hB : ∀ k, k < 940 → sT 0 k = sY 1 k &&& 255) (h : TR L lim st iT jT iY jY) {c : Nat} (hc : c < 1000) :
    (∃ iT' iY', f_X8_passSign N sT iT jT (nI c) = some (0, iT', jT) ∧ f_X11_sign N iY sY tY jY (nI c) = some (0, iY', jY) ∧ FT iT' iY' ∧ GF iY iY') ∨
    (∃ iT' jT' iY' jY' st', f_X8_passSign N sT iT jT (nI c) = some (1, iT', jT') ∧ f_X11_sign N iY sY tY jY (nI c) = some (1, iY', jY') ∧ TR L lim st' iT' jT' iY' jY' ∧ st < st' ∧ iT' 11 = iT 11 ∧ SF iY iY') := by
  unfold f_X8_passSign f_X11_sign
  rw [t_sign N h hc, q_bd]
  by_cases e : iT 8 = nI c
  · obtain ⟨iT', jT', iY', jY', st', a1, a2, a3, a4, a5, a6, a7, a8⟩ := t_next N hN hB tY h
    rw [if_pos e, a1, q_bd, q_dt e, a2, q_bd]
    exact Or.inr ⟨iT', jT', iY', jY', st', rfl, rfl, a3, a5 (t_sg8 h hc e), a6, a7⟩
  · obtain ⟨r1, r2, r3, r4⟩ := y_refuse N (sT := sT) (sY := sY) (tY := tY) h 1
    rw [if_neg e, r1, q_bd, q_df e, r2, q_bd]
    exact Or.inl ⟨_, _, rfl, rfl, r3, r4⟩
theorem t_num (h : TR L lim st iT jT iY jY) : (iT 5 = 2 ∧ iY 11 = 2 ∧ st < min L lim ∧ ∃ v, v ≤ 999 ∧ iT 9 = nI v ∧ iY 14 = nI v) ∨ (¬ iT 5 = 2 ∧ ¬ iY 11 = 2) := by
  obtain ⟨-, -, -, a, b, -, hc⟩ := h
  rcases hc with ⟨-, -, -, h5, -, -, h11⟩ | ⟨hs, -, hc⟩
  · refine Or.inr ⟨by rw [h5]; decide, ?_⟩
    rw [h11]; split <;> decide
  · rcases hc with ⟨h5, h11, -⟩ | ⟨h5, h11, -, -, hv⟩ | ⟨h5, h11, -⟩ | ⟨h5, h11, -⟩
    · exact Or.inr ⟨by rw [h5]; decide, by rw [h11]; decide⟩
    · exact Or.inl ⟨h5, h11, hs, hv⟩
    · exact Or.inr ⟨by rw [h5]; decide, by rw [h11]; decide⟩
    · exact Or.inr ⟨by rw [h5]; decide, by rw [h11]; decide⟩
theorem b_num (hN : 2000 ≤ N) (hB : ∀ k, k < 940 → sT 0 k = sY 1 k &&& 255) (h : TR L lim st iT jT iY jY) {lo hi : Nat} (hlo : lo < 1000) (hhi : hi < 1000) :
    (∃ iT' iY', f_X8_passNumber N sT iT jT (nI lo) (nI hi) = some (-1, iT', jT) ∧ f_X11_takes N iY sY tY jY (nI lo) (nI hi) = some (0, iY', jY) ∧ FT iT' iY' ∧ GF iY iY') ∨
    (∃ v iT' jT' iY' jY' st', lo ≤ v ∧ v ≤ hi ∧ f_X8_passNumber N sT iT jT (nI lo) (nI hi) = some (nI v, iT', jT') ∧ f_X11_takes N iY sY tY jY (nI lo) (nI hi) = some (1, iY', jY') ∧ iY' 18 = nI v ∧ TR L lim st' iT' jT' iY' jY' ∧ st < st' ∧ iT' 11 = iT 11 ∧ SF iY iY') := by
  unfold f_X8_passNumber f_X11_takes
  rcases t_num h with ⟨h5, h11, hs, v, hv, h9, h14⟩ | ⟨h5, h11⟩
  · rw [if_pos h5, if_pos h11, y_isIn, q_bd, q_jn, h9, h14]
    by_cases c : lo ≤ v ∧ v ≤ hi
    · obtain ⟨iT', jT', iY', jY', st', a1, a2, a3, a4, a5, a6, a7, a8⟩ := t_next N hN hB tY (t_got h (nI v))
      have c1 : ¬ nI v < nI lo := fun hc => by have := (nI_ltI (by omega) (by omega)).mp hc; omega
      have c2 : nI v ≤ nI hi := nI_le c.2 (by omega)
      refine Or.inr ⟨v, iT', jT', iY', jY', st', c.1, c.2, ?_, ?_, ?_, a3, a5 hs, a6, fun k k1 k2 k3 k4 k5 k6 => ?_⟩
      · rw [if_neg c1, if_pos c2, a1, q_bd]
      · rw [q_dt ⟨c1, c2⟩, a2, q_bd]
      · exact a8
      · rw [a7 k k1 k2 k3 k4 k5 k6, q_vn _ _ k6]
    · obtain ⟨r1, r2, r3, r4⟩ := y_refuse N (sT := sT) (sY := sY) (tY := tY) h 2
      refine Or.inl ⟨_, _, ?_, ?_, r3, r4⟩
      · by_cases c1 : v < lo
        · rw [if_pos ((nI_ltI (by omega) (by omega)).mpr c1), r1, q_bd]
        · rw [if_neg (fun hc => c1 ((nI_ltI (by omega) (by omega)).mp hc)), if_neg (fun hc => c ⟨by omega, (nI_leI (by omega) (by omega)).mp hc⟩), r1, q_bd]
      · rw [q_df (fun hc => c ⟨Nat.le_of_not_lt (fun hx => hc.1 ((nI_ltI (by omega) (by omega)).mpr hx)), (nI_leI (by omega) (by omega)).mp hc.2⟩), r2, q_bd]; rfl
  · obtain ⟨r1, r2, r3, r4⟩ := y_refuse N (sT := sT) (sY := sY) (tY := tY) h 1
    rw [if_neg h5, if_neg h11, r1, r2, q_bd, q_bd]
    exact Or.inl ⟨_, _, rfl, rfl, r3, r4⟩
end
