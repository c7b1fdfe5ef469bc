/-! PURE: names looked up on both sides -/
section
variable (N : Nat) {sT : Nat → Nat → Int32} {iT : Nat → Int32} {jT : Nat → Int64} {iY : Nat → Int32} {sY : Nat → Nat → Int32} {tY : Nat → Nat → Int64} {jY : Nat → Int64} {iC : Nat → Int32} {tC : Nat → Nat → Int64} {sC : Nat → Nat → Int32} {L lim st : Nat}
theorem y_seekI (hN : 2000 ≤ N) {base n k : Nat} (hb : base + n ≤ 24) (hk : k < n) (h : tY 9 (base + k) = jY 17) (hl : ∀ i, i < k → ¬ tY 9 (base + i) = jY 17) : f_X11_seek N iY sY tY jY (nI base) (nI n) = some (nI k) := by
  unfold f_X11_seek
  obtain ⟨f, e⟩ := q_run (fun f i => f_X11_seek_2 N iY sY tY jY (nI base) (nI n) f (nI i)) k (fun f i hi => by
    show f_X11_seek_2 N iY sY tY jY (nI base) (nI n) (f + 1) _ = f_X11_seek_2 N iY sY tY jY (nI base) (nI n) f _
    rw [f_X11_seek_2, if_neg (nI_ge (show i < n by omega) (by omega)), nI_add, q_ck (show base + i < 24 by omega) (by omega), show ix (nI (base + i)) = base + i from q_ix (by omega), if_neg (fun e => hl i hi ((lg_cmp_eq _ _).mp e)), nI_1]) N (by omega)
  refine Eq.trans e ?_
  show f_X11_seek_2 N iY sY tY jY (nI base) (nI n) (f + 1) _ = _
  rw [f_X11_seek_2, if_neg (nI_ge hk (by omega)), nI_add, q_ck (show base + k < 24 by omega) (by omega), show ix (nI (base + k)) = base + k from q_ix (by omega), if_pos ((lg_cmp_eq _ _).mpr h)]
theorem y_seekN (hN : 2000 ≤ N) {base n : Nat} (hb : base + n ≤ 24) (hl : ∀ i, i < n → ¬ tY 9 (base + i) = jY 17) : f_X11_seek N iY sY tY jY (nI base) (nI n) = some (-1) := by
  unfold f_X11_seek
  refine q_loopG (fun f i => f_X11_seek_2 N iY sY tY jY (nI base) (nI n) f (nI i)) _ n N (by omega) (fun f => ?_) (fun f i hi => ?_)
  · show f_X11_seek_2 N iY sY tY jY (nI base) (nI n) (f + 1) _ = _
    rw [f_X11_seek_2, if_pos (nI_le (Nat.le_refl _) (by omega))]
  · show f_X11_seek_2 N iY sY tY jY (nI base) (nI n) (f + 1) _ = f_X11_seek_2 N iY sY tY jY (nI base) (nI n) f _
    rw [f_X11_seek_2, if_neg (nI_ge hi (by omega)), nI_add, q_ck (show base + i < 24 by omega) (by omega), show ix (nI (base + i)) = base + i from q_ix (by omega), if_neg (fun e => hl i hi ((lg_cmp_eq _ _).mp e)), nI_1]
theorem x_slotI (hN : 2000 ≤ N) {x : Int64} {k : Nat} (hk : k < 12) (h : tC 2 k = x) (hl : ∀ i, i < k → ¬ tC 2 i = x) : f_X1_slotOf N iC tC sC x = some (nI k) := by
  unfold f_X1_slotOf
  obtain ⟨f, e⟩ := q_run (fun f i => f_X1_slotOf_2 N iC tC sC x f (nI i)) k (fun f i hi => by
    show f_X1_slotOf_2 N iC tC sC x (f + 1) _ = f_X1_slotOf_2 N iC tC sC x f _
    rw [f_X1_slotOf_2, L12, if_neg (nI_ge (show i < 12 by omega) (by omega)), q_ck (show i < 12 by omega) (by omega), show ix (nI i) = i from q_ix (by omega), if_neg (fun e => hl i hi ((lg_cmp_eq _ _).mp e)), nI_1]) N (by omega)
  refine Eq.trans e ?_
  show f_X1_slotOf_2 N iC tC sC x (f + 1) _ = _
  rw [f_X1_slotOf_2, L12, if_neg (nI_ge hk (by omega)), q_ck hk (by omega), show ix (nI k) = k from q_ix (by omega), if_pos ((lg_cmp_eq _ _).mpr h)]
theorem x_slotN (hN : 2000 ≤ N) {x : Int64} (hl : ∀ i, i < 12 → ¬ tC 2 i = x) : f_X1_slotOf N iC tC sC x = some (-1) := by
  unfold f_X1_slotOf
  refine q_loopG (fun f i => f_X1_slotOf_2 N iC tC sC x f (nI i)) _ 12 N (by omega) (fun f => ?_) (fun f i hi => ?_)
  · show f_X1_slotOf_2 N iC tC sC x (f + 1) _ = _
    rw [f_X1_slotOf_2, L12, if_pos (nI_le (Nat.le_refl _) (by omega))]
  · show f_X1_slotOf_2 N iC tC sC x (f + 1) _ = f_X1_slotOf_2 N iC tC sC x f _
    rw [f_X1_slotOf_2, L12, if_neg (nI_ge hi (by omega)), q_ck hi (by omega), show ix (nI i) = i from q_ix (by omega), if_neg (fun e => hl i hi ((lg_cmp_eq _ _).mp e)), nI_1]
/-- where a word stands among the names: with the class; a person, a good, or nowhere -/
theorem slot_c (hN : 2000 ≤ N) {base P Q : Nat} (hP : P ≤ 7) (hQ : Q ≤ 5) (hb : base + 12 ≤ 24) (hn : NM (tC 2) (tY 9) base P Q) (hw : WR (jT 10) (jY 17)) :
    (∃ k, k < P ∧ f_X1_slotOf N iC tC sC (jT 10) = some (nI k) ∧ f_X11_seek N iY sY tY jY (nI base) (nI P) = some (nI k) ∧ f_X11_seek N iY sY tY jY (nI (base + 7)) (nI Q) = some (-1)) ∨
    (∃ k, k < Q ∧ f_X1_slotOf N iC tC sC (jT 10) = some (nI (7 + k)) ∧ f_X11_seek N iY sY tY jY (nI base) (nI P) = some (-1) ∧ f_X11_seek N iY sY tY jY (nI (base + 7)) (nI Q) = some (nI k)) ∨
    (f_X1_slotOf N iC tC sC (jT 10) = some (-1) ∧ f_X11_seek N iY sY tY jY (nI base) (nI P) = some (-1) ∧ f_X11_seek N iY sY tY jY (nI (base + 7)) (nI Q) = some (-1) ∧ ∀ i, i < 12 → ¬ tC 2 i = jT 10) := by
  obtain ⟨n1, n2, n3, n4, n5⟩ := hn
  have h0 := WR_0 hw
  have ep : ∀ k, k < P → (tC 2 k = jT 10 ↔ tY 9 (base + k) = jY 17) := fun k hk => WR_eq (n1 k hk) hw
  have eg : ∀ k, k < Q → (tC 2 (7 + k) = jT 10 ↔ tY 9 (base + 7 + k) = jY 17) := fun k hk => WR_eq (n3 k hk) hw
  have uq : ∀ i j, i < 12 → j < 12 → tC 2 i = jT 10 → tC 2 j = jT 10 → i = j := fun i j hi hj h1 h2 => n5 i j hi hj (h1.trans h2.symm) (fun e => h0 (h1.symm.trans e))
  by_cases hp : ∃ k, k < P ∧ tC 2 k = jT 10
  · obtain ⟨k, hk, e⟩ := hp
    refine Or.inl ⟨k, hk, x_slotI N hN (by omega) e (fun i hi h => ?_), y_seekI N hN (by omega) hk ((ep k hk).mp e) (fun i hi h => ?_), y_seekN N hN (by omega) (fun i hi h => ?_)⟩
    · have := uq i k (by omega) (by omega) h e; omega
    · have := uq i k (by omega) (by omega) ((ep i (by omega)).mpr h) e; omega
    · have := uq (7 + i) k (by omega) (by omega) ((eg i hi).mpr h) e; omega
  · have hp' : ∀ k, k < P → ¬ tC 2 k = jT 10 := fun k hk h => hp ⟨k, hk, h⟩
    have hp7 : ∀ k, k < 7 → ¬ tC 2 k = jT 10 := fun k hk h => by
      rcases Nat.lt_or_ge k P with h1 | h1
      · exact hp' k h1 h
      · rw [n2 k h1 hk] at h; exact h0 h.symm
    have sp : f_X11_seek N iY sY tY jY (nI base) (nI P) = some (-1) := y_seekN N hN (by omega) (fun i hi h => hp' i hi ((ep i hi).mpr h))
    by_cases hg : ∃ k, k < Q ∧ tC 2 (7 + k) = jT 10
    · obtain ⟨k, hk, e⟩ := hg
      refine Or.inr (Or.inl ⟨k, hk, x_slotI N hN (by omega) e (fun i hi h => ?_), sp, y_seekI N hN (by omega) hk ((eg k hk).mp e) (fun i hi h => ?_)⟩)
      · have := uq i (7 + k) (by omega) (by omega) h e; omega
      · have := uq (7 + i) (7 + k) (by omega) (by omega) ((eg i (by omega)).mpr h) e; omega
    · have hg' : ∀ k, k < Q → ¬ tC 2 (7 + k) = jT 10 := fun k hk h => hg ⟨k, hk, h⟩
      have all : ∀ i, i < 12 → ¬ tC 2 i = jT 10 := by
        intro i hi h
        rcases Nat.lt_or_ge i 7 with h1 | h1
        · exact hp7 i h1 h
        · obtain ⟨k, rfl⟩ : ∃ k, i = 7 + k := ⟨i - 7, by omega⟩
          rcases Nat.lt_or_ge k Q with h2 | h2
          · exact hg' k h2 h
          · rw [n4 k h2 (by omega)] at h; exact h0 h.symm
      exact Or.inr (Or.inr ⟨x_slotN N hN all, sp, y_seekN N hN (by omega) (fun i hi h => hg' i hi ((eg i hi).mpr h)), all⟩)
/-- a person's name, not passed -/
theorem b_perH (hN : 2000 ≤ N) (hR : ∀ k, k < 24 → tY 10 k = lN (e256 (wds k))) {base P Q : Nat} (hP : P ≤ 7) (hQ : Q ≤ 5) (hb : base + 12 ≤ 24) (hn : NM (tC 2) (tY 9) base P Q) (h : TR L lim st iT jT iY jY) :
    (∃ iT' iY', f_X8_personHere N sT iT jT iC tC sC = some (-1, iT') ∧ f_X11_looksAt N iY sY tY jY (nI base) (nI P) = some (0, iY') ∧ FT iT' iY' ∧ GF iY iY') ∨
    (∃ p, p < P ∧ f_X8_personHere N sT iT jT iC tC sC = some (nI p, iT) ∧ f_X11_looksAt N iY sY tY jY (nI base) (nI P) = some (1, va_up iY 18 (nI p)) ∧ st < min L lim) := by
  unfold f_X8_personHere f_X11_looksAt
  rw [x_isName, y_isName N hN hR h]
  simp only [q_bd]
  cases hnm : nmB iT with
  | false =>
    obtain ⟨r1, r2, r3, r4⟩ := y_refuse N (sT := sT) (sY := sY) (tY := tY) h 1
    refine Or.inl ⟨_, _, ?_, ?_, r3, r4⟩
    · rw [q_jn, bI_ff]
      dsimp only
      rw [q_jn, if_pos (show (-1 : Int32) < 0 by decide)]
      dsimp only
      rw [q_jn, bI_ff]
      dsimp only
      rw [r1, q_bd]
    · rw [bI_ff, r2, q_bd]; rfl
  | true =>
    obtain ⟨hw, hs⟩ := nm_WR h hnm
    obtain ⟨r1, r2, r3, r4⟩ := y_refuse N (sT := sT) (sY := sY) (tY := tY) h 3
    rcases slot_c N (iC := iC) (sC := sC) (iY := iY) (sY := sY) hN hP hQ hb hn hw with ⟨k, hk, s1, s2, -⟩ | ⟨k, hk, s1, s2, -⟩ | ⟨s1, s2, -⟩
    · refine Or.inr ⟨k, hk, ?_, ?_, hs⟩
      · rw [q_jn, bI_tt, s1, q_bd]
        dsimp only
        rw [q_jn, if_neg (nI_n0 (by omega)), if_pos (show nI k < 7 from (nI_ltI (b := 7) (by omega) (by omega)).mpr (by omega))]
      · rw [bI_tt, s2, q_bd, if_pos (show (0 : Int32) ≤ nI k from nI_le (a := 0) (by omega) (by omega))]
    · have r2' := (y_refuse N (sT := sT) (sY := sY) (tY := tY) (t_got h (-1)) 3)
      refine Or.inl ⟨_, _, ?_, ?_, r2'.2.2.1, GF.tr ((GF.rf iY).up rfl (-1)) r2'.2.2.2⟩
      · rw [q_jn, bI_tt, s1, q_bd]
        dsimp only
        rw [q_jn, if_neg (nI_n0 (by omega)), if_neg (show ¬ nI (7 + k) < 7 from fun e => by have := (nI_ltI (b := 7) (by omega) (by omega)).mp e; omega)]
        dsimp only
        rw [q_jn, bI_tt]
        dsimp only
        rw [r1, q_bd]
      · rw [bI_tt, s2, q_bd, if_neg (by decide), r2'.2.1, q_bd]; rfl
    · have r2' := (y_refuse N (sT := sT) (sY := sY) (tY := tY) (t_got h (-1)) 3)
      refine Or.inl ⟨_, _, ?_, ?_, r2'.2.2.1, GF.tr ((GF.rf iY).up rfl (-1)) r2'.2.2.2⟩
      · rw [q_jn, bI_tt, s1, q_bd]
        dsimp only
        rw [q_jn, if_pos (show (-1 : Int32) < 0 by decide)]
        dsimp only
        rw [q_jn, bI_tt]
        dsimp only
        rw [r1, q_bd]
      · rw [bI_tt, s2, q_bd, if_neg (by decide), r2'.2.1, q_bd]; rfl
/-- a good's name, not passed -/
theorem b_goodH (hN : 2000 ≤ N) (hR : ∀ k, k < 24 → tY 10 k = lN (e256 (wds k))) {base P Q : Nat} (hP : P ≤ 7) (hQ : Q ≤ 5) (hb : base + 12 ≤ 24) (hn : NM (tC 2) (tY 9) base P Q) (h : TR L lim st iT jT iY jY) :
    (∃ iT' iY', f_X8_goodHere N sT iT jT iC tC sC = some (-1, iT') ∧ f_X11_looksAt N iY sY tY jY (nI (base + 7)) (nI Q) = some (0, iY') ∧ FT iT' iY' ∧ GF iY iY') ∨
    (∃ g, g < Q ∧ f_X8_goodHere N sT iT jT iC tC sC = some (nI g, iT) ∧ f_X11_looksAt N iY sY tY jY (nI (base + 7)) (nI Q) = some (1, va_up iY 18 (nI g)) ∧ st < min L lim) := by
  unfold f_X8_goodHere f_X11_looksAt
  rw [x_isName, y_isName N hN hR h]
  simp only [q_bd]
  cases hnm : nmB iT with
  | false =>
    obtain ⟨r1, r2, r3, r4⟩ := y_refuse N (sT := sT) (sY := sY) (tY := tY) h 1
    refine Or.inl ⟨_, _, ?_, ?_, r3, r4⟩
    · rw [q_jn, bI_ff]
      dsimp only
      rw [if_neg (show ¬ (7 : Int32) ≤ -1 by decide), q_jn, bI_ff]
      dsimp only
      rw [r1, q_bd]
    · rw [bI_ff, r2, q_bd]; rfl
  | true =>
    obtain ⟨hw, hs⟩ := nm_WR h hnm
    obtain ⟨r1, r2, r3, r4⟩ := y_refuse N (sT := sT) (sY := sY) (tY := tY) h 3
    have r2' := (y_refuse N (sT := sT) (sY := sY) (tY := tY) (t_got h (-1)) 3)
    rcases slot_c N (iC := iC) (sC := sC) (iY := iY) (sY := sY) hN hP hQ hb hn hw with ⟨k, hk, s1, -, s2⟩ | ⟨k, hk, s1, -, s2⟩ | ⟨s1, -, s2, -⟩
    · refine Or.inl ⟨_, _, ?_, ?_, r2'.2.2.1, GF.tr ((GF.rf iY).up rfl (-1)) r2'.2.2.2⟩
      · rw [q_jn, bI_tt, s1, q_bd]
        dsimp only
        rw [L7, if_neg (nI_ge (show k < 7 by omega) (by omega)), q_jn, bI_tt]
        dsimp only
        rw [r1, q_bd]
      · rw [bI_tt, s2, q_bd, if_neg (by decide), r2'.2.1, q_bd]; rfl
    · refine Or.inr ⟨k, hk, ?_, ?_, hs⟩
      · rw [q_jn, bI_tt, s1, q_bd]
        dsimp only
        rw [L7, if_pos (nI_le (show 7 ≤ 7 + k by omega) (by omega)), pk_sub (by omega), show 7 + k - 7 = k by omega]
      · rw [bI_tt, s2, q_bd, if_pos (show (0 : Int32) ≤ nI k from nI_le (a := 0) (by omega) (by omega))]
    · refine Or.inl ⟨_, _, ?_, ?_, r2'.2.2.1, GF.tr ((GF.rf iY).up rfl (-1)) r2'.2.2.2⟩
      · rw [q_jn, bI_tt, s1, q_bd]
        dsimp only
        rw [if_neg (show ¬ (7 : Int32) ≤ -1 by decide), q_jn, bI_tt]
        dsimp only
        rw [r1, q_bd]
      · rw [bI_tt, s2, q_bd, if_neg (by decide), r2'.2.1, q_bd]; rfl
/-- a person's name, passed -/
theorem b_perP (hN : 2000 ≤ N) (hB : ∀ k, k < 940 → sT 0 k = sY 1 k &&& 255) (hR : ∀ k, k < 24 → tY 10 k = lN (e256 (wds k))) {base P Q : Nat} (hP : P ≤ 7) (hQ : Q ≤ 5) (hb : base + 12 ≤ 24) (hn : NM (tC 2) (tY 9) base P Q) (h : TR L lim st iT jT iY jY) :
    (∃ iT' iY', f_X8_passPerson N sT iT jT iC tC sC = some (-1, iT', jT) ∧ f_X11_takesName N iY sY tY jY (nI base) (nI P) = some (0, iY', jY) ∧ FT iT' iY' ∧ GF iY iY') ∨
    (∃ p iT' jT' iY' jY' st', p < P ∧ f_X8_passPerson N sT iT jT iC tC sC = some (nI p, iT', jT') ∧ f_X11_takesName N iY sY tY jY (nI base) (nI P) = some (1, iY', jY') ∧ iY' 18 = nI p ∧ TR L lim st' iT' jT' iY' jY' ∧ st < st' ∧ iT' 11 = iT 11 ∧ SF iY iY') := by
  unfold f_X8_passPerson f_X11_takesName
  rcases b_perH N (sT := sT) (iC := iC) (sC := sC) (sY := sY) hN hR hP hQ hb hn h with ⟨iT', iY', e1, e2, e3, e4⟩ | ⟨p, hp, e1, e2, hs⟩
  · rw [e1, e2, q_bd, q_bd]
    exact Or.inl ⟨iT', iY', rfl, rfl, e3, e4⟩
  · obtain ⟨iT', jT', iY', jY', st', a1, a2, a3, a4, a5, a6, a7, a8⟩ := t_next N hN hB tY (t_got h (nI p))
    rw [e1, e2, q_bd, q_bd]
    dsimp only
    rw [if_neg (nI_m1 (by omega)), a1, q_bd, if_neg (show ¬ (1 : Int32) = 0 by decide), a2, q_bd]
    exact Or.inr ⟨p, iT', jT', iY', jY', st', hp, rfl, rfl, a8, a3, a5 hs, a6, fun k k1 k2 k3 k4 k5 k6 => by rw [a7 k k1 k2 k3 k4 k5 k6, q_vn _ _ k6]⟩
theorem b_goodP (hN : 2000 ≤ N) (hB : ∀ k, k < 940 → sT 0 k = sY 1 k &&& 255) (hR : ∀ k, k < 24 → tY 10 k = lN (e256 (wds k))) {base P Q : Nat} (hP : P ≤ 7) (hQ : Q ≤ 5) (hb : base + 12 ≤ 24) (hn : NM (tC 2) (tY 9) base P Q) (h : TR L lim st iT jT iY jY) :
    (∃ iT' iY', f_X8_passGood N sT iT jT iC tC sC = some (-1, iT', jT) ∧ f_X11_takesName N iY sY tY jY (nI (base + 7)) (nI Q) = some (0, iY', jY) ∧ FT iT' iY' ∧ GF iY iY') ∨
    (∃ p iT' jT' iY' jY' st', p < Q ∧ f_X8_passGood N sT iT jT iC tC sC = some (nI p, iT', jT') ∧ f_X11_takesName N iY sY tY jY (nI (base + 7)) (nI Q) = some (1, iY', jY') ∧ iY' 18 = nI p ∧ TR L lim st' iT' jT' iY' jY' ∧ st < st' ∧ iT' 11 = iT 11 ∧ SF iY iY') := by
  unfold f_X8_passGood f_X11_takesName
  rcases b_goodH N (sT := sT) (iC := iC) (sC := sC) (sY := sY) hN hR hP hQ hb hn h with ⟨iT', iY', e1, e2, e3, e4⟩ | ⟨p, hp, e1, e2, hs⟩
  · rw [e1, e2, q_bd, q_bd]
    exact Or.inl ⟨iT', iY', rfl, rfl, e3, e4⟩
  · obtain ⟨iT', jT', iY', jY', st', a1, a2, a3, a4, a5, a6, a7, a8⟩ := t_next N hN hB tY (t_got h (nI p))
    rw [e1, e2, q_bd, q_bd]
    dsimp only
    rw [if_neg (nI_m1 (by omega)), a1, q_bd, if_neg (show ¬ (1 : Int32) = 0 by decide), a2, q_bd]
    exact Or.inr ⟨p, iT', jT', iY', jY', st', hp, rfl, rfl, a8, a3, a5 hs, a6, fun k k1 k2 k3 k4 k5 k6 => by rw [a7 k k1 k2 k3 k4 k5 k6, q_vn _ _ k6]⟩
end
