/-! PURE: calls that act -/
theorem pB_f {α : Type} {P : Nat} {p : Int32} (h : perB P p = false) {x y : α} : (if bI (perB P p) = 0 then x else y) = x := by rw [h]; rfl
theorem pB_t {α : Type} {P : Nat} {p : Int32} (h : perB P p = true) {x y : α} : (if bI (perB P p) = 0 then x else y) = y := by rw [h]; rfl
theorem nI_le0 {α : Type} {n : Nat} (hn : n < 100) {x y : α} : (if nI n ≤ 0 then x else y) = if n = 0 then x else y := by
  have : (nI n ≤ 0) ↔ n = 0 := by rw [show (0 : Int32) = nI 0 from rfl, nI_leI (by omega) (by omega)]; omega
  simp only [this]
theorem nI_eq0 {α : Type} {n : Nat} (hn : n < 100) {x y : α} : (if nI n = 0 then x else y) = if n = 0 then x else y := by
  have : (nI n = 0) ↔ n = 0 := by rw [show (0 : Int32) = nI 0 from rfl, nI_eq (by omega) (by omega)]
  simp only [this]
theorem up_id {iX : Nat → Int32} {k : Nat} {v : Int32} (h : iX k = v) : va_up iX k v = iX := by rw [← h, q_vid]
section
variable (N : Nat) {iX : Nat → Int32} {iC : Nat → Int32} {tC : Nat → Nat → Int64} {sC : Nat → Nat → Int32} {iM : Nat → Int32} {sM : Nat → Nat → Int32} {aU : Nat → Nat → Nat} {iU : Nat → Nat → Int32} {sU : Nat → Nat → Nat → Int32} {P Q n : Nat}
variable (iY : Nat → Int32) (sY : Nat → Nat → Int32) (tY : Nat → Nat → Int64) (jY : Nat → Int64)
theorem b_buy (hN : 2000 ≤ N) (hC : CP (sY 6) iC sC) (hM : MP (sY 6) iM sM) (hL : IL (sY 6) P Q) (hI : ID (sY 6) P Q) (hX : iX 6 = nI n) (hY : iY 23 = nI n) (hK : RK (sY 6) (sY 21) n iU sU P Q) (p1 p2 p3 : Int32) :
    ∃ r n' s' u' iM' sM' aU' iU' sU', f_X10_buy N iX iM sM aU iU sU iC tC sC p1 p2 p3 = some (r, va_up iX 6 (nI n'), iM', sM', aU', iU', sU') ∧ f_X11_buy N iY sY tY jY p1 p2 p3 = some (r, va_up (va_up iY 0 0) 23 (nI n'), va_up (va_up sY 21 u') 6 s') ∧ MP s' iM' sM' ∧ ID s' P Q ∧ (∀ k, k < 131 ∨ 276 ≤ k → s' k = sY 6 k) ∧ RK s' u' n' iU' sU' P Q := by
  have hP := hL.P7
  have hQ := hL.Q5
  have eX := up_id hX
  have eY : va_up (va_up iY 0 0) 23 (nI n) = va_up iY 0 0 := up_id (by rw [q_vn _ _ (by omega)]; exact hY)
  have eS : va_up (va_up sY 21 (sY 21)) 6 (sY 6) = sY := by rw [q_vid, q_vid]
  have stay : ∀ r : Int32, f_X10_buy N iX iM sM aU iU sU iC tC sC p1 p2 p3 = some (r, iX, iM, sM, aU, iU, sU) → f_X11_buy N iY sY tY jY p1 p2 p3 = some (r, va_up iY 0 0, sY) → ∃ r n' s' u' iM' sM' aU' iU' sU', f_X10_buy N iX iM sM aU iU sU iC tC sC p1 p2 p3 = some (r, va_up iX 6 (nI n'), iM', sM', aU', iU', sU') ∧ f_X11_buy N iY sY tY jY p1 p2 p3 = some (r, va_up (va_up iY 0 0) 23 (nI n'), va_up (va_up sY 21 u') 6 s') ∧ MP s' iM' sM' ∧ ID s' P Q ∧ (∀ k, k < 131 ∨ 276 ≤ k → s' k = sY 6 k) ∧ RK s' u' n' iU' sU' P Q := by
    intro r e1 e2
    exact ⟨r, n, sY 6, sY 21, iM, sM, aU, iU, sU, by rw [eX]; exact e1, by rw [eY, eS]; exact e2, hM, hI, fun _ _ => rfl, hK⟩
  cases h1 : perB P p1 with
  | false =>
    refine stay (-1) ?_ ?_
    · unfold f_X10_buy; rw [x_isPerson N hC hL.s0, q_bd, pB_f h1]
    · unfold f_X11_buy; rw [y_isPerson N _ sY tY jY hP hL.s0, q_bd, pB_f h1]
  | true =>
  cases h2 : perB Q p2 with
  | false =>
    refine stay (-1) ?_ ?_
    · unfold f_X10_buy; rw [x_isPerson N hC hL.s0, q_bd, pB_t h1, x_isGood N hC hL.s1, q_bd, pB_f h2]
    · unfold f_X11_buy; rw [y_isPerson N _ sY tY jY hP hL.s0, q_bd, pB_t h1, y_isGood N _ sY tY jY (by omega) hL.s1, q_bd, pB_f h2]
  | true =>
  cases h3 : perB P p3 with
  | false =>
    refine stay (-1) ?_ ?_
    · unfold f_X10_buy; rw [x_isPerson N hC hL.s0, q_bd, pB_t h1, x_isGood N hC hL.s1, q_bd, pB_t h2, x_isPerson N hC hL.s0, q_bd, pB_f h3]
    · unfold f_X11_buy; rw [y_isPerson N _ sY tY jY hP hL.s0, q_bd, pB_t h1, y_isGood N _ sY tY jY (by omega) hL.s1, q_bd, pB_t h2, y_isPerson N _ sY tY jY hP hL.s0, q_bd, pB_f h3]
  | true =>
  obtain ⟨a, ha, rfl⟩ := perB_t hP h1
  obtain ⟨g, hg, rfl⟩ := perB_t (by omega) h2
  obtain ⟨b, hb, rfl⟩ := perB_t hP h3
  have ex : f_X10_buy N iX iM sM aU iU sU iC tC sC (nI a) (nI g) (nI b) = if whyB (sY 6) P a g b = 0 then bd (f_X10_keepU N iX iM sM aU iU sU) (fun (iX_13, aU_14, iU_15, sU_16) => bd (f_X4_doBuy N iM sM iC tC sC (nI a) (nI g) (nI b)) (fun (iM_18, sM_19) => some (nI (whyB (sY 6) P a g b), iX_13, iM_18, sM_19, aU_14, iU_15, sU_16))) else some (nI (whyB (sY 6) P a g b), iX, iM, sM, aU, iU, sU) := by
    unfold f_X10_buy
    rw [x_isPerson N hC hL.s0, q_bd, pB_t h1, x_isGood N hC hL.s1, q_bd, pB_t h2, x_isPerson N hC hL.s0, q_bd, pB_t h3, x_whyNotBuy N hC hM hI hL.s0 (by omega) (by omega) (by omega), q_bd, nI_eq0 (whyB_lt _ _ _ _ _)]
  have ey : f_X11_buy N iY sY tY jY (nI a) (nI g) (nI b) = if whyB (sY 6) P a g b = 0 then bd (f_X11_keep N (va_up iY 0 0) sY tY jY) (fun (iY_13, sY_14) => bd (f_X11_buys N iY_13 sY_14 tY jY (nI a) (nI g) (nI b)) (fun sY_16 => some ((0 : Int32), iY_13, sY_16))) else some (nI (whyB (sY 6) P a g b), va_up iY 0 0, sY) := by
    unfold f_X11_buy
    rw [y_isPerson N _ sY tY jY hP hL.s0, q_bd, pB_t h1, y_isGood N _ sY tY jY (by omega) hL.s1, q_bd, pB_t h2, y_isPerson N _ sY tY jY hP hL.s0, q_bd, pB_t h3, y_whyBuy N _ sY tY jY (P := P) (by omega) (by omega) (by omega) hL.s0, q_bd, nI_le0 (whyB_lt _ _ _ _ _)]
  by_cases hw : whyB (sY 6) P a g b = 0
  · rw [if_pos hw] at ex ey
    obtain ⟨n', u', aU', iU', sU', e1, e2, hK'⟩ := b_keep N (iX := iX) (aU := aU) hN (va_up iY 0 0) sY tY jY hX (by rw [q_vn _ _ (by omega)]; exact hY) hM hI hK
    obtain ⟨iM', sM', e3, hM', -⟩ := x_doBuy N (tC := tC) hC hM (a := a) (g := g) (b := b) (by omega) (by omega) (by omega)
    have es : ∀ k, k < 131 ∨ 276 ≤ k → buyS (sY 6) a g b k = sY 6 k := fun k hk => buy_o (by omega) (by omega) (by omega) hk
    refine ⟨0, n', buyS (sY 6) a g b, u', iM', sM', aU', iU', sU', ?_, ?_, hM', ID_buy hL hI ha hb (by omega) hw, es, hK'.to hP (fun k hk => es k (Or.inl hk))⟩
    · rw [ex, e1, q_bd]; show bd _ _ = _; rw [e3, q_bd, hw]; rfl
    · rw [ey, e2, q_bd]; show bd (f_X11_buys N _ (va_up sY 21 u') tY jY _ _ _) _ = _; rw [y_buys N _ _ tY jY (by omega) (by omega) (by omega), q_bd, q_vn _ _ (show 6 ≠ 21 by omega)]
  · rw [if_neg hw] at ex ey
    exact stay _ ex ey
theorem b_nod (hN : 2000 ≤ N) (hC : CP (sY 6) iC sC) (hM : MP (sY 6) iM sM) (hL : IL (sY 6) P Q) (hI : ID (sY 6) P Q) (hX : iX 6 = nI n) (hY : iY 23 = nI n) (hK : RK (sY 6) (sY 21) n iU sU P Q) (p1 p2 : Int32) :
    ∃ r n' s' u' iM' sM' aU' iU' sU', f_X10_nod N iX iM sM aU iU sU iC tC sC p1 p2 = some (r, va_up iX 6 (nI n'), iM', sM', aU', iU', sU') ∧ f_X11_nod N iY sY tY jY p1 p2 = some (r, va_up (va_up iY 0 0) 23 (nI n'), va_up (va_up sY 21 u') 6 s') ∧ MP s' iM' sM' ∧ ID s' P Q ∧ (∀ k, k < 131 ∨ 276 ≤ k → s' k = sY 6 k) ∧ RK s' u' n' iU' sU' P Q := by
  have hP := hL.P7
  have eX := up_id hX
  have eY : va_up (va_up iY 0 0) 23 (nI n) = va_up iY 0 0 := up_id (by rw [q_vn _ _ (by omega)]; exact hY)
  have eS : va_up (va_up sY 21 (sY 21)) 6 (sY 6) = sY := by rw [q_vid, q_vid]
  have stay : ∀ r : Int32, f_X10_nod N iX iM sM aU iU sU iC tC sC p1 p2 = some (r, iX, iM, sM, aU, iU, sU) → f_X11_nod N iY sY tY jY p1 p2 = some (r, va_up iY 0 0, sY) → ∃ r n' s' u' iM' sM' aU' iU' sU', f_X10_nod N iX iM sM aU iU sU iC tC sC p1 p2 = some (r, va_up iX 6 (nI n'), iM', sM', aU', iU', sU') ∧ f_X11_nod N iY sY tY jY p1 p2 = some (r, va_up (va_up iY 0 0) 23 (nI n'), va_up (va_up sY 21 u') 6 s') ∧ MP s' iM' sM' ∧ ID s' P Q ∧ (∀ k, k < 131 ∨ 276 ≤ k → s' k = sY 6 k) ∧ RK s' u' n' iU' sU' P Q := by
    intro r e1 e2
    exact ⟨r, n, sY 6, sY 21, iM, sM, aU, iU, sU, by rw [eX]; exact e1, by rw [eY, eS]; exact e2, hM, hI, fun _ _ => rfl, hK⟩
  cases h1 : perB P p1 with
  | false =>
    refine stay (-1) ?_ ?_
    · unfold f_X10_nod; rw [x_isPerson N hC hL.s0, q_bd, pB_f h1]
    · unfold f_X11_nod; rw [y_isPerson N _ sY tY jY hP hL.s0, q_bd, pB_f h1]
  | true =>
  cases h3 : perB P p2 with
  | false =>
    refine stay (-1) ?_ ?_
    · unfold f_X10_nod; rw [x_isPerson N hC hL.s0, q_bd, pB_t h1, x_isPerson N hC hL.s0, q_bd, pB_f h3]
    · unfold f_X11_nod; rw [y_isPerson N _ sY tY jY hP hL.s0, q_bd, pB_t h1, y_isPerson N _ sY tY jY hP hL.s0, q_bd, pB_f h3]
  | true =>
  obtain ⟨a, ha, rfl⟩ := perB_t hP h1
  obtain ⟨b, hb, rfl⟩ := perB_t hP h3
  have ex : f_X10_nod N iX iM sM aU iU sU iC tC sC (nI a) (nI b) = if whyN (sY 6) a b = 0 then bd (f_X10_keepU N iX iM sM aU iU sU) (fun (iX_13, aU_14, iU_15, sU_16) => bd (f_X4_doNod N iM sM iC tC sC (nI a) (nI b)) (fun (iM_18, sM_19) => some (nI (whyN (sY 6) a b), iX_13, iM_18, sM_19, aU_14, iU_15, sU_16))) else some (nI (whyN (sY 6) a b), iX, iM, sM, aU, iU, sU) := by
    unfold f_X10_nod
    rw [x_isPerson N hC hL.s0, q_bd, pB_t h1, x_isPerson N hC hL.s0, q_bd, pB_t h3, x_whyNotNod N hC hM (by omega) (by omega), q_bd, nI_eq0 (whyN_lt _ _ _)]
  have ey : f_X11_nod N iY sY tY jY (nI a) (nI b) = if whyN (sY 6) a b = 0 then bd (f_X11_keep N (va_up iY 0 0) sY tY jY) (fun (iY_13, sY_14) => bd (f_X11_nods N iY_13 sY_14 tY jY (nI a) (nI b)) (fun sY_16 => some ((0 : Int32), iY_13, sY_16))) else some (nI (whyN (sY 6) a b), va_up iY 0 0, sY) := by
    unfold f_X11_nod
    rw [y_isPerson N _ sY tY jY hP hL.s0, q_bd, pB_t h1, y_isPerson N _ sY tY jY hP hL.s0, q_bd, pB_t h3, y_whyNod N _ sY tY jY (by omega) (by omega), q_bd, nI_le0 (whyN_lt _ _ _)]
  by_cases hw : whyN (sY 6) a b = 0
  · rw [if_pos hw] at ex ey
    obtain ⟨n', u', aU', iU', sU', e1, e2, hK'⟩ := b_keep N (iX := iX) (aU := aU) hN (va_up iY 0 0) sY tY jY hX (by rw [q_vn _ _ (by omega)]; exact hY) hM hI hK
    obtain ⟨iM', sM', e3, hM', -⟩ := x_doNod N (iC := iC) (sC := sC) (tC := tC) hM (a := a) (b := b) (by omega) (by omega)
    have es : ∀ k, k < 131 ∨ 276 ≤ k → nodS (sY 6) a b k = sY 6 k := fun k hk => nod_o (by omega) (by omega) hk
    refine ⟨0, n', nodS (sY 6) a b, u', iM', sM', aU', iU', sU', ?_, ?_, hM', ID_nod hP hI ha hb (whyN_0 hw), es, hK'.to hP (fun k hk => es k (Or.inl hk))⟩
    · rw [ex, e1, q_bd]; show bd _ _ = _; rw [e3, q_bd, hw]; rfl
    · rw [ey, e2, q_bd]; show bd (f_X11_nods N _ (va_up sY 21 u') tY jY _ _) _ = _; rw [y_nods N _ _ tY jY (by omega) (by omega), q_bd, q_vn _ _ (show 6 ≠ 21 by omega)]
  · rw [if_neg hw] at ex ey
    exact stay _ ex ey
theorem b_veil (hN : 2000 ≤ N) (hC : CP (sY 6) iC sC) (hM : MP (sY 6) iM sM) (hL : IL (sY 6) P Q) (hI : ID (sY 6) P Q) (hX : iX 6 = nI n) (hY : iY 23 = nI n) (hK : RK (sY 6) (sY 21) n iU sU P Q) (p1 : Int32) :
    ∃ r n' s' u' iM' aU' iU' sU', f_X10_veil N iX iM sM aU iU sU iC tC sC p1 = some (r, va_up iX 6 (nI n'), iM', aU', iU', sU') ∧ f_X11_veil N iY sY tY jY p1 = some (r, va_up (va_up iY 0 0) 23 (nI n'), va_up (va_up sY 21 u') 6 s') ∧ MP s' iM' sM ∧ ID s' P Q ∧ (∀ k, k < 131 ∨ 276 ≤ k → s' k = sY 6 k) ∧ RK s' u' n' iU' sU' P Q := by
  have hP := hL.P7
  have eX := up_id hX
  have eY : va_up (va_up iY 0 0) 23 (nI n) = va_up iY 0 0 := up_id (by rw [q_vn _ _ (by omega)]; exact hY)
  have eS : va_up (va_up sY 21 (sY 21)) 6 (sY 6) = sY := by rw [q_vid, q_vid]
  have stay : ∀ r : Int32, f_X10_veil N iX iM sM aU iU sU iC tC sC p1 = some (r, iX, iM, aU, iU, sU) → f_X11_veil N iY sY tY jY p1 = some (r, va_up iY 0 0, sY) → ∃ r n' s' u' iM' aU' iU' sU', f_X10_veil N iX iM sM aU iU sU iC tC sC p1 = some (r, va_up iX 6 (nI n'), iM', aU', iU', sU') ∧ f_X11_veil N iY sY tY jY p1 = some (r, va_up (va_up iY 0 0) 23 (nI n'), va_up (va_up sY 21 u') 6 s') ∧ MP s' iM' sM ∧ ID s' P Q ∧ (∀ k, k < 131 ∨ 276 ≤ k → s' k = sY 6 k) ∧ RK s' u' n' iU' sU' P Q := by
    intro r e1 e2
    exact ⟨r, n, sY 6, sY 21, iM, aU, iU, sU, by rw [eX]; exact e1, by rw [eY, eS]; exact e2, hM, hI, fun _ _ => rfl, hK⟩
  cases h1 : perB P p1 with
  | false =>
    refine stay (-1) ?_ ?_
    · unfold f_X10_veil; rw [x_isPerson N hC hL.s0, q_bd, pB_f h1]
    · unfold f_X11_veil; rw [y_isPerson N _ sY tY jY hP hL.s0, q_bd, pB_f h1]
  | true =>
  obtain ⟨a, ha, rfl⟩ := perB_t hP h1
  have ex : f_X10_veil N iX iM sM aU iU sU iC tC sC (nI a) = if whyV (sY 6) a = 0 then bd (f_X10_keepU N iX iM sM aU iU sU) (fun (iX_7, aU_8, iU_9, sU_10) => bd (f_X4_doVeil N iM sM iC tC sC (nI a)) (fun iM_12 => some (nI (whyV (sY 6) a), iX_7, iM_12, aU_8, iU_9, sU_10))) else some (nI (whyV (sY 6) a), iX, iM, aU, iU, sU) := by
    unfold f_X10_veil
    rw [x_isPerson N hC hL.s0, q_bd, pB_t h1, x_whyNotVeil N hM hI (by omega), q_bd, nI_eq0 (whyV_lt _ _)]
  have ey : f_X11_veil N iY sY tY jY (nI a) = if whyV (sY 6) a = 0 then bd (f_X11_keep N (va_up iY 0 0) sY tY jY) (fun (iY_13, sY_14) => bd (f_X11_veils N iY_13 sY_14 tY jY (nI a)) (fun sY_16 => some ((0 : Int32), iY_13, sY_16))) else some (nI (whyV (sY 6) a), va_up iY 0 0, sY) := by
    unfold f_X11_veil
    rw [y_isPerson N _ sY tY jY hP hL.s0, q_bd, pB_t h1, y_whyVeil N _ sY tY jY (by omega), q_bd, nI_le0 (whyV_lt _ _)]
  by_cases hw : whyV (sY 6) a = 0
  · rw [if_pos hw] at ex ey
    obtain ⟨n', u', aU', iU', sU', e1, e2, hK'⟩ := b_keep N (iX := iX) (aU := aU) hN (va_up iY 0 0) sY tY jY hX (by rw [q_vn _ _ (by omega)]; exact hY) hM hI hK
    obtain ⟨iM', e3, hM', -⟩ := x_doVeil N (iC := iC) (sC := sC) (tC := tC) hM (a := a)
    have es : ∀ k, k < 131 ∨ 276 ≤ k → veilS (sY 6) a k = sY 6 k := fun k hk => veil_o hk
    refine ⟨0, n', veilS (sY 6) a, u', iM', aU', iU', sU', ?_, ?_, hM', ID_veil hP hI hw, es, hK'.to hP (fun k hk => es k (Or.inl hk))⟩
    · rw [ex, e1, q_bd]; show bd _ _ = _; rw [e3, q_bd, hw]; rfl
    · rw [ey, e2, q_bd]; show bd (f_X11_veils N _ (va_up sY 21 u') tY jY _) _ = _; rw [y_veils, q_bd, q_vn _ _ (show 6 ≠ 21 by omega)]
  · rw [if_neg hw] at ex ey
    exact stay _ ex ey
theorem whyT_0 {s : Nat → Int32} {q a b : Nat} (h : whyT s q a b = 0) : a ≠ b := by
  intro e; unfold whyT at h; rw [if_pos e] at h
  split at h
  · omega
  · split at h <;> omega
theorem b_tell (hN : 2000 ≤ N) (hC : CP (sY 6) iC sC) (hM : MP (sY 6) iM sM) (hL : IL (sY 6) P Q) (hI : ID (sY 6) P Q) (hX : iX 6 = nI n) (hY : iY 23 = nI n) (hK : RK (sY 6) (sY 21) n iU sU P Q) (p1 p2 p3 : Int32) :
    ∃ r n' s' u' sM' aU' iU' sU', f_X10_tell N iX iM sM aU iU sU iC tC sC p1 p2 p3 = some (r, va_up iX 6 (nI n'), sM', aU', iU', sU') ∧ f_X11_tell N iY sY tY jY p1 p2 p3 = some (r, va_up (va_up iY 0 0) 23 (nI n'), va_up (va_up sY 21 u') 6 s') ∧ MP s' iM sM' ∧ ID s' P Q ∧ (∀ k, k < 131 ∨ 276 ≤ k → s' k = sY 6 k) ∧ RK s' u' n' iU' sU' P Q := by
  have hP := hL.P7
  have eX := up_id hX
  have eY : va_up (va_up iY 0 0) 23 (nI n) = va_up iY 0 0 := up_id (by rw [q_vn _ _ (by omega)]; exact hY)
  have eS : va_up (va_up sY 21 (sY 21)) 6 (sY 6) = sY := by rw [q_vid, q_vid]
  have stay : ∀ r : Int32, f_X10_tell N iX iM sM aU iU sU iC tC sC p1 p2 p3 = some (r, iX, sM, aU, iU, sU) → f_X11_tell N iY sY tY jY p1 p2 p3 = some (r, va_up iY 0 0, sY) → ∃ r n' s' u' sM' aU' iU' sU', f_X10_tell N iX iM sM aU iU sU iC tC sC p1 p2 p3 = some (r, va_up iX 6 (nI n'), sM', aU', iU', sU') ∧ f_X11_tell N iY sY tY jY p1 p2 p3 = some (r, va_up (va_up iY 0 0) 23 (nI n'), va_up (va_up sY 21 u') 6 s') ∧ MP s' iM sM' ∧ ID s' P Q ∧ (∀ k, k < 131 ∨ 276 ≤ k → s' k = sY 6 k) ∧ RK s' u' n' iU' sU' P Q := by
    intro r e1 e2
    exact ⟨r, n, sY 6, sY 21, sM, aU, iU, sU, by rw [eX]; exact e1, by rw [eY, eS]; exact e2, hM, hI, fun _ _ => rfl, hK⟩
  cases h1 : perB P p1 with
  | false =>
    refine stay (-1) ?_ ?_
    · unfold f_X10_tell; rw [x_isPerson N hC hL.s0, q_bd, pB_f h1]
    · unfold f_X11_tell; rw [y_isPerson N _ sY tY jY hP hL.s0, q_bd, pB_f h1]
  | true =>
  cases h2 : perB P p2 with
  | false =>
    refine stay (-1) ?_ ?_
    · unfold f_X10_tell; rw [x_isPerson N hC hL.s0, q_bd, pB_t h1, x_isPerson N hC hL.s0, q_bd, pB_f h2]
    · unfold f_X11_tell; rw [y_isPerson N _ sY tY jY hP hL.s0, q_bd, pB_t h1, y_isPerson N _ sY tY jY hP hL.s0, q_bd, pB_f h2]
  | true =>
  cases h3 : perB P p3 with
  | false =>
    refine stay (-1) ?_ ?_
    · unfold f_X10_tell; rw [x_isPerson N hC hL.s0, q_bd, pB_t h1, x_isPerson N hC hL.s0, q_bd, pB_t h2, x_isPerson N hC hL.s0, q_bd, pB_f h3]
    · unfold f_X11_tell; rw [y_isPerson N _ sY tY jY hP hL.s0, q_bd, pB_t h1, y_isPerson N _ sY tY jY hP hL.s0, q_bd, pB_t h2, y_isPerson N _ sY tY jY hP hL.s0, q_bd, pB_f h3]
  | true =>
  obtain ⟨q, hq, rfl⟩ := perB_t hP h1
  obtain ⟨a, ha, rfl⟩ := perB_t hP h2
  obtain ⟨b, hb, rfl⟩ := perB_t hP h3
  have ex : f_X10_tell N iX iM sM aU iU sU iC tC sC (nI q) (nI a) (nI b) = if whyT (sY 6) q a b = 0 then bd (f_X10_keepU N iX iM sM aU iU sU) (fun (iX_13, aU_14, iU_15, sU_16) => bd (f_X4_meet N iM sM iC tC sC (nI a) (nI b)) (fun sM_18 => some (nI (whyT (sY 6) q a b), iX_13, sM_18, aU_14, iU_15, sU_16))) else some (nI (whyT (sY 6) q a b), iX, sM, aU, iU, sU) := by
    unfold f_X10_tell
    rw [x_isPerson N hC hL.s0, q_bd, pB_t h1, x_isPerson N hC hL.s0, q_bd, pB_t h2, x_isPerson N hC hL.s0, q_bd, pB_t h3, x_whyNotTell N hC hM (by omega) (by omega) (by omega), q_bd, nI_eq0 (whyT_lt _ _ _ _)]
  have ey : f_X11_tell N iY sY tY jY (nI q) (nI a) (nI b) = if whyT (sY 6) q a b = 0 then bd (f_X11_keep N (va_up iY 0 0) sY tY jY) (fun (iY_13, sY_14) => bd (f_X11_meets N iY_13 sY_14 tY jY (nI a) (nI b)) (fun sY_16 => some ((0 : Int32), iY_13, sY_16))) else some (nI (whyT (sY 6) q a b), va_up iY 0 0, sY) := by
    unfold f_X11_tell
    rw [y_isPerson N _ sY tY jY hP hL.s0, q_bd, pB_t h1, y_isPerson N _ sY tY jY hP hL.s0, q_bd, pB_t h2, y_isPerson N _ sY tY jY hP hL.s0, q_bd, pB_t h3, y_whyTell N _ sY tY jY (by omega) (by omega) (by omega), q_bd, nI_le0 (whyT_lt _ _ _ _)]
  by_cases hw : whyT (sY 6) q a b = 0
  · rw [if_pos hw] at ex ey
    obtain ⟨n', u', aU', iU', sU', e1, e2, hK'⟩ := b_keep N (iX := iX) (aU := aU) hN (va_up iY 0 0) sY tY jY hX (by rw [q_vn _ _ (by omega)]; exact hY) hM hI hK
    obtain ⟨sM', e3, hM', -⟩ := x_meet N (iC := iC) (sC := sC) (tC := tC) hM (a := a) (b := b) (by omega) (by omega)
    have es : ∀ k, k < 131 ∨ 276 ≤ k → meetS (sY 6) a b k = sY 6 k := fun k hk => meet_o (by omega) (by omega) (by omega)
    refine ⟨0, n', meetS (sY 6) a b, u', sM', aU', iU', sU', ?_, ?_, hM', ID_meet hP hI ha hb (whyT_0 hw), es, hK'.to hP (fun k hk => es k (Or.inl hk))⟩
    · rw [ex, e1, q_bd]; show bd _ _ = _; rw [e3, q_bd, hw]; rfl
    · rw [ey, e2, q_bd]; show bd (f_X11_meets N _ (va_up sY 21 u') tY jY _ _) _ = _; rw [y_meets N _ _ tY jY (by omega) (by omega), q_bd, q_vn _ _ (show 6 ≠ 21 by omega)]
  · rw [if_neg hw] at ex ey
    exact stay _ ex ey
end
