/-! PURE: days, undo, drawn, odds -/
def trS (s b : Nat → Int32) (i : Nat) : Nat → Int32 := fun k => if k < i then s (131 + k) else b k
def bkS (s u : Nat → Int32) (m i : Nat) : Nat → Int32 := fun k => if 131 ≤ k ∧ k < 131 + i then u (m + (k - 131)) else s k
theorem trS_s (s b : Nat → Int32) (i : Nat) : upd (trS s b i) i (s (131 + i)) = trS s b (i + 1) := by
  funext k
  by_cases h : k = i
  · subst h; rw [pk_us]; unfold trS; rw [if_pos (by omega)]
  · rw [pk_un h]; unfold trS
    by_cases h2 : k < i
    · rw [if_pos h2, if_pos (by omega)]
    · rw [if_neg h2, if_neg (by omega)]
theorem bkS_s (s u : Nat → Int32) (m i : Nat) : upd (bkS s u m i) (131 + i) (u (m + i)) = bkS s u m (i + 1) := by
  funext k
  by_cases h : k = 131 + i
  · subst h; rw [pk_us]; unfold bkS; rw [if_pos (by omega), show m + (131 + i - 131) = m + i by omega]
  · rw [pk_un h]; unfold bkS
    by_cases h2 : 131 ≤ k ∧ k < 131 + i
    · rw [if_pos h2, if_pos (by omega)]
    · rw [if_neg h2, if_neg (by omega)]
theorem bkS_0 (s u : Nat → Int32) (m : Nat) : bkS s u m 0 = s := by funext k; unfold bkS; rw [if_neg (by omega)]
theorem y_isIn (N : Nat) (p lo hi : Int32) : f_X11_isIn N p lo hi = some (bI (decide (¬ p < lo ∧ p ≤ hi))) := by
  unfold f_X11_isIn
  by_cases h1 : p < lo
  · rw [if_pos h1, decide_eq_false (fun h => h.1 h1)]; rfl
  · rw [if_neg h1]
    by_cases h2 : hi < p
    · rw [if_pos h2, decide_eq_false (fun h => Int32.not_le.mpr h2 h.2)]; rfl
    · rw [if_neg h2, decide_eq_true ⟨h1, Int32.not_lt.mp h2⟩]; rfl
section
variable (N : Nat) (iY : Nat → Int32) (sY : Nat → Nat → Int32) (tY : Nat → Nat → Int64) (jY : Nat → Int64)
theorem y_tries (hN : 2000 ≤ N) : f_X11_tries N iY sY tY jY = some (va_up sY 22 (trS (sY 6) (sY 22) 145)) := by
  unfold f_X11_tries
  refine q_loopF (fun k x v => f_X11_tries_2 N iY tY jY k x v) some 145 N (by omega) (fun i => va_up sY 22 (trS (sY 6) (sY 22) i)) sY ?_ (fun k => ?_) (fun k i hi => ?_)
  · have : trS (sY 6) (sY 22) 0 = sY 22 := by funext k; unfold trS; rw [if_neg (by omega)]
    show sY = va_up sY 22 (trS (sY 6) (sY 22) 0)
    rw [this, q_vid]
  · rw [f_X11_tries_2, L145, if_pos (nI_le (Nat.le_refl _) (by omega))]
  · show f_X11_tries_2 N iY tY jY (k + 1) _ _ = f_X11_tries_2 N iY tY jY k _ _
    rw [f_X11_tries_2, L145, if_neg (nI_ge hi (by omega))]
    simp (disch := omega) only [L2, L3, L4, L5, L6, L7, L8, L9, L10, L11, L12, L13, L14, L15, L16, L17, L18, L19, L20, L21, L22, L23, L24, L30, L35, L40, L41, L47, L48, L56, L57, L59, L60, L61, L62, L80, L82, L96, L97, L117, L122, L124, L131, L136, L143, L145, L178, L200, L213, L220, L224, L227, L256, L277, L400, L457, L900, L920, L940, L999, L1015, L9999, L1000000, nI_add, pk_mul, nI_1, q_ck, q_ix, q_nv, q_ve, q_vv, q_vn, trS_s]
theorem y_back (hN : 2000 ≤ N) : f_X11_back N iY sY tY jY = some (va_up sY 6 (bkS (sY 6) (sY 22) 0 145)) := by
  unfold f_X11_back
  refine q_loopF (fun k x v => f_X11_back_2 N iY tY jY k x v) some 145 N (by omega) (fun i => va_up sY 6 (bkS (sY 6) (sY 22) 0 i)) sY ?_ (fun k => ?_) (fun k i hi => ?_)
  · show sY = va_up sY 6 (bkS (sY 6) (sY 22) 0 0)
    rw [bkS_0, q_vid]
  · rw [f_X11_back_2, L145, if_pos (nI_le (Nat.le_refl _) (by omega))]
  · show f_X11_back_2 N iY tY jY (k + 1) _ _ = f_X11_back_2 N iY tY jY k _ _
    rw [f_X11_back_2, L145, if_neg (nI_ge hi (by omega))]
    have := bkS_s (sY 6) (sY 22) 0 i
    rw [Nat.zero_add] at this
    simp (disch := omega) only [L2, L3, L4, L5, L6, L7, L8, L9, L10, L11, L12, L13, L14, L15, L16, L17, L18, L19, L20, L21, L22, L23, L24, L30, L35, L40, L41, L47, L48, L56, L57, L59, L60, L61, L62, L80, L82, L96, L97, L117, L122, L124, L131, L136, L143, L145, L178, L200, L213, L220, L224, L227, L256, L277, L400, L457, L900, L920, L940, L999, L1015, L9999, L1000000, nI_add, pk_mul, nI_1, q_ck, q_ix, q_nv, q_ve, q_vv, q_vn, this]
theorem y_undo (hN : 2000 ≤ N) {m : Nat} (hm : m < 8) (h : iY 23 = nI (m + 1)) : f_X11_undo N iY sY tY jY = some (nI m, va_up (va_up iY 0 0) 23 (nI m), va_up sY 6 (rowS (sY 6) (sY 21) m)) := by
  unfold f_X11_undo
  rw [h, if_neg (nI_ne0 (by omega) (by omega)), nI_pred]
  have hr : rowS (sY 6) (sY 21) m = bkS (sY 6) (sY 21) (145 * m) 145 := rfl
  rw [hr]
  have e23 : (va_up (va_up iY 0 0) 23 (nI m)) 23 = nI m := q_ve _ _ _
  refine q_loopF (fun k x v => f_X11_undo_26 N (va_up (va_up iY 0 0) 23 (nI m)) tY jY k x v) (fun x => some (nI m, va_up (va_up iY 0 0) 23 (nI m), x)) 145 N (by omega) (fun i => va_up sY 6 (bkS (sY 6) (sY 21) (145 * m) i)) sY ?_ (fun k => ?_) (fun k i hi => ?_)
  · show sY = va_up sY 6 (bkS (sY 6) (sY 21) (145 * m) 0)
    rw [bkS_0, q_vid]
  · rw [f_X11_undo_26, L145, if_pos (nI_le (Nat.le_refl _) (by omega)), e23]
  · show f_X11_undo_26 N _ tY jY (k + 1) _ _ = f_X11_undo_26 N _ tY jY k _ _
    rw [f_X11_undo_26, L145, if_neg (nI_ge hi (by omega)), e23]
    simp (disch := omega) only [L2, L3, L4, L5, L6, L7, L8, L9, L10, L11, L12, L13, L14, L15, L16, L17, L18, L19, L20, L21, L22, L23, L24, L30, L35, L40, L41, L47, L48, L56, L57, L59, L60, L61, L62, L80, L82, L96, L97, L117, L122, L124, L131, L136, L143, L145, L178, L200, L213, L220, L224, L227, L256, L277, L400, L457, L900, L920, L940, L999, L1015, L9999, L1000000, nI_add, pk_mul, nI_1, q_ck, q_ix, q_nv, q_ve, q_vv, q_vn, bkS_s]
end
section
variable (N : Nat) {iX : Nat → Int32} {iC : Nat → Int32} {tC : Nat → Nat → Int64} {sC : Nat → Nat → Int32} {iM : Nat → Int32} {sM : Nat → Nat → Int32} {aU : Nat → Nat → Nat} {iU : Nat → Nat → Int32} {sU : Nat → Nat → Nat → Int32} {P Q n : Nat}
theorem x_undo : ∀ m, m < 8 → ∀ {s : Nat → Int32}, iX 6 = nI (m + 1) → MP s (iU m) (sU m) → ∃ iM' sM', f_X10_undo N iX iM sM aU iU sU = some (nI m, va_up iX 6 (nI m), iM', sM') ∧ MP s iM' sM' := by
  refine lt8 ?_ ?_ ?_ ?_ ?_ ?_ ?_ ?_
  · intro s h hM
    obtain ⟨iM', sM', e, hm⟩ := x_copyM N hM iM sM
    unfold f_X10_undo f_X10_undo_K
    rw [h, if_neg (show ¬ nI (0 + 1) < 1 by decide), if_pos (show nI (0 + 1) ≤ 8 by decide), nI_pred, if_pos (show nI 0 = 0 by decide), e]
    exact ⟨_, _, rfl, hm⟩
  · intro s h hM
    obtain ⟨iM', sM', e, hm⟩ := x_copyM N hM iM sM
    unfold f_X10_undo f_X10_undo_K
    rw [h, if_neg (show ¬ nI (1 + 1) < 1 by decide), if_pos (show nI (1 + 1) ≤ 8 by decide), nI_pred, if_neg (show ¬ nI 1 = 0 by decide), if_pos (show nI 1 = 1 by decide), e]
    exact ⟨_, _, rfl, hm⟩
  · intro s h hM
    obtain ⟨iM', sM', e, hm⟩ := x_copyM N hM iM sM
    unfold f_X10_undo f_X10_undo_K
    rw [h, if_neg (show ¬ nI (2 + 1) < 1 by decide), if_pos (show nI (2 + 1) ≤ 8 by decide), nI_pred, if_neg (show ¬ nI 2 = 0 by decide), if_neg (show ¬ nI 2 = 1 by decide), if_pos (show nI 2 = 2 by decide), e]
    exact ⟨_, _, rfl, hm⟩
  · intro s h hM
    obtain ⟨iM', sM', e, hm⟩ := x_copyM N hM iM sM
    unfold f_X10_undo f_X10_undo_K
    rw [h, if_neg (show ¬ nI (3 + 1) < 1 by decide), if_pos (show nI (3 + 1) ≤ 8 by decide), nI_pred, if_neg (show ¬ nI 3 = 0 by decide), if_neg (show ¬ nI 3 = 1 by decide), if_neg (show ¬ nI 3 = 2 by decide), if_pos (show nI 3 = 3 by decide), e]
    exact ⟨_, _, rfl, hm⟩
  · intro s h hM
    obtain ⟨iM', sM', e, hm⟩ := x_copyM N hM iM sM
    unfold f_X10_undo f_X10_undo_K
    rw [h, if_neg (show ¬ nI (4 + 1) < 1 by decide), if_pos (show nI (4 + 1) ≤ 8 by decide), nI_pred, if_neg (show ¬ nI 4 = 0 by decide), if_neg (show ¬ nI 4 = 1 by decide), if_neg (show ¬ nI 4 = 2 by decide), if_neg (show ¬ nI 4 = 3 by decide), if_pos (show nI 4 = 4 by decide), e]
    exact ⟨_, _, rfl, hm⟩
  · intro s h hM
    obtain ⟨iM', sM', e, hm⟩ := x_copyM N hM iM sM
    unfold f_X10_undo f_X10_undo_K
    rw [h, if_neg (show ¬ nI (5 + 1) < 1 by decide), if_pos (show nI (5 + 1) ≤ 8 by decide), nI_pred, if_neg (show ¬ nI 5 = 0 by decide), if_neg (show ¬ nI 5 = 1 by decide), if_neg (show ¬ nI 5 = 2 by decide), if_neg (show ¬ nI 5 = 3 by decide), if_neg (show ¬ nI 5 = 4 by decide), if_pos (show nI 5 = 5 by decide), e]
    exact ⟨_, _, rfl, hm⟩
  · intro s h hM
    obtain ⟨iM', sM', e, hm⟩ := x_copyM N hM iM sM
    unfold f_X10_undo f_X10_undo_K
    rw [h, if_neg (show ¬ nI (6 + 1) < 1 by decide), if_pos (show nI (6 + 1) ≤ 8 by decide), nI_pred, if_neg (show ¬ nI 6 = 0 by decide), if_neg (show ¬ nI 6 = 1 by decide), if_neg (show ¬ nI 6 = 2 by decide), if_neg (show ¬ nI 6 = 3 by decide), if_neg (show ¬ nI 6 = 4 by decide), if_neg (show ¬ nI 6 = 5 by decide), if_pos (show nI 6 = 6 by decide), e]
    exact ⟨_, _, rfl, hm⟩
  · intro s h hM
    obtain ⟨iM', sM', e, hm⟩ := x_copyM N hM iM sM
    unfold f_X10_undo f_X10_undo_K
    rw [h, if_neg (show ¬ nI (7 + 1) < 1 by decide), if_pos (show nI (7 + 1) ≤ 8 by decide), nI_pred, if_neg (show ¬ nI 7 = 0 by decide), if_neg (show ¬ nI 7 = 1 by decide), if_neg (show ¬ nI 7 = 2 by decide), if_neg (show ¬ nI 7 = 3 by decide), if_neg (show ¬ nI 7 = 4 by decide), if_neg (show ¬ nI 7 = 5 by decide), if_neg (show ¬ nI 7 = 6 by decide), if_pos (show nI 7 = 7 by decide), e]
    exact ⟨_, _, rfl, hm⟩
variable (iY : Nat → Int32) (sY : Nat → Nat → Int32) (tY : Nat → Nat → Int64) (jY : Nat → Int64)
theorem b_undo (hN : 2000 ≤ N) (hM : MP (sY 6) iM sM) (hL : IL (sY 6) P Q) (hI : ID (sY 6) P Q) (hX : iX 6 = nI n) (hY : iY 23 = nI n) (hK : RK (sY 6) (sY 21) n iU sU P Q) :
    ∃ r n' s' iM' sM', f_X10_undo N iX iM sM aU iU sU = some (r, va_up iX 6 (nI n'), iM', sM') ∧ f_X11_undo N iY sY tY jY = some (r, va_up (va_up iY 0 0) 23 (nI n'), va_up sY 6 s') ∧ MP s' iM' sM' ∧ ID s' P Q ∧ (∀ k, k < 131 ∨ 276 ≤ k → s' k = sY 6 k) ∧ RK s' (sY 21) n' iU sU P Q := by
  rcases Nat.eq_zero_or_pos n with h0 | h0
  · subst h0
    refine ⟨-1, 0, sY 6, iM, sM, ?_, ?_, hM, hI, fun _ _ => rfl, hK⟩
    · unfold f_X10_undo f_X10_undo_K
      rw [up_id hX, hX, if_pos (show nI 0 < 1 by decide)]
    · unfold f_X11_undo
      rw [up_id (show (va_up iY 0 0) 23 = nI 0 by rw [q_vn _ _ (by omega)]; exact hY), q_vid, hY, if_pos nI_0]
  · obtain ⟨m, rfl⟩ : ∃ m, n = m + 1 := ⟨n - 1, by omega⟩
    have hm8 : m < 8 := hK.1
    obtain ⟨k1, k2⟩ := hK.2 m (by omega)
    obtain ⟨iM', sM', e, hm⟩ := x_undo N (iM := iM) (sM := sM) (aU := aU) m hm8 hX k1
    have es : ∀ k, k < 131 ∨ 276 ≤ k → rowS (sY 6) (sY 21) m k = sY 6 k := fun k hk => by unfold rowS; rw [if_neg (by omega)]
    have hK2 : RK (sY 6) (sY 21) m iU sU P Q := ⟨by omega, fun j hj => hK.2 j (by omega)⟩
    exact ⟨nI m, m, rowS (sY 6) (sY 21) m, iM', sM', e, y_undo N iY sY tY jY hN hm8 hY, hm, k2, es, hK2.to hL.P7 (fun k hk => es k (Or.inl hk))⟩
theorem in_of {p : Int32} {m : Nat} (hm : m < 1000) (h1 : ¬ p < 1) (h2 : p ≤ nI m) : ∃ j, 1 ≤ j ∧ j ≤ m ∧ p = nI j := by
  have h0 : ¬ p < 0 := fun h => h1 (Int32.lt_trans h (by decide))
  obtain ⟨j, hj, rfl⟩ := nI_of h0
  refine ⟨j, ?_, (nI_leI hj (by omega)).mp h2, rfl⟩
  have : ¬ j < 1 := fun h => h1 ((nI_ltI (b := 1) hj (by decide)).mpr h)
  omega
theorem b_days (hN : 2000 ≤ N) (hC : CP (sY 6) iC sC) (hM : MP (sY 6) iM sM) (hL : IL (sY 6) P Q) (hI : ID (sY 6) P Q) (hX : iX 6 = nI n) (hY : iY 23 = nI n) (hK : RK (sY 6) (sY 21) n iU sU P Q) (p1 : Int32) :
    ∃ r n' s' u' iM' sM' aU' iU' sU', f_X10_days N iX iM sM aU iU sU iC tC sC p1 = some (r, va_up iX 6 (nI n'), iM', sM', aU', iU', sU') ∧ f_X11_days N iY sY tY jY p1 = some (r, va_up (va_up iY 0 0) 23 (nI n'), va_up (va_up sY 21 u') 6 s') ∧ MP s' iM' sM' ∧ ID s' P Q ∧ (∀ k, k < 131 ∨ 276 ≤ k → s' k = sY 6 k) ∧ RK s' u' n' iU' sU' P Q := by
  have hP := hL.P7
  have eX := up_id hX
  have eY : va_up (va_up iY 0 0) 23 (nI n) = va_up iY 0 0 := up_id (by rw [q_vn _ _ (by omega)]; exact hY)
  have eS : va_up (va_up sY 21 (sY 21)) 6 (sY 6) = sY := by rw [q_vid, q_vid]
  have stay : ∀ r : Int32, f_X10_days N iX iM sM aU iU sU iC tC sC p1 = some (r, iX, iM, sM, aU, iU, sU) → f_X11_days N iY sY tY jY p1 = some (r, va_up iY 0 0, sY) → ∃ r n' s' u' iM' sM' aU' iU' sU', f_X10_days N iX iM sM aU iU sU iC tC sC p1 = some (r, va_up iX 6 (nI n'), iM', sM', aU', iU', sU') ∧ f_X11_days N iY sY tY jY p1 = some (r, va_up (va_up iY 0 0) 23 (nI n'), va_up (va_up sY 21 u') 6 s') ∧ MP s' iM' sM' ∧ ID s' P Q ∧ (∀ k, k < 131 ∨ 276 ≤ k → s' k = sY 6 k) ∧ RK s' u' n' iU' sU' P Q := by
    intro r e1 e2
    exact ⟨r, n, sY 6, sY 21, iM, sM, aU, iU, sU, by rw [eX]; exact e1, by rw [eY, eS]; exact e2, hM, hI, fun _ _ => rfl, hK⟩
  by_cases c1 : p1 < 1
  · refine stay (-1) ?_ ?_
    · unfold f_X10_days; rw [if_pos c1]
    · unfold f_X11_days; rw [y_isIn, decide_eq_false (fun h => h.1 c1), q_bd]; rfl
  by_cases c2 : p1 ≤ 60
  · obtain ⟨m, hm1, hm2, rfl⟩ := in_of (m := 60) (by omega) c1 c2
    obtain ⟨d, hd, ed⟩ := hI.da
    have ex : f_X10_days N iX iM sM aU iU sU iC tC sC (nI m) = if sY 6 131 < 400 then bd (f_X10_keepU N iX iM sM aU iU sU) (fun (iX_4, aU_5, iU_6, sU_7) => bd (f_X4_passDays N iM sM iC tC sC (nI m)) (fun (r_9, iM_10, sM_11) => some (r_9, iX_4, iM_10, sM_11, aU_5, iU_6, sU_7))) else some (0, iX, iM, sM, aU, iU, sU) := by
      unfold f_X10_days; rw [if_neg c1, if_pos c2, hM.da]
    have ey : f_X11_days N iY sY tY jY (nI m) = if sY 6 131 = 400 then some (0, va_up iY 0 0, sY) else bd (f_X11_keep N (va_up iY 0 0) sY tY jY) (fun (iY_5, sY_6) => bd (f_X11_goesOn N iY_5 sY_6 tY jY (nI m)) (fun (r_8, sY_9) => some (r_8, iY_5, sY_9))) := by
      unfold f_X11_days; rw [y_isIn, decide_eq_true ⟨c1, c2⟩, q_bd]; rfl
    have cd : (sY 6 131 < 400) ↔ ¬ sY 6 131 = 400 := by
      rw [ed, L400, nI_ltI (by omega) (by omega), nI_eq (by omega) (by omega)]; omega
    by_cases hd4 : sY 6 131 < 400
    · rw [if_pos hd4] at ex
      rw [if_neg (cd.mp hd4)] at ey
      obtain ⟨n', u', aU', iU', sU', e1, e2, hK'⟩ := b_keep N (iX := iX) (aU := aU) hN (va_up iY 0 0) sY tY jY hX (by rw [q_vn _ _ (by omega)]; exact hY) hM hI hK
      obtain ⟨iM', sM', e3, hM'⟩ := x_passDays N (tC := tC) hN m hm2 m 0 N (sY 6) iM sM (by omega) (by omega) hM hC hL hI
      have e4 := y_goesOn N hN (va_up (va_up iY 0 0) 23 (nI n')) tY jY m hm2 m 0 N (va_up sY 21 u') (by omega) (by omega) (P := P) (Q := Q) (by rw [q_vn _ _ (by omega)]; exact hL) (by rw [q_vn _ _ (by omega)]; exact hI)
      rw [q_vn _ _ (show 6 ≠ 21 by omega)] at e4
      have es : ∀ k, k < 131 ∨ 276 ≤ k → (goS P m (sY 6)).2 k = sY 6 k := fun k hk => goS_o hP m _ k hk
      refine ⟨nI (0 + (goS P m (sY 6)).1), n', (goS P m (sY 6)).2, u', iM', sM', aU', iU', sU', ?_, ?_, hM', ID_go m _ hL hI, es, hK'.to hP (fun k hk => es k (Or.inl hk))⟩
      · have e3' : f_X4_passDays N iM sM iC tC sC (nI m) = some (nI (0 + (goS P m (sY 6)).1), iM', sM') := e3
        rw [ex, e1, q_bd]; show bd _ _ = _; rw [e3', q_bd]
      · have e4' : f_X11_goesOn N (va_up (va_up iY 0 0) 23 (nI n')) (va_up sY 21 u') tY jY (nI m) = some (nI (0 + (goS P m (sY 6)).1), va_up (va_up sY 21 u') 6 (goS P m (sY 6)).2) := e4
        rw [ey, e2, q_bd]; show bd (f_X11_goesOn N (va_up (va_up iY 0 0) 23 (nI n')) (va_up sY 21 u') tY jY (nI m)) _ = _
        rw [e4', q_bd]
    · rw [if_neg hd4] at ex
      have : sY 6 131 = 400 := by
        refine Classical.byContradiction (fun h => hd4 (cd.mpr h))
      rw [if_pos this] at ey
      exact stay 0 ex ey
  · refine stay (-1) ?_ ?_
    · unfold f_X10_days; rw [if_neg c1, if_neg c2]
    · unfold f_X11_days; rw [y_isIn, decide_eq_false (fun h => c2 h.2), q_bd]; rfl
theorem b_drawn (hN : 2000 ≤ N) (hC : CP (sY 6) iC sC) (hM : MP (sY 6) iM sM) (hL : IL (sY 6) P Q) (hI : ID (sY 6) P Q) (hX : iX 6 = nI n) (hY : iY 23 = nI n) (hK : RK (sY 6) (sY 21) n iU sU P Q) (p1 p2 : Int32) :
    ∃ r z n' s' u' iM' sM' aU' iU' sU', f_X10_drawn N iX iM sM aU iU sU iC tC sC p1 p2 = some (r, va_up iX 6 (nI n'), iM', sM', aU', iU', sU') ∧ f_X11_drawn N iY sY tY jY p1 p2 = some (r, va_up (va_up (va_up iY 0 0) 23 (nI n')) 38 z, va_up (va_up sY 21 u') 6 s') ∧ MP s' iM' sM' ∧ ID s' P Q ∧ (∀ k, k < 131 ∨ 276 ≤ k → s' k = sY 6 k) ∧ RK s' u' n' iU' sU' P Q := by
  have hP := hL.P7
  have eX := up_id hX
  have eY : va_up (va_up iY 0 0) 23 (nI n) = va_up iY 0 0 := up_id (by rw [q_vn _ _ (by omega)]; exact hY)
  have eS : va_up (va_up sY 21 (sY 21)) 6 (sY 6) = sY := by rw [q_vid, q_vid]
  have stay : ∀ r z : Int32, f_X10_drawn N iX iM sM aU iU sU iC tC sC p1 p2 = some (r, iX, iM, sM, aU, iU, sU) → f_X11_drawn N iY sY tY jY p1 p2 = some (r, va_up (va_up iY 0 0) 38 z, sY) → ∃ r z n' s' u' iM' sM' aU' iU' sU', f_X10_drawn N iX iM sM aU iU sU iC tC sC p1 p2 = some (r, va_up iX 6 (nI n'), iM', sM', aU', iU', sU') ∧ f_X11_drawn N iY sY tY jY p1 p2 = some (r, va_up (va_up (va_up iY 0 0) 23 (nI n')) 38 z, va_up (va_up sY 21 u') 6 s') ∧ MP s' iM' sM' ∧ ID s' P Q ∧ (∀ k, k < 131 ∨ 276 ≤ k → s' k = sY 6 k) ∧ RK s' u' n' iU' sU' P Q := by
    intro r z e1 e2
    exact ⟨r, z, n, sY 6, sY 21, iM, sM, aU, iU, sU, by rw [eX]; exact e1, by rw [eY, eS]; exact e2, hM, hI, fun _ _ => rfl, hK⟩
  by_cases c1 : p1 < 1
  · refine stay (-1) ((va_up iY 0 0) 38) ?_ ?_
    · unfold f_X10_drawn; rw [if_pos c1]
    · unfold f_X11_drawn; rw [y_isIn, decide_eq_false (fun h => h.1 c1), q_bd, q_vid]; rfl
  by_cases c2 : p1 ≤ 60
  · obtain ⟨m, hm1, hm2, rfl⟩ := in_of (m := 60) (by omega) c1 c2
    have ex : f_X10_drawn N iX iM sM aU iU sU iC tC sC (nI m) p2 = if sY 6 131 < 400 then bd (f_X10_keepU N iX iM sM aU iU sU) (fun (iX_4, aU_5, iU_6, sU_7) => bd (f_X4_passDrawnDays N iM sM iC tC sC (nI m) p2) (fun (r_9, iM_10, sM_11) => some (r_9, iX_4, iM_10, sM_11, aU_5, iU_6, sU_7))) else some (0, iX, iM, sM, aU, iU, sU) := by
      unfold f_X10_drawn; rw [if_neg c1, if_pos c2, hM.da]
    have ey : f_X11_drawn N iY sY tY jY (nI m) p2 = if 400 ≤ sY 6 131 then bd (f_X11_draws N (va_up iY 0 0) sY tY jY (nI m) p2) (fun (r_9, iY_10, sY_11) => some (r_9, iY_10, sY_11)) else bd (f_X11_keep N (va_up iY 0 0) sY tY jY) (fun (iY_14, sY_15) => bd (f_X11_draws N iY_14 sY_15 tY jY (nI m) p2) (fun (r_9, iY_10, sY_11) => some (r_9, iY_10, sY_11))) := by
      unfold f_X11_drawn; rw [y_isIn, decide_eq_true ⟨c1, c2⟩, q_bd]; rfl
    by_cases hd4 : 400 ≤ sY 6 131
    · rw [if_pos hd4] at ey
      rw [if_neg (Int32.not_lt.mpr hd4)] at ex
      obtain ⟨z, e4⟩ := y_draws N hN tY jY m hm2 m 0 N (va_up (va_up iY 0 0) 38 p2) sY (by omega) (by omega) (P := P) (Q := Q) hL hI
      obtain ⟨m', rfl⟩ : ∃ m', m = m' + 1 := ⟨m - 1, by omega⟩
      rw [drS, if_pos hd4, q_vv] at e4
      refine stay 0 z ex ?_
      have e4' : f_X11_draws N (va_up iY 0 0) sY tY jY (nI (m' + 1)) p2 = some (nI (0 + 0), va_up (va_up iY 0 0) 38 z, va_up sY 6 (sY 6)) := e4
      rw [ey, e4', q_bd, q_vid]; rfl
    · rw [if_neg hd4] at ey
      rw [if_pos (Int32.not_le.mp hd4)] at ex
      obtain ⟨n', u', aU', iU', sU', e1, e2, hK'⟩ := b_keep N (iX := iX) (aU := aU) hN (va_up iY 0 0) sY tY jY hX (by rw [q_vn _ _ (by omega)]; exact hY) hM hI hK
      obtain ⟨iM', sM', e3, hM'⟩ := x_passDrawn N (tC := tC) hN m hm2 m 0 N (sY 6) (va_up iM 12 p2) sM (by omega) (by omega) (hM.i12 p2) hC hL hI
      obtain ⟨z, e4⟩ := y_draws N hN tY jY m hm2 m 0 N (va_up (va_up (va_up iY 0 0) 23 (nI n')) 38 p2) (va_up sY 21 u') (by omega) (by omega) (P := P) (Q := Q) (by rw [q_vn _ _ (by omega)]; exact hL) (by rw [q_vn _ _ (by omega)]; exact hI)
      rw [q_vn _ _ (show 6 ≠ 21 by omega), q_vv, q_ve] at e4
      rw [q_ve] at e3 hM'
      have es : ∀ k, k < 131 ∨ 276 ≤ k → (drS P Q m p2 (sY 6)).2.2 k = sY 6 k := fun k hk => drS_o hP hL.Q5 m _ _ k hk
      refine ⟨nI (0 + (drS P Q m p2 (sY 6)).1), z, n', (drS P Q m p2 (sY 6)).2.2, u', iM', sM', aU', iU', sU', ?_, ?_, hM', ID_dr m _ _ hL hI, es, hK'.to hP (fun k hk => es k (Or.inl hk))⟩
      · have e3' : f_X4_passDrawnDays N iM sM iC tC sC (nI m) p2 = some (nI (0 + (drS P Q m p2 (sY 6)).1), iM', sM') := e3
        rw [ex, e1, q_bd]; show bd _ _ = _; rw [e3', q_bd]
      · have e4' : f_X11_draws N (va_up (va_up iY 0 0) 23 (nI n')) (va_up sY 21 u') tY jY (nI m) p2 = some (nI (0 + (drS P Q m p2 (sY 6)).1), va_up (va_up (va_up iY 0 0) 23 (nI n')) 38 z, va_up (va_up sY 21 u') 6 (drS P Q m p2 (sY 6)).2.2) := e4
        rw [ey, e2, q_bd]; show bd (f_X11_draws N (va_up (va_up iY 0 0) 23 (nI n')) (va_up sY 21 u') tY jY (nI m) p2) _ = _
        rw [e4', q_bd]
  · refine stay (-1) ((va_up iY 0 0) 38) ?_ ?_
    · unfold f_X10_drawn; rw [if_neg c1, if_neg c2]
    · unfold f_X11_drawn; rw [y_isIn, decide_eq_false (fun h => c2 h.2), q_bd, q_vid]; rfl
end
