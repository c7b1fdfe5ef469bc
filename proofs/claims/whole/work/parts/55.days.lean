/-! PURE: wants, mornings, days -/
def wanQ (s : Nat → Int32) (a : Nat) : Nat → Int32
  | 0 => 0
  | g + 1 => wanQ s a g + s (178 + (5 * a + g))
def wan (s : Nat → Int32) (a : Nat) : Int32 := wanQ s a 5
theorem wan_Q {s : Nat → Int32} {P Q a : Nat} (h : CE s 178 P Q 9) (ha : a < 7) (hQ : Q ≤ 5) : wanQ s a Q = wan s a := by
  have h1 : ∀ j, Q + j ≤ 5 → wanQ s a (Q + j) = wanQ s a Q := by
    intro j
    induction j with
    | zero => intro _; rfl
    | succ j ih =>
      intro hj
      obtain ⟨x, hx, e, hz⟩ := h a (Q + j) ha (by omega)
      rw [show Q + (j + 1) = (Q + j) + 1 by omega, wanQ, ih (by omega), e, hz (Or.inr (by omega)), nI_0, Int32.add_zero]
  have h2 := h1 (5 - Q) (by omega)
  rw [show Q + (5 - Q) = 5 by omega] at h2
  exact h2.symm
theorem wan_to {s s' : Nat → Int32} {a : Nat} (ha : a < 7) (h : ∀ k, k < 35 → s' (178 + k) = s (178 + k)) : wan s' a = wan s a := by
  have : ∀ g, g ≤ 5 → wanQ s' a g = wanQ s a g := by
    intro g
    induction g with
    | zero => intro _; rfl
    | succ g ih => intro hg; rw [wanQ, wanQ, ih (by omega), h _ (by omega)]
  exact this 5 (by omega)
def fedS (s : Nat → Int32) : Nat → Int32
  | 0 => 0
  | i + 1 => if wan s i = 0 then fedS s i ||| pb i else fedS s i
def hng (x : Int32) : Int32 := if x < 9999 then x else 9999
def dayH (s : Nat → Int32) : Nat → Nat → Int32
  | 0 => s
  | i + 1 => upd (dayH s i) (213 + i) (hng (dayH s i (213 + i) + wan (dayH s i) i))
def mo1 (s : Nat → Int32) (i : Nat) : Nat → Int32 := fun k => if 143 ≤ k ∧ k < 143 + i then s (12 + (k - 143)) else if 178 ≤ k ∧ k < 178 + i then s (82 + (k - 178)) else s k
def mornS (s : Nat → Int32) : Nat → Int32 := upd (upd (upd (mo1 s 35) 133 0) 134 0) 135 (s 3)
def forgS (s : Nat → Int32) (n : Nat) : Nat → Int32 := fun k => if 220 ≤ k ∧ k < 220 + n then 0 else s k
def dayA (s : Nat → Int32) (P : Nat) : Nat → Int32 := upd (mornS (dayH s P)) 131 (s 131 + 1)
def dayS (s : Nat → Int32) (P : Nat) : Nat → Int32 := if s 4 = 0 then dayA s P else if (s 131 + 1) - (s 131 + 1) / s 4 * s 4 = 0 then forgS (dayA s P) 56 else dayA s P
def goS (P : Nat) : Nat → (Nat → Int32) → Nat × (Nat → Int32)
  | 0, s => (0, s)
  | r + 1, s => if 400 ≤ s 131 then (0, s) else ((goS P r (dayS s P)).1 + 1, (goS P r (dayS s P)).2)
theorem dayH_o (s : Nat → Int32) (i : Nat) {k : Nat} (hk : k < 213 ∨ 213 + i ≤ k) : dayH s i k = s k := by
  induction i with
  | zero => rfl
  | succ i ih => rw [dayH, pk_un (by omega)]; exact ih (by omega)
theorem mo1_s (s : Nat → Int32) {i : Nat} (hi : i < 35) : upd (upd (mo1 s i) (143 + i) (mo1 s i (12 + i))) (178 + i) ((upd (mo1 s i) (143 + i) (mo1 s i (12 + i))) (82 + i)) = mo1 s (i + 1) := by
  have e1 : mo1 s i (12 + i) = s (12 + i) := by unfold mo1; rw [if_neg (by omega), if_neg (by omega)]
  have e2 : (upd (mo1 s i) (143 + i) (mo1 s i (12 + i))) (82 + i) = s (82 + i) := by rw [pk_un (by omega)]; unfold mo1; rw [if_neg (by omega), if_neg (by omega)]
  rw [e2, e1]
  funext k
  by_cases h1 : k = 178 + i
  · subst h1; rw [pk_us]; unfold mo1; rw [if_neg (by omega), if_pos (by omega), show 82 + (178 + i - 178) = 82 + i by omega]
  · rw [pk_un h1]
    by_cases h2 : k = 143 + i
    · subst h2; rw [pk_us]; unfold mo1; rw [if_pos (by omega), show 12 + (143 + i - 143) = 12 + i by omega]
    · rw [pk_un h2]; unfold mo1
      by_cases h3 : 143 ≤ k ∧ k < 143 + i
      · rw [if_pos h3, if_pos (by omega)]
      · rw [if_neg h3, if_neg (show ¬ (143 ≤ k ∧ k < 143 + (i + 1)) by omega)]
        by_cases h4 : 178 ≤ k ∧ k < 178 + i
        · rw [if_pos h4, if_pos (by omega)]
        · rw [if_neg h4, if_neg (by omega)]
theorem morn_o (s : Nat → Int32) {k : Nat} (hk : k < 133 ∨ (135 < k ∧ k < 143) ∨ 213 ≤ k) : mornS s k = s k := by
  unfold mornS
  rw [pk_un (by omega), pk_un (by omega), pk_un (by omega)]
  unfold mo1; rw [if_neg (by omega), if_neg (by omega)]
theorem forg_s (s : Nat → Int32) (i : Nat) : upd (forgS s i) (220 + i) 0 = forgS s (i + 1) := by
  funext k
  by_cases h : k = 220 + i
  · subst h; rw [pk_us]; unfold forgS; rw [if_pos (by omega)]
  · rw [pk_un h]; unfold forgS
    by_cases h3 : 220 ≤ k ∧ k < 220 + i
    · rw [if_pos h3, if_pos (by omega)]
    · rw [if_neg h3, if_neg (by omega)]
theorem hng_y (N : Nat) (x : Int32) : f_X11_lesser N 9999 x = some (hng x) := by
  unfold f_X11_lesser hng
  by_cases h : x < 9999
  · rw [if_pos h, if_pos (Int32.le_of_lt h)]
  · rw [if_neg h]
    split
    · rename_i h2; rw [Int32.le_antisymm h2 (Int32.not_lt.mp h)]
    · rfl
section
variable (N : Nat) (iY : Nat → Int32) (sY : Nat → Nat → Int32) (tY : Nat → Nat → Int64) (jY : Nat → Int64)
theorem y_wantsOf (hN : 2000 ≤ N) {P Q a : Nat} (ha : a < 7) (hQ : Q ≤ 5) (h1 : sY 6 1 = nI Q) (hc : CE (sY 6) 178 P Q 9) : f_X11_wantsOf N iY sY tY jY (nI a) = some (wan (sY 6) a) := by
  unfold f_X11_wantsOf
  rw [← wan_Q hc ha hQ]
  refine q_loopF (fun k x v => f_X11_wantsOf_4 N iY sY tY jY (nI a) k x v) some Q N (by omega) (wanQ (sY 6) a) 0 rfl (fun k => ?_) (fun k i hi => ?_)
  · show f_X11_wantsOf_4 N iY sY tY jY (nI a) (k + 1) _ _ = _
    rw [f_X11_wantsOf_4, h1, if_pos (nI_le (Nat.le_refl _) (by omega))]
  · show f_X11_wantsOf_4 N iY sY tY jY (nI a) (k + 1) _ _ = f_X11_wantsOf_4 N iY sY tY jY (nI a) k _ _
    rw [f_X11_wantsOf_4, h1, if_neg (nI_ge hi (by omega))]
    simp (disch := omega) only [L2, L3, L4, L5, L6, L7, L8, L9, L10, L11, L12, L13, L14, L15, L16, L17, L18, L19, L20, L21, L22, L23, L24, L30, L35, L40, L41, L47, L48, L56, L57, L59, L60, L61, L62, L80, L82, L96, L97, L117, L122, L124, L131, L136, L143, L145, L178, L200, L213, L220, L224, L227, L256, L277, L400, L457, L900, L920, L940, L999, L1015, L9999, L1000000, nI_add, pk_mul, nI_1, q_ck, q_ix, q_nv, Nat.add_assoc]
    rfl
theorem y_fed (hN : 2000 ≤ N) {P Q : Nat} (hP : P ≤ 7) (hQ : Q ≤ 5) (h0 : sY 6 0 = nI P) (h1 : sY 6 1 = nI Q) (hc : CE (sY 6) 178 P Q 9) : f_X11_fed N iY sY tY jY = some (fedS (sY 6) P) := by
  unfold f_X11_fed
  refine q_loopF (fun k x v => f_X11_fed_4 N iY sY tY jY k x v) some P N (by omega) (fedS (sY 6)) 0 rfl (fun k => ?_) (fun k i hi => ?_)
  · show f_X11_fed_4 N iY sY tY jY (k + 1) _ _ = _
    rw [f_X11_fed_4, h0, if_pos (nI_le (Nat.le_refl _) (by omega))]
  · show f_X11_fed_4 N iY sY tY jY (k + 1) _ _ = f_X11_fed_4 N iY sY tY jY k _ _
    rw [f_X11_fed_4, h0, if_neg (nI_ge hi (by omega)), y_wantsOf N iY sY tY jY hN (by omega) hQ h1 hc, q_bd, q_jn, nI_1, fedS]
    split
    · rfl
    · simp only [Int32.or_zero]
theorem y_morning (hN : 2000 ≤ N) : f_X11_morning N iY sY tY jY = some (va_up sY 6 (mornS (sY 6))) := by
  unfold f_X11_morning
  rw [q_jn]
  have h := q_loopF (fun k x v => f_X11_morning_2 N iY tY jY (fun (z : (Nat → Nat → Int32)) => match z with | sY_4 => nv (upd (sY_4 6) 133 0) (fun g_5 => nv (upd g_5 134 0) (fun g_6 => nv (upd g_6 135 (g_6 3)) (fun g_7 => some (va_up sY_4 6 g_7))))) k x v) (fun (z : (Nat → Nat → Int32)) => match z with | sY_4 => nv (upd (sY_4 6) 133 0) (fun g_5 => nv (upd g_5 134 0) (fun g_6 => nv (upd g_6 135 (g_6 3)) (fun g_7 => some (va_up sY_4 6 g_7))))) 35 N (by omega) (fun i => va_up sY 6 (mo1 (sY 6) i)) sY ?_ (fun k => ?_) (fun k i hi => ?_)
  · rw [h]
    simp only [q_nv, q_ve, q_vv]
    have : (upd (upd (mo1 (sY 6) 35) 133 0) 134 0) 3 = sY 6 3 := by
      rw [pk_un (by omega), pk_un (by omega)]; unfold mo1; rw [if_neg (by omega), if_neg (by omega)]
    rw [this]; rfl
  · have : mo1 (sY 6) 0 = sY 6 := by
      funext k; unfold mo1; rw [if_neg (by omega), if_neg (by omega)]
    show sY = va_up sY 6 (mo1 (sY 6) 0)
    rw [this, q_vid]
  · rw [f_X11_morning_2, L35, if_pos (nI_le (a := 35) (Nat.le_refl _) (by omega))]
  · show f_X11_morning_2 N iY tY jY _ (k + 1) _ _ = f_X11_morning_2 N iY tY jY _ k _ _
    rw [f_X11_morning_2, L35, if_neg (nI_ge (b := 35) hi (by omega))]
    simp (disch := omega) only [L2, L3, L4, L5, L6, L7, L8, L9, L10, L11, L12, L13, L14, L15, L16, L17, L18, L19, L20, L21, L22, L23, L24, L30, L35, L40, L41, L47, L48, L56, L57, L59, L60, L61, L62, L80, L82, L96, L97, L117, L122, L124, L131, L136, L143, L145, L178, L200, L213, L220, L224, L227, L256, L277, L400, L457, L900, L920, L940, L999, L1015, L9999, L1000000, nI_add, pk_mul, nI_1, q_ck, q_ix, q_nv, q_ve, q_vv, mo1_s (sY 6) hi]
theorem y_day (hN : 2000 ≤ N) {P Q : Nat} (hP : P ≤ 7) (hQ : Q ≤ 5) (h0 : sY 6 0 = nI P) (h1 : sY 6 1 = nI Q) (hc : CE (sY 6) 178 P Q 9) : f_X11_day N iY sY tY jY = some (va_up sY 6 (dayS (sY 6) P)) := by
  unfold f_X11_day
  rw [q_jn]
  generalize hK : (fun (z : (Nat → Nat → Int32)) => match z with | sY_4 => bd (f_X11_morning N iY sY_4 tY jY) (fun sY_5 => nv (upd (sY_5 6) 131 (((sY_5 6) 131) + 1)) (fun g_7 => (if (g_7 4) = 0 then some (va_up sY_5 6 g_7) else nz (g_7 4) ((if ((g_7 131) - (g_7 131) / (g_7 4) * (g_7 4)) = 0 then f_X11_day_96 N iY tY jY N (va_up sY_5 6 g_7) 0 else some (va_up sY_5 6 g_7))))))) = K
  have h := q_loopF (fun k x v => f_X11_day_2 N iY tY jY K k x v) K P N (by omega) (fun i => va_up sY 6 (dayH (sY 6) i)) sY (q_vid _ _).symm (fun k => ?_) (fun k i hi => ?_)
  · rw [h, ← hK]
    show bd (f_X11_morning N iY (va_up sY 6 (dayH (sY 6) P)) tY jY) _ = _
    rw [y_morning N iY _ tY jY hN, q_bd]
    have e0 : ∀ k, k < 131 → dayA (sY 6) P k = sY 6 k := fun k hk => by
      unfold dayA; rw [pk_un (by omega), morn_o _ (by omega), dayH_o _ _ (by omega)]
    have e4 := e0 4 (by omega)
    have e1 : mornS (dayH (sY 6) P) 131 = sY 6 131 := by rw [morn_o _ (by omega), dayH_o _ _ (by omega)]
    simp only [q_nv, q_ve, q_vv, e1]
    have e2 : upd (mornS (dayH (sY 6) P)) 131 (sY 6 131 + 1) = dayA (sY 6) P := rfl
    rw [e2, e4]
    unfold dayS
    split
    · rfl
    rename_i hb
    have e3 : dayA (sY 6) P 131 = sY 6 131 + 1 := pk_us
    rw [e3]
    have enz : ∀ k : Option (Nat → Nat → Int32), nz (sY 6 4) k = k := fun k => by unfold nz; rw [if_neg hb]
    rw [enz]
    split
    · refine q_loopF (fun k x v => f_X11_day_96 N iY tY jY k x v) some 56 N (by omega) (fun i => va_up sY 6 (forgS (dayA (sY 6) P) i)) _ ?_ (fun k => ?_) (fun k i hi => ?_)
      · have : forgS (dayA (sY 6) P) 0 = dayA (sY 6) P := by funext k; unfold forgS; rw [if_neg (by omega)]
        show _ = va_up sY 6 (forgS (dayA (sY 6) P) 0)
        rw [this]
      · rw [f_X11_day_96, L56, if_pos (nI_le (a := 56) (Nat.le_refl _) (by omega))]
      · show f_X11_day_96 N iY tY jY (k + 1) _ _ = f_X11_day_96 N iY tY jY k _ _
        rw [f_X11_day_96, L56, if_neg (nI_ge (b := 56) hi (by omega))]
        simp (disch := omega) only [L2, L3, L4, L5, L6, L7, L8, L9, L10, L11, L12, L13, L14, L15, L16, L17, L18, L19, L20, L21, L22, L23, L24, L30, L35, L40, L41, L47, L48, L56, L57, L59, L60, L61, L62, L80, L82, L96, L97, L117, L122, L124, L131, L136, L143, L145, L178, L200, L213, L220, L224, L227, L256, L277, L400, L457, L900, L920, L940, L999, L1015, L9999, L1000000, nI_add, pk_mul, nI_1, q_ck, q_ix, q_nv, q_ve, q_vv, forg_s]
    · rfl
  · show f_X11_day_2 N iY tY jY K (k + 1) _ _ = _
    rw [f_X11_day_2]
    have : (va_up sY 6 (dayH (sY 6) P)) 6 0 = nI P := by rw [q_ve, dayH_o _ _ (by omega)]; exact h0
    rw [this, if_pos (nI_le (Nat.le_refl _) (by omega))]
  · show f_X11_day_2 N iY tY jY K (k + 1) _ _ = f_X11_day_2 N iY tY jY K k _ _
    rw [f_X11_day_2]
    have c0 : (va_up sY 6 (dayH (sY 6) i)) 6 0 = nI P := by rw [q_ve, dayH_o _ _ (by omega)]; exact h0
    have c1 : (va_up sY 6 (dayH (sY 6) i)) 6 1 = nI Q := by rw [q_ve, dayH_o _ _ (by omega)]; exact h1
    have c2 : CE ((va_up sY 6 (dayH (sY 6) i)) 6) 178 P Q 9 := by rw [q_ve]; exact hc.to (fun k hk => dayH_o _ _ (by omega))
    rw [c0, if_neg (nI_ge hi (by omega)), y_wantsOf N iY _ tY jY hN (by omega) hQ c1 c2, q_bd, hng_y, q_bd]
    simp (disch := omega) only [L2, L3, L4, L5, L6, L7, L8, L9, L10, L11, L12, L13, L14, L15, L16, L17, L18, L19, L20, L21, L22, L23, L24, L30, L35, L40, L41, L47, L48, L56, L57, L59, L60, L61, L62, L80, L82, L96, L97, L117, L122, L124, L131, L136, L143, L145, L178, L200, L213, L220, L224, L227, L256, L277, L400, L457, L900, L920, L940, L999, L1015, L9999, L1000000, nI_add, pk_mul, nI_1, q_ck, q_ix, q_nv, q_ve, q_vv]
    rfl
end
