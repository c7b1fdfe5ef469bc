/-! PURE: what is kept for undo -/
section
variable {s : Nat → Int32} {iC : Nat → Int32} {sC : Nat → Nat → Int32} {iM : Nat → Int32} {sM : Nat → Nat → Int32} {P Q : Nat}
theorem ID.to {s' : Nat → Int32} (h : ID s P Q) (hP : P ≤ 7) (e : ∀ k, k < 276 → s' k = s k) : ID s' P Q := by
  refine ⟨by rw [e _ (by omega)]; exact h.da, by rw [e _ (by omega)]; exact h.vl, h.st.to (fun k hk => e _ (by omega)), h.wa.to (fun k hk => e _ (by omega)), h.me.to hP (fun k hk => e _ (by omega)), fun p hp hPp => by rw [e _ (by omega)]; exact h.hu p hp hPp, fun p q hp hq => ?_⟩
  rw [e _ (by omega), e _ (by omega), e _ (by omega), e _ (by omega), e _ (by omega)]
  exact h.dl p q hp hq
def rowS (s u : Nat → Int32) (j : Nat) : Nat → Int32 := fun k => if 131 ≤ k ∧ k < 276 then u (145 * j + (k - 131)) else s k
def RK (s u : Nat → Int32) (n : Nat) (iU : Nat → Nat → Int32) (sU : Nat → Nat → Nat → Int32) (P Q : Nat) : Prop := n ≤ 8 ∧ ∀ j, j < n → MP (rowS s u j) (iU j) (sU j) ∧ ID (rowS s u j) P Q
theorem RK.to {s' u : Nat → Int32} {n : Nat} {iU : Nat → Nat → Int32} {sU : Nat → Nat → Nat → Int32} (h : RK s u n iU sU P Q) (hP : P ≤ 7) (e : ∀ k, k < 131 → s' k = s k) : RK s' u n iU sU P Q := by
  refine ⟨h.1, fun j hj => ?_⟩
  obtain ⟨h1, h2⟩ := h.2 j hj
  have e1 : ∀ k, k < 276 → rowS s' u j k = rowS s u j k := by
    intro k hk
    unfold rowS
    split
    · rfl
    · rw [e k (by omega)]
  exact ⟨h1.to (fun k _ h => e1 k h), h2.to hP e1⟩
theorem RK.zero (s u : Nat → Int32) (iU : Nat → Nat → Int32) (sU : Nat → Nat → Nat → Int32) : RK s u 0 iU sU P Q := ⟨by omega, fun j hj => absurd hj (Nat.not_lt_zero _)⟩
def shU (u : Nat → Int32) (i : Nat) : Nat → Int32 := fun k => if k < i then u (k + 145) else u k
def cpU (s u : Nat → Int32) (m i : Nat) : Nat → Int32 := fun k => if 145 * m ≤ k ∧ k < 145 * m + i then s (131 + (k - 145 * m)) else u k
theorem shU_s (u : Nat → Int32) (i : Nat) : upd (shU u i) i ((shU u i) (i + 145)) = shU u (i + 1) := by
  have e : shU u i (i + 145) = u (i + 145) := by unfold shU; rw [if_neg (by omega)]
  rw [e]
  funext k
  by_cases h : k = i
  · subst h; rw [pk_us]; unfold shU; rw [if_pos (by omega)]
  · rw [pk_un h]; unfold shU
    by_cases h2 : k < i
    · rw [if_pos h2, if_pos (by omega)]
    · rw [if_neg h2, if_neg (by omega)]
theorem cpU_s (s u : Nat → Int32) (m i : Nat) : upd (cpU s u m i) (145 * m + i) (s (131 + i)) = cpU s u m (i + 1) := by
  funext k
  by_cases h : k = 145 * m + i
  · subst h; rw [pk_us]; unfold cpU; rw [if_pos (by omega), show 131 + (145 * m + i - 145 * m) = 131 + i by omega]
  · rw [pk_un h]; unfold cpU
    by_cases h2 : 145 * m ≤ k ∧ k < 145 * m + i
    · rw [if_pos h2, if_pos (by omega)]
    · rw [if_neg h2, if_neg (by omega)]
theorem row_new (s u : Nat → Int32) (m : Nat) : rowS s (cpU s u m 145) m = s := by
  funext k; unfold rowS cpU
  by_cases h : 131 ≤ k ∧ k < 276
  · rw [if_pos h, if_pos (by omega), show 131 + (145 * m + (k - 131) - 145 * m) = k by omega]
  · rw [if_neg h]
theorem row_old (s u : Nat → Int32) {m j : Nat} (hj : j < m) : rowS s (cpU s u m 145) j = rowS s u j := by
  funext k; unfold rowS cpU
  by_cases h : 131 ≤ k ∧ k < 276
  · rw [if_pos h, if_pos h, if_neg (by omega)]
  · rw [if_neg h, if_neg h]
theorem row_sh (s u : Nat → Int32) {j : Nat} (hj : j < 7) : rowS s (shU u 1015) j = rowS s u (j + 1) := by
  funext k; unfold rowS shU
  by_cases h : 131 ≤ k ∧ k < 276
  · rw [if_pos h, if_pos h, if_pos (by omega), show 145 * j + (k - 131) + 145 = 145 * (j + 1) + (k - 131) by omega]
  · rw [if_neg h, if_neg h]
end
section
variable (N : Nat) (iY : Nat → Int32) (sY : Nat → Nat → Int32) (tY : Nat → Nat → Int64) (jY : Nat → Int64)
theorem y_keep_48 (hN : 2000 ≤ N) (K : (Nat → Nat → Int32) → Option ((Nat → Int32) × (Nat → Nat → Int32))) {m : Nat} (hm : m < 8) (h : iY 23 = nI m) : f_X11_keep_48 N iY tY jY K N sY 0 = K (va_up sY 21 (cpU (sY 6) (sY 21) m 145)) := by
  refine q_loopF (fun k x v => f_X11_keep_48 N iY tY jY K k x v) K 145 N (by omega) (fun i => va_up sY 21 (cpU (sY 6) (sY 21) m i)) sY ?_ (fun k => ?_) (fun k i hi => ?_)
  · have : cpU (sY 6) (sY 21) m 0 = sY 21 := by funext k; unfold cpU; rw [if_neg (by omega)]
    show sY = va_up sY 21 (cpU (sY 6) (sY 21) m 0)
    rw [this, q_vid]
  · rw [f_X11_keep_48, L145, if_pos (nI_le (Nat.le_refl _) (by omega))]
  · show f_X11_keep_48 N iY tY jY K (k + 1) _ _ = f_X11_keep_48 N iY tY jY K k _ _
    rw [f_X11_keep_48, L145, if_neg (nI_ge hi (by omega)), h]
    simp (disch := omega) only [L2, L3, L4, L5, L6, L7, L8, L9, L10, L11, L12, L13, L14, L15, L16, L17, L18, L19, L20, L21, L22, L23, L24, L30, L35, L40, L41, L47, L48, L56, L57, L59, L60, L61, L62, L80, L82, L96, L97, L117, L122, L124, L131, L136, L143, L145, L178, L200, L213, L220, L224, L227, L256, L277, L400, L457, L900, L920, L940, L999, L1015, L9999, L1000000, nI_add, pk_mul, nI_1, q_ck, q_ix, q_nv, q_ve, q_vv, q_vn, cpU_s]
theorem y_keep (hN : 2000 ≤ N) {n : Nat} (hn : n < 8) (h : iY 23 = nI n) : f_X11_keep N iY sY tY jY = some (va_up iY 23 (nI (n + 1)), va_up sY 21 (cpU (sY 6) (sY 21) n 145)) := by
  unfold f_X11_keep
  rw [q_jn, h, if_neg (show ¬ nI n = 8 from nI_nb (b := 8) (by omega) (by omega) (by omega))]
  show jn _ _ = _
  rw [q_jn, y_keep_48 N iY sY tY jY hN _ hn h, h, nI_1]
theorem y_keep8 (hN : 2000 ≤ N) (h : iY 23 = nI 8) : f_X11_keep N iY sY tY jY = some (va_up iY 23 (nI 8), va_up sY 21 (cpU (sY 6) (shU (sY 21) 1015) 7 145)) := by
  unfold f_X11_keep
  rw [q_jn, h, if_pos (show nI 8 = 8 from rfl), q_jn]
  have e := q_loopF (fun k x v => f_X11_keep_11 N iY tY jY (fun (z : (Nat → Nat → Int32)) => match z with | sY_25 => (fun (z : (Nat → Int32) × (Nat → Nat → Int32)) => match z with | (iY_4, sY_5) => jn (fun (z : (Nat → Nat → Int32)) => match z with | sY_9 => some ((va_up iY_4 23 ((iY_4 23) + 1)), sY_9)) (fun K_6 => f_X11_keep_48 N iY_4 tY jY K_6 N sY_5 0)) ((va_up iY 23 7), sY_25)) (fun (z : (Nat → Int32) × (Nat → Nat → Int32)) => match z with | (iY_4, sY_5) => jn (fun (z : (Nat → Nat → Int32)) => match z with | sY_9 => some ((va_up iY_4 23 ((iY_4 23) + 1)), sY_9)) (fun K_6 => f_X11_keep_48 N iY_4 tY jY K_6 N sY_5 0)) k x v) (fun (z : (Nat → Nat → Int32)) => match z with | sY_25 => (fun (z : (Nat → Int32) × (Nat → Nat → Int32)) => match z with | (iY_4, sY_5) => jn (fun (z : (Nat → Nat → Int32)) => match z with | sY_9 => some ((va_up iY_4 23 ((iY_4 23) + 1)), sY_9)) (fun K_6 => f_X11_keep_48 N iY_4 tY jY K_6 N sY_5 0)) ((va_up iY 23 7), sY_25)) 1015 N (by omega) (fun i => va_up sY 21 (shU (sY 21) i)) sY ?_ (fun k => ?_) (fun k i hi => ?_)
  · refine Eq.trans e ?_
    show jn _ _ = _
    rw [q_jn, y_keep_48 N (va_up iY 23 7) (va_up sY 21 (shU (sY 21) 1015)) tY jY hN _ (m := 7) (by omega) rfl]
    show some (va_up (va_up iY 23 7) 23 ((va_up iY 23 7) 23 + 1), _) = _
    rw [q_vv, q_vv, q_ve, q_ve, q_vn _ _ (show 6 ≠ 21 by omega)]
    rfl
  · have : shU (sY 21) 0 = sY 21 := by funext k; unfold shU; rw [if_neg (by omega)]
    show sY = va_up sY 21 (shU (sY 21) 0)
    rw [this, q_vid]
  · rw [f_X11_keep_11, L1015, if_pos (nI_le (Nat.le_refl _) (by omega))]
  · show f_X11_keep_11 N iY tY jY _ _ (k + 1) _ _ = f_X11_keep_11 N iY tY jY _ _ k _ _
    rw [f_X11_keep_11, L1015, if_neg (nI_ge hi (by omega))]
    simp (disch := omega) only [L2, L3, L4, L5, L6, L7, L8, L9, L10, L11, L12, L13, L14, L15, L16, L17, L18, L19, L20, L21, L22, L23, L24, L30, L35, L40, L41, L47, L48, L56, L57, L59, L60, L61, L62, L80, L82, L96, L97, L117, L122, L124, L131, L136, L143, L145, L178, L200, L213, L220, L224, L227, L256, L277, L400, L457, L900, L920, L940, L999, L1015, L9999, L1000000, nI_add, pk_mul, nI_1, q_ck, q_ix, q_nv, q_ve, q_vv, shU_s]
end
section
variable (N : Nat) {s u : Nat → Int32} {iX : Nat → Int32} {iM : Nat → Int32} {sM : Nat → Nat → Int32} {aU : Nat → Nat → Nat} {iU : Nat → Nat → Int32} {sU : Nat → Nat → Nat → Int32} {P Q : Nat}
theorem x_copyM (hM : MP s iM sM) (iM2 : Nat → Int32) (sM2 : Nat → Nat → Int32) : ∃ iM' sM', f_X4_copyFrom N iM2 sM2 iM sM = some (iM', sM') ∧ MP s iM' sM' := by
  unfold f_X4_copyFrom
  simp only [q_nv]
  refine ⟨_, _, rfl, hM.da, hM.ho, hM.vd, hM.vl, hM.bo, fun k hk => ⟨?_, ?_, ?_⟩, fun k hk => ⟨?_, ?_⟩, fun k hk => ?_⟩
  · show va_cpy (sM 6) (sM2 6) 0 0 7 k = _
    rw [sb_cpy0 hk]; exact hM.co hk
  · show va_cpy (sM 7) (sM2 7) 0 0 7 k = _
    rw [sb_cpy0 hk]; exact hM.hu hk
  · show va_cpy (sM 8) (sM2 8) 0 0 7 k = _
    rw [sb_cpy0 hk]; exact hM.me hk
  · show va_cpy (sM 9) (sM2 9) 0 0 35 k = _
    rw [sb_cpy0 hk]; exact hM.st hk
  · show va_cpy (sM 10) (sM2 10) 0 0 35 k = _
    rw [sb_cpy0 hk]; exact hM.wa hk
  · show va_cpy (sM 11) (sM2 11) 0 0 49 k = _
    rw [sb_cpy0 hk]; exact hM.dl hk
theorem lt8 {p : Nat → Prop} (h0 : p 0) (h1 : p 1) (h2 : p 2) (h3 : p 3) (h4 : p 4) (h5 : p 5) (h6 : p 6) (h7 : p 7) : ∀ n, n < 8 → p n
  | 0, _ => h0
  | 1, _ => h1
  | 2, _ => h2
  | 3, _ => h3
  | 4, _ => h4
  | 5, _ => h5
  | 6, _ => h6
  | 7, _ => h7
  | n + 8, h => absurd h (by omega)
theorem x_keepA (hM : MP s iM sM) : ∀ n, n < 8 → iX 6 = nI n → ∃ iU' sU', f_X10_keepU N iX iM sM aU iU sU = some (va_up iX 6 (nI (n + 1)), aU, iU', sU') ∧ (∀ j, j < n → iU' j = iU j ∧ sU' j = sU j) ∧ MP s (iU' n) (sU' n) := by
  have hj : ∀ {n : Nat} {iU' : Nat → Nat → Int32} {sU' : Nat → Nat → Nat → Int32}, n < 8 → (n ≠ 0 → iU' 0 = iU 0 ∧ sU' 0 = sU 0) → (n ≠ 1 → iU' 1 = iU 1 ∧ sU' 1 = sU 1) → (n ≠ 2 → iU' 2 = iU 2 ∧ sU' 2 = sU 2) → (n ≠ 3 → iU' 3 = iU 3 ∧ sU' 3 = sU 3) → (n ≠ 4 → iU' 4 = iU 4 ∧ sU' 4 = sU 4) → (n ≠ 5 → iU' 5 = iU 5 ∧ sU' 5 = sU 5) → (n ≠ 6 → iU' 6 = iU 6 ∧ sU' 6 = sU 6) → (n ≠ 7 → iU' 7 = iU 7 ∧ sU' 7 = sU 7) → ∀ j, j < n → iU' j = iU j ∧ sU' j = sU j := by
    intro n iU' sU' hn h0 h1 h2 h3 h4 h5 h6 h7 j hj
    exact lt8 (p := fun j => n ≠ j → iU' j = iU j ∧ sU' j = sU j) h0 h1 h2 h3 h4 h5 h6 h7 j (by omega) (by omega)
  refine lt8 ?_ ?_ ?_ ?_ ?_ ?_ ?_ ?_
  · intro h
    obtain ⟨iM', sM', e, hm⟩ := x_copyM N hM (iU 0) (sU 0)
    unfold f_X10_keepU f_X10_keepForUndo_A
    rw [h, if_pos (show nI 0 < 8 by decide), if_pos (show nI 0 = 0 by decide), e]
    exact ⟨_, _, rfl, fun j hj => absurd hj (Nat.not_lt_zero _), hm⟩
  · intro h
    obtain ⟨iM', sM', e, hm⟩ := x_copyM N hM (iU 1) (sU 1)
    unfold f_X10_keepU f_X10_keepForUndo_A
    rw [h, if_pos (show nI 1 < 8 by decide), if_neg (show ¬ nI 1 = 0 by decide), if_pos (show nI 1 = 1 by decide), e]
    exact ⟨_, _, rfl, hj (by omega) (fun _ => ⟨rfl, rfl⟩) (fun h => absurd rfl h) (fun _ => ⟨rfl, rfl⟩) (fun _ => ⟨rfl, rfl⟩) (fun _ => ⟨rfl, rfl⟩) (fun _ => ⟨rfl, rfl⟩) (fun _ => ⟨rfl, rfl⟩) (fun _ => ⟨rfl, rfl⟩), hm⟩
  · intro h
    obtain ⟨iM', sM', e, hm⟩ := x_copyM N hM (iU 2) (sU 2)
    unfold f_X10_keepU f_X10_keepForUndo_A
    rw [h, if_pos (show nI 2 < 8 by decide), if_neg (show ¬ nI 2 = 0 by decide), if_neg (show ¬ nI 2 = 1 by decide), if_pos (show nI 2 = 2 by decide), e]
    exact ⟨_, _, rfl, hj (by omega) (fun _ => ⟨rfl, rfl⟩) (fun _ => ⟨rfl, rfl⟩) (fun h => absurd rfl h) (fun _ => ⟨rfl, rfl⟩) (fun _ => ⟨rfl, rfl⟩) (fun _ => ⟨rfl, rfl⟩) (fun _ => ⟨rfl, rfl⟩) (fun _ => ⟨rfl, rfl⟩), hm⟩
  · intro h
    obtain ⟨iM', sM', e, hm⟩ := x_copyM N hM (iU 3) (sU 3)
    unfold f_X10_keepU f_X10_keepForUndo_A
    rw [h, if_pos (show nI 3 < 8 by decide), if_neg (show ¬ nI 3 = 0 by decide), if_neg (show ¬ nI 3 = 1 by decide), if_neg (show ¬ nI 3 = 2 by decide), if_pos (show nI 3 = 3 by decide), e]
    exact ⟨_, _, rfl, hj (by omega) (fun _ => ⟨rfl, rfl⟩) (fun _ => ⟨rfl, rfl⟩) (fun _ => ⟨rfl, rfl⟩) (fun h => absurd rfl h) (fun _ => ⟨rfl, rfl⟩) (fun _ => ⟨rfl, rfl⟩) (fun _ => ⟨rfl, rfl⟩) (fun _ => ⟨rfl, rfl⟩), hm⟩
  · intro h
    obtain ⟨iM', sM', e, hm⟩ := x_copyM N hM (iU 4) (sU 4)
    unfold f_X10_keepU f_X10_keepForUndo_A
    rw [h, if_pos (show nI 4 < 8 by decide), if_neg (show ¬ nI 4 = 0 by decide), if_neg (show ¬ nI 4 = 1 by decide), if_neg (show ¬ nI 4 = 2 by decide), if_neg (show ¬ nI 4 = 3 by decide), if_pos (show nI 4 = 4 by decide), e]
    exact ⟨_, _, rfl, hj (by omega) (fun _ => ⟨rfl, rfl⟩) (fun _ => ⟨rfl, rfl⟩) (fun _ => ⟨rfl, rfl⟩) (fun _ => ⟨rfl, rfl⟩) (fun h => absurd rfl h) (fun _ => ⟨rfl, rfl⟩) (fun _ => ⟨rfl, rfl⟩) (fun _ => ⟨rfl, rfl⟩), hm⟩
  · intro h
    obtain ⟨iM', sM', e, hm⟩ := x_copyM N hM (iU 5) (sU 5)
    unfold f_X10_keepU f_X10_keepForUndo_A
    rw [h, if_pos (show nI 5 < 8 by decide), if_neg (show ¬ nI 5 = 0 by decide), if_neg (show ¬ nI 5 = 1 by decide), if_neg (show ¬ nI 5 = 2 by decide), if_neg (show ¬ nI 5 = 3 by decide), if_neg (show ¬ nI 5 = 4 by decide), if_pos (show nI 5 = 5 by decide), e]
    exact ⟨_, _, rfl, hj (by omega) (fun _ => ⟨rfl, rfl⟩) (fun _ => ⟨rfl, rfl⟩) (fun _ => ⟨rfl, rfl⟩) (fun _ => ⟨rfl, rfl⟩) (fun _ => ⟨rfl, rfl⟩) (fun h => absurd rfl h) (fun _ => ⟨rfl, rfl⟩) (fun _ => ⟨rfl, rfl⟩), hm⟩
  · intro h
    obtain ⟨iM', sM', e, hm⟩ := x_copyM N hM (iU 6) (sU 6)
    unfold f_X10_keepU f_X10_keepForUndo_A
    rw [h, if_pos (show nI 6 < 8 by decide), if_neg (show ¬ nI 6 = 0 by decide), if_neg (show ¬ nI 6 = 1 by decide), if_neg (show ¬ nI 6 = 2 by decide), if_neg (show ¬ nI 6 = 3 by decide), if_neg (show ¬ nI 6 = 4 by decide), if_neg (show ¬ nI 6 = 5 by decide), if_pos (show nI 6 = 6 by decide), e]
    exact ⟨_, _, rfl, hj (by omega) (fun _ => ⟨rfl, rfl⟩) (fun _ => ⟨rfl, rfl⟩) (fun _ => ⟨rfl, rfl⟩) (fun _ => ⟨rfl, rfl⟩) (fun _ => ⟨rfl, rfl⟩) (fun _ => ⟨rfl, rfl⟩) (fun h => absurd rfl h) (fun _ => ⟨rfl, rfl⟩), hm⟩
  · intro h
    obtain ⟨iM', sM', e, hm⟩ := x_copyM N hM (iU 7) (sU 7)
    unfold f_X10_keepU f_X10_keepForUndo_A
    rw [h, if_pos (show nI 7 < 8 by decide), if_neg (show ¬ nI 7 = 0 by decide), if_neg (show ¬ nI 7 = 1 by decide), if_neg (show ¬ nI 7 = 2 by decide), if_neg (show ¬ nI 7 = 3 by decide), if_neg (show ¬ nI 7 = 4 by decide), if_neg (show ¬ nI 7 = 5 by decide), if_neg (show ¬ nI 7 = 6 by decide), if_pos (show nI 7 = 7 by decide), e]
    exact ⟨_, _, rfl, hj (by omega) (fun _ => ⟨rfl, rfl⟩) (fun _ => ⟨rfl, rfl⟩) (fun _ => ⟨rfl, rfl⟩) (fun _ => ⟨rfl, rfl⟩) (fun _ => ⟨rfl, rfl⟩) (fun _ => ⟨rfl, rfl⟩) (fun _ => ⟨rfl, rfl⟩) (fun h => absurd rfl h), hm⟩
theorem x_keepB (hM : MP s iM sM) (h : iX 6 = nI 8) : ∃ iU' sU', f_X10_keepU N iX iM sM aU iU sU = some (va_up iX 6 (nI 8), rotf aU, iU', sU') ∧ (∀ j, j < 7 → iU' j = iU (j + 1) ∧ sU' j = sU (j + 1)) ∧ MP s (iU' 7) (sU' 7) := by
  obtain ⟨iM', sM', e, hm⟩ := x_copyM N hM (iU 0) (sU 0)
  unfold f_X10_keepU f_X10_keepForUndo_B
  rw [h, if_neg (show ¬ nI 8 < 8 by decide), e]
  refine ⟨_, _, rfl, fun j hj => ?_, hm⟩
  match j, hj with
  | 0, _ => exact ⟨rfl, rfl⟩
  | 1, _ => exact ⟨rfl, rfl⟩
  | 2, _ => exact ⟨rfl, rfl⟩
  | 3, _ => exact ⟨rfl, rfl⟩
  | 4, _ => exact ⟨rfl, rfl⟩
  | 5, _ => exact ⟨rfl, rfl⟩
  | 6, _ => exact ⟨rfl, rfl⟩
/-- both keep alike -/
theorem b_keep (hN : 2000 ≤ N) (iY : Nat → Int32) (sY : Nat → Nat → Int32) (tY : Nat → Nat → Int64) (jY : Nat → Int64) {n : Nat} (hX : iX 6 = nI n) (hY : iY 23 = nI n) (hM : MP (sY 6) iM sM) (hI : ID (sY 6) P Q) (hK : RK (sY 6) (sY 21) n iU sU P Q) :
    ∃ n' u' aU' iU' sU', f_X10_keepU N iX iM sM aU iU sU = some (va_up iX 6 (nI n'), aU', iU', sU') ∧ f_X11_keep N iY sY tY jY = some (va_up iY 23 (nI n'), va_up sY 21 u') ∧ RK (sY 6) u' n' iU' sU' P Q := by
  rcases Nat.lt_or_ge n 8 with h8 | h8
  · obtain ⟨iU', sU', e, ho, hm⟩ := x_keepA N (aU := aU) (iU := iU) (sU := sU) hM n h8 hX
    refine ⟨n + 1, _, _, _, _, e, y_keep N iY sY tY jY hN h8 hY, ⟨by omega, fun j hj => ?_⟩⟩
    rcases Nat.lt_or_ge j n with h1 | h1
    · rw [row_old _ _ h1, (ho j h1).1, (ho j h1).2]; exact hK.2 j h1
    · have : j = n := by omega
      subst this
      rw [row_new]; exact ⟨hm, hI⟩
  · have : n = 8 := by have := hK.1; omega
    subst this
    obtain ⟨iU', sU', e, ho, hm⟩ := x_keepB N (aU := aU) (iU := iU) (sU := sU) hM hX
    refine ⟨8, _, _, _, _, e, y_keep8 N iY sY tY jY hN hY, ⟨by omega, fun j hj => ?_⟩⟩
    rcases Nat.lt_or_ge j 7 with h1 | h1
    · rw [row_old _ _ h1, row_sh _ _ h1, (ho j h1).1, (ho j h1).2]; exact hK.2 (j + 1) (by omega)
    · have : j = 7 := by omega
      subst this
      rw [row_new]; exact ⟨hm, hI⟩
end
