/-! PURE: county -/
def clH (g : Nat → Int32) : Nat → Int32 := upd (upd (fun k => if k < 131 then 0 else g k) 2 2) 3 1
theorem clH_0 (g : Nat → Int32) {k : Nat} (h : k < 131) (h2 : k ≠ 2) (h3 : k ≠ 3) : clH g k = 0 := by
  unfold clH; rw [pk_un h3, pk_un h2, if_pos h]
def csS (s h : Nat → Int32) (i : Nat) : Nat → Int32 := fun k => if k < i then (if k < 131 then h k else 0) else s k
def nmS (t : Nat → Int64) (i : Nat) : Nat → Int64 := fun k => if k < i then t (12 + k) else t k
def coS (s : Nat → Int32) (i : Nat) : Nat → Int32 := fun k => if 136 ≤ k ∧ k < 136 + i then s (k - 131) else s k
def newS (s h : Nat → Int32) : Nat → Int32 := mornS (coS (csS s h 457) 7)
theorem cs_s (s h : Nat → Int32) (i : Nat) : upd (csS s h i) i (if i < 131 then h i else 0) = csS s h (i + 1) := by
  funext k
  by_cases c : k = i
  · subst c; rw [pk_us]; unfold csS; rw [if_pos (show k < k + 1 by omega)]
  · rw [pk_un c]; unfold csS
    by_cases h2 : k < i
    · rw [if_pos h2, if_pos (show k < i + 1 by omega)]
    · rw [if_neg h2, if_neg (show ¬ k < i + 1 by omega)]
theorem nm_s (t : Nat → Int64) {i : Nat} (hi : i < 12) : vp_updL (nmS t i) i (nmS t i (12 + i)) = nmS t (i + 1) := by
  have e : nmS t i (12 + i) = t (12 + i) := by unfold nmS; rw [if_neg (by omega)]
  rw [e]
  funext k
  by_cases c : k = i
  · subst c; rw [pk_uLs]; unfold nmS; rw [if_pos (by omega)]
  · rw [pk_uLn c]; unfold nmS
    by_cases h2 : k < i
    · rw [if_pos h2, if_pos (by omega)]
    · rw [if_neg h2, if_neg (by omega)]
theorem co_s (s : Nat → Int32) {i : Nat} (hi : i < 7) : upd (coS s i) (136 + i) (coS s i (5 + i)) = coS s (i + 1) := by
  have e : coS s i (5 + i) = s (5 + i) := by unfold coS; rw [if_neg (by omega)]
  rw [e]
  funext k
  by_cases c : k = 136 + i
  · subst c; rw [pk_us]; unfold coS; rw [if_pos (by omega), show 136 + i - 131 = 5 + i by omega]
  · rw [pk_un c]; unfold coS
    by_cases h2 : 136 ≤ k ∧ k < 136 + i
    · rw [if_pos h2, if_pos (by omega)]
    · rw [if_neg h2, if_neg (by omega)]
theorem co_o (s : Nat → Int32) {k : Nat} (h : k < 136 ∨ 143 ≤ k) : coS s 7 k = s k := by unfold coS; rw [if_neg (by omega)]
theorem cs_h (s h : Nat → Int32) {k : Nat} (hk : k < 131) : csS s h 457 k = h k := by unfold csS; rw [if_pos (by omega), if_pos hk]
theorem cs_z (s h : Nat → Int32) {k : Nat} (h1 : 131 ≤ k) (h2 : k < 457) : csS s h 457 k = 0 := by unfold csS; rw [if_pos h2, if_neg (by omega)]
theorem new_h (s h : Nat → Int32) {k : Nat} (hk : k < 131) : newS s h k = h k := by
  unfold newS; rw [morn_o _ (by omega), co_o _ (by omega), cs_h _ _ hk]
theorem new_z (s h : Nat → Int32) {k : Nat} (h1 : k = 131 ∨ k = 132 ∨ 213 ≤ k) (h2 : k < 457) : newS s h k = 0 := by
  unfold newS; rw [morn_o _ (by omega), co_o _ (by omega), cs_z _ _ (by omega) h2]
theorem new_c (s h : Nat → Int32) {k : Nat} (hk : k < 7) : newS s h (136 + k) = h (5 + k) := by
  unfold newS; rw [morn_o _ (by omega)]
  unfold coS
  rw [if_pos (by omega), show 136 + k - 131 = 5 + k by omega, cs_h _ _ (by omega)]
theorem new_s (s h : Nat → Int32) {k : Nat} (hk : k < 35) : newS s h (143 + k) = h (12 + k) := by
  unfold newS; rw [morn_a _ hk, co_o _ (by omega), cs_h _ _ (by omega)]
theorem new_w (s h : Nat → Int32) {k : Nat} (hk : k < 35) : newS s h (178 + k) = h (82 + k) := by
  unfold newS; rw [morn_b _ hk, co_o _ (by omega), cs_h _ _ (by omega)]
theorem new_135 (s h : Nat → Int32) : newS s h 135 = h 3 ∧ newS s h 133 = 0 ∧ newS s h 134 = 0 := by
  unfold newS mornS
  refine ⟨?_, ?_, ?_⟩
  · rw [pk_us, co_o _ (by omega), cs_h _ _ (by omega)]
  · rw [pk_un (by omega), pk_un (by omega), pk_us]
  · rw [pk_un (by omega), pk_us]
section
variable {s h : Nat → Int32} {P Q : Nat}
theorem new_IL (hL : IL h P Q) : IL (newS s h) P Q := hL.to (fun k hk => new_h s h hk)
theorem new_ID (hL : IL h P Q) : ID (newS s h) P Q := by
  refine ⟨⟨0, by omega, new_z s h (by omega) (by omega)⟩, ?_, ?_, ?_, ?_, fun p hp _ => new_z s h (by omega) (by omega), fun p q hp hq => ⟨?_, Or.inr ?_⟩⟩
  · rw [(new_135 s h).1]; exact hL.ve
  · intro p g hp hg
    rw [new_s s h (by omega)]; exact hL.st p g hp hg
  · intro p g hp hg
    rw [new_w s h (by omega)]; exact hL.wa p g hp hg
  · intro p q hp hq
    rw [new_z s h (by omega) (by omega), tb_0] at hq; cases hq
  · rw [new_z s h (by omega) (by omega), new_z s h (by omega) (by omega)]
  · obtain ⟨d, h1, h2, h3⟩ := hL.de
    exact ⟨0, d, h2, by rw [new_h s h (by omega)]; exact h3, new_z s h (by omega) (by omega), Or.inl (by omega)⟩
end
section
variable (N : Nat) {sT : Nat → Nat → Int32} {iT : Nat → Int32} {jT : Nat → Int64} {qX : Nat → Option Nat} {iX iM : Nat → Int32} {sM : Nat → Nat → Int32} {iC : Nat → Int32} {tC : Nat → Nat → Int64} {sC : Nat → Nat → Int32} {iC2 : Nat → Int32} {tC2 : Nat → Nat → Int64} {sC2 : Nat → Nat → Int32} {iS : Nat → Int32} {sS : Nat → Nat → Int32} {iR : Nat → Int32}
variable (iY : Nat → Int32) (sY : Nat → Nat → Int32) (tY : Nat → Nat → Int64) (jY : Nat → Int64)
theorem y_clears (hN : 2000 ≤ N) : f_X11_clears N iY sY tY jY = some (va_up sY 7 (clH (sY 7))) := by
  unfold f_X11_clears
  rw [q_jn]
  have key := q_loopG (fun k i => f_X11_clears_2 N iY tY jY (fun (z : (Nat → Nat → Int32)) => match z with | sY_4 => nv (upd (sY_4 7) 2 2) (fun g_5 => nv (upd g_5 3 1) (fun g_6 => some (va_up sY_4 7 g_6)))) k (va_up sY 7 (fun k => if k < i then 0 else sY 7 k)) (nI i)) (some (va_up sY 7 (clH (sY 7)))) 131 N (by omega) (fun k => by
    show f_X11_clears_2 N iY tY jY _ (k + 1) _ _ = _
    rw [f_X11_clears_2, L131, if_pos (nI_le (Nat.le_refl _) (by omega))]
    dsimp only
    rw [q_nv, q_nv, q_ve, q_vv]; rfl) (fun k i hi => by
    show f_X11_clears_2 N iY tY jY _ (k + 1) _ _ = f_X11_clears_2 N iY tY jY _ k _ _
    rw [f_X11_clears_2, L131, if_neg (nI_ge hi (by omega)), q_ck hi (by omega), q_nv, show ix (nI i) = i from q_ix (by omega), q_ve, q_vv, nI_1]
    have e : upd (fun k => if k < i then 0 else sY 7 k) i 0 = (fun k => if k < i + 1 then 0 else sY 7 k) := by
      funext j
      by_cases c : j = i
      · subst c; rw [pk_us, if_pos (by omega)]
      · rw [pk_un c]
        by_cases h2 : j < i
        · rw [if_pos h2, if_pos (by omega)]
        · rw [if_neg h2, if_neg (by omega)]
    rw [e])
  refine Eq.trans ?_ key
  show _ = f_X11_clears_2 N iY tY jY _ N (va_up sY 7 (fun k => if k < 0 then 0 else sY 7 k)) 0
  rw [show (fun k => if k < 0 then (0 : Int32) else sY 7 k) = sY 7 from funext (fun k => if_neg (by omega)), q_vid]
theorem y_80 (hN : 2000 ≤ N) (K : (Nat → Nat → Int32) → Option (Int32 × (Nat → Int32) × (Nat → Nat → Int32) × (Nat → Nat → Int64) × (Nat → Int64))) : f_X11_county_80 N iY tY jY K N sY 0 = K (va_up sY 6 (csS (sY 6) (sY 7) 457)) := by
  have key := q_loopG (fun k i => f_X11_county_80 N iY tY jY K k (va_up sY 6 (csS (sY 6) (sY 7) i)) (nI i)) (K (va_up sY 6 (csS (sY 6) (sY 7) 457))) 457 N (by omega) (fun k => by
    show f_X11_county_80 N iY tY jY K (k + 1) _ _ = _
    rw [f_X11_county_80, L457, if_pos (nI_le (Nat.le_refl _) (by omega))]) (fun k i hi => by
    show f_X11_county_80 N iY tY jY K (k + 1) _ _ = f_X11_county_80 N iY tY jY K k _ _
    rw [f_X11_county_80, L457, if_neg (nI_ge hi (by omega)), q_jn, L131, i_le (by omega) (by omega), ← cs_s, nI_1]
    by_cases c : 131 ≤ i
    · rw [if_pos c, if_neg (show ¬ i < 131 by omega)]
      dsimp only
      rw [q_ck hi (by omega), q_nv, show ix (nI i) = i from q_ix (by omega), q_ve, q_vv]
    · rw [if_neg c, if_pos (show i < 131 by omega), q_ck (show i < 131 by omega) (by omega)]
      dsimp only
      rw [q_ck hi (by omega), q_nv, show ix (nI i) = i from q_ix (by omega), q_ve, q_vv, q_vn _ _ (show 7 ≠ 6 by omega)])
  refine Eq.trans ?_ key
  show _ = f_X11_county_80 N iY tY jY K N (va_up sY 6 (csS (sY 6) (sY 7) 0)) 0
  rw [show csS (sY 6) (sY 7) 0 = sY 6 from funext (fun k => if_neg (by omega)), q_vid]
theorem y_118 (hN : 2000 ≤ N) (K : (Nat → Nat → Int64) → Option (Int32 × (Nat → Int32) × (Nat → Nat → Int32) × (Nat → Nat → Int64) × (Nat → Int64))) : f_X11_county_118 N iY sY jY K N tY 0 = K (va_up tY 9 (nmS (tY 9) 12)) := by
  have key := q_loopG (fun k i => f_X11_county_118 N iY sY jY K k (va_up tY 9 (nmS (tY 9) i)) (nI i)) (K (va_up tY 9 (nmS (tY 9) 12))) 12 N (by omega) (fun k => by
    show f_X11_county_118 N iY sY jY K (k + 1) _ _ = _
    rw [f_X11_county_118, L12, if_pos (nI_le (Nat.le_refl _) (by omega))]) (fun k i hi => by
    show f_X11_county_118 N iY sY jY K (k + 1) _ _ = f_X11_county_118 N iY sY jY K k _ _
    rw [f_X11_county_118, L12, if_neg (nI_ge hi (by omega)), nI_add, q_ck (show 12 + i < 24 by omega) (by omega), q_ck (show i < 24 by omega) (by omega), q_nv, show ix (nI i) = i from q_ix (by omega), show ix (nI (12 + i)) = 12 + i from q_ix (by omega), q_ve, q_vv, nI_1, nm_s _ hi])
  refine Eq.trans ?_ key
  show _ = f_X11_county_118 N iY sY jY K N (va_up tY 9 (nmS (tY 9) 0)) 0
  rw [show nmS (tY 9) 0 = tY 9 from funext (fun k => if_neg (by omega)), q_vid]
theorem y_147 (hN : 2000 ≤ N) (K : (Nat → Nat → Int32) → Option (Int32 × (Nat → Int32) × (Nat → Nat → Int32) × (Nat → Nat → Int64) × (Nat → Int64))) : f_X11_county_147 N iY tY jY K N sY 0 = K (va_up sY 6 (coS (sY 6) 7)) := by
  have key := q_loopG (fun k i => f_X11_county_147 N iY tY jY K k (va_up sY 6 (coS (sY 6) i)) (nI i)) (K (va_up sY 6 (coS (sY 6) 7))) 7 N (by omega) (fun k => by
    show f_X11_county_147 N iY tY jY K (k + 1) _ _ = _
    rw [f_X11_county_147, L7, if_pos (nI_le (Nat.le_refl _) (by omega))]) (fun k i hi => by
    show f_X11_county_147 N iY tY jY K (k + 1) _ _ = f_X11_county_147 N iY tY jY K k _ _
    rw [f_X11_county_147, L7, if_neg (nI_ge hi (by omega)), L5, nI_add, L136, nI_add, q_ck (show 5 + i < 457 by omega) (by omega), q_ck (show 136 + i < 457 by omega) (by omega), q_nv, show ix (nI (5 + i)) = 5 + i from q_ix (by omega), show ix (nI (136 + i)) = 136 + i from q_ix (by omega), q_ve, q_vv, nI_1, co_s _ hi])
  refine Eq.trans ?_ key
  show _ = f_X11_county_147 N iY tY jY K N (va_up sY 6 (coS (sY 6) 0)) 0
  rw [show coS (sY 6) 0 = sY 6 from funext (fun k => if_neg (by omega)), q_vid]
theorem x_begin {s h : Nat → Int32} (hC : CP h iC sC) : ∃ iM' sM', f_X4_begin N iM sM iC tC sC = some (iM', sM') ∧ MP (newS s h) iM' sM' := by
  unfold f_X4_begin f_X4_forget f_X4_dawn
  simp only [q_nv, q_bd]
  obtain ⟨n1, n2, n3⟩ := new_135 s h
  refine ⟨_, _, rfl, ?_, ?_, ?_, ?_, ?_, fun k hk => ⟨?_, ?_, ?_⟩, fun k hk => ⟨?_, ?_⟩, fun k hk => ?_⟩
  · rw [new_z s h (by omega) (by omega)]; rfl
  · rw [n2]; rfl
  · rw [n3]; rfl
  · rw [n1]; exact hC.ve
  · rw [new_z s h (by omega) (by omega)]; rfl
  · rw [new_c s h hk]
    show va_cpy (sC 3) (sM 6) 0 0 7 k = _
    rw [sb_cpy0 hk]; exact hC.co hk
  · rw [new_z s h (by omega) (by omega)]
    show fl_i 7 (sM 7) 0 k = 0
    unfold fl_i; rw [if_pos hk]
  · rw [new_z s h (by omega) (by omega)]
    show fl_i 7 (sM 8) 0 k = 0
    unfold fl_i; rw [if_pos hk]
  · rw [new_s s h hk]
    show va_cpy (sC 6) (sM 9) 0 0 35 k = _
    rw [sb_cpy0 hk]; exact hC.st hk
  · rw [new_w s h hk]
    show va_cpy (sC 7) (sM 10) 0 0 35 k = _
    rw [sb_cpy0 hk]; exact hC.wa hk
  · rw [new_z s h (by omega) (by omega)]
    show fl_i 49 (sM 11) 0 k = 0
    unfold fl_i; rw [if_pos hk]
theorem x_copyC {h : Nat → Int32} {P Q : Nat} {ty : Nat → Int64} {base : Nat} (hC : CP h iC2 sC2) (hn : NM (tC2 2) ty base P Q) (iC : Nat → Int32) (tC : Nat → Nat → Int64) (sC : Nat → Nat → Int32) (hP : P ≤ 7) (hQ : Q ≤ 5) : ∃ iC' tC' sC', f_X1_copyFrom N iC tC sC iC2 tC2 sC2 = some (iC', tC', sC') ∧ CP h iC' sC' ∧ NM (tC' 2) ty base P Q := by
  unfold f_X1_copyFrom
  simp only [q_nv]
  refine ⟨_, _, _, rfl, ⟨hC.pe, hC.go, hC.de, hC.ve, hC.be, fun k hk => ⟨?_, ?_, ?_⟩, fun k hk => ⟨?_, ?_, ?_⟩⟩, ?_⟩
  · show va_cpy (sC2 3) (sC 3) 0 0 7 k = _
    rw [sb_cpy0 hk]; exact hC.co hk
  · show va_cpy (sC2 4) (sC 4) 0 0 7 k = _
    rw [sb_cpy0 hk]; exact hC.kn hk
  · show va_cpy (sC2 5) (sC 5) 0 0 7 k = _
    rw [sb_cpy0 hk]; exact hC.fo hk
  · show va_cpy (sC2 6) (sC 6) 0 0 35 k = _
    rw [sb_cpy0 hk]; exact hC.st hk
  · show va_cpy (sC2 7) (sC 7) 0 0 35 k = _
    rw [sb_cpy0 hk]; exact hC.wa hk
  · show va_cpy (sC2 8) (sC 8) 0 0 35 k = _
    rw [sb_cpy0 hk]; exact hC.pr hk
  · have e : ∀ k, k < 12 → va_cpy (tC2 2) (tC 2) 0 0 12 k = tC2 2 k := fun k hk => by unfold va_cpy; rw [if_pos (by omega), Nat.zero_add, Nat.sub_zero]
    obtain ⟨n1, n2, n3, n4, n5⟩ := hn
    show NM (va_cpy (tC2 2) (tC 2) 0 0 12) ty base P Q
    refine ⟨fun k hk => ?_, fun k h1 h2 => ?_, fun k hk => ?_, fun k h1 h2 => ?_, fun i j hi hj he hne => ?_⟩
    · rw [e k (by omega)]; exact n1 k hk
    · rw [e k (by omega)]; exact n2 k h1 h2
    · rw [e _ (by omega)]; exact n3 k hk
    · rw [e _ (by omega)]; exact n4 k h1 h2
    · rw [e i hi, e j hj] at he
      rw [e i hi] at hne
      exact n5 i j hi hj he hne
theorem nm_base {tc t : Nat → Int64} {P Q : Nat} (h : NM tc t 12 P Q) (hP : P ≤ 7) (hQ : Q ≤ 5) : NM tc (nmS t 12) 0 P Q := by
  obtain ⟨n1, n2, n3, n4, n5⟩ := h
  refine ⟨fun k hk => ?_, n2, fun k hk => ?_, n4, n5⟩
  · unfold nmS; rw [Nat.zero_add, if_pos (by omega)]; exact n1 k hk
  · unfold nmS; rw [if_pos (by omega), show 12 + (0 + 7 + k) = 12 + 7 + k by omega]; exact n3 k hk
theorem b_county (hN : 2000 ≤ N) {L : Nat} (hL9 : L ≤ 940) (h1 : iT 1 = nI L) (h2 : iY 2 = nI L) (hB : ∀ k, k < 940 → sT 0 k = sY 1 k &&& 255) (hR : ∀ k, k < 24 → tY 10 k = lN (e256 (wds k))) :
    (∃ r iR' iT' jT' iC2' tC2' sC2' iY' sY' tY' jY', f_X10_county N qX iX iM sM iC tC sC iC2 tC2 sC2 iS sS iR sT iT jT = some (r, iX, iM, sM, iC, tC, sC, iC2', tC2', sC2', iS, iR', va_up iT' 1 0, jT') ∧ f_X11_county N iY sY tY jY = some (r, iY', sY', tY', jY') ∧ iT' 11 = iY' 15 ∧ iY' 2 = 0 ∧ (∀ k, gk k = true → k ≠ 0 → k ≠ 2 → iY' k = iY k) ∧ (∀ k, k ≠ 7 → sY' k = sY k) ∧ (∀ k, k ≠ 9 → tY' k = tY k) ∧ ∀ k, k < 12 → tY' 9 k = tY 9 k) ∨
    (∃ r P Q iM' sM' iC' tC' sC' iR' iT' jT' iC2' tC2' sC2' iY' sY' tY' jY', f_X10_county N qX iX iM sM iC tC sC iC2 tC2 sC2 iS sS iR sT iT jT = some (r, va_up iX 6 0, iM', sM', iC', tC', sC', iC2', tC2', sC2', va_up (va_up iS 0 0) 1 0, iR', va_up iT' 1 0, jT') ∧ f_X11_county N iY sY tY jY = some (r, iY', sY', tY', jY') ∧ iT' 11 = iY' 15 ∧ iY' 2 = 0 ∧ iY' 23 = 0 ∧ (∀ k, gk k = true → k ≠ 0 → k ≠ 2 → k ≠ 23 → iY' k = iY k) ∧ (∀ k, k ≠ 6 → k ≠ 7 → sY' k = sY k) ∧ (∀ k, k ≠ 9 → tY' k = tY k) ∧ CP (sY' 6) iC' sC' ∧ MP (sY' 6) iM' sM' ∧ IL (sY' 6) P Q ∧ ID (sY' 6) P Q ∧ NM (tC' 2) (tY' 9) 0 P Q ∧ sY' 6 276 = 0) := by
  unfold f_X10_county f_X2_readText f_X11_county f_X11_taken
  rw [q_bd, y_clears N _ sY tY jY hN, q_bd]
  have ecl : ∃ iC3 tC3 sC3, f_X1_clear N iC2 tC2 sC2 = some (iC3, tC3, sC3) ∧ CP (clH (sY 7)) iC3 sC3 ∧ NM (tC3 2) (tY 9) 12 0 0 := by
    unfold f_X1_clear
    simp only [q_nv]
    refine ⟨_, _, _, rfl, ⟨?_, ?_, rfl, rfl, ?_, fun k hk => ⟨?_, ?_, ?_⟩, fun k hk => ⟨?_, ?_, ?_⟩⟩, fun k hk => absurd hk (Nat.not_lt_zero _), fun k _ hk => ?_, fun k hk => absurd hk (Nat.not_lt_zero _), fun k _ hk => ?_, fun i j hi hj he hne => ?_⟩
    · rw [clH_0 _ (by omega) (by omega) (by omega)]; rfl
    · rw [clH_0 _ (by omega) (by omega) (by omega)]; rfl
    · rw [clH_0 _ (by omega) (by omega) (by omega)]; rfl
    · rw [clH_0 _ (by omega) (by omega) (by omega)]; show fl_i 7 (sC2 3) 0 k = 0; unfold fl_i; rw [if_pos hk]
    · rw [clH_0 _ (by omega) (by omega) (by omega)]; show fl_i 7 (sC2 4) 0 k = 0; unfold fl_i; rw [if_pos hk]
    · rw [clH_0 _ (by omega) (by omega) (by omega)]; show fl_i 7 (sC2 5) 0 k = 0; unfold fl_i; rw [if_pos hk]
    · rw [clH_0 _ (by omega) (by omega) (by omega)]; show fl_i 35 (sC2 6) 0 k = 0; unfold fl_i; rw [if_pos hk]
    · rw [clH_0 _ (by omega) (by omega) (by omega)]; show fl_i 35 (sC2 7) 0 k = 0; unfold fl_i; rw [if_pos hk]
    · rw [clH_0 _ (by omega) (by omega) (by omega)]; show fl_i 35 (sC2 8) (-1) k = 0 - 1; unfold fl_i; rw [if_pos hk]; rfl
    · show fl_l 12 (tC2 2) 0 k = 0; unfold fl_l; rw [if_pos (by omega)]
    · show fl_l 12 (tC2 2) 0 (7 + k) = 0; unfold fl_l; rw [if_pos (by omega)]
    · exact absurd (show fl_l 12 (tC2 2) 0 i = 0 by unfold fl_l; rw [if_pos hi]) hne
  have hIL0 : IL (clH (sY 7)) 0 0 := by
    have z : ∀ base m, 12 ≤ base → base + 35 ≤ 131 → CE (clH (sY 7)) base 0 0 m := fun base m h3 h4 p g hp hg => ⟨0, Nat.zero_le _, clH_0 _ (by omega) (by omega) (by omega), fun _ => rfl⟩
    have y : ∀ base, 12 ≤ base → base + 7 ≤ 131 → SY (clH (sY 7)) base 0 := fun base h3 h4 p q hp hq => by
      rw [clH_0 _ (by omega) (by omega) (by omega), tb_0] at hq; cases hq
    exact ⟨by omega, by omega, clH_0 _ (by omega) (by omega) (by omega), clH_0 _ (by omega) (by omega) (by omega), ⟨2, by omega, by omega, rfl⟩, ⟨1, by omega, rfl⟩, ⟨0, by omega, clH_0 _ (by omega) (by omega) (by omega)⟩, z 12 9 (by omega) (by omega), z 47 21 (by omega) (by omega), z 82 9 (by omega) (by omega), y 117 (by omega) (by omega), y 124 (by omega) (by omega)⟩
  obtain ⟨iC3, tC3, sC3, c1, c2, c3⟩ := ecl
  rw [c1, q_bd]
  dsimp only
  generalize hz : va_up (va_up (va_up (va_up (va_up (va_up (va_up (va_up iY 0 0) 3 (va_up iY 0 0 2)) 2 0) 4 0) 5 900) 15 0) 19 0) 20 0 = zY
  have z3 : zY 3 = nI L := by rw [← hz]; exact h2
  have z4 : zY 4 = 0 := by rw [← hz]; rfl
  have z5 : zY 5 = nI 900 := by rw [← hz]; rfl
  have z2 : zY 2 = 0 := by rw [← hz]; rfl
  have z15 : zY 15 = 0 := by rw [← hz]; rfl
  have z19 : zY 19 = nI 0 := by rw [← hz]; rfl
  have z20 : zY 20 = 0 := by rw [← hz]; rfl
  have zo : ∀ k, gk k = true → k ≠ 0 → k ≠ 2 → zY k = iY k := by
    intro k hk h0 h2
    have ne : ∀ j, gk j = false → k ≠ j := fun j hj e => by rw [e, hj] at hk; cases hk
    rw [← hz, q_vn _ _ (ne 20 rfl), q_vn _ _ (ne 19 rfl), q_vn _ _ (ne 15 rfl), q_vn _ _ (ne 5 rfl), q_vn _ _ (ne 4 rfl), q_vn _ _ h2, q_vn _ _ (ne 3 rfl), q_vn _ _ h0]
  have hB7 : ∀ k, k < 940 → sT 0 k = va_up sY 7 (clH (sY 7)) 1 k &&& 255 := hB
  obtain ⟨iT1, jT1, iY1, jY1, st, o1, o2, o3, o4, o5⟩ := b_open N (sT := sT) (iT := iT) (jT := jT) (iY := zY) (sY := va_up sY 7 (clH (sY 7))) (jY := jY) (lim := 900) hN hB7 tY hL9 (by omega) h1 z3 z4 z5
  rw [show f_X8_open N sT iT jT 900 = _ from o1, o2, q_bd, q_bd]
  dsimp only
  rw [q_jn, q_jn, q_jn]
  have hD : DR (va_up (va_up (va_up iR 2 0) 3 0) 4 0) iC3 tC3 sC3 iY1 (va_up sY 7 (clH (sY 7))) tY 0 0 := by
    have e20 : iY1 20 = 0 := o5.at.2.2.trans z20
    exact ⟨c2, hIL0, c3, by rw [e20, tb_0]; rfl, by rw [e20, tb_0]; rfl, by rw [e20, tb_0]; rfl⟩
  have loop := fun K72 K8 => cty_loop N (sT := sT) hN (L := L) (lim := 900) (by omega) K72 K8 940 N N st 0 0 0 (va_up (va_up (va_up iR 2 0) 3 0) 4 0) iT1 jT1 iC3 tC3 sC3 iY1 (va_up sY 7 (clH (sY 7))) tY jY1 (by omega) (by omega) (by omega) (by omega) hB7 hR o3 hD (o5.at.2.1.trans z19) o4 (o5.at.1.trans z15)
  rcases loop _ _ with ⟨iR', iT', jT', iC', tC', sC', iY', sY', tY', jY', e1, e2, e3, e4⟩ | ⟨m, P, Q, iR', iT', jT', iC', tC', sC', iY', sY', tY', jY', hm, e1, e2, e3, e4, e5, e6, e7⟩
  · refine Or.inl ⟨_, iR', iT', jT', iC', tC', sC', iY', sY', tY', jY', ?_, e2, e3.1, ?_, ?_, ?_, ?_, ?_⟩
    · show bd (f_X2_readText_34 N sT (KXc N sT) N (va_up (va_up (va_up iR 2 0) 3 0) 4 0) iT1 jT1 iC3 tC3 sC3 (nI 0)) _ = _
      rw [e1, q_bd]
      dsimp only
      rw [if_pos rfl, e3.2]
    · rw [e4.1 2 rfl, o5.gf 2 rfl]; exact z2
    · intro k hk h0 h2; rw [e4.1 k hk, o5.gf k hk]; exact zo k hk h0 h2
    · intro k hk; rw [e4.2.1 k hk, q_vn _ _ hk]
    · intro k hk; exact e4.2.2.1 k hk
    · intro k hk; exact e4.2.2.2 k hk
  · obtain ⟨d1, d2, d3, -⟩ := e6
    have hP := d2.P7
    have hQ := d2.Q5
    obtain ⟨iC4, tC4, sC4, g1, g2, g3⟩ := x_copyC N d1 d3 iC tC sC hP hQ
    obtain ⟨iM4, sM4, k1, k2⟩ := x_begin N (iM := iM) (sM := sM) (tC := tC4) (s := sY' 6) g2
    refine Or.inr ⟨nI m, P, Q, iM4, sM4, iC4, tC4, sC4, iR', iT', jT', iC', tC', sC', va_up iY' 23 0, va_up sY' 6 (newS (sY' 6) (sY' 7)), va_up tY' 9 (nmS (tY' 9) 12), jY', ?_, ?_, ?_, ?_, rfl, ?_, ?_, ?_, ?_, ?_, ?_, ?_, ?_, ?_⟩
    · show bd (f_X2_readText_34 N sT (KXc N sT) N (va_up (va_up (va_up iR 2 0) 3 0) 4 0) iT1 jT1 iC3 tC3 sC3 (nI 0)) _ = _
      rw [e1, q_bd]
      dsimp only
      rw [if_neg (nI_m1 (by omega)), g1, q_bd]
      dsimp only
      rw [k1, q_bd]
      rfl
    · refine Eq.trans e2 ?_
      dsimp only
      rw [q_jn, y_80 N iY' sY' tY' jY' hN, q_jn, y_118 N iY' _ tY' jY' hN, q_jn, y_147 N iY' _ _ jY' hN]
      rw [y_morning N _ _ _ _ hN, q_bd, q_ve, q_ve, q_vv, q_vv, e3]
      rfl
    · exact e4.trans e5.symm
    · show iY' 2 = 0
      rw [e7.1 2 rfl, o5.gf 2 rfl]; exact z2
    · intro k hk h0 h2 h23; rw [q_vn _ _ h23, e7.1 k hk, o5.gf k hk]; exact zo k hk h0 h2
    · intro k h6 h7; rw [q_vn _ _ h6, e7.2.1 k h7, q_vn _ _ h7]
    · intro k hk; rw [q_vn _ _ hk]; exact e7.2.2.1 k hk
    · rw [q_ve]; exact g2.to (fun k hk => new_h _ _ hk)
    · rw [q_ve]; exact k2
    · rw [q_ve]; exact new_IL d2
    · rw [q_ve]; exact new_ID d2
    · rw [q_ve]; exact nm_base g3 hP hQ
    · rw [q_ve]; exact new_z _ _ (by omega) (by omega)
end
