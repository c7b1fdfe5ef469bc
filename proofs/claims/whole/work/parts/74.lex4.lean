/-! PURE: next, both sides alike -/
section
variable (N : Nat) {iY : Nat → Int32} {sY : Nat → Nat → Int32} {tY : Nat → Nat → Int64} {jY : Nat → Int64} {L : Nat}
theorem y_nextE (hN : 2000 ≤ N) {b n lim : Nat} (hL : L ≤ 940) (hlim : lim ≤ 940) (h3 : iY 3 = nI L) (h4 : iY 4 = nI b) (h5 : iY 5 = nI lim) (hn : ∀ i, i < n → b + i < L ∧ blk (oc (sY 1) (b + i)) = true) (hb : b + n ≤ L) (hend : b + n = L ∨ blk (oc (sY 1) (b + n)) = false) (hc : min L lim ≤ b + n) :
    ∃ z, f_X11_next N iY sY tY jY = some (z, jY) ∧ z 4 = nI (b + n) ∧ z 11 = (if lim < L then 4 else 0) ∧ z 12 = nI (min L lim) ∧ ∀ k, k ≠ 4 → k ≠ 11 → k ≠ 12 → k ≠ 13 → z k = iY k := by
  have key : ∀ K : (Nat → Int32) → Option ((Nat → Int32) × (Nat → Int64)), ∃ z, (z 4 = nI (b + n) ∧ ∀ k, k ≠ 4 → z k = iY k) ∧ f_X11_next_0 N sY tY jY K N iY = K z := fun K => y_skip N hN hL h3 h4 hn hb hend K
  unfold f_X11_next
  rw [q_jn]
  obtain ⟨z, ⟨z4, zo⟩, e⟩ := key _
  have z3 := (zo 3 (by omega)).trans h3
  have z5 := (zo 5 (by omega)).trans h5
  rw [e]
  dsimp only
  rw [q_jn, z3, z5, z4, i_le (by omega) (by omega), i_lt (by omega) (by omega)]
  by_cases c : lim < L
  · rw [if_neg (show ¬ L ≤ lim by omega), if_neg (show ¬ b + n < lim by omega)]
    refine ⟨_, rfl, z4, by rw [if_pos c]; rfl, ?_, fun k k4 k11 k12 k13 => ?_⟩
    · show nI lim = _
      exact congrArg nI (by omega)
    · rw [q_vn _ _ k11, q_vn _ _ k13, q_vn _ _ k12]; exact zo k k4
  · rw [if_pos (show L ≤ lim by omega), show f_X11_peek N (va_up (va_up z 12 (nI (b + n))) 13 0) sY tY jY = some (-1) from y_peekE N (p := b + n) hL z3 z4 (by omega) (by omega), q_bd, if_neg (by decide)]
    refine ⟨_, rfl, z4, by rw [if_neg c]; rfl, ?_, fun k k4 k11 k12 k13 => ?_⟩
    · show nI (b + n) = _
      exact congrArg nI (by omega)
    · rw [q_vn _ _ k11, q_vn _ _ k13, q_vn _ _ k12]; exact zo k k4
theorem y_nextT (hN : 2000 ≤ N) {b n m lim : Nat} (hL : L ≤ 940) (hlim : lim ≤ 940) (h3 : iY 3 = nI L) (h4 : iY 4 = nI b) (h5 : iY 5 = nI lim) (hn : ∀ i, i < n → b + i < L ∧ blk (oc (sY 1) (b + i)) = true) (hst : b + n < L) (hst2 : b + n < lim) (hnb : blk (oc (sY 1) (b + n)) = false) (hm : b + n + m ≤ L) (hr : ∀ i, i < m → rc (oc (sY 1) (b + n + i)) = true) (hend : b + n + m = L ∨ rc (oc (sY 1) (b + n + m)) = false) :
    ∃ z w, f_X11_next N iY sY tY jY = some (z, w) ∧ z 12 = nI (b + n) ∧ (∀ k, k ≠ 4 → k ≠ 11 → k ≠ 12 → k ≠ 13 → k ≠ 14 → z k = iY k) ∧
      ((m = 0 ∧ z 4 = nI (b + n + 1) ∧ z 11 = (if sgn (oc (sY 1) (b + n)) then 3 else 4) ∧ z 14 = nI (oc (sY 1) (b + n))) ∨
       (1 ≤ m ∧ z 4 = nI (b + n + m) ∧ z 14 = nnS (oc (sY 1)) (b + n) m ∧ w 17 = wwS (oc (sY 1)) (b + n) m ∧ z 11 = (if alS (oc (sY 1)) (b + n) (isLt (oc (sY 1) (b + n))) m = true ∧ m ≤ (if isLt (oc (sY 1) (b + n)) then 7 else 3) then (if isLt (oc (sY 1) (b + n)) then 1 else 2) else 4))) := by
  have key : ∀ K : (Nat → Int32) → Option ((Nat → Int32) × (Nat → Int64)), ∃ z, (z 4 = nI (b + n) ∧ ∀ k, k ≠ 4 → z k = iY k) ∧ f_X11_next_0 N sY tY jY K N iY = K z := fun K => y_skip N hN hL h3 h4 hn (by omega) (Or.inr hnb) K
  unfold f_X11_next
  rw [q_jn]
  obtain ⟨z, ⟨z4, zo⟩, e⟩ := key _
  have z3 := (zo 3 (by omega)).trans h3
  have z5 := (zo 5 (by omega)).trans h5
  have hc := oc_lt (sY 1) (b + n)
  rw [e]
  dsimp only
  have ek : ∀ {α : Type} {x y : α}, (if z 3 ≤ z 5 then x else if z 4 < z 5 then x else y) = x := by
    intro α x y
    rw [z3, z5, z4, i_le (by omega) (by omega), i_lt (by omega) (by omega), if_pos hst2]
    split <;> rfl
  rw [q_jn, ek, show f_X11_peek N (va_up (va_up z 12 (z 4)) 13 0) sY tY jY = some (nI (oc (sY 1) (b + n))) from y_peekI N (p := b + n) hL z3 z4 hst, q_bd, if_pos (show (0 : Int32) ≤ nI (oc (sY 1) (b + n)) from nI_le (a := 0) (by omega) (by omega)), y_small N hc, q_bd, q_jn]
  have hcase : rc (oc (sY 1) (b + n)) = decide (m ≠ 0) := by
    by_cases hm0 : m = 0
    · subst hm0
      rcases hend with h | h
      · omega
      · rw [Nat.add_zero] at h; rw [h]; rfl
    · have := hr 0 (by omega)
      rw [Nat.add_zero] at this
      rw [this, decide_eq_true hm0]
  unfold rc at hcase
  by_cases hm0 : m = 0
  · subst hm0
    rw [show decide (0 ≠ 0) = false from rfl, Bool.or_eq_false_iff] at hcase
    rw [hcase.1, bI_ff, y_digit N hc, q_bd, hcase.2, bI_ff, q_jn, q_jn]
    refine ⟨va_up (va_up (va_up (va_up (va_up z 12 (z 4)) 13 0) 11 (if sgn (oc (sY 1) (b + n)) then 3 else 4)) 14 (nI (oc (sY 1) (b + n)))) 4 (nI (b + n + 1)), jY, ?_, z4, fun k k4 k11 k12 k13 k14 => ?_, Or.inl ⟨rfl, rfl, rfl, rfl⟩⟩
    · simp only [q_jn]
      rw [show z 4 + 1 = nI (b + n + 1) from by rw [z4, nI_1], L59, L40, L41, L60, L62, i_eq (by omega) (by omega), i_eq (by omega) (by omega), i_eq (by omega) (by omega), i_lt (by omega) (by omega), i_lt (by omega) (by omega)]
      unfold sgn
      by_cases c1 : oc (sY 1) (b + n) = 59
      · rw [if_pos c1, decide_eq_true c1]; rfl
      rw [if_neg c1, decide_eq_false c1]
      by_cases c5 : oc (sY 1) (b + n) = 40
      · rw [if_pos c5, decide_eq_true c5]
        cases decide (oc (sY 1) (b + n) = 60) <;> cases decide (oc (sY 1) (b + n) = 61) <;> cases decide (oc (sY 1) (b + n) = 62) <;> rfl
      rw [if_neg c5, decide_eq_false c5]
      by_cases c6 : oc (sY 1) (b + n) = 41
      · rw [if_pos c6, decide_eq_true c6]
        cases decide (oc (sY 1) (b + n) = 60) <;> cases decide (oc (sY 1) (b + n) = 61) <;> cases decide (oc (sY 1) (b + n) = 62) <;> rfl
      rw [if_neg c6, decide_eq_false c6]
      by_cases c7 : oc (sY 1) (b + n) < 60
      · rw [if_pos c7, decide_eq_false (by omega), decide_eq_false (by omega), decide_eq_false (by omega)]; rfl
      rw [if_neg c7]
      by_cases c8 : 62 < oc (sY 1) (b + n)
      · rw [if_pos c8, decide_eq_false (by omega), decide_eq_false (by omega), decide_eq_false (by omega)]; rfl
      rw [if_neg c8]
      rcases (by omega : oc (sY 1) (b + n) = 60 ∨ oc (sY 1) (b + n) = 61 ∨ oc (sY 1) (b + n) = 62) with h | h | h <;> rw [h] <;> rfl
    · rw [q_vn _ _ k4, q_vn _ _ k14, q_vn _ _ k11, q_vn _ _ k13, q_vn _ _ k12]; exact zo k k4
  · rw [decide_eq_true hm0] at hcase
    obtain ⟨y, w, ey, y4, y13, y14, w17, yo⟩ : ∃ y w, (bd (some (bI (isLt (oc (sY 1) (b + n))))) (fun r_16 => jn (fun (z : (Int32) × (Nat → Int32) × (Nat → Int64)) => match z with | (x3_21, iY_22, jY_23) => jn (fun (z : (Int32)) => match z with | y_27 => some ((va_up iY_22 11 y_27), jY_23)) (fun K_24 => jn (fun (z : Unit) => match z with | () => K_24 4) (fun K_28 => (if x3_21 = 0 then K_28 () else jn (fun (z : (Int32)) => match z with | y_35 => (if (iY_22 13) ≤ y_35 then (if r_16 = 0 then K_24 2 else K_24 1) else K_28 ())) (fun K_32 => (if r_16 = 0 then K_32 3 else K_32 7)))))) (fun K_18 => f_X11_next_181 N sY tY r_16 K_18 N (va_up (va_up (va_up z 12 (z 4)) 13 0) 14 0) (va_up jY 17 0) 1))) = some (va_up y 11 (if alS (oc (sY 1)) (b + n) (isLt (oc (sY 1) (b + n))) m = true ∧ m ≤ (if isLt (oc (sY 1) (b + n)) then 7 else 3) then (if isLt (oc (sY 1) (b + n)) then 1 else 2) else 4), w) ∧ y 4 = nI (b + n + m) ∧ y 13 = nI m ∧ y 14 = nnS (oc (sY 1)) (b + n) m ∧ w 17 = wwS (oc (sY 1)) (b + n) m ∧ ∀ k, k ≠ 4 → k ≠ 13 → k ≠ 14 → y k = va_up (va_up (va_up z 12 (z 4)) 13 0) 14 0 k := by
      have kr : ∀ K : Int32 × (Nat → Int32) × (Nat → Int64) → Option ((Nat → Int32) × (Nat → Int64)), ∃ y w, f_X11_next_181 N sY tY (bI (isLt (oc (sY 1) (b + n)))) K N (va_up (va_up (va_up z 12 (z 4)) 13 0) 14 0) (va_up jY 17 0) 1 = K (bI (alS (oc (sY 1)) (b + n) (isLt (oc (sY 1) (b + n))) m), y, w) ∧ y 4 = nI (b + n + m) ∧ y 13 = nI m ∧ y 14 = nnS (oc (sY 1)) (b + n) m ∧ w 17 = wwS (oc (sY 1)) (b + n) m ∧ ∀ k, k ≠ 4 → k ≠ 13 → k ≠ 14 → y k = va_up (va_up (va_up z 12 (z 4)) 13 0) 14 0 k := fun K => y_run N (zY := va_up (va_up (va_up z 12 (z 4)) 13 0) 14 0) (kY := va_up jY 17 0) hN hL z3 z4 rfl rfl rfl hm hr hend K
      rw [q_bd, q_jn]
      obtain ⟨y, w, e1, y4, y13, y14, w17, yo⟩ := kr _
      refine ⟨y, w, Eq.trans e1 ?_, y4, y13, y14, w17, yo⟩
      dsimp only
      simp only [q_jn, q_b0]
      rw [y13]
      cases hal : alS (oc (sY 1)) (b + n) (isLt (oc (sY 1) (b + n))) m with
      | false => rw [if_neg (by decide), if_neg (fun h => absurd h.1 (by decide))]
      | true =>
        rw [if_pos rfl]
        cases hsm : isLt (oc (sY 1) (b + n)) with
        | true =>
          rw [if_pos rfl, if_pos rfl, if_pos rfl, if_pos rfl, L7, i_le (by omega) (by omega)]
          by_cases c : m ≤ 7
          · rw [if_pos c, if_pos ⟨rfl, c⟩]
          · rw [if_neg c, if_neg (fun h => c h.2)]
        | false =>
          simp only [Bool.false_eq_true, if_false]
          rw [L3, i_le (by omega) (by omega)]
          by_cases c : m ≤ 3
          · rw [if_pos c, if_pos ⟨trivial, c⟩]
          · rw [if_neg c, if_neg (fun h => c h.2)]
    refine ⟨va_up y 11 (if alS (oc (sY 1)) (b + n) (isLt (oc (sY 1) (b + n))) m = true ∧ m ≤ (if isLt (oc (sY 1) (b + n)) then 7 else 3) then (if isLt (oc (sY 1) (b + n)) then 1 else 2) else 4), w, ?_, ?_, fun k k4 k11 k12 k13 k14 => ?_, Or.inr ⟨by omega, y4, y14, w17, rfl⟩⟩
    · cases h1 : isLt (oc (sY 1) (b + n)) with
      | true => rw [h1] at ey; exact ey
      | false =>
        rw [h1, Bool.false_or] at hcase
        rw [h1] at ey
        rw [bI_ff, y_digit N hc, q_bd, hcase, bI_tt]
        exact ey
    · show y 12 = _
      rw [yo 12 (by omega) (by omega) (by omega)]; exact z4
    · rw [q_vn _ _ k11, yo k k4 k13 k14, q_vn _ _ k14, q_vn _ _ k13, q_vn _ _ k12]; exact zo k k4
end
/-! where both stand -/
def TC (iT : Nat → Int32) (jT : Nat → Int64) (iY : Nat → Int32) (jY : Nat → Int64) : Prop :=
  (iT 5 = 1 ∧ iY 11 = 1 ∧ iT 8 = -1 ∧ WR (jT 10) (jY 17) ∧ PW (iT 7) (jT 10)) ∨
  (iT 5 = 2 ∧ iY 11 = 2 ∧ iT 7 = -1 ∧ iT 8 = -1 ∧ ∃ v, v ≤ 999 ∧ iT 9 = nI v ∧ iY 14 = nI v) ∨
  (iT 5 = 3 ∧ iY 11 = 3 ∧ iT 7 = -1 ∧ ∃ c, sgn c = true ∧ iT 8 = nI c ∧ iY 14 = nI c) ∨
  (iT 5 = 4 ∧ iY 11 = 4 ∧ iT 7 = -1 ∧ iT 8 = -1)
def TB (L lim : Nat) (iT iY : Nat → Int32) : Prop := L ≤ 940 ∧ lim ≤ 940 ∧ iT 1 = nI L ∧ iT 2 = nI (min L lim) ∧ iT 3 = bI (decide (lim < L)) ∧ iY 3 = nI L ∧ iY 5 = nI lim
def PR (L lim : Nat) (iT iY : Nat → Int32) (a b : Nat) : Prop := iT 4 = nI a ∧ iY 4 = nI b ∧ a ≤ L ∧ b ≤ L ∧ (a = b ∨ (min L lim ≤ a ∧ min L lim ≤ b))
def TR (L lim st : Nat) (iT : Nat → Int32) (jT : Nat → Int64) (iY : Nat → Int32) (jY : Nat → Int64) : Prop :=
  TB L lim iT iY ∧ iT 6 = nI st ∧ iY 12 = nI st ∧ ∃ a b, PR L lim iT iY a b ∧
  ((st = min L lim ∧ min L lim ≤ a ∧ min L lim ≤ b ∧ iT 5 = 0 ∧ iT 7 = -1 ∧ iT 8 = -1 ∧ iY 11 = (if lim < L then 4 else 0)) ∨ (st < min L lim ∧ st < a ∧ TC iT jT iY jY))
theorem sgn_in {c : Nat} (h : sgn c = true) : c = 59 ∨ c = 60 ∨ c = 61 ∨ c = 62 ∨ c = 40 ∨ c = 41 := by
  unfold sgn at h
  simp only [Bool.or_eq_true, decide_eq_true_eq] at h
  exact h
theorem b_next (N : Nat) (hN : 2000 ≤ N) {sT : Nat → Nat → Int32} {iT : Nat → Int32} {jT : Nat → Int64} {iY : Nat → Int32} {sY : Nat → Nat → Int32} (tY : Nat → Nat → Int64) {jY : Nat → Int64} {L lim a b : Nat} (hB : ∀ k, k < 940 → sT 0 k = sY 1 k &&& 255) (hTB : TB L lim iT iY) (hPR : PR L lim iT iY a b) :
    ∃ iT' jT' iY' jY' st, f_X8_next N sT iT jT = some (iT', jT') ∧ f_X11_next N iY sY tY jY = some (iY', jY') ∧ TR L lim st iT' jT' iY' jY' ∧ min a (min L lim) ≤ st ∧ (∀ k, k ≠ 4 → k ≠ 5 → k ≠ 6 → k ≠ 7 → k ≠ 8 → k ≠ 9 → iT' k = iT k) ∧ (∀ k, k ≠ 4 → k ≠ 11 → k ≠ 12 → k ≠ 13 → k ≠ 14 → iY' k = iY k) := by
  obtain ⟨hL, hlim, t1, t2, t3, y3, y5⟩ := hTB
  obtain ⟨t4, y4, haL, hbL, hab⟩ := hPR
  have ho := oc_lt (sY 1)
  have hB' : ∀ k, k < 940 → sT 0 k = nI (oc (sY 1) k) := fun k hk => by rw [hB k hk, oc_eq]
  -- the reference goes over its blanks
  obtain ⟨n, hn1, hn2⟩ := pk_least (fun n => b + n = L ∨ blk (oc (sY 1) (b + n)) = false) ⟨L - b, Or.inl (by omega)⟩
  have hbn : b + n ≤ L := by
    refine Nat.le_of_not_lt (fun h => ?_)
    exact hn2 (L - b) (by omega) (Or.inl (by omega))
  have hnb : ∀ i, i < n → b + i < L ∧ blk (oc (sY 1) (b + i)) = true := by
    intro i hi
    have h1 := hn2 i hi
    refine ⟨by omega, ?_⟩
    cases h : blk (oc (sY 1) (b + i)) with
    | true => rfl
    | false => exact absurd (Or.inr h) h1
  by_cases hE : min L lim ≤ b + n
  · -- the end
    obtain ⟨z, ez, z4, z11, z12, zo⟩ := y_nextE N (iY := iY) (sY := sY) (tY := tY) (jY := jY) hN hL hlim y3 y4 y5 hnb hbn hn1 hE
    obtain ⟨n', hx1, hx2, hx3⟩ : ∃ n', (∀ i, i < n' → a + i < min L lim ∧ blk (oc (sY 1) (a + i)) = true) ∧ min L lim ≤ a + n' ∧ a + n' ≤ L := by
      by_cases hca : min L lim ≤ a
      · exact ⟨0, fun i hi => absurd hi (Nat.not_lt_zero _), by omega, by omega⟩
      · have : a = b := by
          rcases hab with h | h
          · exact h
          · omega
        subst this
        exact ⟨min L lim - a, fun i hi => ⟨by omega, (hnb i (by omega)).2⟩, by omega, by omega⟩
    obtain ⟨x, ex, x4, x5, x6, x7, x8, xo⟩ := x_nextE N (sT := sT) (iT := iT) (jT := jT) hN ho hB' (cut := min L lim) (by omega) (by omega) t2 t4 hx1 hx2
    refine ⟨x, jT, z, jY, min L lim, ex, ez, ⟨⟨hL, hlim, ?_, ?_, ?_, ?_, ?_⟩, x6, z12, a + n', b + n, ⟨x4, z4, hx3, hbn, Or.inr ⟨hx2, hE⟩⟩, Or.inl ⟨rfl, hx2, hE, x5, x7, x8, z11⟩⟩, by omega, fun k k4 k5 k6 k7 k8 _ => xo k k4 k5 k6 k7 k8, fun k k4 k11 k12 k13 _ => zo k k4 k11 k12 k13⟩
    · rw [xo 1 (by omega) (by omega) (by omega) (by omega) (by omega)]; exact t1
    · rw [xo 2 (by omega) (by omega) (by omega) (by omega) (by omega)]; exact t2
    · rw [xo 3 (by omega) (by omega) (by omega) (by omega) (by omega)]; exact t3
    · rw [zo 3 (by omega) (by omega) (by omega) (by omega)]; exact y3
    · rw [zo 5 (by omega) (by omega) (by omega) (by omega)]; exact y5
  · -- a token
    have hab' : a = b := by
      rcases hab with h | h
      · exact h
      · omega
    subst hab'
    have hnbk : blk (oc (sY 1) (a + n)) = false := by
      rcases hn1 with h | h
      · omega
      · exact h
    obtain ⟨m, hm1, hm2⟩ := pk_least (fun m => a + n + m = L ∨ rc (oc (sY 1) (a + n + m)) = false) ⟨L - (a + n), Or.inl (by omega)⟩
    have hmL : a + n + m ≤ L := by
      refine Nat.le_of_not_lt (fun h => ?_)
      exact hm2 (L - (a + n)) (by omega) (Or.inl (by omega))
    have hmr : ∀ i, i < m → rc (oc (sY 1) (a + n + i)) = true := by
      intro i hi
      have h1 := hm2 i hi
      cases h : rc (oc (sY 1) (a + n + i)) with
      | true => rfl
      | false => exact absurd (Or.inr h) h1
    obtain ⟨x, u, ex, x6, xo, xc⟩ := x_nextT N (sT := sT) (iT := iT) (jT := jT) hN ho hB' (cut := min L lim) hL (by omega) t1 t2 t4 (fun i hi => ⟨by omega, (hnb i hi).2⟩) (by omega) hnbk hmL hmr hm1
    obtain ⟨z, w, ez, z12, zo, zc⟩ := y_nextT N (iY := iY) (sY := sY) (tY := tY) (jY := jY) hN hL hlim y3 y4 y5 hnb (by omega) (by omega) hnbk hmL hmr hm1
    have hTB' : TB L lim x z := by
      refine ⟨hL, hlim, ?_, ?_, ?_, ?_, ?_⟩
      · rw [xo 1 (by omega) (by omega) (by omega) (by omega) (by omega) (by omega)]; exact t1
      · rw [xo 2 (by omega) (by omega) (by omega) (by omega) (by omega) (by omega)]; exact t2
      · rw [xo 3 (by omega) (by omega) (by omega) (by omega) (by omega) (by omega)]; exact t3
      · rw [zo 3 (by omega) (by omega) (by omega) (by omega) (by omega)]; exact y3
      · rw [zo 5 (by omega) (by omega) (by omega) (by omega) (by omega)]; exact y5
    rcases xc with ⟨m0, x4, x7, x5, x8⟩ | ⟨m1, x4, x8, x9, u10, x5, x7⟩
    · rcases zc with ⟨-, z4, z11, z14⟩ | ⟨m1, -⟩
      · refine ⟨x, u, z, w, a + n, ex, ez, ⟨hTB', x6, z12, a + n + 1, a + n + 1, ⟨x4, z4, by omega, by omega, Or.inl rfl⟩, Or.inr ⟨by omega, by omega, ?_⟩⟩, by omega, xo, zo⟩
        cases hs : sgn (oc (sY 1) (a + n)) with
        | true =>
          rw [hs] at x5 x8 z11
          exact Or.inr (Or.inr (Or.inl ⟨x5, z11, x7, oc (sY 1) (a + n), hs, x8, z14⟩))
        | false =>
          rw [hs] at x5 x8 z11
          exact Or.inr (Or.inr (Or.inr ⟨x5, z11, x7, x8⟩))
      · omega
    · rcases zc with ⟨m0, -⟩ | ⟨-, z4, z14, w17, z11⟩
      · omega
      · refine ⟨x, u, z, w, a + n, ex, ez, ⟨hTB', x6, z12, a + n + m, a + n + m, ⟨x4, z4, by omega, by omega, Or.inl rfl⟩, Or.inr ⟨by omega, by omega, ?_⟩⟩, by omega, xo, zo⟩
        have hc0 := cD_0 (o := oc (sY 1)) (st := a + n) m hmr
        have hcn := cD_n (o := oc (sY 1)) (st := a + n) m
        cases hs : isLt (oc (sY 1) (a + n)) with
        | true =>
          have hal := al_t (o := oc (sY 1)) (st := a + n) true m
          rw [hs] at z11
          by_cases hk : cDS (oc (sY 1)) (a + n) m = 0 ∧ m ≤ 7
          · have hall := hc0.mp hk.1
            rw [if_pos hk] at x5 x7
            rw [if_pos ⟨hal.mpr hall, hk.2⟩] at z11
            refine Or.inl ⟨x5, z11, x8, ?_, x7⟩
            rw [u10, w17, ll_w m hk.2 hall, ww_w m hk.2 hall]
            obtain ⟨w1, w2⟩ := wl_ok (o := oc (sY 1)) (st := a + n) m hall
            exact ⟨_, w1, by omega, by omega, rfl, rfl⟩
          · have hne : ¬ (alS (oc (sY 1)) (a + n) true m = true ∧ m ≤ (if true = true then 7 else 3)) := fun h => hk ⟨hc0.mpr (hal.mp h.1), h.2⟩
            have hne2 : ¬ (cDS (oc (sY 1)) (a + n) m = m ∧ m ≤ 3) := fun h => by
              have := hcn.mp h.1 0 (by omega)
              rw [Nat.add_zero, lt_dg hs] at this; cases this
            rw [if_neg hk] at x5 x7
            rw [if_neg hne2] at x5
            rw [if_neg hne] at z11
            exact Or.inr (Or.inr (Or.inr ⟨x5, z11, x7, x8⟩))
        | false =>
          have hal := al_t (o := oc (sY 1)) (st := a + n) false m
          rw [hs] at z11
          have hk : ¬ (cDS (oc (sY 1)) (a + n) m = 0 ∧ m ≤ 7) := fun h => by
            have := hc0.mp h.1 0 (by omega)
            rw [Nat.add_zero, hs] at this; cases this
          rw [if_neg hk] at x5 x7
          have hdd : (∀ j, j < m → isDg (oc (sY 1) (a + n + j)) = true) ↔ ∀ j, j < m → isLt (oc (sY 1) (a + n + j)) = false := by
            constructor
            · intro h j hj
              cases h1 : isLt (oc (sY 1) (a + n + j)) with
              | false => rfl
              | true => have := h j hj; rw [lt_dg h1] at this; cases this
            · intro h j hj
              have := hmr j hj
              unfold rc at this
              rw [h j hj, Bool.false_or] at this
              exact this
          by_cases hd : cDS (oc (sY 1)) (a + n) m = m ∧ m ≤ 3
          · have hall := hcn.mp hd.1
            rw [if_pos hd] at x5
            rw [if_pos ⟨hal.mpr (hdd.mp hall), hd.2⟩] at z11
            obtain ⟨g1, v, hv, g2⟩ := nn_v (o := oc (sY 1)) (st := a + n) m hd.2 hall
            have hp : 10 ^ m ≤ 10 ^ 3 := Nat.pow_le_pow_right (by omega) hd.2
            exact Or.inr (Or.inl ⟨x5, z11, x7, x8, v, by omega, x9.trans g2, z14.trans (g1.trans g2)⟩)
          · have hne : ¬ (alS (oc (sY 1)) (a + n) false m = true ∧ m ≤ (if false = true then 7 else 3)) := fun h => hd ⟨hcn.mpr (hdd.mpr (hal.mp h.1)), h.2⟩
            rw [if_neg hd] at x5
            rw [if_neg hne] at z11
            exact Or.inr (Or.inr (Or.inr ⟨x5, z11, x7, x8⟩))
