/-! PURE: next, its cases on both sides -/
def sgn (c : Nat) : Bool := decide (c = 59) || (decide (c = 60) || (decide (c = 61) || (decide (c = 62) || (decide (c = 40) || decide (c = 41)))))
theorem L31b : (255 : Int32) = nI 255 := rfl
section
variable (N : Nat) {sT : Nat → Nat → Int32} {iT : Nat → Int32} {jT : Nat → Int64} {o : Nat → Nat} {L : Nat}
theorem x_nextE (hN : 2000 ≤ N) (ho : ∀ k, o k < 256) (hB : ∀ k, k < 940 → sT 0 k = nI (o k)) {cut a n : Nat} (hc : cut ≤ 940) (ha : a ≤ 940) (h2 : iT 2 = nI cut) (h4 : iT 4 = nI a) (hn : ∀ i, i < n → a + i < cut ∧ blk (o (a + i)) = true) (hend : cut ≤ a + n) :
    ∃ z, f_X8_next N sT iT jT = some (z, jT) ∧ z 4 = nI (a + n) ∧ z 5 = 0 ∧ z 6 = nI cut ∧ z 7 = -1 ∧ z 8 = -1 ∧ ∀ k, k ≠ 4 → k ≠ 5 → k ≠ 6 → k ≠ 7 → k ≠ 8 → z k = iT k := by
  have hn940 : a + n ≤ 1880 := by
    rcases Nat.lt_or_ge n 1 with h | h
    · omega
    · have := (hn (n - 1) (by omega)).1; omega
  unfold f_X8_next
  rw [q_jn]
  obtain ⟨z, ⟨z4, zo⟩, e⟩ := x_skip N hN ho hB hc ha h2 h4 hn (Or.inl hend) (jT := jT) (fun (z : (Nat → Int32)) => match z with | iT_4 => nv (if (iT_4 2) < (iT_4 4) then (iT_4 2) else (iT_4 4)) (fun n_5 => (if (iT_4 4) < (iT_4 2) then bd (f_X8_readRun N sT (va_up (va_up (va_up iT_4 6 n_5) 7 (-1)) 8 (-1)) jT) (fun (z : (Nat → Int32) × (Nat → Int64)) => match z with | (iT_7, jT_8) => (if (iT_7 4) = (iT_7 6) then ck (iT_7 4) 940 (bd (f_X8_readSign N sT iT_7 jT_8 ((sT 0) (ix (iT_7 4)))) (fun iT_15 => some (iT_15, jT_8))) else (if (iT_7 5) = 1 then bd (f_X8_placeInWords N sT iT_7 jT_8 (jT_8 10)) (fun r_12 => some ((va_up iT_7 7 r_12), jT_8)) else some (iT_7, jT_8)))) else some ((va_up (va_up (va_up (va_up iT_4 6 n_5) 7 (-1)) 8 (-1)) 5 0), jT))))
  have z2 : z 2 = nI cut := (zo 2 (by omega)).trans h2
  refine ⟨va_up (va_up (va_up (va_up z 6 (nI cut)) 7 (-1)) 8 (-1)) 5 0, Eq.trans e ?_, z4, rfl, rfl, rfl, rfl, fun k k4 k5 k6 k7 k8 => ?_⟩
  · dsimp only
    have e6 : (if z 2 < z 4 then z 2 else z 4) = nI cut := by
      rw [z2, z4, i_lt (by omega) (by omega)]
      split
      · rfl
      · exact congrArg nI (by omega)
    rw [q_nv, e6, z4, z2, if_neg (fun h => by have := (nI_ltI (by omega) (by omega)).mp h; omega)]
  · rw [q_vn _ _ k5, q_vn _ _ k8, q_vn _ _ k7, q_vn _ _ k6]; exact zo k k4
theorem x_nextT (hN : 2000 ≤ N) (ho : ∀ k, o k < 256) (hB : ∀ k, k < 940 → sT 0 k = nI (o k)) {cut a n m : Nat} (hL : L ≤ 940) (hcL : cut ≤ L) (h1 : iT 1 = nI L) (h2 : iT 2 = nI cut) (h4 : iT 4 = nI a) (hn : ∀ i, i < n → a + i < cut ∧ blk (o (a + i)) = true) (hst : a + n < cut) (hnb : blk (o (a + n)) = false) (hm : a + n + m ≤ L) (hr : ∀ i, i < m → rc (o (a + n + i)) = true) (hend : a + n + m = L ∨ rc (o (a + n + m)) = false) :
    ∃ z w, f_X8_next N sT iT jT = some (z, w) ∧ z 6 = nI (a + n) ∧ (∀ k, k ≠ 4 → k ≠ 5 → k ≠ 6 → k ≠ 7 → k ≠ 8 → k ≠ 9 → z k = iT k) ∧
      ((m = 0 ∧ z 4 = nI (a + n + 1) ∧ z 7 = -1 ∧ z 5 = (if sgn (o (a + n)) then 3 else 4) ∧ z 8 = (if sgn (o (a + n)) then nI (o (a + n)) else -1)) ∨
       (1 ≤ m ∧ z 4 = nI (a + n + m) ∧ z 8 = -1 ∧ z 9 = vvS o (a + n) m ∧ w 10 = llS o (a + n) m ∧ z 5 = (if cDS o (a + n) m = 0 ∧ m ≤ 7 then 1 else if cDS o (a + n) m = m ∧ m ≤ 3 then 2 else 4) ∧ (if cDS o (a + n) m = 0 ∧ m ≤ 7 then PW (z 7) (w 10) else z 7 = -1))) := by
  unfold f_X8_next
  rw [q_jn]
  obtain ⟨z, ⟨z4, zo⟩, e⟩ := x_skip N hN ho hB (by omega) (by omega) h2 h4 hn (Or.inr hnb) (jT := jT) (fun (z : (Nat → Int32)) => match z with | iT_4 => nv (if (iT_4 2) < (iT_4 4) then (iT_4 2) else (iT_4 4)) (fun n_5 => (if (iT_4 4) < (iT_4 2) then bd (f_X8_readRun N sT (va_up (va_up (va_up iT_4 6 n_5) 7 (-1)) 8 (-1)) jT) (fun (z : (Nat → Int32) × (Nat → Int64)) => match z with | (iT_7, jT_8) => (if (iT_7 4) = (iT_7 6) then ck (iT_7 4) 940 (bd (f_X8_readSign N sT iT_7 jT_8 ((sT 0) (ix (iT_7 4)))) (fun iT_15 => some (iT_15, jT_8))) else (if (iT_7 5) = 1 then bd (f_X8_placeInWords N sT iT_7 jT_8 (jT_8 10)) (fun r_12 => some ((va_up iT_7 7 r_12), jT_8)) else some (iT_7, jT_8)))) else some ((va_up (va_up (va_up (va_up iT_4 6 n_5) 7 (-1)) 8 (-1)) 5 0), jT))))
  have z2 : z 2 = nI cut := (zo 2 (by omega)).trans h2
  have z1 : z 1 = nI L := (zo 1 (by omega)).trans h1
  have e6 : (if z 2 < z 4 then z 2 else z 4) = nI (a + n) := by
    rw [z2, z4, i_lt (by omega) (by omega), if_neg (by omega)]
  obtain ⟨y, w, ey, y4, y9, w10, y5, yo⟩ := x_readRun N (iT := va_up (va_up (va_up z 6 (nI (a + n))) 7 (-1)) 8 (-1)) (jT := jT) hN ho hB hL z1 z4 rfl hm hr hend
  have y6 : y 6 = nI (a + n) := yo 6 (by omega) (by omega) (by omega)
  have y7 : y 7 = -1 := yo 7 (by omega) (by omega) (by omega)
  have y8 : y 8 = -1 := yo 8 (by omega) (by omega) (by omega)
  have yoo : ∀ k, k ≠ 4 → k ≠ 5 → k ≠ 6 → k ≠ 7 → k ≠ 8 → k ≠ 9 → y k = iT k := fun k k4 k5 k6 k7 k8 k9 => by
    rw [yo k k4 k5 k9, q_vn _ _ k8, q_vn _ _ k7, q_vn _ _ k6]; exact zo k k4
  have main : f_X8_next_0 N sT jT (fun (z : (Nat → Int32)) => match z with | iT_4 => nv (if (iT_4 2) < (iT_4 4) then (iT_4 2) else (iT_4 4)) (fun n_5 => (if (iT_4 4) < (iT_4 2) then bd (f_X8_readRun N sT (va_up (va_up (va_up iT_4 6 n_5) 7 (-1)) 8 (-1)) jT) (fun (z : (Nat → Int32) × (Nat → Int64)) => match z with | (iT_7, jT_8) => (if (iT_7 4) = (iT_7 6) then ck (iT_7 4) 940 (bd (f_X8_readSign N sT iT_7 jT_8 ((sT 0) (ix (iT_7 4)))) (fun iT_15 => some (iT_15, jT_8))) else (if (iT_7 5) = 1 then bd (f_X8_placeInWords N sT iT_7 jT_8 (jT_8 10)) (fun r_12 => some ((va_up iT_7 7 r_12), jT_8)) else some (iT_7, jT_8)))) else some ((va_up (va_up (va_up (va_up iT_4 6 n_5) 7 (-1)) 8 (-1)) 5 0), jT)))) N iT = (if (y 4) = (y 6) then ck (y 4) 940 (bd (f_X8_readSign N sT y w ((sT 0) (ix (y 4)))) (fun iT_15 => some (iT_15, w))) else (if (y 5) = 1 then bd (f_X8_placeInWords N sT y w (w 10)) (fun r_12 => some ((va_up y 7 r_12), w)) else some (y, w))) := by
    refine Eq.trans e ?_
    dsimp only
    rw [q_nv, e6, z4, z2, if_pos ((nI_ltI (by omega) (by omega)).mpr hst), ey, q_bd]
  by_cases hm0 : m = 0
  · subst hm0
    refine ⟨va_up (va_up (va_up y 5 (if sgn (o (a + n)) then 3 else 4)) 8 (if sgn (o (a + n)) then nI (o (a + n)) else -1)) 4 (nI (a + n + 1)), w, main.trans ?_, y6, fun k k4 k5 k6 k7 k8 k9 => ?_, Or.inl ⟨rfl, rfl, y7, rfl, rfl⟩⟩
    · rw [y4, y6, Nat.add_zero, if_pos rfl, q_ck (show a + n < 940 by omega) (by omega), show ix (nI (a + n)) = a + n from q_ix (by omega), hB _ (by omega)]
      have hc := ho (a + n)
      unfold f_X8_readSign
      simp only [q_jn]
      rw [show y 4 = nI (a + n) from y4, nI_1, L59, L60, L61, L62, L40, L41, i_eq (by omega) (by omega), i_eq (by omega) (by omega), i_eq (by omega) (by omega), i_eq (by omega) (by omega), i_eq (by omega) (by omega), i_eq (by omega) (by omega)]
      unfold sgn
      by_cases c1 : o (a + n) = 59
      · rw [if_pos c1, decide_eq_true c1]; rfl
      rw [if_neg c1, decide_eq_false c1]
      by_cases c2 : o (a + n) = 60
      · rw [if_pos c2, decide_eq_true c2]; rfl
      rw [if_neg c2, decide_eq_false c2]
      by_cases c3 : o (a + n) = 61
      · rw [if_pos c3, decide_eq_true c3]; rfl
      rw [if_neg c3, decide_eq_false c3]
      by_cases c4 : o (a + n) = 62
      · rw [if_pos c4, decide_eq_true c4]; rfl
      rw [if_neg c4, decide_eq_false c4]
      by_cases c5 : o (a + n) = 40
      · rw [if_pos c5, decide_eq_true c5]; rfl
      rw [if_neg c5, decide_eq_false c5]
      by_cases c6 : o (a + n) = 41
      · rw [if_pos c6, decide_eq_true c6]; rfl
      rw [if_neg c6, decide_eq_false c6]; rfl
    · rw [q_vn _ _ k4, q_vn _ _ k8, q_vn _ _ k5]; exact yoo k k4 k5 k6 k7 k8 k9
  · have hne : ¬ nI (a + n + m) = nI (a + n) := fun h => by have := (nI_eq (by omega) (by omega)).mp h; omega
    by_cases hk : cDS o (a + n) m = 0 ∧ m ≤ 7
    · rw [if_pos hk] at y5
      obtain ⟨r, er, hr2⟩ := x_place N hN sT y w (w 10)
      refine ⟨va_up y 7 r, w, main.trans ?_, y6, fun k k4 k5 k6 k7 k8 k9 => ?_, Or.inr ⟨by omega, y4, y8, y9, w10, by rw [if_pos hk]; exact y5, by rw [if_pos hk]; exact hr2⟩⟩
      · rw [y4, y6, if_neg hne, y5, if_pos rfl, er, q_bd]
      · rw [q_vn _ _ k7]; exact yoo k k4 k5 k6 k7 k8 k9
    · refine ⟨y, w, main.trans ?_, y6, yoo, Or.inr ⟨by omega, y4, y8, y9, w10, y5, by rw [if_neg hk]; exact y7⟩⟩
      rw [y4, y6, if_neg hne]
      rw [if_neg hk] at y5
      rw [y5, if_neg]
      split <;> decide
end
section
variable (N : Nat) {iY : Nat → Int32} {sY : Nat → Nat → Int32} {tY : Nat → Nat → Int64} {jY : Nat → Int64} {L : Nat}
theorem y_peekI {zY : Nat → Int32} {kY : Nat → Int64} {p : Nat} (hL : L ≤ 940) (h3 : zY 3 = nI L) (h4 : zY 4 = nI p) (hp : p < L) : f_X11_peek N zY sY tY kY = some (nI (oc (sY 1) p)) := by
  unfold f_X11_peek
  rw [h3, h4, if_neg (nI_ge hp (by omega)), q_ck (show p < 940 by omega) (by omega), show ix (nI p) = p from q_ix (by omega), oc_eq]
theorem y_peekE {zY : Nat → Int32} {kY : Nat → Int64} {p : Nat} (hL : L ≤ 940) (h3 : zY 3 = nI L) (h4 : zY 4 = nI p) (hp : L ≤ p) (hp2 : p ≤ 2000) : f_X11_peek N zY sY tY kY = some (-1) := by
  unfold f_X11_peek
  rw [h3, h4, if_pos (nI_le hp (by omega))]
theorem y_small {c : Nat} (hc : c < 256) : f_X11_isSmall N (nI c) = some (bI (isLt c)) := by
  unfold f_X11_isSmall isLt
  rw [L97, L122, i_lt (by omega) (by omega), i_lt (by omega) (by omega)]
  by_cases h1 : c < 97
  · rw [if_pos h1, decide_eq_false (by omega)]; rfl
  · rw [if_neg h1, decide_eq_true (show 97 ≤ c by omega)]
    by_cases h2 : 122 < c
    · rw [if_pos h2, decide_eq_false (by omega)]; rfl
    · rw [if_neg h2, decide_eq_true (show c ≤ 122 by omega)]; rfl
theorem y_digit {c : Nat} (hc : c < 256) : f_X11_isDigit N (nI c) = some (bI (isDg c)) := by
  unfold f_X11_isDigit isDg
  rw [L48, L57, i_lt (by omega) (by omega), i_lt (by omega) (by omega)]
  by_cases h1 : c < 48
  · rw [if_pos h1, decide_eq_false (by omega)]; rfl
  · rw [if_neg h1, decide_eq_true (show 48 ≤ c by omega)]
    by_cases h2 : 57 < c
    · rw [if_pos h2, decide_eq_false (by omega)]; rfl
    · rw [if_neg h2, decide_eq_true (show c ≤ 57 by omega)]; rfl
theorem y_skip (hN : 2000 ≤ N) {b n : Nat} (hL : L ≤ 940) (h3 : iY 3 = nI L) (h4 : iY 4 = nI b) (hn : ∀ i, i < n → b + i < L ∧ blk (oc (sY 1) (b + i)) = true) (hb : b + n ≤ L) (hend : b + n = L ∨ blk (oc (sY 1) (b + n)) = false) (K : (Nat → Int32) → Option ((Nat → Int32) × (Nat → Int64))) :
    ∃ z, (z 4 = nI (b + n) ∧ ∀ k, k ≠ 4 → z k = iY k) ∧ f_X11_next_0 N sY tY jY K N iY = K z := by
  refine q_rel (fun k x => f_X11_next_0 N sY tY jY K k x) K n (fun i x => x 4 = nI (b + i) ∧ ∀ k, k ≠ 4 → x k = iY k) (fun k x hx => ?_) (fun k i x hi hx => ?_) iY ⟨h4, fun _ _ => rfl⟩ N (by omega)
  · show f_X11_next_0 N sY tY jY K (k + 1) x = K x
    have x3 := (hx.2 3 (by omega)).trans h3
    rw [f_X11_next_0]
    by_cases c : b + n = L
    · rw [y_peekE N hL x3 hx.1 (by omega) (by omega), q_bd, q_jn, if_neg (by decide), q_bd, if_neg (by decide)]
    · have hbb := hend.resolve_left c
      have := oc_lt (sY 1) (b + n)
      unfold blk at hbb
      rw [Bool.or_eq_false_iff, decide_eq_false_iff_not, decide_eq_false_iff_not] at hbb
      rw [y_peekI N hL x3 hx.1 (by omega), q_bd, q_jn, L32, L10, i_eq (by omega) (by omega), if_neg hbb.1, q_bd, i_eq (by omega) (by omega), if_neg hbb.2]
  · show ∃ y, _ ∧ f_X11_next_0 N sY tY jY K (k + 1) x = f_X11_next_0 N sY tY jY K k y
    obtain ⟨h5, hbb⟩ := hn i hi
    have := oc_lt (sY 1) (b + i)
    have x3 := (hx.2 3 (by omega)).trans h3
    refine ⟨va_up x 4 (nI (b + (i + 1))), ⟨rfl, fun k hk => (q_vn _ _ hk).trans (hx.2 k hk)⟩, ?_⟩
    unfold blk at hbb
    rw [Bool.or_eq_true, decide_eq_true_eq, decide_eq_true_eq] at hbb
    rw [f_X11_next_0, y_peekI N hL x3 hx.1 h5, q_bd, q_jn, L32, L10, i_eq (by omega) (by omega), q_bd, i_eq (by omega) (by omega), hx.1, nI_1]
    rcases hbb with c | c
    · rw [if_pos c]; rfl
    · rw [if_neg (by omega), if_pos c]; rfl
theorem y_run (hN : 2000 ≤ N) {zY : Nat → Int32} {kY : Nat → Int64} {st m : Nat} {sm : Bool} (hL : L ≤ 940) (h3 : zY 3 = nI L) (h4 : zY 4 = nI st) (h13 : zY 13 = 0) (h14 : zY 14 = 0) (h17 : kY 17 = 0) (hm : st + m ≤ L) (hr : ∀ i, i < m → rc (oc (sY 1) (st + i)) = true) (hend : st + m = L ∨ rc (oc (sY 1) (st + m)) = false) (K : Int32 × (Nat → Int32) × (Nat → Int64) → Option ((Nat → Int32) × (Nat → Int64))) :
    ∃ z w, f_X11_next_181 N sY tY (bI sm) K N zY kY 1 = K (bI (alS (oc (sY 1)) st sm m), z, w) ∧ z 4 = nI (st + m) ∧ z 13 = nI m ∧ z 14 = nnS (oc (sY 1)) st m ∧ w 17 = wwS (oc (sY 1)) st m ∧ ∀ k, k ≠ 4 → k ≠ 13 → k ≠ 14 → z k = zY k := by
  have key := q_rel (fun k (x : (Nat → Int32) × (Nat → Int64) × Int32) => f_X11_next_181 N sY tY (bI sm) K k x.1 x.2.1 x.2.2) (fun x => K (x.2.2, x.1, x.2.1)) m (fun i x => x.1 4 = nI (st + i) ∧ x.1 13 = nI i ∧ x.1 14 = nnS (oc (sY 1)) st i ∧ x.2.1 17 = wwS (oc (sY 1)) st i ∧ x.2.2 = bI (alS (oc (sY 1)) st sm i) ∧ ∀ k, k ≠ 4 → k ≠ 13 → k ≠ 14 → x.1 k = zY k) (fun k x hx => ?_) (fun k i x hi hx => ?_) (zY, kY, 1) ⟨h4, h13, h14, h17, rfl, fun _ _ _ _ => rfl⟩ N (by omega)
  · obtain ⟨⟨z, w, v⟩, ⟨p4, p13, p14, p17, pv, po⟩, e⟩ := key
    dsimp only at p4 p13 p14 p17 pv po e
    refine ⟨z, w, ?_, p4, p13, p14, p17, po⟩
    rw [← pv]; exact e
  · obtain ⟨p4, p13, p14, p17, pv, po⟩ := hx
    show f_X11_next_181 N sY tY (bI sm) K (k + 1) x.1 x.2.1 x.2.2 = _
    have x3 := (po 3 (by omega) (by omega) (by omega)).trans h3
    rw [f_X11_next_181]
    by_cases c : st + m = L
    · rw [y_peekE N hL x3 p4 (by omega) (by omega), q_bd, show f_X11_isSmall N (-1) = some 0 from rfl, q_bd, q_jn, if_pos rfl, q_bd, show f_X11_isDigit N (-1) = some 0 from rfl, q_bd, if_pos rfl]
    · have hb := hend.resolve_left c
      have hc := oc_lt (sY 1) (st + m)
      unfold rc at hb
      rw [Bool.or_eq_false_iff] at hb
      rw [y_peekI N hL x3 p4 (by omega), q_bd, y_small N hc, q_bd, q_jn, hb.1, bI_ff, q_bd, y_digit N hc, q_bd, hb.2, bI_ff]
  · obtain ⟨p4, p13, p14, p17, pv, po⟩ := hx
    have x3 := (po 3 (by omega) (by omega) (by omega)).trans h3
    have hc := oc_lt (sY 1) (st + i)
    have hri := hr i hi
    refine ⟨(va_up (va_up (va_up x.1 14 (nnS (oc (sY 1)) st (i + 1))) 13 (nI (i + 1))) 4 (nI (st + (i + 1))), va_up x.2.1 17 (wwS (oc (sY 1)) st (i + 1)), bI (alS (oc (sY 1)) st sm (i + 1))), ⟨rfl, rfl, rfl, rfl, rfl, fun k k4 k13 k14 => ?_⟩, ?_⟩
    · show va_up (va_up (va_up x.1 14 _) 13 _) 4 _ k = _
      rw [q_vn _ _ k4, q_vn _ _ k13, q_vn _ _ k14]; exact po k k4 k13 k14
    · show f_X11_next_181 N sY tY (bI sm) K (k + 1) x.1 x.2.1 x.2.2 = f_X11_next_181 N sY tY (bI sm) K k _ _ _
      have pk : ∀ w : Nat → Int64, f_X11_peek N x.1 sY tY w = some (nI (oc (sY 1) (st + i))) := fun w => y_peekI N hL x3 p4 (by omega)
      -- both ways of going on are alike
      have body : ∀ v3' : Int32, v3' = bI (alS (oc (sY 1)) st sm (i + 1)) → (jn (fun (z : (Nat → Int64)) => match z with | jY_99 => jn (fun (z : (Nat → Int32)) => match z with | iY_103 => f_X11_next_181 N sY tY (bI sm) K k (va_up (va_up iY_103 13 ((iY_103 13) + 1)) 4 ((iY_103 4) + 1)) jY_99 v3') (fun K_100 => (if (3 : Int32) ≤ (x.1 13) then K_100 x.1 else bd (f_X11_peek N x.1 sY tY jY_99) (fun r_105 => nv ((((10 : Int32) * (x.1 14)) + r_105) - 48) (fun n_107 => K_100 (va_up x.1 14 n_107)))))) (fun K_96 => (if (7 : Int32) ≤ (x.1 13) then K_96 x.2.1 else bd (some (nI (oc (sY 1) (st + i)))) (fun r_109 => nv ((sll (x.2.1 17) 8) ||| (r_109.toInt64)) (fun n_111 => K_96 (va_up x.2.1 17 n_111)))))) = f_X11_next_181 N sY tY (bI sm) K k (va_up (va_up (va_up x.1 14 (nnS (oc (sY 1)) st (i + 1))) 13 (nI (i + 1))) 4 (nI (st + (i + 1)))) (va_up x.2.1 17 (wwS (oc (sY 1)) st (i + 1))) (bI (alS (oc (sY 1)) st sm (i + 1))) := by
        intro v3' hv
        subst hv
        simp only [q_jn, pk, q_bd, q_nv]
        have q3 : ((3 : Int32) ≤ nI i) = (3 ≤ i) := q_le (a := 3) (by omega) (by omega)
        have q7 : ((7 : Int32) ≤ nI i) = (7 ≤ i) := q_le (a := 7) (by omega) (by omega)
        simp only [p13, q3, q7, p14, p17, nI_1]
        rw [nnS, wwS]
        have u14 : ∀ v, va_up x.1 14 v 13 = nI i := fun v => (q_vn _ _ (by omega)).trans p13
        have u4 : ∀ v, va_up (va_up x.1 14 v) 13 (nI (i + 1)) 4 = nI (st + i) := fun v => by rw [q_vn _ _ (by omega), q_vn _ _ (by omega)]; exact p4
        have u4' : ∀ v, va_up x.1 14 v 4 = nI (st + i) := fun v => by rw [q_vn _ _ (by omega)]; exact p4
        have w17 : va_up x.2.1 17 (wwS (oc (sY 1)) st i) = x.2.1 := up_idG p17.symm
        have w14 : va_up x.1 14 (nnS (oc (sY 1)) st i) = x.1 := up_idG p14.symm
        by_cases c3 : i < 3
        · rw [if_neg (show ¬ 7 ≤ i by omega), if_neg (show ¬ 3 ≤ i by omega), if_pos c3, if_pos (show i < 7 by omega), u14, nI_1, u4', nI_1]; rfl
        · by_cases c7 : i < 7
          · rw [if_neg (show ¬ 7 ≤ i by omega), if_pos (show 3 ≤ i by omega), if_pos c7, if_neg c3, w14, p4, nI_1]; rfl
          · rw [if_pos (show 7 ≤ i by omega), if_pos (show 3 ≤ i by omega), if_neg c7, if_neg c3, w14, p4, nI_1, w17]; rfl
      have hal : alS (oc (sY 1)) st sm (i + 1) = (alS (oc (sY 1)) st sm i && (isLt (oc (sY 1) (st + i)) == sm)) := rfl
      have goal2 : (jn (fun (z : (Int32)) => match z with | y_95 => jn (fun (z : (Nat → Int64)) => match z with | jY_99 => jn (fun (z : (Nat → Int32)) => match z with | iY_103 => f_X11_next_181 N sY tY (bI sm) K k (va_up (va_up iY_103 13 ((iY_103 13) + 1)) 4 ((iY_103 4) + 1)) jY_99 y_95) (fun K_100 => (if (3 : Int32) ≤ (x.1 13) then K_100 x.1 else bd (f_X11_peek N x.1 sY tY jY_99) (fun r_105 => nv ((((10 : Int32) * (x.1 14)) + r_105) - 48) (fun n_107 => K_100 (va_up x.1 14 n_107)))))) (fun K_96 => (if (7 : Int32) ≤ (x.1 13) then K_96 x.2.1 else bd (some (nI (oc (sY 1) (st + i)))) (fun r_109 => nv ((sll (x.2.1 17) 8) ||| (r_109.toInt64)) (fun n_111 => K_96 (va_up x.2.1 17 n_111)))))) (fun K_92 => jn (fun (z : Unit) => match z with | () => K_92 0) (fun K_112 => (if x.2.2 = 0 then K_112 () else bd (some (nI (oc (sY 1) (st + i)))) (fun r_116 => bd (f_X11_isSmall N r_116) (fun r_118 => (if r_118 = bI sm then K_92 1 else K_112 ()))))))) = f_X11_next_181 N sY tY (bI sm) K k (va_up (va_up (va_up x.1 14 (nnS (oc (sY 1)) st (i + 1))) 13 (nI (i + 1))) 4 (nI (st + (i + 1)))) (va_up x.2.1 17 (wwS (oc (sY 1)) st (i + 1))) (bI (alS (oc (sY 1)) st sm (i + 1))) := by
        rw [q_jn, q_jn, pv, q_b0, q_bd, y_small N hc, q_bd]
        cases h1 : alS (oc (sY 1)) st sm i with
        | false =>
          rw [if_neg (by decide)]
          exact body 0 (by rw [hal, h1]; rfl)
        | true =>
          rw [if_pos rfl]
          cases h2 : isLt (oc (sY 1) (st + i)) with
          | false =>
            cases sm with
            | false => rw [if_pos rfl]; exact body 1 (by rw [hal, h1, h2]; rfl)
            | true => rw [if_neg (by decide)]; exact body 0 (by rw [hal, h1, h2]; rfl)
          | true =>
            cases sm with
            | true => rw [if_pos rfl]; exact body 1 (by rw [hal, h1, h2]; rfl)
            | false => rw [if_neg (by decide)]; exact body 0 (by rw [hal, h1, h2]; rfl)
      rw [f_X11_next_181, pk, q_bd, y_small N hc, q_bd, q_jn, q_b0]
      unfold rc at hri
      cases h1 : isLt (oc (sY 1) (st + i)) with
      | true => rw [if_pos rfl]; exact goal2
      | false =>
        rw [h1, Bool.false_or] at hri
        rw [if_neg (by decide), q_bd, y_digit N hc, q_bd, hri, bI_tt]
        exact goal2
end
