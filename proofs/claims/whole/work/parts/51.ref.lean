/-! PURE: what is asked of a state s (the reference's own row), and the reference's small methods -/
def kn (s : Nat → Int32) (a : Nat) : Int32 := s (117 + a) ||| s (220 + a)
def my (s : Nat → Int32) (P a : Nat) : Int32 := (ev P &&& (pb a ^^^ (-1))) &&& ((kn s a ^^^ (-1)) ||| s (124 + a))
def perB (P : Nat) (p : Int32) : Bool := decide (¬ p < 0 ∧ p < nI P)
theorem perB_t {P : Nat} {p : Int32} (hP : P ≤ 7) (h : perB P p = true) : ∃ a, a < P ∧ p = nI a := by
  have h2 := of_decide_eq_true h
  obtain ⟨j, hj, rfl⟩ := nI_of h2.1
  exact ⟨j, (nI_ltI hj (by omega)).mp h2.2, rfl⟩
def isB (q : Nat) (p : Int32) : Bool := decide (¬ p < 0 ∧ p ≤ nI q)
def meetS (s : Nat → Int32) (a b : Nat) : Nat → Int32 := upd (upd s (220 + a) (s (220 + a) ||| pb b)) (220 + b) ((upd s (220 + a) (s (220 + a) ||| pb b)) (220 + b) ||| pb a)
def by1 (s : Nat → Int32) (k : Nat) : Nat → Int32 := upd s k (s k - 1)
def by2 (s : Nat → Int32) (k : Nat) (v : Int32) : Nat → Int32 := upd s k (s k - v)
def by3 (s : Nat → Int32) (k : Nat) (v : Int32) : Nat → Int32 := upd s k (s k + v)
def buyA (s : Nat → Int32) (a g b : Nat) : Nat → Int32 := by3 (by3 (by2 (by1 (by1 s (143 + (5 * b + g))) (178 + (5 * a + g))) (136 + a) (s (47 + (5 * b + g)) - 1)) (136 + b) (s (47 + (5 * b + g)) - 1)) 132 1
def buyD (s : Nat → Int32) (a b : Nat) : Nat → Int32 := by3 (by3 s (227 + (7 * a + b)) 1) (227 + (7 * b + a)) 1
def buyS (s : Nat → Int32) (a g b : Nat) : Nat → Int32 :=
  if tb (s 134) a then buyA s a g b else if tb (s 134) b then buyA s a g b else
  if (buyD (buyA s a g b) a b) (227 + (7 * a + b)) < s 2 then buyD (buyA s a g b) a b else meetS (buyD (buyA s a g b) a b) a b
def whyB (s : Nat → Int32) (P a g b : Nat) : Nat :=
  if a = b then 1 else if tb (s 133) a then 2 else if tb (s 133) b then 2 else
  if !tb (my s P a) b && (!tb (s 134) a && !tb (s 134) b) then 3 else
  if s (143 + (5 * b + g)) = 0 then 4 else if s (47 + (5 * b + g)) - 1 ≤ s (136 + a) then (if s (178 + (5 * a + g)) = 0 then 6 else 0) else 5
def whyN (s : Nat → Int32) (a b : Nat) : Nat := if a = b then 1 else if tb (s 133) a then 2 else if tb (s 133) b then 2 else if tb (kn s a) b then 3 else 0
def nodS (s : Nat → Int32) (a b : Nat) : Nat → Int32 := upd (meetS s a b) 133 (meetS s a b 133 ||| pb a)
def whyV (s : Nat → Int32) (a : Nat) : Nat := if tb (s 134) a then 1 else if s 135 = 0 then 2 else 0
def veilS (s : Nat → Int32) (a : Nat) : Nat → Int32 := by1 (upd s 134 (s 134 ||| pb a)) 135
def whyT (s : Nat → Int32) (q a b : Nat) : Nat := if q = a then 1 else if q = b then 1 else if a = b then 1 else if !tb (kn s q) a then 2 else if !tb (kn s q) b then 2 else if tb (kn s a) b then 3 else 0
theorem nI_nb {a b : Nat} (h : ¬ a = b) (ha : a < 2000) (hb : b < 2000) : ¬ nI a = nI b := by rw [nI_eq (by omega) (by omega)]; exact h
section
variable (N : Nat) (iY : Nat → Int32) (sY : Nat → Nat → Int32) (tY : Nat → Nat → Int64) (jY : Nat → Int64)
theorem y_isPerson {P : Nat} (hP : P ≤ 7) (h0 : sY 6 0 = nI P) (p : Int32) : f_X11_isPerson N iY sY tY jY p = some (bI (perB P p)) := by
  unfold f_X11_isPerson f_X11_isIn perB
  rw [h0]
  have e : (nI P - 1 < p) ↔ nI P ≤ p := by
    rw [Int32.lt_iff_toInt_lt, Int32.le_iff_toInt_le, show (1 : Int32) = nI 1 from rfl, pk_sub_toInt (by omega) (by omega), nI_toInt (by omega)]
    omega
  by_cases h1 : p < 0
  · rw [if_pos h1, q_bd, q_z0, decide_eq_false (fun h => h.1 h1)]; rfl
  · rw [if_neg h1]
    by_cases h2 : nI P ≤ p
    · rw [if_pos (e.mpr h2), q_bd, q_z0, decide_eq_false (fun h => Int32.not_lt.mpr h2 h.2)]; rfl
    · rw [if_neg (fun h => h2 (e.mp h)), q_bd, q_z1, decide_eq_true ⟨h1, Int32.not_le.mp h2⟩]; rfl
theorem y_isGood {P : Nat} (hP : P ≤ 7) (h0 : sY 6 1 = nI P) (p : Int32) : f_X11_isGood N iY sY tY jY p = some (bI (perB P p)) := by
  unfold f_X11_isGood f_X11_isIn perB
  rw [h0]
  have e : (nI P - 1 < p) ↔ nI P ≤ p := by
    rw [Int32.lt_iff_toInt_lt, Int32.le_iff_toInt_le, show (1 : Int32) = nI 1 from rfl, pk_sub_toInt (by omega) (by omega), nI_toInt (by omega)]
    omega
  by_cases h1 : p < 0
  · rw [if_pos h1, q_bd, q_z0, decide_eq_false (fun h => h.1 h1)]; rfl
  · rw [if_neg h1]
    by_cases h2 : nI P ≤ p
    · rw [if_pos (e.mpr h2), q_bd, q_z0, decide_eq_false (fun h => Int32.not_lt.mpr h2 h.2)]; rfl
    · rw [if_neg (fun h => h2 (e.mp h)), q_bd, q_z1, decide_eq_true ⟨h1, Int32.not_le.mp h2⟩]; rfl
theorem y_knownBy {a : Nat} (ha : a < 7) : f_X11_knownBy N iY sY tY jY (nI a) = some (kn (sY 6) a) := by
  unfold f_X11_knownBy
  simp (disch := omega) only [L2, L3, L4, L5, L6, L7, L8, L9, L10, L11, L12, L13, L14, L15, L16, L17, L18, L19, L20, L21, L22, L23, L24, L30, L35, L40, L41, L47, L48, L56, L57, L59, L60, L61, L62, L80, L82, L96, L97, L117, L122, L124, L131, L136, L143, L145, L178, L200, L213, L220, L224, L227, L256, L277, L400, L457, L900, L920, L940, L999, L1015, L9999, L1000000, nI_add, pk_mul, nI_1, q_ck, q_ix]
  rfl
theorem y_mayBy {P a : Nat} (ha : a < 7) (h0 : sY 6 0 = nI P) : f_X11_mayBy N iY sY tY jY (nI a) = some (my (sY 6) P a) := by
  unfold f_X11_mayBy
  rw [y_knownBy N iY sY tY jY ha, q_bd, h0]
  simp (disch := omega) only [L2, L3, L4, L5, L6, L7, L8, L9, L10, L11, L12, L13, L14, L15, L16, L17, L18, L19, L20, L21, L22, L23, L24, L30, L35, L40, L41, L47, L48, L56, L57, L59, L60, L61, L62, L80, L82, L96, L97, L117, L122, L124, L131, L136, L143, L145, L178, L200, L213, L220, L224, L227, L256, L277, L400, L457, L900, L920, L940, L999, L1015, L9999, L1000000, nI_add, pk_mul, nI_1, q_ck, q_ix]
  rfl
theorem y_isHome {a : Nat} (ha : a < 7) : f_X11_isHome N iY sY tY jY (nI a) = some (bI (tb (sY 6 133) a)) := by
  unfold f_X11_isHome
  rw [y_bitOf N _ (by omega), q_bd, q_zb]
theorem y_isVeiled {a : Nat} (ha : a < 7) : f_X11_isVeiled N iY sY tY jY (nI a) = some (bI (tb (sY 6 134) a)) := by
  unfold f_X11_isVeiled
  rw [y_bitOf N _ (by omega), q_bd, q_zb]
theorem y_meets {a b : Nat} (ha : a < 7) (hb : b < 7) : f_X11_meets N iY sY tY jY (nI a) (nI b) = some (va_up sY 6 (meetS (sY 6) a b)) := by
  unfold f_X11_meets
  simp (disch := omega) only [L2, L3, L4, L5, L6, L7, L8, L9, L10, L11, L12, L13, L14, L15, L16, L17, L18, L19, L20, L21, L22, L23, L24, L30, L35, L40, L41, L47, L48, L56, L57, L59, L60, L61, L62, L80, L82, L96, L97, L117, L122, L124, L131, L136, L143, L145, L178, L200, L213, L220, L224, L227, L256, L277, L400, L457, L900, L920, L940, L999, L1015, L9999, L1000000, nI_add, pk_mul, nI_1, q_ck, q_ix, q_nv]
  rfl
theorem y_whyBuy {P a g b : Nat} (ha : a < 7) (hb : b < 7) (hg : g < 5) (h0 : sY 6 0 = nI P) : f_X11_whyBuy N iY sY tY jY (nI a) (nI g) (nI b) = some (nI (whyB (sY 6) P a g b)) := by
  unfold f_X11_whyBuy whyB
  by_cases hab : a = b
  · subst hab; rw [if_pos rfl, if_pos rfl]; rfl
  · rw [if_neg (nI_nb hab (by omega) (by omega)), if_neg hab, y_isHome N iY sY tY jY ha, q_bd, q_b0, y_isHome N iY sY tY jY hb, q_bd, q_b0, y_mayBy N iY sY tY jY ha h0, q_bd, y_bitOf N _ (by omega), q_bd, q_jn, q_b0, y_isVeiled N iY sY tY jY ha, q_bd, q_b0, y_isVeiled N iY sY tY jY hb, q_bd, q_b0]
    simp (disch := omega) only [L2, L3, L4, L5, L6, L7, L8, L9, L10, L11, L12, L13, L14, L15, L16, L17, L18, L19, L20, L21, L22, L23, L24, L30, L35, L40, L41, L47, L48, L56, L57, L59, L60, L61, L62, L80, L82, L96, L97, L117, L122, L124, L131, L136, L143, L145, L178, L200, L213, L220, L224, L227, L256, L277, L400, L457, L900, L920, L940, L999, L1015, L9999, L1000000, nI_add, pk_mul, nI_1, q_ck, q_ix, q_nv, Nat.add_assoc]
    cases tb (sY 6 133) a <;> cases tb (sY 6 133) b <;> cases tb (my (sY 6) P a) b <;> cases tb (sY 6 134) a <;> cases tb (sY 6 134) b <;> simp only [if_true, if_false, Bool.false_eq_true, Bool.not_true, Bool.not_false, Bool.and_true, Bool.true_and, Bool.and_false, Bool.false_and] <;> first | rfl | (repeat' split) <;> rfl
theorem y_buys {a g b : Nat} (ha : a < 7) (hb : b < 7) (hg : g < 5) : f_X11_buys N iY sY tY jY (nI a) (nI g) (nI b) = some (va_up sY 6 (buyS (sY 6) a g b)) := by
  unfold f_X11_buys
  simp (disch := omega) only [L2, L3, L4, L5, L6, L7, L8, L9, L10, L11, L12, L13, L14, L15, L16, L17, L18, L19, L20, L21, L22, L23, L24, L30, L35, L40, L41, L47, L48, L56, L57, L59, L60, L61, L62, L80, L82, L96, L97, L117, L122, L124, L131, L136, L143, L145, L178, L200, L213, L220, L224, L227, L256, L277, L400, L457, L900, L920, L940, L999, L1015, L9999, L1000000, nI_add, pk_mul, nI_1, q_ck, q_ix, q_nv, Nat.add_assoc, y_isVeiled N _ _ _ _ ha, y_isVeiled N _ _ _ _ hb, q_bd, q_b0, q_ve, y_meets N _ _ _ _ ha hb, q_vv]
  have e1 : ∀ x, upd x 132 (x 132 + 1) = by3 x 132 1 := fun _ => rfl
  have h1 : (buyA (sY 6) a g b) 134 = sY 6 134 := by
    unfold buyA by3 by2 by1
    simp (disch := omega) only [pk_un]
  have h2 : (buyD (buyA (sY 6) a g b) a b) 2 = sY 6 2 := by
    unfold buyD buyA by3 by2 by1
    simp (disch := omega) only [pk_un]
  have h3 : buyS (sY 6) a g b = if tb ((buyA (sY 6) a g b) 134) a then buyA (sY 6) a g b else if tb ((buyA (sY 6) a g b) 134) b then buyA (sY 6) a g b else
    if (buyD (buyA (sY 6) a g b) a b) (227 + (7 * a + b)) < (buyD (buyA (sY 6) a g b) a b) 2 then buyD (buyA (sY 6) a g b) a b else meetS (buyD (buyA (sY 6) a g b) a b) a b := by
    rw [h1, h2]; rfl
  rw [h3]
  show (if tb ((buyA (sY 6) a g b) 134) a then some (va_up sY 6 (buyA (sY 6) a g b)) else if tb ((buyA (sY 6) a g b) 134) b then some (va_up sY 6 (buyA (sY 6) a g b)) else
    if (buyD (buyA (sY 6) a g b) a b) (227 + (7 * a + b)) < (buyD (buyA (sY 6) a g b) a b) 2 then some (va_up sY 6 (buyD (buyA (sY 6) a g b) a b)) else some (va_up sY 6 (meetS (buyD (buyA (sY 6) a g b) a b) a b))) = _
  repeat' split
  all_goals rfl
theorem y_whyNod {a b : Nat} (ha : a < 7) (hb : b < 7) : f_X11_whyNod N iY sY tY jY (nI a) (nI b) = some (nI (whyN (sY 6) a b)) := by
  unfold f_X11_whyNod whyN
  by_cases hab : a = b
  · subst hab; rw [if_pos rfl, if_pos rfl]; rfl
  · rw [if_neg (nI_nb hab (by omega) (by omega)), if_neg hab, y_isHome N iY sY tY jY ha, q_bd, q_b0, y_isHome N iY sY tY jY hb, q_bd, q_b0, y_knownBy N iY sY tY jY ha, q_bd, y_bitOf N _ (by omega), q_bd, q_b0]
    repeat' split
    all_goals rfl
theorem y_nods {a b : Nat} (ha : a < 7) (hb : b < 7) : f_X11_nods N iY sY tY jY (nI a) (nI b) = some (va_up sY 6 (nodS (sY 6) a b)) := by
  unfold f_X11_nods
  rw [y_meets N iY sY tY jY ha hb, q_bd, q_nv, q_vv, q_ve]
  rfl
theorem y_whyVeil {a : Nat} (ha : a < 7) : f_X11_whyVeil N iY sY tY jY (nI a) = some (nI (whyV (sY 6) a)) := by
  unfold f_X11_whyVeil whyV
  rw [y_isVeiled N iY sY tY jY ha, q_bd, q_b0]
  repeat' split
  all_goals rfl
theorem y_veils {a : Nat} : f_X11_veils N iY sY tY jY (nI a) = some (va_up sY 6 (veilS (sY 6) a)) := rfl
theorem y_whyTell {q a b : Nat} (hq : q < 7) (ha : a < 7) (hb : b < 7) : f_X11_whyTell N iY sY tY jY (nI q) (nI a) (nI b) = some (nI (whyT (sY 6) q a b)) := by
  unfold f_X11_whyTell whyT
  simp (disch := omega) only [q_eq, y_knownBy N _ _ _ _ hq, y_knownBy N _ _ _ _ ha, q_bd, y_bitOf N _ (show a < 31 by omega), y_bitOf N _ (show b < 31 by omega), q_b0]
  cases tb (kn (sY 6) q) a <;> cases tb (kn (sY 6) q) b <;> cases tb (kn (sY 6) a) b <;> simp only [if_true, if_false, Bool.false_eq_true, Bool.not_true, Bool.not_false] <;> (repeat' split) <;> rfl
end
