/-! PURE: faces; feed and end -/
theorem wtx_len (w : List Nat) : (wtx w).length = w.length := by unfold wtx; rw [List.length_map, List.length_reverse]
theorem wt_mod : ∀ w, wok w → ∀ j, e256 w / 2 ^ (8 * j) % 256 < 128 := by
  intro w
  induction w with
  | nil => intro _ j; rw [e256, Nat.zero_div]; decide
  | cons l r ih =>
    intro h j
    obtain ⟨h1, h2, h3⟩ := wok_c h
    rw [e256]
    cases j with
    | zero => rw [show 2 ^ (8 * 0) = 1 from rfl, Nat.div_one]; omega
    | succ j =>
      rw [show 8 * (j + 1) = 8 + 8 * j by omega, Nat.pow_add, ← Nat.div_div_eq_div_mul, show (e256 r * 256 + (96 + l)) / 2 ^ 8 = e256 r by omega]
      exact ih h3 j
def kwR : List Nat := [19, 23, 15, 14, 11]
def nbR : List Nat := [25, 4, 15, 2, 15, 14]
def vdR : List Nat := [4, 5, 12, 9, 5, 22]
def hmR : List Nat := [5, 13, 15, 8]
theorem wok_d {w : List Nat} (h : (w.all (fun l => decide (1 ≤ l) && decide (l ≤ 26))) = true) : wok w := fun l hl => by
  have := List.all_eq_true.mp h l hl
  rw [Bool.and_eq_true, decide_eq_true_eq, decide_eq_true_eq] at this
  exact this
section
variable (N : Nat) {sP : Nat → Nat → Int32} {iP : Nat → Int32} {iY : Nat → Int32} {sY : Nat → Nat → Int32} {tY : Nat → Nat → Int64} {jY : Nat → Int64}
theorem x_nm (hN : 2000 ≤ N) {w t : List Nat} (hw : wok w) (h7 : w.length ≤ 7) (ht : t.length + 7 ≤ 80) : f_X5_addName N (va_up sP 0 (putL (sP 0) 0 t)) (va_up iP 1 (nI t.length)) (lN (e32 w)) = some (va_up sP 0 (putL (sP 0) 0 (t ++ wtx w)), va_up iP 1 (nI (t ++ wtx w).length)) := by
  have hb := e32_b hw h7
  unfold f_X5_addName
  have := x_addName N (show e32 w < 2 ^ 63 by omega) 7 (by omega) N t.length (va_up sP 0 (putL (sP 0) 0 t)) (va_up iP 1 (nI t.length)) (by omega) rfl ht
  rw [dg32_w w hw 7 h7, q_ve, q_vv, q_vv] at this
  rw [putL_app, Nat.zero_add, List.length_append]
  exact this
theorem x_ch (c : Nat) {t : List Nat} (ht : t.length < 80) : f_X5_add N (va_up sP 0 (putL (sP 0) 0 t)) (va_up iP 1 (nI t.length)) (nI c) = some (va_up sP 0 (putL (sP 0) 0 (t ++ [c])), va_up iP 1 (nI (t ++ [c]).length)) := by
  rw [x_add N (n := t.length) rfl ht, q_ve, q_vv, q_vv, putL_app, Nat.zero_add, List.length_append]
  rfl
theorem x_tx (hN : 2000 ≤ N) (i : Nat) (cs : List Nat) (hl : lenS.getD i 0 = cs.length) (hc : ∀ j, j < cs.length → chS i j = nI (cs.getD j 0)) {t : List Nat} (ht : t.length + cs.length ≤ 80) : f_X5_addText N (va_up sP 0 (putL (sP 0) 0 t)) (va_up iP 1 (nI t.length)) i = some (va_up sP 0 (putL (sP 0) 0 (t ++ cs)), va_up iP 1 (nI (t ++ cs).length)) := by
  unfold f_X5_addText
  have e : ∀ j, j ≤ cs.length → (cs.take j).length = j := fun j hj => by rw [List.length_take]; omega
  have key := q_loopG (fun k j => f_X5_addText_2 N i k (va_up sP 0 (putL (sP 0) 0 (t ++ cs.take j))) (va_up iP 1 (nI (t ++ cs.take j).length)) (nI j)) (some (va_up sP 0 (putL (sP 0) 0 (t ++ cs)), va_up iP 1 (nI (t ++ cs).length))) cs.length N (by omega) (fun k => by
    show f_X5_addText_2 N i (k + 1) _ _ _ = _
    rw [f_X5_addText_2, hl, if_pos (nI_le (Nat.le_refl _) (by omega)), List.take_length]) (fun k j hj => by
    show f_X5_addText_2 N i (k + 1) _ _ _ = f_X5_addText_2 N i k _ _ _
    rw [f_X5_addText_2, hl, if_neg (nI_ge hj (by omega)), q_ck hj (by omega), show ix (nI j) = j from q_ix (by omega), hc j hj, x_ch N _ (by rw [List.length_append, e j (by omega)]; omega), q_bd, nI_1, List.append_assoc]
    have e2 : cs.take j ++ [cs.getD j 0] = cs.take (j + 1) := by
      rw [List.take_add_one, List.getD_eq_getElem?_getD]
      rw [List.getElem?_eq_getElem hj]; rfl
    rw [e2])
  refine Eq.trans ?_ key
  show _ = f_X5_addText_2 N i N (va_up sP 0 (putL (sP 0) 0 (t ++ cs.take 0))) (va_up iP 1 (nI (t ++ cs.take 0).length)) 0
  rw [List.take_zero, List.append_nil]
theorem y_sp (hN : 2000 ≤ N) {w t : List Nat} (hw : wok w) (h7 : w.length ≤ 7) (ht : t.length + 7 ≤ 80) : f_X11_spells N (va_up iY 37 (nI t.length)) (va_up sY 36 (putL (sY 36) 0 t)) tY jY (lN (e256 w)) = some (va_up iY 37 (nI (t ++ wtx w).length), va_up sY 36 (putL (sY 36) 0 (t ++ wtx w))) := by
  have hb := e256_b hw h7
  unfold f_X11_spells
  have := y_spells N (tY := tY) (jY := jY) (show e256 w < 2 ^ 63 by omega) (fun j _ => wt_mod w hw j) 8 (by omega) N t.length (va_up iY 37 (nI t.length)) (va_up sY 36 (putL (sY 36) 0 t)) (by omega) rfl (by rw [dg256_w w hw 8 (by omega), wtx_len]; omega)
  rw [dg256_w w hw 8 (by omega), q_ve, q_vv, q_vv] at this
  rw [putL_app, Nat.zero_add, List.length_append]
  exact this
theorem y_sy (hN : 2000 ≤ N) {w t : List Nat} (hw : wok w) (h7 : w.length ≤ 7) (ht : t.length + 8 ≤ 80) : f_X11_says N (va_up iY 37 (nI t.length)) (va_up sY 36 (putL (sY 36) 0 t)) tY jY (lN (e256 w)) = some (va_up iY 37 (nI (t ++ 32 :: wtx w).length), va_up sY 36 (putL (sY 36) 0 (t ++ 32 :: wtx w))) := by
  unfold f_X11_says
  rw [show (32 : Int32) = nI 32 from rfl, y_lays8 N (n := t.length) rfl (by omega) (by omega), q_bd]
  dsimp only
  rw [q_ve, q_vv, q_vv]
  have e1 : upd (putL (sY 36) 0 t) t.length (nI 32) = putL (sY 36) 0 (t ++ [32]) := by rw [putL_app, Nat.zero_add]; rfl
  have e2 : t.length + 1 = (t ++ [32]).length := by rw [List.length_append]; rfl
  rw [e1, e2, y_sp N hN hw h7 (by rw [← e2]; omega), q_bd, List.append_assoc]
  rfl
end
def flS (s : Nat → Int32) (a : Nat) (wN : Nat → List Nat) : Nat → List Nat
  | 0 => []
  | i + 1 => flS s a wN i ++ (if tb (kn s a) i then 32 :: wtx (wN i) else [])
theorem fl_len {s : Nat → Int32} {P Q a : Nat} (hL : IL s P Q) (hI : ID s P Q) (ha : a < P) (wN : Nat → List Nat) (hw : ∀ k, k < P → (wN k).length ≤ 7) : ∀ i, i ≤ P → (flS s a wN i).length ≤ 8 * (if a < i then i - 1 else i) := by
  have hP := hL.P7
  intro i
  induction i with
  | zero => intro _; exact Nat.zero_le _
  | succ i ih =>
    intro hi
    have ih := ih (by omega)
    rw [flS, List.length_append]
    by_cases h : tb (kn s a) i = true
    · have hne := (kn_tb hL hI (by omega) h).2.2.1
      rw [if_pos h, List.length_cons, wtx_len]
      have := hw i (by omega)
      by_cases h2 : a < i
      · rw [if_pos h2] at ih; rw [if_pos (by omega)]; omega
      · rw [if_neg h2] at ih; rw [if_neg (by omega)]; omega
    · rw [if_neg h, List.length_nil]
      by_cases h2 : a < i
      · rw [if_pos h2] at ih; rw [if_pos (by omega)]; omega
      · rw [if_neg h2] at ih
        split <;> omega
def FK (iP : Nat → Int32) (sP : Nat → Nat → Int32) (iY : Nat → Int32) (sY : Nat → Nat → Int32) : Prop := ∃ m, m ≤ 80 ∧ iP 1 = nI m ∧ iY 37 = nI m ∧ ∀ k, k < m → sP 0 k = sY 36 k
/-- what the names are, on both sides; 'base' is where the reference has them -/
def NM (tc ty : Nat → Int64) (base P Q : Nat) : Prop :=
  (∀ k, k < P → WR (tc k) (ty (base + k))) ∧ (∀ k, P ≤ k → k < 7 → tc k = 0) ∧ (∀ k, k < Q → WR (tc (7 + k)) (ty (base + 7 + k))) ∧ (∀ k, Q ≤ k → k < 5 → tc (7 + k) = 0) ∧ (∀ i j, i < 12 → j < 12 → tc i = tc j → tc i ≠ 0 → i = j)
theorem NM_ch {tc ty : Nat → Int64} {P Q : Nat} (h : NM tc ty 0 P Q) : ∃ wN : Nat → List Nat, ∀ k, k < P → wok (wN k) ∧ (wN k).length ≤ 7 ∧ tc k = lN (e32 (wN k)) ∧ ty k = lN (e256 (wN k)) := by
  have hx : ∀ k, ∃ w : List Nat, k < P → wok w ∧ w.length ≤ 7 ∧ tc k = lN (e32 w) ∧ ty k = lN (e256 w) := by
    intro k
    by_cases hk : k < P
    · obtain ⟨w, h1, _, h3, h4, h5⟩ := h.1 k hk
      rw [Nat.zero_add] at h5
      exact ⟨w, fun _ => ⟨h1, h3, h4, h5⟩⟩
    · exact ⟨[], fun h => absurd h hk⟩
  exact ⟨fun k => (hx k).choose, fun k hk => (hx k).choose_spec hk⟩
section
variable (N : Nat) {qX : Nat → Option Nat} {iX : Nat → Int32} {iC : Nat → Int32} {tC : Nat → Nat → Int64} {sC : Nat → Nat → Int32} {iM : Nat → Int32} {sM : Nat → Nat → Int32} {sP : Nat → Nat → Int32} {iP : Nat → Int32} {P Q : Nat}
variable (iY : Nat → Int32) (sY : Nat → Nat → Int32) (tY : Nat → Nat → Int64) (jY : Nat → Int64)
theorem x_dr31 (hN : 2000 ≤ N) (hC : CP (sY 6) iC sC) (hL : IL (sY 6) P Q) (hI : ID (sY 6) P Q) {a : Nat} (ha : a < P) (wN : Nat → List Nat) (hw : ∀ k, k < P → wok (wN k) ∧ (wN k).length ≤ 7 ∧ tC 2 k = lN (e32 (wN k)) ∧ tY 9 k = lN (e256 (wN k))) {t : List Nat} (ht : t.length ≤ 13) (K : (Nat → Nat → Int32) × (Nat → Int32) → Option ((Nat → Nat → Int32) × (Nat → Int32))) :
    f_X5_draw_31 N iM sM iC tC sC (nI a) (kn (sY 6) a) K N (va_up sP 0 (putL (sP 0) 0 t)) (va_up iP 1 (nI t.length)) 0 = K (va_up sP 0 (putL (sP 0) 0 (t ++ flS (sY 6) a wN P)), va_up iP 1 (nI (t ++ flS (sY 6) a wN P).length)) := by
  have hP := hL.P7
  have key := q_loopG (fun k i => f_X5_draw_31 N iM sM iC tC sC (nI a) (kn (sY 6) a) K k (va_up sP 0 (putL (sP 0) 0 (t ++ flS (sY 6) a wN i))) (va_up iP 1 (nI (t ++ flS (sY 6) a wN i).length)) (nI i)) (K (va_up sP 0 (putL (sP 0) 0 (t ++ flS (sY 6) a wN P)), va_up iP 1 (nI (t ++ flS (sY 6) a wN P).length))) P N (by omega) (fun k => by
    show f_X5_draw_31 N iM sM iC tC sC (nI a) (kn (sY 6) a) K (k + 1) _ _ _ = _
    rw [f_X5_draw_31, hC.pe, hL.s0, if_pos (nI_le (Nat.le_refl _) (by omega))]) (fun k i hi => by
    show f_X5_draw_31 N iM sM iC tC sC (nI a) (kn (sY 6) a) K (k + 1) _ _ _ = f_X5_draw_31 N iM sM iC tC sC (nI a) (kn (sY 6) a) K k _ _ _
    have hl := fl_len hL hI ha wN (fun k hk => (hw k hk).2.1) i (by omega)
    have hl2 : (t ++ flS (sY 6) a wN i).length ≤ 13 + 48 := by
      rw [List.length_append]
      have : (if a < i then i - 1 else i) ≤ 6 := by split <;> omega
      omega
    rw [f_X5_draw_31, hC.pe, hL.s0, if_neg (nI_ge hi (by omega)), x_has N _ (by omega), q_bd, q_jn, q_b0, nI_1, flS]
    cases tb (kn (sY 6) a) i with
    | false => rw [if_neg (by decide), if_neg (by decide), List.append_nil]
    | true =>
      obtain ⟨w1, w2, w3, w4⟩ := hw i hi
      rw [if_pos rfl, if_pos rfl, show (32 : Int32) = nI 32 from rfl, x_ch N 32 (by omega), q_bd]
      dsimp only
      rw [q_ck (show i < 12 by omega) (by omega), show ix (nI i) = i from q_ix (by omega), w3, x_nm N hN w1 w2 (by rw [List.length_append]; show (t ++ flS (sY 6) a wN i).length + 1 + 7 ≤ 80; omega), q_bd]
      have e : t ++ flS (sY 6) a wN i ++ [32] ++ wtx (wN i) = t ++ (flS (sY 6) a wN i ++ 32 :: wtx (wN i)) := by simp only [List.append_assoc]; rfl
      dsimp only
      rw [e])
  refine Eq.trans ?_ key
  show _ = f_X5_draw_31 N iM sM iC tC sC (nI a) (kn (sY 6) a) K N (va_up sP 0 (putL (sP 0) 0 (t ++ []))) (va_up iP 1 (nI (t ++ []).length)) 0
  rw [List.append_nil]
theorem y_fa54 (hN : 2000 ≤ N) (hL : IL (sY 6) P Q) (hI : ID (sY 6) P Q) {a : Nat} (ha : a < P) (wN : Nat → List Nat) (hw : ∀ k, k < P → wok (wN k) ∧ (wN k).length ≤ 7 ∧ tC 2 k = lN (e32 (wN k)) ∧ tY 9 k = lN (e256 (wN k))) {t : List Nat} (ht : t.length ≤ 13) (K : (Nat → Int32) × (Nat → Nat → Int32) → Option (Int32 × (Nat → Int32) × (Nat → Nat → Int32))) :
    f_X11_face_54 N tY jY (nI a) K N (va_up iY 37 (nI t.length)) (va_up sY 36 (putL (sY 36) 0 t)) 0 = K (va_up iY 37 (nI (t ++ flS (sY 6) a wN P).length), va_up sY 36 (putL (sY 36) 0 (t ++ flS (sY 6) a wN P))) := by
  have hP := hL.P7
  have key := q_loopG (fun k i => f_X11_face_54 N tY jY (nI a) K k (va_up iY 37 (nI (t ++ flS (sY 6) a wN i).length)) (va_up sY 36 (putL (sY 36) 0 (t ++ flS (sY 6) a wN i))) (nI i)) (K (va_up iY 37 (nI (t ++ flS (sY 6) a wN P).length), va_up sY 36 (putL (sY 36) 0 (t ++ flS (sY 6) a wN P)))) P N (by omega) (fun k => by
    show f_X11_face_54 N tY jY (nI a) K (k + 1) _ _ _ = _
    rw [f_X11_face_54, q_vn _ _ (show 6 ≠ 36 by omega), hL.s0, if_pos (nI_le (Nat.le_refl _) (by omega))]) (fun k i hi => by
    show f_X11_face_54 N tY jY (nI a) K (k + 1) _ _ _ = f_X11_face_54 N tY jY (nI a) K k _ _ _
    have hl := fl_len hL hI ha wN (fun k hk => (hw k hk).2.1) i (by omega)
    have hl2 : (t ++ flS (sY 6) a wN i).length ≤ 13 + 48 := by
      rw [List.length_append]
      have : (if a < i then i - 1 else i) ≤ 6 := by split <;> omega
      omega
    have e6 : va_up sY 36 (putL (sY 36) 0 (t ++ flS (sY 6) a wN i)) 6 = sY 6 := q_vn _ _ (by omega)
    rw [f_X11_face_54, e6, hL.s0, if_neg (nI_ge hi (by omega)), y_knownBy N _ _ tY jY (by omega), q_bd, e6, y_bitOf N _ (by omega), q_bd, q_jn, q_b0, nI_1, flS]
    cases tb (kn (sY 6) a) i with
    | false => rw [if_neg (by decide), if_neg (by decide), List.append_nil]
    | true =>
      obtain ⟨w1, w2, w3, w4⟩ := hw i hi
      rw [if_pos rfl, if_pos rfl, q_ck (show i < 24 by omega) (by omega), show ix (nI i) = i from q_ix (by omega), w4, y_sy N hN w1 w2 (by omega), q_bd, List.append_assoc])
  refine Eq.trans ?_ key
  show _ = f_X11_face_54 N tY jY (nI a) K N (va_up iY 37 (nI (t ++ []).length)) (va_up sY 36 (putL (sY 36) 0 (t ++ []))) 0
  rw [List.append_nil]
theorem b_face (hN : 2000 ≤ N) (hC : CP (sY 6) iC sC) (hM : MP (sY 6) iM sM) (hL : IL (sY 6) P Q) (hI : ID (sY 6) P Q) (hNm : NM (tC 2) (tY 9) 0 P Q) (hF : FK iP sP iY sY) (p1 : Int32) :
    ∃ r m g h, m ≤ 80 ∧ f_X10_face N qX iX sP iP iM sM iC tC sC p1 = some (r, va_up sP 0 g, va_up iP 1 (nI m)) ∧ f_X11_face N iY sY tY jY p1 = some (r, va_up (va_up iY 0 0) 37 (nI m), va_up sY 36 h) ∧ ∀ k, k < m → g k = h k := by
  have hP := hL.P7
  unfold f_X10_face f_X11_face
  rw [x_isPerson N hC hL.s0, y_isPerson N _ sY tY jY hP hL.s0, q_bd, q_bd]
  cases h1 : perB P p1 with
  | false =>
    obtain ⟨m, hm, m1, m2, m3⟩ := hF
    refine ⟨-1, m, sP 0, sY 36, hm, ?_, ?_, m3⟩
    · rw [q_vid, up_id m1]; rfl
    · rw [q_vid, up_id (show va_up iY 0 0 37 = nI m from m2)]; rfl
  | true =>
  obtain ⟨a, ha, rfl⟩ := perB_t hP h1
  obtain ⟨wN, hw⟩ := NM_ch hNm
  obtain ⟨w1, w2, w3, w4⟩ := hw a ha
  rw [bI_tt, bI_tt]
  unfold f_X5_draw
  rw [q_ck (show a < 12 by omega) (by omega), show ix (nI a) = a from q_ix (by omega), w3, q_ck (show a < 24 by omega) (by omega), w4]
  have z1 : f_X5_addName N sP (va_up iP 1 0) (lN (e32 (wN a))) = some (va_up sP 0 (putL (sP 0) 0 (wtx (wN a))), va_up iP 1 (nI (wtx (wN a)).length)) := by
    have := x_nm N (sP := sP) (iP := iP) hN (t := []) w1 w2 (by decide)
    rw [show putL (sP 0) 0 [] = sP 0 from rfl, q_vid, List.nil_append] at this
    exact this
  have z2 : f_X11_spells N (va_up (va_up iY 0 0) 37 0) sY tY jY (lN (e256 (wN a))) = some (va_up (va_up iY 0 0) 37 (nI (wtx (wN a)).length), va_up sY 36 (putL (sY 36) 0 (wtx (wN a)))) := by
    have := y_sp N (iY := va_up iY 0 0) (sY := sY) (tY := tY) (jY := jY) hN (t := []) w1 w2 (by decide)
    rw [show putL (sY 36) 0 [] = sY 36 from rfl, q_vid, List.nil_append] at this
    exact this
  have l0 : (wtx (wN a)).length ≤ 7 := by rw [wtx_len]; exact w2
  have l1 : (wtx (wN a) ++ [32, 107, 110, 111, 119, 115]).length ≤ 13 := by rw [List.length_append]; show (wtx (wN a)).length + 6 ≤ 13; omega
  rw [z1, z2, q_bd, q_bd]
  dsimp only
  rw [x_tx N hN 1 [32, 107, 110, 111, 119, 115] (by decide) (by decide +kernel) (by show (wtx (wN a)).length + 6 ≤ 80; omega), q_bd, show (461414299507 : Int64) = lN (e256 kwR) from by decide +kernel, y_sy N hN (w := kwR) (wok_d (by decide)) (by decide) (by omega), q_bd]
  dsimp only
  rw [show 32 :: wtx kwR = [32, 107, 110, 111, 119, 115] from by decide]
  rw [x_known N hC hM (by omega), q_bd, q_jn, x_dr31 N sY tY hN hC hL hI ha wN hw l1]
  dsimp only
  have e6 : ∀ g : Nat → Int32, va_up sY 36 g 6 = sY 6 := fun g => q_vn _ _ (by omega)
  have hlf := fl_len hL hI ha wN (fun k hk => (hw k hk).2.1) P (Nat.le_refl _)
  rw [if_pos ha] at hlf
  rw [y_knownBy N _ _ tY jY (by omega), q_bd, e6, q_jn, q_jn]
  generalize hT : wtx (wN a) ++ [32, 107, 110, 111, 119, 115] = T at l1
  -- the text behind the names of friends
  obtain ⟨U, hU, eX, eY⟩ : ∃ U : List Nat, U.length ≤ 13 + 48 ∧
      (∀ K : (Nat → Nat → Int32) × (Nat → Int32) → Option ((Nat → Nat → Int32) × (Nat → Int32)), (if kn (sY 6) a = 0 then bd (f_X5_addText N (va_up sP 0 (putL (sP 0) 0 (T ++ flS (sY 6) a wN P))) (va_up iP 1 (nI (T ++ flS (sY 6) a wN P).length)) 2) (fun z => K (z.1, z.2)) else K (va_up sP 0 (putL (sP 0) 0 (T ++ flS (sY 6) a wN P)), va_up iP 1 (nI (T ++ flS (sY 6) a wN P).length))) = K (va_up sP 0 (putL (sP 0) 0 U), va_up iP 1 (nI U.length))) ∧
      (∀ K : (Nat → Int32) × (Nat → Nat → Int32) → Option (Int32 × (Nat → Int32) × (Nat → Nat → Int32)), (if kn (sY 6) a = 0 then bd (f_X11_says N (va_up (va_up iY 0 0) 37 (nI T.length)) (va_up sY 36 (putL (sY 36) 0 T)) tY jY 121424671892601) (fun z => f_X11_face_54 N tY jY (nI a) K N z.1 z.2 0) else f_X11_face_54 N tY jY (nI a) K N (va_up (va_up iY 0 0) 37 (nI T.length)) (va_up sY 36 (putL (sY 36) 0 T)) 0) = K (va_up (va_up iY 0 0) 37 (nI U.length), va_up sY 36 (putL (sY 36) 0 U))) := by
    by_cases hk : kn (sY 6) a = 0
    · have hf : ∀ i, flS (sY 6) a wN i = [] := by
        intro i
        induction i with
        | zero => rfl
        | succ i ih => rw [flS, ih, hk, tb_0]; rfl
      refine ⟨T ++ [32, 110, 111, 98, 111, 100, 121], by rw [List.length_append]; show T.length + 7 ≤ 61; omega, fun K => ?_, fun K => ?_⟩
      · rw [if_pos hk, hf, List.append_nil, x_tx N hN 2 [32, 110, 111, 98, 111, 100, 121] (by decide) (by decide +kernel) (by show T.length + 7 ≤ 80; omega), q_bd]
      · rw [if_pos hk, show (121424671892601 : Int64) = lN (e256 nbR) from by decide +kernel, y_sy N hN (w := nbR) (wok_d (by decide)) (by decide) (by omega), q_bd]
        dsimp only
        rw [show 32 :: wtx nbR = [32, 110, 111, 98, 111, 100, 121] from by decide]
        have key := q_loopG (fun k i => f_X11_face_54 N tY jY (nI a) K k (va_up (va_up iY 0 0) 37 (nI (T ++ [32, 110, 111, 98, 111, 100, 121]).length)) (va_up sY 36 (putL (sY 36) 0 (T ++ [32, 110, 111, 98, 111, 100, 121]))) (nI i)) (K (va_up (va_up iY 0 0) 37 (nI (T ++ [32, 110, 111, 98, 111, 100, 121]).length), va_up sY 36 (putL (sY 36) 0 (T ++ [32, 110, 111, 98, 111, 100, 121])))) P N (by omega) (fun k => by
          show f_X11_face_54 N tY jY (nI a) K (k + 1) _ _ _ = _
          rw [f_X11_face_54, e6, hL.s0, if_pos (nI_le (Nat.le_refl _) (by omega))]) (fun k i hi => by
          show f_X11_face_54 N tY jY (nI a) K (k + 1) _ _ _ = f_X11_face_54 N tY jY (nI a) K k _ _ _
          rw [f_X11_face_54, e6, hL.s0, if_neg (nI_ge hi (by omega)), y_knownBy N _ _ tY jY (by omega), q_bd, e6, y_bitOf N _ (by omega), q_bd, q_jn, q_b0, nI_1, hk, tb_0, if_neg (by decide)])
        exact key
    · refine ⟨T ++ flS (sY 6) a wN P, by rw [List.length_append]; omega, fun K => if_neg hk, fun K => ?_⟩
      rw [if_neg hk]
      exact y_fa54 N (va_up iY 0 0) sY tY jY hN hL hI ha wN hw l1 K
  have hV : f_X10_has N (iM 3) (nI a) = some (bI (tb (sY 6 134) a)) := by rw [x_has N _ (by omega), hM.vd]
  have hH : f_X10_has N (iM 2) (nI a) = some (bI (tb (sY 6 133) a)) := by rw [x_has N _ (by omega), hM.ho]
  obtain ⟨V, lV, vx, vy⟩ : ∃ V : List Nat, V.length ≤ 68 ∧
      (∀ K : (Nat → Nat → Int32) × (Nat → Int32) → Option ((Nat → Nat → Int32) × (Nat → Int32)), (if bI (tb (sY 6 134) a) = 0 then K (va_up sP 0 (putL (sP 0) 0 U), va_up iP 1 (nI U.length)) else bd (f_X5_addText N (va_up sP 0 (putL (sP 0) 0 U)) (va_up iP 1 (nI U.length)) 3) (fun x => K (x.1, x.2))) = K (va_up sP 0 (putL (sP 0) 0 V), va_up iP 1 (nI V.length))) ∧
      (∀ K : (Nat → Int32) × (Nat → Nat → Int32) → Option (Int32 × (Nat → Int32) × (Nat → Nat → Int32)), (if bI (tb (sY 6 134) a) = 0 then K (va_up (va_up iY 0 0) 37 (nI U.length), va_up sY 36 (putL (sY 36) 0 U)) else bd (f_X11_says N (va_up (va_up iY 0 0) 37 (nI U.length)) (va_up sY 36 (putL (sY 36) 0 U)) tY jY 130177932485988) (fun x => K (x.1, x.2))) = K (va_up (va_up iY 0 0) 37 (nI V.length), va_up sY 36 (putL (sY 36) 0 V))) := by
    cases tb (sY 6 134) a with
    | false => exact ⟨U, by omega, fun K => rfl, fun K => rfl⟩
    | true =>
      refine ⟨U ++ [32, 118, 101, 105, 108, 101, 100], by rw [List.length_append]; show U.length + 7 ≤ 68; omega, fun K => ?_, fun K => ?_⟩
      · rw [bI_tt, x_tx N hN 3 [32, 118, 101, 105, 108, 101, 100] (by decide) (by decide +kernel) (by show U.length + 7 ≤ 80; omega), q_bd]
      · rw [bI_tt, show (130177932485988 : Int64) = lN (e256 vdR) from by decide +kernel, y_sy N hN (w := vdR) (wok_d (by decide)) (by decide) (by omega), q_bd, show 32 :: wtx vdR = [32, 118, 101, 105, 108, 101, 100] from by decide]
  obtain ⟨W, lW, wx, wy⟩ : ∃ W : List Nat, W.length ≤ 80 ∧
      ((if bI (tb (sY 6 133) a) = 0 then some (va_up sP 0 (putL (sP 0) 0 V), va_up iP 1 (nI V.length)) else bd (f_X5_addText N (va_up sP 0 (putL (sP 0) 0 V)) (va_up iP 1 (nI V.length)) 4) (fun x => some (x.1, x.2))) = some (va_up sP 0 (putL (sP 0) 0 W), va_up iP 1 (nI W.length))) ∧
      ((if bI (tb (sY 6 133) a) = 0 then some (va_up (va_up iY 0 0) 37 (nI V.length) 37, va_up (va_up iY 0 0) 37 (nI V.length), va_up sY 36 (putL (sY 36) 0 V)) else bd (f_X11_says N (va_up (va_up iY 0 0) 37 (nI V.length)) (va_up sY 36 (putL (sY 36) 0 V)) tY jY 1752132965) (fun x => some (x.1 37, x.1, x.2))) = some (nI W.length, va_up (va_up iY 0 0) 37 (nI W.length), va_up sY 36 (putL (sY 36) 0 W))) := by
    cases tb (sY 6 133) a with
    | false => exact ⟨V, by omega, rfl, rfl⟩
    | true =>
      refine ⟨V ++ [32, 104, 111, 109, 101], by rw [List.length_append]; show V.length + 5 ≤ 80; omega, ?_, ?_⟩
      · rw [bI_tt, x_tx N hN 4 [32, 104, 111, 109, 101] (by decide) (by decide +kernel) (by show V.length + 5 ≤ 80; omega), q_bd]
      · rw [bI_tt, show (1752132965 : Int64) = lN (e256 hmR) from by decide +kernel, y_sy N hN (w := hmR) (wok_d (by decide)) (by decide) (by omega), q_bd, show 32 :: wtx hmR = [32, 104, 111, 109, 101] from by decide]
        rfl
  refine ⟨nI W.length, W.length, putL (sP 0) 0 W, putL (sY 36) 0 W, lW, ?_, ?_, fun k hk => putL_eq W _ _ 0 (fun j hj => absurd hj (Nat.not_lt_zero _)) k (by omega)⟩
  · have hx := eX (fun z => bd (f_X10_has N (iM 3) (nI a)) (fun r_20 => jn (fun (z : (Nat → Nat → Int32) × (Nat → Int32)) => bd (f_X10_has N (iM 2) (nI a)) (fun r_27 => if r_27 = 0 then some (z.1, z.2) else bd (f_X5_addText N z.1 z.2 4) (fun x => some (x.1, x.2)))) (fun K_22 => if r_20 = 0 then K_22 (z.1, z.2) else bd (f_X5_addText N z.1 z.2 3) (fun x => K_22 (x.1, x.2)))))
    have hx2 : (fun z => bd (f_X10_has N (iM 3) (nI a)) (fun r_20 => jn (fun (z : (Nat → Nat → Int32) × (Nat → Int32)) => bd (f_X10_has N (iM 2) (nI a)) (fun r_27 => if r_27 = 0 then some (z.1, z.2) else bd (f_X5_addText N z.1 z.2 4) (fun x => some (x.1, x.2)))) (fun K_22 => if r_20 = 0 then K_22 (z.1, z.2) else bd (f_X5_addText N z.1 z.2 3) (fun x => K_22 (x.1, x.2))))) (va_up sP 0 (putL (sP 0) 0 U), va_up iP 1 (nI U.length)) = some (va_up sP 0 (putL (sP 0) 0 W), va_up iP 1 (nI W.length)) := by
      dsimp only
      rw [hV, q_bd, q_jn]
      refine (vx (fun (z : (Nat → Nat → Int32) × (Nat → Int32)) => bd (f_X10_has N (iM 2) (nI a)) (fun r_27 => if r_27 = 0 then some (z.1, z.2) else bd (f_X5_addText N z.1 z.2 4) (fun x => some (x.1, x.2))))).trans ?_
      dsimp only
      rw [hH, q_bd]
      exact wx
    exact congrArg (fun o => bd o (fun (x : (Nat → Nat → Int32) × (Nat → Int32)) => some (x.2 1, x.1, x.2))) (hx.trans hx2)
  · refine (eY _).trans ?_
    dsimp only
    rw [y_isVeiled N _ _ tY jY (by omega), q_bd, q_jn, e6]
    refine (vy (fun z => bd (f_X11_isHome N z.1 z.2 tY jY (nI a)) (fun r_30 => if r_30 = 0 then some (z.1 37, z.1, z.2) else bd (f_X11_says N z.1 z.2 tY jY 1752132965) (fun x => some (x.1 37, x.1, x.2))))).trans ?_
    dsimp only
    rw [y_isHome N _ _ tY jY (by omega), q_bd, e6]
    exact wy
theorem tb_255 : ∀ i, i < 32 → tb 255 i = decide (i < 8) := by decide +kernel
theorem tb_i8 (x : Int32) {i : Nat} (h : i < 8) : tb (x.toInt8.toInt32) i = tb x i := by
  unfold tb
  show (x.toInt8.toBitVec.signExtend 32).getLsbD i = _
  rw [BitVec.getLsbD_signExtend, decide_eq_true (show i < 32 by omega), Bool.true_and, if_pos h]
  show (x.toBitVec.signExtend 8).getLsbD i = _
  rw [BitVec.getLsbD_signExtend, decide_eq_true h, Bool.true_and, if_pos (show i < 32 by omega)]
theorem tb_us (x : Int32) {k : Nat} (hk : k < 31) (i : Nat) : tb (us x (nI k)) i = tb x (k + i) := by
  show (x.toUInt32 >>> ((nI k).toUInt32 &&& Int32.toUInt32 31)).toBitVec.getLsbD i = x.toUInt32.toBitVec.getLsbD (k + i)
  rw [UInt32.toBitVec_shiftRight]
  show (x.toUInt32.toBitVec >>> (((nI k).toUInt32 &&& Int32.toUInt32 31).toBitVec % 32).toNat).getLsbD i = _
  rw [tb_su k (by omega), BitVec.getLsbD_ushiftRight]
theorem tb_sr (x : Int32) {k i : Nat} (hk : k < 31) (hi : k + i < 32) : tb (x >>> (nI k &&& 31)) i = tb x (k + i) := by
  unfold tb
  rw [Int32.toBitVec_shiftRight]
  show (x.toBitVec.sshiftRight ((nI k &&& 31).toBitVec.smod 32).toNat).getLsbD i = _
  rw [tb_sl k (by omega), BitVec.getLsbD_sshiftRight, decide_eq_false (show ¬ 32 ≤ i by omega), if_pos hi]
  rfl
theorem byte_eq (v : Int32) {k : Nat} (hk : k ≤ 24) : us v (nI k) &&& 255 = vp_nar .byte ((v >>> (nI k &&& 31)).toInt8.toInt32) &&& 255 := by
  refine tb_ext (fun i hi => ?_)
  rw [tb_and, tb_and, tb_255 i hi, pk_vb]
  by_cases h : i < 8
  · rw [tb_i8 _ h, tb_us _ (by omega), tb_sr _ (by omega) (by omega)]
  · rw [decide_eq_false h, Bool.and_false, Bool.and_false]
theorem x_ap1 {sT : Nat → Nat → Int32} {iT : Nat → Int32} {jT : Nat → Int64} (k : Nat) {L sh : Nat} (hL : L < 940) (h1 : iT 1 = nI L) (v : Int32) (hs : sh < 100) : f_X8_append_3 N jT v (k + 1) sT iT (nI sh) = f_X8_append_3 N jT v k (va_up sT 0 (upd (sT 0) L (us v (nI sh) &&& 255))) (va_up iT 1 (nI (L + 1))) (nI sh + (-8)) := by
  rw [f_X8_append_3, if_neg (nI_n0 (by omega)), h1, L940, if_neg (nI_ge hL (by omega)), q_ck hL (by omega), q_nv, show ix (nI L) = L from q_ix (by omega), nI_1]
theorem y_ap1 {iY : Nat → Int32} {sY : Nat → Nat → Int32} (k : Nat) {L sh : Nat} (hL : L < 940) (h1 : iY 2 = nI L) (v : Int32) (hs : sh < 100) : f_X11_four_3 N tY jY v (k + 1) iY sY (nI sh) = f_X11_four_3 N tY jY v k (va_up iY 2 (nI (L + 1))) (va_up sY 1 (upd (sY 1) L (vp_nar .byte ((v >>> (nI sh &&& 31)).toInt8.toInt32)))) (nI sh + (-8)) := by
  rw [f_X11_four_3, if_neg (nI_n0 (by omega)), h1, q_ck hL (by omega), q_nv, show ix (nI L) = L from q_ix (by omega), nI_1]
theorem b_app (hN : 2000 ≤ N) {sT : Nat → Nat → Int32} {iT : Nat → Int32} {jT : Nat → Int64} (iY : Nat → Int32) (sY : Nat → Nat → Int32) {L : Nat} (hL : L + 4 ≤ 940) (h1 : iT 1 = nI L) (h2 : iY 2 = nI L) (hB : ∀ k, k < 940 → sT 0 k = sY 1 k &&& 255) (v : Int32) :
    ∃ g h, f_X8_append N sT iT jT v = some (va_up sT 0 g, va_up iT 1 (nI (L + 4))) ∧ f_X11_four N iY sY tY jY v = some (va_up iY 2 (nI (L + 4)), va_up sY 1 h) ∧ ∀ k, k < 940 → g k = h k &&& 255 := by
  obtain ⟨n, rfl⟩ : ∃ n, N = n + 5 := ⟨N - 5, by omega⟩
  have st : ∀ (g h : Nat → Int32) (M sh : Nat), sh ≤ 24 → (∀ k, k < 940 → g k = h k &&& 255) → ∀ k, k < 940 → upd g M (us v (nI sh) &&& 255) k = upd h M (vp_nar .byte ((v >>> (nI sh &&& 31)).toInt8.toInt32)) k &&& 255 := by
    intro g h M sh hs hg k hk
    by_cases c : k = M
    · rw [c, pk_us, pk_us]; exact byte_eq v hs
    · rw [pk_un c, pk_un c]; exact hg k hk
  have b1 := st _ _ L 24 (by omega) hB
  have b2 := st _ _ (L + 1) 16 (by omega) b1
  have b3 := st _ _ (L + 2) 8 (by omega) b2
  have b4 := st _ _ (L + 3) 0 (by omega) b3
  refine ⟨_, _, ?_, ?_, b4⟩
  · unfold f_X8_append
    rw [show (24 : Int32) = nI (16 + 8) from rfl, show n + 5 = (n + 4) + 1 from rfl, x_ap1 (n + 5) (n + 4) (by omega) h1 v (by omega), m8_n, show n + 4 = (n + 3) + 1 from rfl, show nI 16 = nI (8 + 8) from rfl, x_ap1 (n + 5) (n + 3) (L := L + 1) (by omega) rfl v (by omega), m8_n, show n + 3 = (n + 2) + 1 from rfl, show nI 8 = nI (0 + 8) from rfl, x_ap1 (n + 5) (n + 2) (L := L + 1 + 1) (by omega) rfl v (by omega), m8_n, show n + 2 = (n + 1) + 1 from rfl, x_ap1 (n + 5) (n + 1) (L := L + 1 + 1 + 1) (by omega) rfl v (by omega), f_X8_append_3, if_pos (by decide)]
    simp only [q_ve, q_vv]
  · unfold f_X11_four
    rw [show (24 : Int32) = nI (16 + 8) from rfl, show n + 5 = (n + 4) + 1 from rfl, y_ap1 (n + 5) tY jY (n + 4) (by omega) h2 v (by omega), m8_n, show n + 4 = (n + 3) + 1 from rfl, show nI 16 = nI (8 + 8) from rfl, y_ap1 (n + 5) tY jY (n + 3) (L := L + 1) (by omega) rfl v (by omega), m8_n, show n + 3 = (n + 2) + 1 from rfl, show nI 8 = nI (0 + 8) from rfl, y_ap1 (n + 5) tY jY (n + 2) (L := L + 1 + 1) (by omega) rfl v (by omega), m8_n, show n + 2 = (n + 1) + 1 from rfl, y_ap1 (n + 5) tY jY (n + 1) (L := L + 1 + 1 + 1) (by omega) rfl v (by omega), f_X11_four_3, if_pos (by decide)]
    simp only [q_ve, q_vv]
theorem b_feed (hN : 2000 ≤ N) {sT : Nat → Nat → Int32} {iT : Nat → Int32} {jT : Nat → Int64} {L : Nat} (hL : L ≤ 940) (h1 : iT 1 = nI L) (h2 : iY 2 = nI L) (hB : ∀ k, k < 940 → sT 0 k = sY 1 k &&& 255) (p1 p2 p3 p4 p5 : Int32) :
    ∃ r M g h, M ≤ 940 ∧ f_X10_feed N qX iX sT iT jT p1 p2 p3 p4 p5 = some (r, va_up sT 0 g, va_up iT 1 (nI M)) ∧ f_X11_feed N iY sY tY jY p1 p2 p3 p4 p5 = some (r, va_up (va_up iY 0 0) 2 (nI M), va_up sY 1 h) ∧ ∀ k, k < 940 → g k = h k &&& 255 := by
  unfold f_X10_feed f_X11_feed f_X8_hasRoomForFeed
  rw [h1, h2, show (20 : Int32) = nI 20 from rfl, nI_add, L920, L940, i_lt (by omega) (by omega), i_le (by omega) (by omega)]
  by_cases c : L + 20 ≤ 940
  · rw [if_neg (show ¬ 920 < L by omega), if_pos c, q_bd, if_neg (show ¬ (1 : Int32) = 0 by decide)]
    obtain ⟨g1, k1, a1, c1, d1⟩ := b_app N tY jY hN (jT := jT) (va_up iY 0 0) sY (L := L) (by omega) h1 h2 hB p1
    obtain ⟨g2, k2, a2, c2, d2⟩ := b_app N tY jY hN (jT := jT) (sT := va_up sT 0 g1) (iT := va_up iT 1 (nI (L + 4))) (va_up (va_up iY 0 0) 2 (nI (L + 4))) (va_up sY 1 k1) (L := L + 4) (by omega) rfl rfl d1 p2
    obtain ⟨g3, k3, a3, c3, d3⟩ := b_app N tY jY hN (jT := jT) (sT := va_up (va_up sT 0 g1) 0 g2) (iT := va_up (va_up iT 1 (nI (L + 4))) 1 (nI (L + 4 + 4))) (va_up (va_up (va_up iY 0 0) 2 (nI (L + 4))) 2 (nI (L + 4 + 4))) (va_up (va_up sY 1 k1) 1 k2) (L := L + 4 + 4) (by omega) rfl rfl d2 p3
    obtain ⟨g4, k4, a4, c4, d4⟩ := b_app N tY jY hN (jT := jT) (sT := va_up (va_up (va_up sT 0 g1) 0 g2) 0 g3) (iT := va_up (va_up (va_up iT 1 (nI (L + 4))) 1 (nI (L + 4 + 4))) 1 (nI (L + 4 + 4 + 4))) (va_up (va_up (va_up (va_up iY 0 0) 2 (nI (L + 4))) 2 (nI (L + 4 + 4))) 2 (nI (L + 4 + 4 + 4))) (va_up (va_up (va_up sY 1 k1) 1 k2) 1 k3) (L := L + 4 + 4 + 4) (by omega) rfl rfl d3 p4
    obtain ⟨g5, k5, a5, c5, d5⟩ := b_app N tY jY hN (jT := jT) (sT := va_up (va_up (va_up (va_up sT 0 g1) 0 g2) 0 g3) 0 g4) (iT := va_up (va_up (va_up (va_up iT 1 (nI (L + 4))) 1 (nI (L + 4 + 4))) 1 (nI (L + 4 + 4 + 4))) 1 (nI (L + 4 + 4 + 4 + 4))) (va_up (va_up (va_up (va_up (va_up iY 0 0) 2 (nI (L + 4))) 2 (nI (L + 4 + 4))) 2 (nI (L + 4 + 4 + 4))) 2 (nI (L + 4 + 4 + 4 + 4))) (va_up (va_up (va_up (va_up sY 1 k1) 1 k2) 1 k3) 1 k4) (L := L + 4 + 4 + 4 + 4) (by omega) rfl rfl d4 p5
    refine ⟨nI (L + 4 + 4 + 4 + 4 + 4), L + 4 + 4 + 4 + 4 + 4, g5, k5, by omega, ?_, ?_, d5⟩
    · rw [a1, q_bd]; dsimp only
      rw [a2, q_bd]; dsimp only
      rw [a3, q_bd]; dsimp only
      rw [a4, q_bd]; dsimp only
      rw [a5, q_bd]; simp only [q_vv, q_ve]
    · rw [c1, q_bd]; dsimp only
      rw [c2, q_bd]; dsimp only
      rw [c3, q_bd]; dsimp only
      rw [c4, q_bd]; dsimp only
      rw [c5, q_bd]; simp only [q_vv, q_ve]
  · rw [if_pos (show 920 < L by omega), if_neg c, q_bd]
    refine ⟨-1, L, sT 0, sY 1, hL, ?_, ?_, hB⟩
    · rw [q_vid, up_id h1]; rfl
    · rw [q_vid, up_id (show va_up iY 0 0 2 = nI L from h2)]
theorem b_end {sT : Nat → Nat → Int32} {iT : Nat → Int32} {jT : Nat → Int64} {L : Nat} (hL : L ≤ 940) (h1 : iT 1 = nI L) (h2 : iY 2 = nI L) (p1 : Int32) :
    ∃ r M, M ≤ 940 ∧ f_X10_end N qX iX sT iT jT p1 = some (r, va_up iT 1 (nI M)) ∧ f_X11_end N iY sY tY jY p1 = some (r, va_up (va_up iY 0 0) 2 (nI M)) := by
  unfold f_X10_end f_X11_end
  rw [h1, h2]
  have e1 : va_up iT 1 (nI L) = iT := up_id h1
  have e2 : va_up (va_up iY 0 0) 2 (nI L) = va_up iY 0 0 := up_id (show va_up iY 0 0 2 = nI L from h2)
  by_cases c1 : p1 < 0
  · rw [if_pos c1, if_pos c1]; exact ⟨0, L, hL, by rw [e1], by rw [e2]⟩
  · rw [if_neg c1, if_neg c1]
    by_cases c2 : p1 ≤ nI L
    · rw [if_pos c2, if_pos c2]
      obtain ⟨j, hj, rfl⟩ := nI_of c1
      have := (nI_leI (by omega) (by omega)).mp c2
      exact ⟨1, j, by omega, rfl, rfl⟩
    · rw [if_neg c2, if_neg c2]; exact ⟨0, L, hL, by rw [e1], by rw [e2]⟩
end
