/-! PURE: calls that only read -/
theorem in_le {p : Int32} {m : Nat} (hm : m < 1000) (h1 : ¬ p < 0) (h2 : p ≤ nI m) : ∃ j, j ≤ m ∧ p = nI j := by
  obtain ⟨j, hj, rfl⟩ := nI_of h1
  exact ⟨j, (nI_leI hj (by omega)).mp h2, rfl⟩
theorem q_dt {α : Type} {p : Prop} [Decidable p] (h : p) {x y : α} : (if bI (decide p) = 0 then x else y) = y := by rw [q_b0, if_pos (decide_eq_true h)]
theorem q_df {α : Type} {p : Prop} [Decidable p] (h : ¬ p) {x y : α} : (if bI (decide p) = 0 then x else y) = x := by rw [q_b0, if_neg (by simp [h])]
def oI : Option Nat → Int32
  | none => -1
  | some b => nI b
theorem bI_tt {α : Type} {x y : α} : (if bI true = 0 then x else y) = y := rfl
theorem bI_ff {α : Type} {x y : α} : (if bI false = 0 then x else y) = x := rfl
theorem oI_s (b : Nat) : oI (some b) = nI b := rfl
theorem oI_n : oI none = -1 := rfl
theorem kn_tb {s : Nat → Int32} {P Q a q : Nat} (hL : IL s P Q) (hI : ID s P Q) (ha : a < 7) (h : tb (kn s a) q = true) : a < P ∧ q < P ∧ a ≠ q ∧ tb (kn s q) a = true := by
  unfold kn at h ⊢
  rw [tb_or] at h ⊢
  cases h1 : tb (s (117 + a)) q with
  | true =>
    obtain ⟨h2, h3, h4, h5⟩ := hL.kn a q ha h1
    exact ⟨h2, h3, h4, by rw [h5]; rfl⟩
  | false =>
    rw [h1, Bool.false_or] at h
    obtain ⟨h2, h3, h4, h5⟩ := hI.me a q ha h
    exact ⟨h2, h3, h4, by rw [h5, Bool.or_true]⟩
theorem kn_sm {s : Nat → Int32} {P Q a : Nat} (hL : IL s P Q) (hI : ID s P Q) (ha : a < 7) : sm (kn s a) :=
  sm_of (fun k _ hk => by have := (kn_tb hL hI ha hk).2.1; have := hL.P7; omega)
theorem kn_pc {s : Nat → Int32} {P Q a : Nat} (hL : IL s P Q) (hI : ID s P Q) (ha : a < 7) : pc (kn s a) < 7 := by
  have h : tb (kn s a) a = false := by
    cases h : tb (kn s a) a with
    | false => rfl
    | true => exact absurd rfl (kn_tb hL hI ha h).2.2.1
  unfold pc
  rcases (by omega : a = 0 ∨ a = 1 ∨ a = 2 ∨ a = 3 ∨ a = 4 ∨ a = 5 ∨ a = 6) with rfl | rfl | rfl | rfl | rfl | rfl | rfl <;> rw [h] <;> simp only [Bool.false_eq_true, if_false] <;> (repeat' split) <;> omega
theorem my_sm {s : Nat → Int32} {P a : Nat} (hP : P ≤ 7) (ha : a < 7) : sm (my s P a) :=
  sm_of (fun k hk h => by
    rw [my_tb hP ha hk] at h
    simp only [Bool.and_eq_true, decide_eq_true_eq] at h
    omega)
theorem sm_and {x y : Int32} (h : sm x) : sm (x &&& y) := sm_of (fun k hk h2 => by
  rw [tb_and, Bool.and_eq_true] at h2
  refine Nat.lt_of_not_le (fun h7 => ?_)
  rw [sm_tb h h7] at h2
  exact absurd h2.1 (by decide))
section
variable (N : Nat) {qX : Nat → Option Nat} {iX : Nat → Int32} {iC : Nat → Int32} {tC : Nat → Nat → Int64} {sC : Nat → Nat → Int32} {iM iM2 : Nat → Int32} {sM sM2 : Nat → Nat → Int32} {P Q : Nat}
variable (iY : Nat → Int32) (sY : Nat → Nat → Int32) (tY : Nat → Nat → Int64) (jY : Nat → Int64)
theorem b_odds (hN : 2000 ≤ N) (hC : CP (sY 6) iC sC) (hM : MP (sY 6) iM sM) (hL : IL (sY 6) P Q) (hI : ID (sY 6) P Q) (p1 p2 p3 : Int32) :
    ∃ r iM' sM' w b', f_X10_odds N qX iX iM sM iM2 sM2 iC tC sC p1 p2 p3 = some (r, iM', sM') ∧ f_X11_odds N iY sY tY jY p1 p2 p3 = some (r, va_up (va_up iY 0 0) 38 w, va_up sY 22 b') := by
  have e38 : va_up (va_up iY 0 0) 38 (iY 38) = va_up iY 0 0 := up_id rfl
  have e22 : va_up sY 22 (sY 22) = sY := q_vid _ _
  have stay : f_X10_odds N qX iX iM sM iM2 sM2 iC tC sC p1 p2 p3 = some (-1, iM2, sM2) → f_X11_odds N iY sY tY jY p1 p2 p3 = some (-1, va_up iY 0 0, sY) → ∃ r iM' sM' w b', f_X10_odds N qX iX iM sM iM2 sM2 iC tC sC p1 p2 p3 = some (r, iM', sM') ∧ f_X11_odds N iY sY tY jY p1 p2 p3 = some (r, va_up (va_up iY 0 0) 38 w, va_up sY 22 b') :=
    fun e1 e2 => ⟨-1, iM2, sM2, iY 38, sY 22, e1, by rw [e38, e22]; exact e2⟩
  unfold f_X10_odds f_X11_odds at stay ⊢
  rw [x_isPerson N hC hL.s0, y_isPerson N _ sY tY jY hL.P7 hL.s0, y_isIn, q_bd, q_bd] at stay ⊢
  cases h1 : perB P p1 with
  | false => rw [h1] at stay; exact stay rfl rfl
  | true =>
  obtain ⟨a, ha, rfl⟩ := perB_t hL.P7 h1
  have hP := hL.P7
  rw [h1] at stay
  by_cases h2 : p2 < 1
  · exact stay (if_pos h2) (by rw [q_bd, q_df (fun h => h.1 h2)]; rfl)
  · by_cases h3 : p2 ≤ 30
    · obtain ⟨m, hm0, hm, rfl⟩ := in_of (m := 30) (by omega) h2 h3
      have e1 : ∀ {α : Type} {x y : α}, (if bI true = 0 then x else y) = y := fun {α x y} => rfl
      rw [e1, e1, if_neg h2, if_pos h3, q_bd, q_dt ⟨h2, h3⟩, y_tries N _ sY tY jY hN, q_bd]
      obtain ⟨iM', sM', e2⟩ := x_odds N (qX := qX) (iX := iX) (tC := tC) (iM2 := iM2) (sM2 := sM2) hN hC hM hL hI (a := a) (by omega) hm p3
      have hs : va_up sY 22 (trS (sY 6) (sY 22) 145) 6 = sY 6 := q_vn _ _ (by omega)
      obtain ⟨w, e3⟩ := y_odds N (va_up iY 0 0) (va_up sY 22 (trS (sY 6) (sY 22) 145)) tY jY (P := P) (Q := Q) hN (by rw [hs]; exact hL) (by rw [hs]; exact hI) (a := a) (by omega) hm p3 (fun k hk => by rw [q_ve, hs]; unfold trS; rw [if_pos hk])
      refine ⟨oddC P Q (sY 6) a p3 m, iM', sM', w, trS (sY 6) (sY 22) 145, e2, ?_⟩
      rw [hs] at e3
      rw [L136, nI_add, q_ck (show 136 + a < 457 by omega) (by omega), q_nv, show ix (nI (136 + a)) = 136 + a from q_ix (by omega), hs]
      exact e3
    · exact stay (by rw [bI_tt, if_neg h2, if_neg h3]) (by rw [q_bd, q_df (fun h => h3 h.2)]; rfl)
theorem b_good (hC : CP (sY 6) iC sC) (hM : MP (sY 6) iM sM) (hL : IL (sY 6) P Q) (p1 p2 p3 : Int32) :
    ∃ r, f_X10_good N qX iX iM sM iC tC sC p1 p2 p3 = some r ∧ f_X11_good N iY sY tY jY p1 p2 p3 = some (r, va_up iY 0 0) := by
  have hP := hL.P7
  have hQ := hL.Q5
  unfold f_X10_good f_X11_good
  rw [x_isPerson N hC hL.s0, y_isPerson N _ sY tY jY hL.P7 hL.s0, x_isGood N hC hL.s1, y_isGood N _ sY tY jY (by omega) hL.s1]
  simp only [q_bd, q_b0]
  cases h1 : perB P p1 with
  | false => exact ⟨_, rfl, rfl⟩
  | true =>
  cases h2 : perB Q p2 with
  | false => exact ⟨_, rfl, rfl⟩
  | true =>
  obtain ⟨a, ha, rfl⟩ := perB_t hP h1
  obtain ⟨g, hg, rfl⟩ := perB_t (by omega) h2
  simp (disch := omega) only [L2, L3, L4, L5, L6, L7, L8, L9, L10, L11, L12, L13, L14, L15, L16, L17, L18, L19, L20, L21, L22, L23, L24, L30, L35, L40, L41, L47, L48, L56, L57, L59, L60, L61, L62, L80, L82, L96, L97, L117, L122, L124, L131, L136, L143, L145, L178, L200, L213, L220, L224, L227, L256, L277, L400, L457, L900, L920, L940, L999, L1015, L9999, L1000000, nI_add, pk_mul, nI_1, x_cellOf, q_bd, q_ck, q_ix, q_nv, hM.st, hM.wa, hC.pr, if_true]
  by_cases e0 : p3 = 0
  · simp only [if_pos e0]; exact ⟨_, rfl, rfl⟩
  · by_cases e1 : p3 = 1
    · simp only [if_neg e0, if_pos e1]; exact ⟨_, rfl, rfl⟩
    · by_cases e2 : p3 = nI 2
      · simp only [if_neg e0, if_neg e1, if_pos e2]; exact ⟨_, rfl, rfl⟩
      · simp only [if_neg e0, if_neg e1, if_neg e2]; exact ⟨_, rfl, rfl⟩
theorem b_deals (hC : CP (sY 6) iC sC) (hM : MP (sY 6) iM sM) (hL : IL (sY 6) P Q) (p1 p2 : Int32) :
    ∃ r, f_X10_deals N qX iX iM sM iC tC sC p1 p2 = some r ∧ f_X11_deals N iY sY tY jY p1 p2 = some (r, va_up iY 0 0) := by
  have hP := hL.P7
  unfold f_X10_deals f_X11_deals f_X10_areTwo
  rw [x_isPerson N hC hL.s0, y_isPerson N _ sY tY jY hL.P7 hL.s0, x_isPerson N hC hL.s0, y_isPerson N _ sY tY jY hL.P7 hL.s0]
  simp only [q_bd, q_b0]
  cases h1 : perB P p1 with
  | false => exact ⟨_, rfl, rfl⟩
  | true =>
  cases h2 : perB P p2 with
  | false => exact ⟨_, rfl, rfl⟩
  | true =>
  obtain ⟨a, ha, rfl⟩ := perB_t hP h1
  obtain ⟨b, hb, rfl⟩ := perB_t hP h2
  by_cases e : nI a = nI b
  · simp only [if_true, if_pos e]; exact ⟨_, rfl, rfl⟩
  · simp only [if_true, if_neg e, q_bd]
    simp (disch := omega) only [L2, L3, L4, L5, L6, L7, L8, L9, L10, L11, L12, L13, L14, L15, L16, L17, L18, L19, L20, L21, L22, L23, L24, L30, L35, L40, L41, L47, L48, L56, L57, L59, L60, L61, L62, L80, L82, L96, L97, L117, L122, L124, L131, L136, L143, L145, L178, L200, L213, L220, L224, L227, L256, L277, L400, L457, L900, L920, L940, L999, L1015, L9999, L1000000, nI_add, pk_mul, nI_1, x_pairOf, q_bd, q_ck, q_ix, q_nv, hM.dl, Nat.add_assoc]
    exact ⟨_, rfl, rfl⟩
def metS (s : Nat → Int32) : Nat → Nat
  | 0 => 0
  | i + 1 => metS s i + pc (s (220 + i))
def hunS (s : Nat → Int32) : Nat → Int32
  | 0 => 0
  | i + 1 => hunS s i + s (213 + i)
theorem met_0 {s : Nat → Int32} {P Q : Nat} (hI : ID s P Q) {i : Nat} (h : P ≤ i) (h7 : i < 7) : s (220 + i) = 0 := by
  refine tb_ext (fun k _ => ?_)
  rw [tb_0]
  cases h1 : tb (s (220 + i)) k with
  | false => rfl
  | true => have := (hI.me i k h7 h1).1; omega
theorem pc_0 : pc 0 = 0 := by decide
theorem met_P {s : Nat → Int32} {P Q : Nat} (hI : ID s P Q) : ∀ j, P + j ≤ 7 → metS s (P + j) = metS s P ∧ hunS s (P + j) = hunS s P := by
  intro j
  induction j with
  | zero => intro _; exact ⟨rfl, rfl⟩
  | succ j ih =>
    intro h
    obtain ⟨h1, h2⟩ := ih (by omega)
    rw [show P + (j + 1) = (P + j) + 1 by omega, metS, hunS, h1, h2, met_0 hI (by omega) (by omega), hI.hu (P + j) (by omega) (by omega), pc_0, Int32.add_zero, Nat.add_zero]
    exact ⟨rfl, rfl⟩
theorem met_le (s : Nat → Int32) (i : Nat) : metS s i ≤ 7 * i := by
  induction i with
  | zero => exact Nat.le_refl _
  | succ i ih => rw [metS]; have := pc_le (s (220 + i)); omega
theorem me_sm {s : Nat → Int32} {P Q : Nat} (hP : P ≤ 7) (hI : ID s P Q) {i : Nat} (h7 : i < 7) : sm (s (220 + i)) :=
  sm_of (fun k _ h => by have := (hI.me i k h7 h).2.1; omega)
theorem b_now (hN : 2000 ≤ N) (hC : CP (sY 6) iC sC) (hM : MP (sY 6) iM sM) (hL : IL (sY 6) P Q) (hI : ID (sY 6) P Q) (p1 : Int32) :
    ∃ r, f_X10_now N qX iX iM sM iC tC sC p1 = some r ∧ f_X11_now N iY sY tY jY p1 = some (r, va_up iY 0 0) := by
  have hP := hL.P7
  have ey : ∀ K : Int32 × Int32 → Option (Int32 × (Nat → Int32)), f_X11_now_12 N (va_up iY 0 0) sY tY jY p1 K N 0 0 0 = K (nI (metS (sY 6) 7), hunS (sY 6) 7) := by
    intro K
    have := q_loopF (fun k (x : Int32 × Int32) v => f_X11_now_12 N (va_up iY 0 0) sY tY jY p1 K k x.1 x.2 v) K P N (by omega) (fun i => (nI (metS (sY 6) i), hunS (sY 6) i)) (0, 0) rfl (fun k => by
      show f_X11_now_12 N (va_up iY 0 0) sY tY jY p1 K (k + 1) _ _ _ = _
      rw [f_X11_now_12, hL.s0, if_pos (nI_le (Nat.le_refl _) (by omega))]) (fun k i hi => by
      show f_X11_now_12 N (va_up iY 0 0) sY tY jY p1 K (k + 1) _ _ _ = f_X11_now_12 N (va_up iY 0 0) sY tY jY p1 K k _ _ _
      rw [f_X11_now_12, hL.s0, if_neg (nI_ge hi (by omega))]
      simp (disch := omega) only [L2, L3, L4, L5, L6, L7, L8, L9, L10, L11, L12, L13, L14, L15, L16, L17, L18, L19, L20, L21, L22, L23, L24, L30, L35, L40, L41, L47, L48, L56, L57, L59, L60, L61, L62, L80, L82, L96, L97, L117, L122, L124, L131, L136, L143, L145, L178, L200, L213, L220, L224, L227, L256, L277, L400, L457, L900, L920, L940, L999, L1015, L9999, L1000000, nI_add, pk_mul, nI_1, q_ck, q_ix, q_nv]
      rw [y_bits (by omega) (me_sm hP hI (by omega)), q_bd, nI_add]
      rfl)
    have e7 := met_P hI (7 - P) (by omega)
    rw [show P + (7 - P) = 7 by omega] at e7
    rw [e7.1, e7.2]
    exact this
  have e6 : f_X4_pairsMet N iM sM iC tC sC = some (nI (metS (sY 6) 7) / 2) := by
    unfold f_X4_pairsMet
    rw [q_jn]
    exact q_loopF (fun k x v => f_X4_pairsMet_4 N iM sM iC tC sC _ k x v) _ 7 N (by omega) (fun i => nI (metS (sY 6) i)) 0 rfl (fun k => by
      rw [f_X4_pairsMet_4, L7, if_pos (nI_le (Nat.le_refl _) (by omega))]) (fun k i hi => by
      show f_X4_pairsMet_4 N iM sM iC tC sC _ (k + 1) _ _ = f_X4_pairsMet_4 N iM sM iC tC sC _ k _ _
      rw [f_X4_pairsMet_4, L7, if_neg (nI_ge hi (by omega)), q_ck hi (by omega), show ix (nI i) = i from q_ix (by omega), hM.me hi, x_bc N (me_sm hP hI hi), q_bd, nI_add, nI_1]
      rfl)
  have e7 : f_X4_allHunger N iM sM iC tC sC = some (hunS (sY 6) 7) := by
    unfold f_X4_allHunger
    exact q_loopF (fun k x v => f_X4_allHunger_4 N iM sM iC tC sC k x v) (fun x => some x) 7 N (by omega) (fun i => hunS (sY 6) i) 0 rfl (fun k => by
      rw [f_X4_allHunger_4, L7, if_pos (nI_le (Nat.le_refl _) (by omega))]) (fun k i hi => by
      show f_X4_allHunger_4 N iM sM iC tC sC (k + 1) _ _ = f_X4_allHunger_4 N iM sM iC tC sC k _ _
      rw [f_X4_allHunger_4, L7, if_neg (nI_ge hi (by omega)), q_ck hi (by omega), q_nv, show ix (nI i) = i from q_ix (by omega), hM.hu hi, nI_1]
      rfl)
  unfold f_X10_now f_X11_now
  rw [e6, e7, x_fed N hN hM hC hP hL.s0, q_jn, ey, y_fed N _ sY tY jY hN hP hL.Q5 hL.s0 hL.s1 hI.wa, hM.da, hM.ho, hM.vd, hM.vl, hM.bo]
  simp only [q_bd]
  by_cases c0 : p1 = 0
  · simp only [if_pos c0]; exact ⟨_, rfl, rfl⟩
  by_cases c1 : p1 = 1
  · simp only [if_neg c0, if_pos c1]; exact ⟨_, rfl, rfl⟩
  by_cases c2 : p1 = 2
  · simp only [if_neg c0, if_neg c1, if_pos c2]; exact ⟨_, rfl, rfl⟩
  by_cases c3 : p1 = 3
  · simp only [if_neg c0, if_neg c1, if_neg c2, if_pos c3]; exact ⟨_, rfl, rfl⟩
  by_cases c4 : p1 = 4
  · simp only [if_neg c0, if_neg c1, if_neg c2, if_neg c3, if_pos c4]; exact ⟨_, rfl, rfl⟩
  by_cases c5 : p1 = 5
  · simp only [if_neg c0, if_neg c1, if_neg c2, if_neg c3, if_neg c4, if_pos c5]; exact ⟨_, rfl, rfl⟩
  by_cases c6 : p1 = 6
  · simp only [if_neg c0, if_neg c1, if_neg c2, if_neg c3, if_neg c4, if_neg c5, if_pos c6]; exact ⟨_, rfl, rfl⟩
  by_cases c7 : p1 = 7
  · simp only [if_neg c0, if_neg c1, if_neg c2, if_neg c3, if_neg c4, if_neg c5, if_neg c6, if_pos c7]; exact ⟨_, rfl, rfl⟩
  · simp only [if_neg c0, if_neg c1, if_neg c2, if_neg c3, if_neg c4, if_neg c5, if_neg c6, if_neg c7]; exact ⟨_, rfl, rfl⟩
def recB (s : Nat → Int32) : Nat → Option Nat
  | 0 => none
  | i + 1 => match recB s i with
    | none => some i
    | some b => if pc (kn s b) ≤ pc (kn s i) then some b else some i
theorem recB_lt (s : Nat → Int32) : ∀ i b, recB s i = some b → b < i := by
  intro i
  induction i with
  | zero => intro b h; cases h
  | succ i ih =>
    intro b h
    rw [recB] at h
    cases h1 : recB s i with
    | none => rw [h1] at h; cases h; omega
    | some c =>
      rw [h1] at h
      dsimp only at h
      have := ih c h1
      split at h <;> cases h <;> omega
theorem b_recluse (hN : 2000 ≤ N) {iE : Nat → Int32} {sE : Nat → Nat → Int32} (hC : CP (sY 6) iC sC) (hM : MP (sY 6) iM sM) (hL : IL (sY 6) P Q) (hI : ID (sY 6) P Q) :
    ∃ r, f_X10_recluse N qX iX iE sE iM sM iC tC sC = some r ∧ f_X11_recluse N iY sY tY jY = some (r, va_up iY 0 0) := by
  have hP := hL.P7
  refine ⟨oI (recB (sY 6) P), ?_, ?_⟩
  · unfold f_X10_recluse f_X9_loneliest
    have := q_loopF (fun k (x : Int32 × Int32) v => f_X9_loneliest_7 N iE sE iM sM iC tC sC k x.1 x.2 v) (fun x => some x.1) P N (by omega) (fun i => (oI (recB (sY 6) i), match recB (sY 6) i with | none => 7 | some b => nI (pc (kn (sY 6) b)))) (-1, 7) rfl (fun k => by
      show f_X9_loneliest_7 N iE sE iM sM iC tC sC (k + 1) _ _ _ = _
      rw [f_X9_loneliest_7, hC.pe, hL.s0, if_pos (nI_le (Nat.le_refl _) (by omega))]) (fun k i hi => by
      show f_X9_loneliest_7 N iE sE iM sM iC tC sC (k + 1) _ _ _ = f_X9_loneliest_7 N iE sE iM sM iC tC sC k _ _ _
      rw [f_X9_loneliest_7, hC.pe, hL.s0, if_neg (nI_ge hi (by omega)), x_known N hC hM (by omega), q_bd, x_bc N (kn_sm hL hI (by omega)), q_bd, q_jn, nI_1, recB]
      have hpc := kn_pc hL hI (show i < 7 by omega)
      cases h1 : recB (sY 6) i with
      | none =>
        dsimp only
        rw [L7, if_neg (nI_ge hpc (by omega))]
        rfl
      | some b =>
        dsimp only
        have := pc_le (kn (sY 6) b)
        by_cases h2 : pc (kn (sY 6) b) ≤ pc (kn (sY 6) i)
        · rw [if_pos (nI_le h2 (by omega)), if_pos h2]
        · rw [if_neg (nI_ge (by omega) (by omega)), if_neg h2]; rfl)
    have e : f_X9_loneliest_7 N iE sE iM sM iC tC sC N (-1) 7 0 = some (oI (recB (sY 6) P)) := this
    rw [e, q_bd]
  · unfold f_X11_recluse
    exact q_loopF (fun k x v => f_X11_recluse_9 N (va_up iY 0 0) sY tY jY k x v) (fun x => some (x, va_up iY 0 0)) P N (by omega) (fun i => oI (recB (sY 6) i)) (-1) rfl (fun k => by
      show f_X11_recluse_9 N (va_up iY 0 0) sY tY jY (k + 1) _ _ = _
      rw [f_X11_recluse_9, hL.s0, if_pos (nI_le (Nat.le_refl _) (by omega))]) (fun k i hi => by
      show f_X11_recluse_9 N (va_up iY 0 0) sY tY jY (k + 1) _ _ = f_X11_recluse_9 N (va_up iY 0 0) sY tY jY k _ _
      rw [f_X11_recluse_9, hL.s0, if_neg (nI_ge hi (by omega)), q_jn, q_jn, nI_1, recB]
      have hpc := kn_pc hL hI (show i < 7 by omega)
      cases h1 : recB (sY 6) i with
      | none => rfl
      | some b =>
        have hb := recB_lt _ _ _ h1
        have hpb := pc_le (kn (sY 6) b)
        dsimp only
        rw [oI_s, if_neg (show ¬ nI b < 0 by rw [show (0 : Int32) = nI 0 from rfl, nI_ltI (by omega) (by omega)]; omega), y_knownBy N _ sY tY jY (by omega), q_bd, y_bits (by omega) (kn_sm hL hI (by omega)), q_bd, y_knownBy N _ sY tY jY (by omega), q_bd, y_bits (by omega) (kn_sm hL hI (by omega)), q_bd]
        by_cases h2 : pc (kn (sY 6) b) ≤ pc (kn (sY 6) i)
        · rw [if_pos (nI_le h2 (by omega)), if_pos h2]; rfl
        · rw [if_neg (nI_ge (by omega) (by omega)), if_neg h2]; rfl)
theorem b_count (hC : CP (sY 6) iC sC) {sT : Nat → Nat → Int32} {iT : Nat → Int32} {jT : Nat → Int64} (hT : iT 1 = iY 2) (p1 : Int32) :
    ∃ r, f_X10_count N qX iX iC tC sC sT iT jT p1 = some r ∧ f_X11_count N iY sY tY jY p1 = some (r, va_up iY 0 0) := by
  unfold f_X10_count f_X11_count
  rw [y_isIn, q_bd, hC.pe, hC.go, hC.de, hC.ve, hC.be, hT]
  by_cases c5 : p1 = 5
  · subst c5; exact ⟨_, rfl, rfl⟩
  rw [if_neg c5, if_neg c5]
  by_cases h : ¬ p1 < 0 ∧ p1 ≤ 4
  · rw [q_dt h]
    obtain ⟨j, hj, rfl⟩ := in_le (m := 4) (by omega) h.1 h.2
    rcases (by omega : j = 0 ∨ j = 1 ∨ j = 2 ∨ j = 3 ∨ j = 4) with rfl | rfl | rfl | rfl | rfl <;> exact ⟨_, rfl, rfl⟩
  · rw [q_df h]
    have n0 : ∀ j, j ≤ 4 → ¬ p1 = nI j := fun j hj e => h ⟨by rw [e, show (0 : Int32) = nI 0 from rfl, nI_ltI (by omega) (by omega)]; omega, by rw [e, L4, nI_leI (by omega) (by omega)]; exact hj⟩
    rw [if_neg (show ¬ p1 = 0 from n0 0 (by omega)), if_neg (show ¬ p1 = 1 from n0 1 (by omega)), if_neg (show ¬ p1 = 2 from n0 2 (by omega)), if_neg (show ¬ p1 = 3 from n0 3 (by omega)), if_neg (show ¬ p1 = 4 from n0 4 (by omega))]
    exact ⟨_, rfl, rfl⟩
theorem b_told {sB : Nat → Nat → Int32} {iB : Nat → Int32} (h7 : iB 7 = iY 41) (hv : ¬ iY 41 = 0 → ∀ k, k < 4 → iB (8 + k) = sY 40 k) (p1 : Int32) :
    ∃ r, f_X10_told N qX iX sB iB p1 = some r ∧ f_X11_told N iY sY tY jY p1 = some (r, va_up iY 0 0) := by
  unfold f_X10_told f_X11_told
  rw [y_isIn, q_bd, h7]
  by_cases c : iY 41 = 0
  · rw [if_pos c, if_pos c]; exact ⟨_, rfl, rfl⟩
  rw [if_neg c, if_neg c]
  have hv := hv c
  by_cases h : ¬ p1 < 0 ∧ p1 ≤ 3
  · rw [q_dt h]
    obtain ⟨j, hj, rfl⟩ := in_le (m := 3) (by omega) h.1 h.2
    rw [q_ck (show j < 4 by omega) (by omega), show ix (nI j) = j from q_ix (by omega), ← hv j (by omega)]
    rcases (by omega : j = 0 ∨ j = 1 ∨ j = 2 ∨ j = 3) with rfl | rfl | rfl | rfl <;> exact ⟨_, rfl, rfl⟩
  · rw [q_df h]
    have n0 : ∀ j, j ≤ 3 → ¬ p1 = nI j := fun j hj e => h ⟨by rw [e, show (0 : Int32) = nI 0 from rfl, nI_ltI (by omega) (by omega)]; omega, by rw [e, L3, nI_leI (by omega) (by omega)]; exact hj⟩
    rw [if_neg (show ¬ p1 = 0 from n0 0 (by omega)), if_neg (show ¬ p1 = 1 from n0 1 (by omega)), if_neg (show ¬ p1 = 2 from n0 2 (by omega)), if_neg (show ¬ p1 = 3 from n0 3 (by omega))]
    exact ⟨_, rfl, rfl⟩
/-- a number between 0 and m - 1, on both sides -/
theorem at_in {p : Int32} {m : Nat} (hm : m < 1000) : (¬ p < 0 ∧ p ≤ nI m - 1) ↔ (¬ p < 0 ∧ ¬ nI m ≤ p) := by
  have e : (p ≤ nI m - 1) ↔ ¬ nI m ≤ p := by
    rw [Int32.le_iff_toInt_le, Int32.le_iff_toInt_le, show (1 : Int32) = nI 1 from rfl, pk_sub_toInt (by omega) (by omega), nI_toInt (by omega)]
    omega
  rw [e]
theorem b_chainAt {iE : Nat → Int32} {sE : Nat → Nat → Int32} {m : Nat} (hm : m ≤ 7) (h4 : iE 4 = nI m) (h33 : iY 33 = nI m ∨ (m = 0 ∧ iY 33 = -1)) (hv : ∀ k, k < m → sE 5 k = sY 32 k) (p1 : Int32) :
    ∃ r, f_X10_chainAt N qX iX iE sE iM sM iC tC sC p1 = some r ∧ f_X11_chainAt N iY sY tY jY p1 = some (r, va_up iY 0 0) := by
  unfold f_X10_chainAt f_X11_chainAt
  rw [y_isIn, q_bd, h4]
  have e : (¬ p1 < 0 ∧ p1 ≤ iY 33 - 1) ↔ (¬ p1 < 0 ∧ ¬ nI m ≤ p1) := by
    rcases h33 with h | ⟨rfl, h⟩
    · rw [h]; exact at_in (by omega)
    · rw [h]
      constructor
      · intro ⟨h1, h2⟩
        refine absurd ?_ h1
        exact Int32.lt_of_le_of_lt h2 (by decide)
      · intro ⟨h1, h2⟩
        exact absurd (Int32.not_lt.mp h1) h2
  by_cases h : ¬ p1 < 0 ∧ ¬ nI m ≤ p1
  · rw [q_dt (e.mpr h), if_neg h.1, if_neg h.2]
    obtain ⟨j, hj, rfl⟩ := nI_of h.1
    have hjm : j < m := by
      have := h.2
      rw [nI_leI (by omega) (by omega)] at this
      omega
    rw [if_pos (show nI j < 7 from (nI_ltI (b := 7) (by omega) (by omega)).mpr (by omega)), q_ck (show j < 7 by omega) (by omega), q_ck (show j < 7 by omega) (by omega), show ix (nI j) = j from q_ix (by omega), hv j hjm]
    exact ⟨_, rfl, rfl⟩
  · rw [q_df (fun h2 => h (e.mp h2))]
    by_cases c1 : p1 < 0
    · rw [if_pos c1]; exact ⟨_, rfl, rfl⟩
    · rw [if_neg c1, if_pos (Classical.byContradiction (fun c2 => h ⟨c1, c2⟩))]; exact ⟨_, rfl, rfl⟩
theorem b_byteAt {iP : Nat → Int32} {sP : Nat → Nat → Int32} {m : Nat} (hm : m ≤ 80) (h4 : iP 1 = nI m) (h33 : iY 37 = nI m) (hv : ∀ k, k < m → sP 0 k = sY 36 k) (p1 : Int32) :
    ∃ r, f_X10_byteAt N qX iX sP iP p1 = some r ∧ f_X11_byteAt N iY sY tY jY p1 = some (r, va_up iY 0 0) := by
  unfold f_X10_byteAt f_X5_signAt f_X11_byteAt
  rw [y_isIn, q_bd, h4, h33]
  by_cases h : ¬ p1 < 0 ∧ ¬ nI m ≤ p1
  · rw [q_dt ((at_in (by omega)).mpr h), if_neg h.1, if_neg h.2]
    obtain ⟨j, hj, rfl⟩ := nI_of h.1
    have hjm : j < m := by
      have := h.2
      rw [nI_leI (by omega) (by omega)] at this
      omega
    rw [L80, if_neg (nI_ge (show j < 80 by omega) (by omega)), q_ck (show j < 80 by omega) (by omega), q_bd, q_ck (show j < 80 by omega) (by omega), show ix (nI j) = j from q_ix (by omega), hv j hjm]
    exact ⟨_, rfl, rfl⟩
  · rw [q_df (fun h2 => h ((at_in (by omega)).mp h2))]
    by_cases c1 : p1 < 0
    · rw [if_pos c1]; exact ⟨_, rfl, rfl⟩
    · rw [if_neg c1, if_pos (Classical.byContradiction (fun c2 => h ⟨c1, c2⟩))]; exact ⟨_, rfl, rfl⟩
end
