/-! PURE: serve, out, apart -/
theorem m1_0 (x : Int32) : (x - 1 = -1) ↔ x = 0 := by
  constructor
  · intro h
    have := congrArg (· + 1) h
    simpa using this
  · intro h; rw [h]; rfl
theorem pw_le {P : Nat} (hP : P ≤ 7) : 2 ^ P ≤ 128 := Nat.pow_le_pow_right (by omega) hP
theorem pw_pos (P : Nat) : 0 < 2 ^ P := Nat.two_pow_pos P
theorem ev_n : ∀ P, P < 8 → ev P = nI (2 ^ P - 1) := by decide +kernel
theorem pb_n : ∀ P, P < 8 → pb P = nI (2 ^ P) := by decide +kernel
theorem sub_n : ∀ n, n < 128 → ∀ m, m < 128 → nI n &&& (nI m ^^^ (-1)) = 0 → n ≤ m := by decide +kernel
theorem sm_n {n : Nat} (h : n < 128) : sm (nI n) := ⟨n, h, rfl⟩
theorem pc_mono {x y : Int32} (h : ∀ k, k < 7 → tb x k = true → tb y k = true) : pc x ≤ pc y ∧ (pc x = pc y → ∀ k, k < 7 → tb x k = tb y k) := by
  have b : ∀ k, k < 7 → (if tb x k = true then 1 else 0 : Nat) ≤ (if tb y k = true then 1 else 0) ∧ ((if tb x k = true then 1 else 0 : Nat) = (if tb y k = true then 1 else 0) → tb x k = tb y k) := by
    intro k hk
    have := h k hk
    cases h1 : tb x k <;> cases h2 : tb y k <;> simp_all
  have b0 := b 0 (by omega)
  have b1 := b 1 (by omega)
  have b2 := b 2 (by omega)
  have b3 := b 3 (by omega)
  have b4 := b 4 (by omega)
  have b5 := b 5 (by omega)
  have b6 := b 6 (by omega)
  unfold pc
  generalize (if tb x 0 = true then 1 else 0 : Nat) = x0 at *
  generalize (if tb x 1 = true then 1 else 0 : Nat) = x1 at *
  generalize (if tb x 2 = true then 1 else 0 : Nat) = x2 at *
  generalize (if tb x 3 = true then 1 else 0 : Nat) = x3 at *
  generalize (if tb x 4 = true then 1 else 0 : Nat) = x4 at *
  generalize (if tb x 5 = true then 1 else 0 : Nat) = x5 at *
  generalize (if tb x 6 = true then 1 else 0 : Nat) = x6 at *
  generalize (if tb y 0 = true then 1 else 0 : Nat) = y0 at *
  generalize (if tb y 1 = true then 1 else 0 : Nat) = y1 at *
  generalize (if tb y 2 = true then 1 else 0 : Nat) = y2 at *
  generalize (if tb y 3 = true then 1 else 0 : Nat) = y3 at *
  generalize (if tb y 4 = true then 1 else 0 : Nat) = y4 at *
  generalize (if tb y 5 = true then 1 else 0 : Nat) = y5 at *
  generalize (if tb y 6 = true then 1 else 0 : Nat) = y6 at *
  refine ⟨by omega, fun he k hk => ?_⟩
  rcases (by omega : k = 0 ∨ k = 1 ∨ k = 2 ∨ k = 3 ∨ k = 4 ∨ k = 5 ∨ k = 6) with rfl | rfl | rfl | rfl | rfl | rfl | rfl
  · exact b0.2 (by omega)
  · exact b1.2 (by omega)
  · exact b2.2 (by omega)
  · exact b3.2 (by omega)
  · exact b4.2 (by omega)
  · exact b5.2 (by omega)
  · exact b6.2 (by omega)
theorem pc_lt {x y : Int32} (hx : sm x) (hy : sm y) (h : ∀ k, k < 7 → tb x k = true → tb y k = true) (hne : x ≠ y) : pc x < pc y := by
  obtain ⟨h1, h2⟩ := pc_mono h
  refine Nat.lt_of_le_of_ne h1 (fun he => hne (sm_ext hx hy (h2 he)))
theorem sub_tb {x y : Int32} (h : x &&& (y ^^^ (-1)) = 0) {k : Nat} (hk : k < 32) (h1 : tb x k = true) : tb y k = true := by
  have : tb (x &&& (y ^^^ (-1))) k = tb 0 k := by rw [h]
  rw [tb_and, tb_not _ hk, tb_0, h1, Bool.true_and] at this
  simpa using this
theorem pcN_ex : ∃ f : Nat → Nat, ∀ n, pc (nI n) = f n := ⟨_, fun _ => rfl⟩
noncomputable def pcN : Nat → Nat := pcN_ex.choose
theorem pcN_eq (n : Nat) : pc (nI n) = pcN n := pcN_ex.choose_spec n
theorem pcN_le (n : Nat) : pcN n ≤ 7 := by rw [← pcN_eq]; exact pc_le _
theorem x_bcN (N : Nat) {n : Nat} (h : n < 128) : f_J6_bitCount_0f7a4 N (nI n) = some (nI (pcN n)) := by rw [x_bc N (sm_n h), pcN_eq]
theorem y_bitsN {N : Nat} (hN : 10 ≤ N) {n : Nat} (h : n < 128) : f_X11_bits N (nI n) = some (nI (pcN n)) := by rw [y_bits hN (sm_n h), pcN_eq]
/-- the first of the fewest among the parts of a set -/
noncomputable def srvC (sel : Int32) (ap : Nat → Bool) (o : Option Nat) (i : Nat) : Bool := decide (nI i &&& (sel ^^^ (-1)) = 0) && ((match o with | none => true | some b => decide (pcN i < pcN b)) && ap i)
noncomputable def srv (sel : Int32) (ap : Nat → Bool) : Nat → Option Nat
  | 0 => none
  | i + 1 => if srvC sel ap (srv sel ap i) i then some i else srv sel ap i
theorem srvC_s {sel : Int32} {ap : Nat → Bool} {o : Option Nat} {i : Nat} (h : srvC sel ap o i = true) : nI i &&& (sel ^^^ (-1)) = 0 ∧ ap i = true := by
  unfold srvC at h
  rw [Bool.and_eq_true, Bool.and_eq_true, decide_eq_true_eq] at h
  exact ⟨h.1, h.2.2⟩
theorem srvC_f {sel : Int32} {ap : Nat → Bool} {o : Option Nat} {i : Nat} (c : ¬ nI i &&& (sel ^^^ (-1)) = 0) : srvC sel ap o i = false := by
  unfold srvC; rw [decide_eq_false c]; rfl
theorem srvC_n {sel : Int32} {ap : Nat → Bool} {i : Nat} (c : nI i &&& (sel ^^^ (-1)) = 0) : srvC sel ap none i = ap i := by
  unfold srvC; rw [decide_eq_true c]; rfl
theorem srvC_lt {sel : Int32} {ap : Nat → Bool} {i b : Nat} (c : nI i &&& (sel ^^^ (-1)) = 0) (h : pcN i < pcN b) : srvC sel ap (some b) i = ap i := by
  unfold srvC; rw [decide_eq_true c]; show (true && (decide (pcN i < pcN b) && ap i)) = ap i; rw [decide_eq_true h]; rfl
theorem srvC_ge {sel : Int32} {ap : Nat → Bool} {i b : Nat} (h : ¬ pcN i < pcN b) : srvC sel ap (some b) i = false := by
  unfold srvC; show (_ && (decide (pcN i < pcN b) && ap i)) = false; rw [decide_eq_false h, Bool.false_and, Bool.and_false]
theorem srv_lt (sel : Int32) (ap : Nat → Bool) : ∀ i b, srv sel ap i = some b → b < i ∧ nI b &&& (sel ^^^ (-1)) = 0 := by
  intro i
  induction i with
  | zero => intro b h; cases h
  | succ i ih =>
    intro b h
    rw [srv] at h
    by_cases hc : srvC sel ap (srv sel ap i) i = true
    · rw [if_pos hc] at h
      cases h
      exact ⟨by omega, (srvC_s hc).1⟩
    · rw [if_neg hc] at h
      have := ih b h
      exact ⟨by omega, this.2⟩
theorem srv_end {m : Nat} (hm : m < 128) (ap : Nat → Bool) : ∀ j, m + 1 + j ≤ 128 → srv (nI m) ap (m + 1 + j) = srv (nI m) ap (m + 1) := by
  intro j
  induction j with
  | zero => intro _; rfl
  | succ j ih =>
    intro h
    rw [show m + 1 + (j + 1) = (m + 1 + j) + 1 by omega, srv, if_neg, ih (by omega)]
    intro hc
    have := sub_n _ (by omega) _ hm (srvC_s hc).1
    omega
theorem nI_m1 {b : Nat} (hb : b < 1000) : ¬ nI b = -1 := by
  intro h
  have h3 : ¬ nI b < 0 := by rw [show (0 : Int32) = nI 0 from rfl, nI_ltI (by omega) (by omega)]; omega
  rw [h] at h3; exact h3 (by decide)
theorem nI_n0 {b : Nat} (hb : b < 1000) : ¬ nI b < 0 := by rw [show (0 : Int32) = nI 0 from rfl, nI_ltI (by omega) (by omega)]; omega
def selS (s : Nat → Int32) (g : Nat) : Nat → Int32
  | 0 => 0
  | i + 1 => if s (47 + (5 * i + g)) = 0 then selS s g i else selS s g i ||| pb i
theorem sel_tb (s : Nat → Int32) (g : Nat) : ∀ i, i ≤ 7 → ∀ q, q < 32 → tb (selS s g i) q = true → q < i := by
  intro i
  induction i with
  | zero => intro _ q _ h; rw [selS, tb_0] at h; cases h
  | succ i ih =>
    intro hi q hq h
    rw [selS] at h
    split at h
    · have := ih (by omega) q hq h; omega
    · rw [tb_or, tb_pb i (by omega) q hq, Bool.or_eq_true, decide_eq_true_eq] at h
      rcases h with h | h
      · have := ih (by omega) q hq h; omega
      · omega
def svB (s : Nat → Int32) (P g : Nat) (set : Int32) (q : Nat) : Bool := decide (s (82 + (5 * q + g)) = 0) || decide (¬ my s P q &&& set = 0)
def SK (iE iY : Nat → Int32) : Prop := (iY 30 = 0 ∧ iE 3 = -1) ∨ (iY 30 = 1 ∧ iE 3 = iY 29)
def PK (iE iY : Nat → Int32) : Prop := (iY 35 = 0 ∧ iE 6 = -1) ∨ (iY 35 = 1 ∧ iE 6 = iY 34)
/-! how a set grows -/
def tlS (s : Nat → Int32) (x : Int32) : Nat → Int32
  | 0 => x
  | i + 1 => if tb x i then tlS s x i ||| kn s i else tlS s x i
theorem tl_tb (s : Nat → Int32) (x : Int32) (q : Nat) : ∀ i, tb (tlS s x i) q = true ↔ (tb x q = true ∨ ∃ j, j < i ∧ tb x j = true ∧ tb (kn s j) q = true) := by
  intro i
  induction i with
  | zero => rw [tlS]; exact ⟨fun h => Or.inl h, fun h => h.elim id (fun ⟨j, hj, _⟩ => absurd hj (Nat.not_lt_zero _))⟩
  | succ i ih =>
    rw [tlS]
    by_cases h1 : tb x i = true
    · rw [if_pos h1, tb_or, Bool.or_eq_true, ih]
      constructor
      · rintro ((h | ⟨j, hj, h⟩) | h)
        · exact Or.inl h
        · exact Or.inr ⟨j, by omega, h⟩
        · exact Or.inr ⟨i, by omega, h1, h⟩
      · rintro (h | ⟨j, hj, h2, h3⟩)
        · exact Or.inl (Or.inl h)
        · rcases Nat.lt_or_ge j i with h4 | h4
          · exact Or.inl (Or.inr ⟨j, h4, h2, h3⟩)
          · have : j = i := by omega
            subst this; exact Or.inr h3
    · rw [if_neg h1, ih]
      constructor
      · rintro (h | ⟨j, hj, h⟩)
        · exact Or.inl h
        · exact Or.inr ⟨j, by omega, h⟩
      · rintro (h | ⟨j, hj, h2, h3⟩)
        · exact Or.inl h
        · rcases Nat.lt_or_ge j i with h4 | h4
          · exact Or.inr ⟨j, h4, h2, h3⟩
          · have : j = i := by omega
            subst this; exact absurd h2 h1
def itK (s : Nat → Int32) (P : Nat) (w : Int32) (p : Nat) : Nat → Int32
  | 0 => pb p
  | i + 1 => tlS s (itK s P w p i) P &&& (w ^^^ (-1))
section
variable {s : Nat → Int32} {P Q p : Nat} {w : Int32}
theorem it_in (hL : IL s P Q) (hI : ID s P Q) (hp : p < P) : ∀ i q, q < 32 → tb (itK s P w p i) q = true → q < P := by
  have hP := hL.P7
  intro i
  induction i with
  | zero => intro q hq h; rw [itK, tb_pb p (by omega) q hq, decide_eq_true_eq] at h; omega
  | succ i ih =>
    intro q hq h
    rw [itK, tb_and, Bool.and_eq_true, tl_tb] at h
    rcases h.1 with h1 | ⟨j, hj, _, h1⟩
    · exact ih q hq h1
    · exact (kn_tb hL hI (by omega) h1).2.1
theorem it_sm (hL : IL s P Q) (hI : ID s P Q) (hp : p < P) (i : Nat) : sm (itK s P w p i) :=
  sm_of (fun q hq h => by have := it_in hL hI hp i q hq h; have := hL.P7; omega)
theorem it_w (hp : p < 7) (hw : tb w p = false) : ∀ i q, q < 32 → tb (itK s P w p i) q = true → tb w q = false := by
  intro i
  cases i with
  | zero => intro q hq h; rw [itK, tb_pb p (by omega) q hq, decide_eq_true_eq] at h; rw [h]; exact hw
  | succ i =>
    intro q hq h
    rw [itK, tb_and, Bool.and_eq_true, tb_not _ hq] at h
    simpa using h.2
theorem it_up (hp : p < 7) (hw : tb w p = false) (i q : Nat) (hq : q < 32) (h : tb (itK s P w p i) q = true) : tb (itK s P w p (i + 1)) q = true := by
  rw [itK, tb_and, Bool.and_eq_true, tb_not _ hq, it_w hp hw i q hq h, tl_tb]
  exact ⟨Or.inl h, rfl⟩
theorem it_fix {i : Nat} (h : itK s P w p (i + 1) = itK s P w p i) : ∀ j, itK s P w p (i + j) = itK s P w p i := by
  intro j
  induction j with
  | zero => rfl
  | succ j ih => rw [show i + (j + 1) = (i + j) + 1 by omega, itK, ih]; exact h
theorem pc_pb : ∀ a, a < 7 → pc (pb a) = 1 := by decide +kernel
theorem pc_ev : ∀ P, P < 8 → pc (ev P) = P := by decide +kernel
theorem it_grow (hL : IL s P Q) (hI : ID s P Q) (hp : p < P) (hw : tb w p = false) : ∀ i, itK s P w p (i + 1) = itK s P w p i ∨ i + 2 ≤ pc (itK s P w p (i + 1)) := by
  have hP := hL.P7
  have st : ∀ i, itK s P w p (i + 1) = itK s P w p i ∨ pc (itK s P w p i) < pc (itK s P w p (i + 1)) := by
    intro i
    by_cases h : itK s P w p (i + 1) = itK s P w p i
    · exact Or.inl h
    · exact Or.inr (pc_lt (it_sm hL hI hp i) (it_sm hL hI hp (i + 1)) (fun k hk h2 => it_up (by omega) hw i k (by omega) h2) (fun e => h e.symm))
  intro i
  induction i with
  | zero =>
    rcases st 0 with h | h
    · exact Or.inl h
    · refine Or.inr ?_
      have e : pc (itK s P w p 0) = 1 := pc_pb p (by omega)
      omega
  | succ i ih =>
    rcases ih with h | h
    · have h2 := it_fix h 2
      have h1 := it_fix h 1
      exact Or.inl (h2.trans h1.symm)
    · rcases st (i + 1) with h2 | h2
      · exact Or.inl h2
      · exact Or.inr (by omega)
theorem it_pc (hL : IL s P Q) (hI : ID s P Q) (hp : p < P) (i : Nat) : pc (itK s P w p i) ≤ P := by
  have hP := hL.P7
  have := (pc_mono (x := itK s P w p i) (y := ev P) (fun k hk h => by rw [tb_ev P (by omega) k (by omega)]; exact decide_eq_true (it_in hL hI hp i k (by omega) h))).1
  rwa [pc_ev P (by omega)] at this
theorem it_end (hL : IL s P Q) (hI : ID s P Q) (hp : p < P) (hw : tb w p = false) (j : Nat) : itK s P w p (P - 1 + j) = itK s P w p (P - 1) := by
  refine it_fix ?_ j
  rcases it_grow hL hI hp hw (P - 1) with h | h
  · exact h
  · have := it_pc (w := w) hL hI hp (P - 1 + 1)
    omega
end
section
variable (N : Nat) {qX : Nat → Option Nat} {iX : Nat → Int32} {iC : Nat → Int32} {tC : Nat → Nat → Int64} {sC : Nat → Nat → Int32} {iM : Nat → Int32} {sM : Nat → Nat → Int32} {iE : Nat → Int32} {sE : Nat → Nat → Int32} {P Q : Nat}
variable (iY : Nat → Int32) (sY : Nat → Nat → Int32) (tY : Nat → Nat → Int64) (jY : Nat → Int64)
theorem x_served (hN : 2000 ≤ N) (hC : CP (sY 6) iC sC) (hM : MP (sY 6) iM sM) (hL : IL (sY 6) P Q) {g : Nat} (hg : g < 5) (set : Int32) : f_X9_areAllServed N iE sE iM sM iC tC sC (nI g) set = some (bI (allF (svB (sY 6) P g set) 0 P)) := by
  have hP := hL.P7
  unfold f_X9_areAllServed
  have key := q_loopX (fun k i => f_X9_areAllServed_2 N iE sE iM sM iC tC sC (nI g) set k (nI i)) (some 0) (some 1) P N (by omega) (svB (sY 6) P g set) (fun k => ?_) (fun k i hi hw => ?_) (fun k i hi hw => ?_)
  · refine Eq.trans key ?_
    cases allF (svB (sY 6) P g set) 0 P <;> rfl
  · show f_X9_areAllServed_2 N iE sE iM sM iC tC sC (nI g) set (k + 1) _ = _
    rw [f_X9_areAllServed_2, hC.pe, hL.s0, if_pos (nI_le (Nat.le_refl _) (by omega))]
  · show f_X9_areAllServed_2 N iE sE iM sM iC tC sC (nI g) set (k + 1) _ = f_X9_areAllServed_2 N iE sE iM sM iC tC sC (nI g) set k _
    obtain ⟨x, hx, ex, -⟩ := hL.wa i g (by omega) hg
    unfold svB at hw
    rw [f_X9_areAllServed_2, hC.pe, hL.s0, if_neg (nI_ge hi (by omega)), x_cellOf, q_bd, q_ck (show 5 * i + g < 35 by omega) (by omega), q_jn, show ix (nI (5 * i + g)) = 5 * i + g from q_ix (by omega), hC.wa (by omega), nI_1, x_dealable N hC hM hL.s0 (by omega), q_bd]
    rw [ex] at hw ⊢
    rw [nI_le0 (by omega)]
    by_cases c : x = 0
    · rw [if_pos c]
    · rw [if_neg c]
      rw [decide_eq_false (show ¬ nI x = 0 from nI_nb (b := 0) c (by omega) (by omega)), Bool.false_or, decide_eq_true_eq] at hw
      rw [if_neg hw]
  · show f_X9_areAllServed_2 N iE sE iM sM iC tC sC (nI g) set (k + 1) _ = _
    obtain ⟨x, hx, ex, -⟩ := hL.wa i g (by omega) hg
    unfold svB at hw
    rw [f_X9_areAllServed_2, hC.pe, hL.s0, if_neg (nI_ge hi (by omega)), x_cellOf, q_bd, q_ck (show 5 * i + g < 35 by omega) (by omega), q_jn, show ix (nI (5 * i + g)) = 5 * i + g from q_ix (by omega), hC.wa (by omega), nI_1, x_dealable N hC hM hL.s0 (by omega), q_bd]
    rw [ex] at hw ⊢
    rw [nI_le0 (by omega)]
    rw [Bool.or_eq_false_iff, decide_eq_false_iff_not, decide_eq_false_iff_not] at hw
    by_cases c : x = 0
    · subst c; exact absurd rfl hw.1
    · rw [if_neg c, if_pos (Classical.not_not.mp hw.2)]
theorem y_served (hN : 2000 ≤ N) (hL : IL (sY 6) P Q) {g : Nat} (hg : g < 5) (set : Int32) : f_X11_isServed N iY sY tY jY (nI g) set = some (bI (allF (svB (sY 6) P g set) 0 P)) := by
  have hP := hL.P7
  unfold f_X11_isServed
  refine q_loopG (fun k i => f_X11_isServed_5 N iY sY tY jY (nI g) set k (bI (allF (svB (sY 6) P g set) 0 i)) (nI i)) _ P N (by omega) (fun k => ?_) (fun k i hi => ?_)
  · show f_X11_isServed_5 N iY sY tY jY (nI g) set (k + 1) _ _ = _
    rw [f_X11_isServed_5, hL.s0, if_pos (nI_le (Nat.le_refl _) (by omega)), q_zb]
  · show f_X11_isServed_5 N iY sY tY jY (nI g) set (k + 1) _ _ = f_X11_isServed_5 N iY sY tY jY (nI g) set k _ _
    rw [f_X11_isServed_5, hL.s0, if_neg (nI_ge hi (by omega)), q_jn, q_jn, q_b0, nI_1, L82, L5, pk_mul, nI_add, nI_add, q_ck (show 82 + 5 * i + g < 457 by omega) (by omega), q_jn, show ix (nI (82 + 5 * i + g)) = 82 + (5 * i + g) from (q_ix (by omega)).trans (by omega), y_mayBy N iY sY tY jY (P := P) (by omega) hL.s0, q_bd, allF_0, svB]
    cases allF (svB (sY 6) P g set) 0 i with
    | false => rfl
    | true =>
      rw [if_pos rfl]
      by_cases c : sY 6 (82 + (5 * i + g)) = 0
      · rw [if_pos c, decide_eq_true c]; rfl
      · rw [if_neg c, decide_eq_false c]
        by_cases c2 : my (sY 6) P i &&& set = 0
        · rw [if_pos c2, decide_eq_false (fun h => h c2)]; rfl
        · rw [if_neg c2, decide_eq_true c2]; rfl
theorem x_sellers (hN : 2000 ≤ N) (hC : CP (sY 6) iC sC) (hL : IL (sY 6) P Q) {g : Nat} (hg : g < 5) : f_X9_sellersOf N iE sE iM sM iC tC sC (nI g) = some (selS (sY 6) g P) := by
  have hP := hL.P7
  unfold f_X9_sellersOf
  refine q_loopG (fun k i => f_X9_sellersOf_4 N iE sE iM sM iC tC sC (nI g) k (selS (sY 6) g i) (nI i)) _ P N (by omega) (fun k => ?_) (fun k i hi => ?_)
  · show f_X9_sellersOf_4 N iE sE iM sM iC tC sC (nI g) (k + 1) _ _ = _
    rw [f_X9_sellersOf_4, hC.pe, hL.s0, if_pos (nI_le (Nat.le_refl _) (by omega))]
  · show f_X9_sellersOf_4 N iE sE iM sM iC tC sC (nI g) (k + 1) _ _ = f_X9_sellersOf_4 N iE sE iM sM iC tC sC (nI g) k _ _
    rw [f_X9_sellersOf_4, hC.pe, hL.s0, if_neg (nI_ge hi (by omega)), x_cellOf, q_bd, q_ck (show 5 * i + g < 35 by omega) (by omega), q_jn, show ix (nI (5 * i + g)) = 5 * i + g from q_ix (by omega), hC.pr (by omega), nI_1, selS]
    by_cases c : sY 6 (47 + (5 * i + g)) = 0
    · rw [if_pos ((m1_0 _).mpr c), if_pos c]
    · rw [if_neg (fun h => c ((m1_0 _).mp h)), if_neg c]; rfl
theorem x_few20 (hN : 2000 ≤ N) {g m : Nat} (hP : P ≤ 7) (ap : Nat → Bool) (hap : ∀ i, f_X9_areAllServed N iE sE iM sM iC tC sC (nI g) (nI i) = some (bI (ap i))) (K : Int32 → Option (Int32 × (Nat → Int32))) : f_X9_fewestSellers_20 N iE sE iM sM iC tC sC (nI g) (nI m) (ev P) K N (-1) 0 = K (oI (srv (nI m) ap (2 ^ P))) := by
  have hp2 := pw_le hP
  have hp0 := pw_pos P
  refine q_loopG (fun k i => f_X9_fewestSellers_20 N iE sE iM sM iC tC sC (nI g) (nI m) (ev P) K k (oI (srv (nI m) ap i)) (nI i)) _ (2 ^ P) N (by omega) (fun k => ?_) (fun k i hi => ?_)
  · show f_X9_fewestSellers_20 N iE sE iM sM iC tC sC (nI g) (nI m) (ev P) K (k + 1) _ _ = _
    rw [f_X9_fewestSellers_20, ev_n P (by omega), if_pos ((nI_ltI (by omega) (by omega)).mpr (by omega))]
  · show f_X9_fewestSellers_20 N iE sE iM sM iC tC sC (nI g) (nI m) (ev P) K (k + 1) _ _ = f_X9_fewestSellers_20 N iE sE iM sM iC tC sC (nI g) (nI m) (ev P) K k _ _
    rw [f_X9_fewestSellers_20, if_neg (show ¬ ev P < nI i from fun h => by rw [ev_n P (by omega)] at h; have := (nI_ltI (by omega) (by omega)).mp h; omega)]
    simp only [q_jn, hap, q_bd, q_b0, nI_1]
    rw [srv]
    cases h2 : srv (nI m) ap i with
    | none =>
      rw [oI_n, if_pos (show (-1 : Int32) = -1 from rfl)]
      by_cases c : nI i &&& (nI m ^^^ (-1)) = 0
      · rw [if_pos c, if_neg (show ¬ (1 : Int32) = 0 by decide), srvC_n c]
        cases ap i <;> rfl
      · rw [if_neg c, srvC_f c]; rfl
    | some b =>
      have hb := (srv_lt _ _ _ _ h2).1
      have hpi := pcN_le i
      have hpb := pcN_le b
      rw [oI_s, if_neg (nI_m1 (by omega)), x_bcN N (by omega), q_bd, x_bcN N (by omega), q_bd, i_le (by omega) (by omega)]
      by_cases c : nI i &&& (nI m ^^^ (-1)) = 0
      · by_cases c2 : pcN b ≤ pcN i
        · rw [if_pos c2, if_pos c, if_pos trivial, srvC_ge (show ¬ pcN i < pcN b by omega)]; rfl
        · rw [if_neg c2, if_pos c, if_neg (show ¬ (1 : Int32) = 0 by decide), srvC_lt c (show pcN i < pcN b by omega)]
          cases ap i <;> rfl
      · rw [if_neg c, if_neg c, srvC_f c]
        split <;> rfl
theorem y_srv66 (hN : 2000 ≤ N) {g m : Nat} (hm : m < 128) (ap : Nat → Bool) (hap : ∀ i, f_X11_isServed N iY sY tY jY (nI g) (nI i) = some (bI (ap i))) (K : Int32 → Option (Int32 × (Nat → Int32))) : f_X11_serve_66 N iY sY tY jY (nI g) (nI m) K N (-1) 0 = K (oI (srv (nI m) ap (m + 1))) := by
  refine q_loopG (fun k i => f_X11_serve_66 N iY sY tY jY (nI g) (nI m) K k (oI (srv (nI m) ap i)) (nI i)) _ (m + 1) N (by omega) (fun k => ?_) (fun k i hi => ?_)
  · show f_X11_serve_66 N iY sY tY jY (nI g) (nI m) K (k + 1) _ _ = _
    rw [f_X11_serve_66, if_pos ((nI_ltI (by omega) (by omega)).mpr (by omega))]
  · show f_X11_serve_66 N iY sY tY jY (nI g) (nI m) K (k + 1) _ _ = f_X11_serve_66 N iY sY tY jY (nI g) (nI m) K k _ _
    rw [f_X11_serve_66, if_neg (show ¬ nI m < nI i from fun h => by have := (nI_ltI (by omega) (by omega)).mp h; omega)]
    simp only [q_jn, hap, q_bd, q_b0, nI_1]
    rw [srv]
    cases h2 : srv (nI m) ap i with
    | none =>
      rw [oI_n, if_pos (show (-1 : Int32) < 0 by decide)]
      by_cases c : nI i &&& (nI m ^^^ (-1)) = 0
      · rw [if_pos c, srvC_n c]
        cases ap i <;> rfl
      · rw [if_neg c, srvC_f c]; rfl
    | some b =>
      have hb := (srv_lt _ _ _ _ h2).1
      have hpi := pcN_le i
      have hpb := pcN_le b
      rw [oI_s, if_neg (nI_n0 (by omega)), y_bitsN (by omega) (by omega), q_bd, y_bitsN (by omega) (by omega), q_bd, i_le (by omega) (by omega)]
      by_cases c : nI i &&& (nI m ^^^ (-1)) = 0
      · rw [if_pos c]
        by_cases c2 : pcN b ≤ pcN i
        · rw [if_pos c2, srvC_ge (show ¬ pcN i < pcN b by omega)]; rfl
        · rw [if_neg c2, srvC_lt c (show pcN i < pcN b by omega)]
          cases ap i <;> rfl
      · rw [if_neg c, srvC_f c]; rfl
theorem y_srv19 (hN : 2000 ≤ N) (hL : IL (sY 6) P Q) {g : Nat} (hg : g < 5) (K : Int32 → Option (Int32 × (Nat → Int32))) : f_X11_serve_19 N iY sY tY jY (nI g) K N 0 0 = K (selS (sY 6) g P) := by
  have hP := hL.P7
  refine q_loopG (fun k i => f_X11_serve_19 N iY sY tY jY (nI g) K k (selS (sY 6) g i) (nI i)) _ P N (by omega) (fun k => ?_) (fun k i hi => ?_)
  · show f_X11_serve_19 N iY sY tY jY (nI g) K (k + 1) _ _ = _
    rw [f_X11_serve_19, hL.s0, if_pos (nI_le (Nat.le_refl _) (by omega))]
  · show f_X11_serve_19 N iY sY tY jY (nI g) K (k + 1) _ _ = f_X11_serve_19 N iY sY tY jY (nI g) K k _ _
    obtain ⟨x, hx, exx, -⟩ := hL.pr i g (by omega) hg
    rw [f_X11_serve_19, hL.s0, if_neg (nI_ge hi (by omega)), L47, L5, pk_mul, nI_add, nI_add, q_ck (show 47 + 5 * i + g < 457 by omega) (by omega), q_jn, show ix (nI (47 + 5 * i + g)) = 47 + (5 * i + g) from (q_ix (by omega)).trans (by omega), nI_1, selS, exx, nI_le0 (by omega), nI_eq0 (by omega)]
    by_cases c : x = 0
    · rw [if_pos c, if_pos c]; dsimp only; rw [Int32.or_zero]
    · rw [if_neg c, if_neg c]; rfl
theorem sel_m {s : Nat → Int32} {g : Nat} (hP : P ≤ 7) : ∃ m, m < 2 ^ P ∧ selS s g P = nI m := by
  have hsel : sm (selS s g P) := sm_of (fun k hk h => by have := sel_tb s g P hP k hk h; omega)
  obtain ⟨m, hm, em⟩ := hsel
  refine ⟨m, Nat.lt_of_not_le (fun hc => ?_), em⟩
  obtain ⟨k, hk, hb⟩ := Nat.exists_ge_and_testBit_of_ge_two_pow hc
  have hk7 : k < 7 := by
    refine Nat.lt_of_not_le (fun h7 => ?_)
    have : m < 2 ^ k := Nat.lt_of_lt_of_le hm (show 2 ^ 7 ≤ 2 ^ k from Nat.pow_le_pow_right (by omega) h7)
    rw [Nat.testBit_lt_two_pow this] at hb
    cases hb
  have h2 : tb (nI m) k = true := by
    show (BitVec.ofNat 32 m).getLsbD k = true
    rw [BitVec.getLsbD_ofNat, hb, decide_eq_true (show k < 32 by omega)]; rfl
  rw [← em] at h2
  have := sel_tb s g P hP k (by omega) h2
  omega
theorem b_serve (hN : 2000 ≤ N) (hC : CP (sY 6) iC sC) (hM : MP (sY 6) iM sM) (hL : IL (sY 6) P Q) (hS : SK iE iY) (p1 : Int32) :
    ∃ r iE' iY', f_X10_serve N qX iX iE sE iM sM iC tC sC p1 = some (r, iE') ∧ f_X11_serve N iY sY tY jY p1 = some (r, iY') ∧ (∀ k, k ≠ 0 → k ≠ 29 → k ≠ 30 → iY' k = iY k) ∧ SK iE' iY' ∧ (∀ k, k ≠ 3 → iE' k = iE k) := by
  have hP := hL.P7
  have hQ := hL.Q5
  have r0 : ∀ k, k ≠ 0 → k ≠ 29 → k ≠ 30 → va_up iY 0 0 k = iY k := fun k h _ _ => q_vn _ _ h
  have hS0 : SK iE (va_up iY 0 0) := hS
  unfold f_X10_serve f_X11_serve
  rw [x_isGood N hC hL.s1, y_isGood N _ sY tY jY (by omega) hL.s1, q_bd, q_bd]
  cases h1 : perB Q p1 with
  | false => exact ⟨-1, iE, va_up iY 0 0, rfl, rfl, r0, hS0, fun _ _ => rfl⟩
  | true =>
  obtain ⟨g, hg, rfl⟩ := perB_t (by omega) h1
  rw [bI_tt, bI_tt]
  have hp2 := pw_le hP
  obtain ⟨m, hmP, em⟩ := sel_m (s := sY 6) (g := g) hP
  have hm : m < 128 := by omega
  unfold f_X9_fewestSellers
  rw [x_sellers N sY hN hC hL (by omega), q_bd, x_everyone N hC hL.s0, q_bd, q_jn, q_jn, y_srv19 N (va_up iY 0 0) sY tY jY hN hL (by omega), em]
  dsimp only
  rw [x_few20 N hN hP (fun i => allF (svB (sY 6) P g (nI i)) 0 P) (fun i => x_served N sY hN hC hM hL (by omega) (nI i)), q_jn, y_srv66 N (va_up iY 0 0) sY tY jY hN hm (fun i => allF (svB (sY 6) P g (nI i)) 0 P) (fun i => y_served N (va_up iY 0 0) sY tY jY hN hL (by omega) (nI i))]
  generalize (fun i => allF (svB (sY 6) P g (nI i)) 0 P) = ap
  have e2 := srv_end hm ap (2 ^ P - (m + 1)) (by omega)
  rw [show m + 1 + (2 ^ P - (m + 1)) = 2 ^ P by omega] at e2
  rw [e2]
  cases h3 : srv (nI m) ap (m + 1) with
  | none => exact ⟨-1, iE, va_up iY 0 0, rfl, rfl, r0, hS0, fun _ _ => rfl⟩
  | some b =>
    have hb := (srv_lt _ _ _ _ h3).1
    rw [oI_s, if_neg (nI_m1 (by omega)), x_bcN N (by omega), q_bd, q_bd, if_pos (show (0 : Int32) ≤ nI b from nI_le (a := 0) (by omega) (by omega)), y_bitsN (by omega) (by omega), q_bd]
    exact ⟨_, va_up iE 3 (nI b), va_up (va_up (va_up iY 0 0) 30 1) 29 (nI b), rfl, rfl, fun k h0 h29 h30 => by rw [q_vn _ _ h29, q_vn _ _ h30, q_vn _ _ h0], Or.inr ⟨rfl, rfl⟩, fun k hk => q_vn _ _ hk⟩
end
