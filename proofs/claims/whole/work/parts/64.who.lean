/-! PURE: who, ask, serve -/
def allF (ok : Nat → Bool) (i : Nat) : Nat → Bool
  | 0 => true
  | j + 1 => ok i && allF ok (i + 1) j
theorem allF_s (ok : Nat → Bool) : ∀ j i, allF ok i (j + 1) = (allF ok i j && ok (i + j)) := by
  intro j
  induction j with
  | zero => intro i; simp [allF]
  | succ j ih =>
    intro i
    rw [allF, ih (i + 1), allF, Bool.and_assoc, show i + 1 + j = i + (j + 1) by omega]
theorem allF_0 (ok : Nat → Bool) (j : Nat) : allF ok 0 (j + 1) = (allF ok 0 j && ok j) := by rw [allF_s, Nat.zero_add]
theorem allF_t {ok : Nat → Bool} : ∀ {j i : Nat}, allF ok i j = true → ∀ t, t < j → ok (i + t) = true := by
  intro j
  induction j with
  | zero => intro i _ t ht; omega
  | succ j ih =>
    intro i h t ht
    rw [allF, Bool.and_eq_true] at h
    rcases t with _ | t
    · exact h.1
    · have := ih h.2 t (by omega)
      rwa [show i + 1 + t = i + (t + 1) by omega] at this
theorem q_loopX {β : Type} (L : Nat → Nat → Option β) (R0 R1 : Option β) (n N : Nat) (hN : n < N) (ok : Nat → Bool)
    (h0 : ∀ k, L (k + 1) n = R1) (h1 : ∀ k i, i < n → ok i = true → L (k + 1) i = L k (i + 1)) (h2 : ∀ k i, i < n → ok i = false → L (k + 1) i = R0) :
    L N 0 = if allF ok 0 n then R1 else R0 := by
  have key : ∀ j i k, i + j = n → j < k → L k i = if allF ok i j then R1 else R0 := by
    intro j
    induction j with
    | zero =>
      intro i k h hk
      obtain ⟨k, rfl⟩ : ∃ m, k = m + 1 := ⟨k - 1, by omega⟩
      have : i = n := by omega
      subst this
      rw [h0]; rfl
    | succ j ih =>
      intro i k h hk
      obtain ⟨k, rfl⟩ : ∃ m, k = m + 1 := ⟨k - 1, by omega⟩
      cases e : ok i with
      | true => rw [h1 k i (by omega) e, ih (i + 1) k (by omega) (by omega), allF, e, Bool.true_and]
      | false => rw [h2 k i (by omega) e, allF, e, Bool.false_and]; rfl
  exact key n 0 N (by omega) hN
theorem q_loopG {β : Type} (L : Nat → Nat → Option β) (R : Option β) (n N : Nat) (hN : n < N)
    (h0 : ∀ k, L (k + 1) n = R) (h1 : ∀ k i, i < n → L (k + 1) i = L k (i + 1)) : L N 0 = R := by
  have := q_loopX L R R n N hN (fun _ => true) h0 (fun k i hi _ => h1 k i hi) (fun k i hi h => by cases h)
  rw [this]; split <;> rfl
theorem i_lt {α : Type} {a b : Nat} (ha : a < 2147483648) (hb : b < 2147483648) {x y : α} : (if nI a < nI b then x else y) = if a < b then x else y := by simp only [nI_ltI ha hb]
theorem i_le {α : Type} {a b : Nat} (ha : a < 2147483648) (hb : b < 2147483648) {x y : α} : (if nI a ≤ nI b then x else y) = if a ≤ b then x else y := by simp only [nI_leI ha hb]
theorem i_eq {α : Type} {a b : Nat} (ha : a < 2147483648) (hb : b < 2147483648) {x y : α} : (if nI a = nI b then x else y) = if a = b then x else y := by simp only [nI_eq ha hb]
theorem i_eq1 {α : Type} {a : Nat} (ha : a < 2147483648) {x y : α} : (if nI a = 1 then x else y) = if a = 1 then x else y := i_eq (b := 1) ha (by omega)
/-! a byte of the tape -/
def oc (b : Nat → Int32) (k : Nat) : Nat := (b k).toBitVec.toNat % 256
theorem oc_lt (b : Nat → Int32) (k : Nat) : oc b k < 256 := Nat.mod_lt _ (by omega)
theorem oc_eq (b : Nat → Int32) (k : Nat) : b k &&& 255 = nI (oc b k) := pk_and (b k) 8 (by decide)
theorem perB_n {P j : Nat} (hP : P ≤ 7) (hj : j < 1000) : perB P (nI j) = decide (j < P) := by
  unfold perB
  refine decide_eq_decide.mpr ?_
  rw [show (0 : Int32) = nI 0 from rfl, nI_ltI (by omega) (by omega), nI_ltI (by omega) (by omega)]
  omega
theorem mx_n {a b : Nat} (ha : a < 1000) (hb : b < 1000) : (if nI a < nI b then nI b else nI a) = nI (max a b) := by
  rw [i_lt (by omega) (by omega)]
  split
  · rw [Nat.max_eq_right (by omega)]
  · rw [Nat.max_eq_left (by omega)]
theorem y_greater (N : Nat) {a b : Nat} (ha : a < 1000) (hb : b < 1000) : f_X11_greater N (nI a) (nI b) = some (nI (max a b)) := by
  unfold f_X11_greater
  rw [i_le (by omega) (by omega)]
  split
  · rw [Nat.max_eq_right (by omega)]
  · rw [Nat.max_eq_left (by omega)]
theorem kn_sym {s : Nat → Int32} {P Q a b : Nat} (hL : IL s P Q) (hI : ID s P Q) (ha : a < 7) (hb : b < 7) : tb (kn s a) b = tb (kn s b) a :=
  Bool.eq_iff_iff.mpr ⟨fun h => (kn_tb hL hI ha h).2.2.2, fun h => (kn_tb hL hI hb h).2.2.2⟩
theorem fo_sym {s : Nat → Int32} {P Q a b : Nat} (hL : IL s P Q) (ha : a < 7) (hb : b < 7) : tb (s (124 + a)) b = tb (s (124 + b)) a :=
  Bool.eq_iff_iff.mpr ⟨fun h => (hL.fo a b ha h).2.2.2, fun h => (hL.fo b a hb h).2.2.2⟩
theorem my_sym {s : Nat → Int32} {P Q a b : Nat} (hL : IL s P Q) (hI : ID s P Q) (ha : a < P) (hb : b < P) : tb (my s P a) b = tb (my s P b) a := by
  have hP := hL.P7
  rw [my_tb hP (by omega) (by omega), my_tb hP (by omega) (by omega), kn_sym hL hI (by omega) (by omega), fo_sym hL (by omega) (by omega), decide_eq_true ha, decide_eq_true hb]
  have : decide (b = a) = decide (a = b) := decide_eq_decide.mpr ⟨fun h => h.symm, fun h => h.symm⟩
  rw [this]
def okM (s b : Nat → Int32) (P q k : Nat) : Bool := !decide (oc b (2 * k) = q) && (tb (my s P q) (oc b (2 * k)) == decide (oc b (2 * k + 1) = 1))
def okW (b : Nat → Int32) (P k : Nat) : Bool := decide (oc b (2 * k) < P) && decide (oc b (2 * k + 1) ≤ 1)
def mkS (s b : Nat → Int32) (P : Nat) : Nat → Int32
  | 0 => ev P
  | i + 1 => (mkS s b P i &&& (if oc b (2 * i + 1) = 1 then my s P (oc b (2 * i)) else my s P (oc b (2 * i)) ^^^ (-1))) &&& (pb (oc b (2 * i)) ^^^ (-1))
def stR (s b : Nat → Int32) (P h : Nat) : Nat → Int32
  | 0 => 0
  | i + 1 => stR s b P h i ||| (if allF (okM s b P i) 0 h then pb i else 0)
theorem tb_mk {s b : Nat → Int32} {P Q : Nat} (hL : IL s P Q) (hI : ID s P Q) {q : Nat} (hq : q < 32) : ∀ i, (∀ k, k < i → okW b P k = true) → tb (mkS s b P i) q = (decide (q < P) && allF (okM s b P q) 0 i) := by
  have hP := hL.P7
  intro i
  induction i with
  | zero => intro _; rw [mkS, tb_ev P (by omega) q hq]; simp [allF]
  | succ i ih =>
    intro h
    have hw := h i (by omega)
    unfold okW at hw
    rw [Bool.and_eq_true, decide_eq_true_eq, decide_eq_true_eq] at hw
    rw [mkS, tb_and, tb_and, ih (fun k hk => h k (by omega)), tb_not _ hq, tb_pb _ (by omega) q hq, allF_0, okM]
    by_cases hqP : q < P
    · have e : tb (if oc b (2 * i + 1) = 1 then my s P (oc b (2 * i)) else my s P (oc b (2 * i)) ^^^ (-1)) q = (tb (my s P q) (oc b (2 * i)) == decide (oc b (2 * i + 1) = 1)) := by
        rw [my_sym hL hI hqP hw.1]
        by_cases h1 : oc b (2 * i + 1) = 1
        · rw [if_pos h1, decide_eq_true h1]; cases tb (my s P (oc b (2 * i))) q <;> rfl
        · rw [if_neg h1, decide_eq_false h1, tb_not _ hq]; cases tb (my s P (oc b (2 * i))) q <;> rfl
      have e2 : decide (q = oc b (2 * i)) = decide (oc b (2 * i) = q) := decide_eq_decide.mpr ⟨fun h => h.symm, fun h => h.symm⟩
      rw [e, e2]
      cases decide (q < P) <;> cases allF (okM s b P q) 0 i <;> cases (tb (my s P q) (oc b (2 * i)) == decide (oc b (2 * i + 1) = 1)) <;> cases decide (oc b (2 * i) = q) <;> rfl
    · rw [decide_eq_false hqP, Bool.false_and, Bool.false_and, Bool.false_and, Bool.false_and]
theorem tb_st (s b : Nat → Int32) (P h : Nat) {q : Nat} (hq : q < 32) : ∀ i, i ≤ 7 → tb (stR s b P h i) q = (decide (q < i) && allF (okM s b P q) 0 h) := by
  intro i
  induction i with
  | zero => intro _; rw [stR, tb_0]; rfl
  | succ i ih =>
    intro hi
    rw [stR, tb_or, ih (by omega)]
    by_cases h1 : q = i
    · subst h1
      rw [decide_eq_false (by omega), decide_eq_true (show q < q + 1 by omega)]
      cases allF (okM s b P q) 0 h with
      | true => rw [if_pos rfl, tb_pb q (by omega) q hq]; simp
      | false => rw [if_neg (by decide), tb_0]; rfl
    · have e : tb (if allF (okM s b P i) 0 h = true then pb i else 0) q = false := by
        split
        · rw [tb_pb i (by omega) q hq, decide_eq_false h1]
        · exact tb_0 q
      rw [e, Bool.or_false]
      have : decide (q < i) = decide (q < i + 1) := decide_eq_decide.mpr (by omega)
      rw [this]
def argB (f : Nat → Nat) : Nat → Option Nat
  | 0 => none
  | i + 1 => match argB f i with
    | none => some i
    | some b => if f b ≤ f i then some b else some i
theorem argB_n (f : Nat → Nat) (i : Nat) : ∃ b, argB f (i + 1) = some b ∧ b ≤ i := by
  induction i with
  | zero => exact ⟨0, rfl, Nat.le_refl _⟩
  | succ i ih =>
    obtain ⟨b, h, hb⟩ := ih
    rw [argB, h]
    dsimp only
    split
    · exact ⟨b, rfl, by omega⟩
    · exact ⟨i + 1, rfl, by omega⟩
def lf (s : Nat → Int32) (P : Nat) (m : Int32) (q : Nat) : Nat := max (pc (m &&& my s P q)) (pc (m &&& (my s P q ^^^ (-1))))
theorem lf_le (s : Nat → Int32) (P : Nat) (m : Int32) (q : Nat) : lf s P m q ≤ 7 := by
  unfold lf
  have h1 := pc_le (m &&& my s P q)
  have h2 := pc_le (m &&& (my s P q ^^^ (-1)))
  omega
theorem sm_le0 {x : Int32} (h : sm x) : (x ≤ 0) ↔ x = 0 := by
  obtain ⟨n, hn, rfl⟩ := h
  rw [show (0 : Int32) = nI 0 from rfl, nI_leI (by omega) (by omega), nI_eq (by omega) (by omega)]
  omega
def AK (iE iY : Nat → Int32) : Prop := (iY 28 = 0 ∧ iE 2 = -1) ∨ (iY 28 = 1 ∧ iE 2 = iY 27)
section
variable (N : Nat) {qX : Nat → Option Nat} {iX : Nat → Int32} {iC : Nat → Int32} {tC : Nat → Nat → Int64} {sC : Nat → Nat → Int32} {iM : Nat → Int32} {sM : Nat → Nat → Int32} {iE : Nat → Int32} {sE : Nat → Nat → Int32} {P Q : Nat}
variable (iY : Nat → Int32) (sY : Nat → Nat → Int32) (tY : Nat → Nat → Int64) (jY : Nat → Int64)
theorem y_octet {k : Nat} (hk : k < 940) : f_X11_octet N iY sY tY jY (nI k) = some (nI (oc (sY 1) k)) := by
  unfold f_X11_octet
  rw [q_ck hk (by omega), show ix (nI k) = k from q_ix (by omega), oc_eq]
theorem y_isMask (hN : 2000 ≤ N) (hL : IL (sY 6) P Q) {h q : Nat} (hh : h ≤ 8) (h3 : iY 3 = nI (2 * h)) (hw : ∀ k, k < h → okW (sY 1) P k = true) (hq : q < P) : f_X11_isMask N iY sY tY jY (nI q) = some (bI (allF (okM (sY 6) (sY 1) P q) 0 h)) := by
  have hP := hL.P7
  unfold f_X11_isMask
  refine q_loopG (fun k i => f_X11_isMask_4 N iY sY tY jY (nI q) k (bI (allF (okM (sY 6) (sY 1) P q) 0 i)) (nI (2 * i))) _ h N (by omega) (fun k => ?_) (fun k i hi => ?_)
  · show f_X11_isMask_4 N iY sY tY jY (nI q) (k + 1) _ _ = _
    rw [f_X11_isMask_4, h3, if_pos (nI_le (Nat.le_refl _) (by omega)), q_zb]
  · show f_X11_isMask_4 N iY sY tY jY (nI q) (k + 1) _ _ = f_X11_isMask_4 N iY sY tY jY (nI q) k _ _
    have hwi := hw i hi
    unfold okW at hwi
    rw [Bool.and_eq_true, decide_eq_true_eq, decide_eq_true_eq] at hwi
    have ho := oc_lt (sY 1) (2 * i + 1)
    rw [f_X11_isMask_4, h3, if_neg (nI_ge (by omega) (by omega)), q_jn, q_jn, q_b0, y_octet N iY sY tY jY (by omega), q_bd, y_mayBy N iY sY tY jY (P := P) (by omega) hL.s0, nI_1, y_octet N iY sY tY jY (by omega)]
    simp only [q_bd, y_bitOf N _ (show oc (sY 1) (2 * i) < 31 by omega)]
    rw [q_jn, i_eq (a := oc (sY 1) (2 * i)) (b := q) (by omega) (by omega), i_eq1 (a := oc (sY 1) (2 * i + 1)) (by omega), allF_0, okM, show nI (2 * i) + 2 = nI (2 * (i + 1)) from by rw [L2, nI_add, show 2 * i + 2 = 2 * (i + 1) by omega]]
    cases allF (okM (sY 6) (sY 1) P q) 0 i with
    | false => rfl
    | true =>
      by_cases c : oc (sY 1) (2 * i) = q
      · rw [if_pos rfl, if_pos c, decide_eq_true c]; rfl
      · rw [if_pos rfl, if_neg c, decide_eq_false c]
        by_cases c1 : oc (sY 1) (2 * i + 1) = 1
        · rw [if_pos c1, decide_eq_true c1]; cases tb (my (sY 6) P q) (oc (sY 1) (2 * i)) <;> rfl
        · rw [if_neg c1, decide_eq_false c1]; cases tb (my (sY 6) P q) (oc (sY 1) (2 * i)) <;> rfl
theorem x_bestToAsk (hN : 2000 ≤ N) (hC : CP (sY 6) iC sC) (hM : MP (sY 6) iM sM) (hL : IL (sY 6) P Q) {m : Int32} (hm : sm m) : f_X9_bestToAsk N iE sE iM sM iC tC sC m = some (oI (argB (lf (sY 6) P m) P)) := by
  have hP := hL.P7
  unfold f_X9_bestToAsk
  refine q_loopG (fun k i => f_X9_bestToAsk_8 N iE sE iM sM iC tC sC m k (oI (argB (lf (sY 6) P m) i)) (match argB (lf (sY 6) P m) i with | none => 8 | some b => nI (lf (sY 6) P m b)) (nI i)) _ P N (by omega) (fun k => ?_) (fun k i hi => ?_)
  · show f_X9_bestToAsk_8 N iE sE iM sM iC tC sC m (k + 1) _ _ _ = _
    rw [f_X9_bestToAsk_8, hC.pe, hL.s0, if_pos (nI_le (Nat.le_refl _) (by omega))]
  · show f_X9_bestToAsk_8 N iE sE iM sM iC tC sC m (k + 1) _ _ _ = f_X9_bestToAsk_8 N iE sE iM sM iC tC sC m k _ _ _
    have h1 := pc_le (m &&& my (sY 6) P i)
    have h2 := pc_le (m &&& (my (sY 6) P i ^^^ (-1)))
    have h3 := lf_le (sY 6) P m i
    rw [f_X9_bestToAsk_8, hC.pe, hL.s0, if_neg (nI_ge hi (by omega)), x_dealable N hC hM hL.s0 (by omega), q_bd, x_bc N (sm_and hm), q_bd, x_bc N (sm_and hm), q_bd, q_nv, q_jn, mx_n (by omega) (by omega), nI_1, argB, show max (pc (m &&& my (sY 6) P i)) (pc (m &&& (my (sY 6) P i ^^^ (-1)))) = lf (sY 6) P m i from rfl]
    cases h4 : argB (lf (sY 6) P m) i with
    | none =>
      dsimp only
      rw [L8, if_neg (nI_ge (by omega) (by omega))]; rfl
    | some b =>
      dsimp only
      have h5 := lf_le (sY 6) P m b
      by_cases h6 : lf (sY 6) P m b ≤ lf (sY 6) P m i
      · rw [if_pos (nI_le h6 (by omega)), if_pos h6]
      · rw [if_neg (nI_ge (by omega) (by omega)), if_neg h6]; rfl
theorem y_who_133 (hN : 2000 ≤ N) (hL : IL (sY 6) P Q) {m : Int32} (hm : sm m) : f_X11_who_133 N sY tY jY m N iY 1000000 0 = some (m, match argB (lf (sY 6) P m) P with | none => iY | some b => va_up iY 27 (nI b)) := by
  have hP := hL.P7
  refine q_loopG (fun k i => f_X11_who_133 N sY tY jY m k (match argB (lf (sY 6) P m) i with | none => iY | some b => va_up iY 27 (nI b)) (match argB (lf (sY 6) P m) i with | none => 1000000 | some b => nI (lf (sY 6) P m b)) (nI i)) _ P N (by omega) (fun k => ?_) (fun k i hi => ?_)
  · show f_X11_who_133 N sY tY jY m (k + 1) _ _ _ = _
    rw [f_X11_who_133, hL.s0, if_pos (nI_le (Nat.le_refl _) (by omega))]
  · show f_X11_who_133 N sY tY jY m (k + 1) _ _ _ = f_X11_who_133 N sY tY jY m k _ _ _
    have h1 := pc_le (m &&& my (sY 6) P i)
    have h2 := pc_le (m &&& (my (sY 6) P i ^^^ (-1)))
    have h3 := lf_le (sY 6) P m i
    have h7 := pc_part m (my (sY 6) P i)
    rw [f_X11_who_133, hL.s0, if_neg (nI_ge hi (by omega)), y_mayBy N _ sY tY jY (P := P) (by omega) hL.s0, q_bd, y_bits (by omega) (sm_and hm), q_bd, y_bits (by omega) hm, q_bd, pk_sub (by omega), show pc m - pc (m &&& my (sY 6) P i) = pc (m &&& (my (sY 6) P i ^^^ (-1))) by omega, y_greater N (by omega) (by omega), q_bd, q_jn, nI_1, argB, show max (pc (m &&& my (sY 6) P i)) (pc (m &&& (my (sY 6) P i ^^^ (-1)))) = lf (sY 6) P m i from rfl]
    cases h4 : argB (lf (sY 6) P m) i with
    | none =>
      dsimp only
      rw [L1000000, if_pos ((nI_ltI (by omega) (by omega)).mpr (by omega))]
    | some b =>
      dsimp only
      have h5 := lf_le (sY 6) P m b
      by_cases h6 : lf (sY 6) P m b ≤ lf (sY 6) P m i
      · rw [if_neg (fun h => nI_ge (a := lf (sY 6) P m i) (b := lf (sY 6) P m b) ((nI_ltI (by omega) (by omega)).mp h) (by omega) (nI_le h6 (by omega))), if_pos h6]
      · rw [if_pos ((nI_ltI (by omega) (by omega)).mpr (by omega)), if_neg h6, q_vv]
theorem b_who (hN : 2000 ≤ N) (hC : CP (sY 6) iC sC) (hM : MP (sY 6) iM sM) (hL : IL (sY 6) P Q) (hI : ID (sY 6) P Q) {sT : Nat → Nat → Int32} {iT : Nat → Int32} {jT : Nat → Int64} {L : Nat} (hL9 : L ≤ 940) (hT : iT 1 = nI L) (hY : iY 2 = nI L) (hB : ∀ k, k < 940 → sT 0 k = sY 1 k &&& 255) (hA : AK iE iY) :
    ∃ r iE' iY', f_X10_who N qX iX iE sE iM sM iC tC sC sT iT jT = some (r, iE', va_up iT 1 0) ∧ f_X11_who N iY sY tY jY = some (r, iY') ∧ (∀ k, k ≠ 0 → k ≠ 2 → k ≠ 3 → k ≠ 4 → k ≠ 5 → k ≠ 27 → k ≠ 28 → iY' k = iY k) ∧ iY' 2 = 0 ∧ AK iE' iY' ∧ (∀ k, k ≠ 2 → iE' k = iE k) := by
  have hP := hL.P7
  have e1 : f_X11_taken N (va_up iY 0 0) sY tY jY 940 = some (va_up (va_up (va_up (va_up (va_up iY 0 0) 3 (nI L)) 2 0) 4 0) 5 940) := by
    unfold f_X11_taken; rw [q_vn _ _ (show 2 ≠ 0 by omega), hY]
  have rest : ∀ k, k ≠ 0 → k ≠ 2 → k ≠ 3 → k ≠ 4 → k ≠ 5 → k ≠ 27 → k ≠ 28 → va_up (va_up (va_up (va_up (va_up iY 0 0) 3 (nI L)) 2 0) 4 0) 5 940 k = iY k := by
    intro k h0 h2 h3 h4 h5 _ _
    rw [q_vn _ _ h5, q_vn _ _ h4, q_vn _ _ h2, q_vn _ _ h3, q_vn _ _ h0]
  have stay : ∀ r : Int32, f_X10_who N qX iX iE sE iM sM iC tC sC sT iT jT = some (r, iE, va_up iT 1 0) → f_X11_who N iY sY tY jY = some (r, va_up (va_up (va_up (va_up (va_up iY 0 0) 3 (nI L)) 2 0) 4 0) 5 940) → ∃ r iE' iY', f_X10_who N qX iX iE sE iM sM iC tC sC sT iT jT = some (r, iE', va_up iT 1 0) ∧ f_X11_who N iY sY tY jY = some (r, iY') ∧ (∀ k, k ≠ 0 → k ≠ 2 → k ≠ 3 → k ≠ 4 → k ≠ 5 → k ≠ 27 → k ≠ 28 → iY' k = iY k) ∧ iY' 2 = 0 ∧ AK iE' iY' ∧ (∀ k, k ≠ 2 → iE' k = iE k) :=
    fun r e2 e3 => ⟨r, iE, _, e2, e3, rest, rfl, hA, fun _ _ => rfl⟩
  generalize hz : va_up (va_up (va_up (va_up (va_up iY 0 0) 3 (nI L)) 2 0) 4 0) 5 940 = zY at e1 rest stay
  have z3 : zY 3 = nI L := by rw [← hz]; rfl
  have z2 : zY 2 = 0 := by rw [← hz]; rfl
  have z27 : zY 27 = iY 27 := by rw [← hz]; rfl
  have z28 : zY 28 = iY 28 := by rw [← hz]; rfl
  have ex : f_X10_who N qX iX iE sE iM sM iC tC sC sT iT jT = bd (f_X9_maskedBy N iE sE iM sM iC tC sC sT iT jT) (fun (r_1, iE_2) => some (r_1, iE_2, (va_up iT 1 0))) := rfl
  have ed : nI L / 2 = nI (L / 2) := pk_div (d := 2) (by omega) (by omega) (by omega)
  have er : nI L - nI L / 2 * 2 = nI (L % 2) := pk_rem (d := 2) (by omega) (by omega) (by omega)
  by_cases hok : L % 2 = 0 ∧ 2 ≤ L ∧ L ≤ 16
  · obtain ⟨h, rfl⟩ : ∃ h, L = 2 * h := ⟨L / 2, by omega⟩
    have hh : h ≤ 8 := by omega
    have eh : 2 * h / 2 = h := by omega
    have emask : f_X9_maskedBy N iE sE iM sM iC tC sC sT iT jT = if allF (okW (sY 1) P) 0 h then (if mkS (sY 6) (sY 1) P h ≤ 0 then some (mkS (sY 6) (sY 1) P h, iE) else bd (f_X9_bestToAsk N iE sE iM sM iC tC sC (mkS (sY 6) (sY 1) P h)) (fun r_11 => some (mkS (sY 6) (sY 1) P h, (va_up iE 2 r_11)))) else some (-1, iE) := by
      unfold f_X9_maskedBy
      rw [hT, er, ed, if_pos (show nI (2 * h % 2) = 0 from by rw [hok.1]; rfl), eh, if_neg (show ¬ nI h < 1 from fun hc => by have := (nI_ltI (b := 1) (by omega) (by omega)).mp hc; omega), if_pos (show nI h ≤ 8 from nI_le (b := 8) hh (by omega)), x_everyone N hC hL.s0, q_bd, q_jn]
      refine q_loopX (fun k i => f_X9_maskedBy_40 N iE sE iM sM iC tC sC sT iT jT (nI h) _ k (mkS (sY 6) (sY 1) P i) (nI i)) _ _ h N (by omega) (okW (sY 1) P) (fun k => ?_) (fun k i hi hw => ?_) (fun k i hi hw => ?_)
      · show f_X9_maskedBy_40 N iE sE iM sM iC tC sC sT iT jT (nI h) _ (k + 1) _ _ = _
        rw [f_X9_maskedBy_40, if_pos (nI_le (Nat.le_refl _) (by omega))]
      · show f_X9_maskedBy_40 N iE sE iM sM iC tC sC sT iT jT (nI h) _ (k + 1) _ _ = f_X9_maskedBy_40 N iE sE iM sM iC tC sC sT iT jT (nI h) _ k _ _
        unfold okW at hw
        rw [Bool.and_eq_true, decide_eq_true_eq, decide_eq_true_eq] at hw
        rw [f_X9_maskedBy_40, if_neg (nI_ge hi (by omega)), L2, pk_mul, q_ck (show 2 * i < 940 by omega) (by omega), q_nv, nI_1, q_ck (show 2 * i + 1 < 940 by omega) (by omega), q_nv, show ix (nI (2 * i)) = 2 * i from q_ix (by omega), show ix (nI (2 * i + 1)) = 2 * i + 1 from q_ix (by omega), hB _ (by omega), hB _ (by omega), oc_eq, oc_eq, x_isPerson N hC hL.s0, q_bd, perB_n hP (by omega), q_dt hw.1, if_pos (show nI (oc (sY 1) (2 * i + 1)) ≤ 1 from nI_le (b := 1) hw.2 (by omega)), q_jn, x_dealable N hC hM hL.s0 (by omega), q_bd, q_bd, nI_1, i_eq1 (a := oc (sY 1) (2 * i + 1)) (by omega), mkS]
        split <;> rfl
      · show f_X9_maskedBy_40 N iE sE iM sM iC tC sC sT iT jT (nI h) _ (k + 1) _ _ = _
        have ho := oc_lt (sY 1) (2 * i)
        have ho2 := oc_lt (sY 1) (2 * i + 1)
        rw [f_X9_maskedBy_40, if_neg (nI_ge hi (by omega)), L2, pk_mul, q_ck (show 2 * i < 940 by omega) (by omega), q_nv, nI_1, q_ck (show 2 * i + 1 < 940 by omega) (by omega), q_nv, show ix (nI (2 * i)) = 2 * i from q_ix (by omega), show ix (nI (2 * i + 1)) = 2 * i + 1 from q_ix (by omega), hB _ (by omega), hB _ (by omega), oc_eq, oc_eq, x_isPerson N hC hL.s0, q_bd, perB_n hP (by omega)]
        by_cases c1 : oc (sY 1) (2 * i) < P
        · rw [q_dt c1, if_neg (show ¬ nI (oc (sY 1) (2 * i + 1)) ≤ 1 from fun hc => by
            have := (nI_leI (b := 1) (by omega) (by omega)).mp hc
            unfold okW at hw
            rw [decide_eq_true c1, decide_eq_true this] at hw
            cases hw)]
        · rw [q_df c1]
    have ey : f_X11_who N iY sY tY jY = if allF (okW (sY 1) P) 0 h then (if stR (sY 6) (sY 1) P h P = 0 then some (0, zY) else f_X11_who_133 N sY tY jY (stR (sY 6) (sY 1) P h P) N (va_up zY 28 1) 1000000 0) else some (-1, zY) := by
      unfold f_X11_who
      rw [e1, q_bd, y_isIn, q_bd, z3, q_dt (show ¬ nI (2 * h) < 2 ∧ nI (2 * h) ≤ 16 from ⟨fun hc => by have := (nI_ltI (b := 2) (by omega) (by omega)).mp hc; omega, nI_le (b := 16) (by omega) (by omega)⟩), er, if_neg (show ¬ nI (2 * h % 2) = 1 from by rw [hok.1]; decide), q_jn]
      have key := q_loopX (fun k i => f_X11_who_39 N zY sY tY jY (fun (z : Unit) => match z with | () => jn (fun (z : (Int32)) => match z with | x1_13 => (if x1_13 = 0 then some (0, zY) else f_X11_who_133 N sY tY jY x1_13 N (va_up zY 28 1) 1000000 0)) (fun K_10 => f_X11_who_82 N zY sY tY jY K_10 N 0 0)) k (nI (2 * i))) (some (-1, zY)) (jn (fun (z : (Int32)) => match z with | x1_13 => (if x1_13 = 0 then some (0, zY) else f_X11_who_133 N sY tY jY x1_13 N (va_up zY 28 1) 1000000 0)) (fun K_10 => f_X11_who_82 N zY sY tY jY K_10 N 0 0)) h N (by omega) (okW (sY 1) P) (fun k => ?_) (fun k i hi hw => ?_) (fun k i hi hw => ?_)
      · refine Eq.trans key ?_
        cases hall : allF (okW (sY 1) P) 0 h with
        | false => rfl
        | true =>
          have hw : ∀ k, k < h → okW (sY 1) P k = true := fun k hk => by have := allF_t hall k hk; rwa [Nat.zero_add] at this
          rw [if_pos rfl, if_pos rfl, q_jn]
          refine q_loopG (fun k i => f_X11_who_82 N zY sY tY jY _ k (stR (sY 6) (sY 1) P h i) (nI i)) _ P N (by omega) (fun k => ?_) (fun k i hi => ?_)
          · show f_X11_who_82 N zY sY tY jY _ (k + 1) _ _ = _
            rw [f_X11_who_82, hL.s0, if_pos (nI_le (Nat.le_refl _) (by omega))]
          · show f_X11_who_82 N zY sY tY jY _ (k + 1) _ _ = f_X11_who_82 N zY sY tY jY _ k _ _
            rw [f_X11_who_82, hL.s0, if_neg (nI_ge hi (by omega)), y_isMask N zY sY tY jY hN hL hh z3 hw hi, q_bd, q_jn, nI_1, stR, q_b0]
            split <;> rfl
      · show f_X11_who_39 N zY sY tY jY _ (k + 1) _ = _
        rw [f_X11_who_39, z3, if_pos (nI_le (Nat.le_refl _) (by omega))]
      · show f_X11_who_39 N zY sY tY jY _ (k + 1) _ = f_X11_who_39 N zY sY tY jY _ k _
        unfold okW at hw
        rw [Bool.and_eq_true, decide_eq_true_eq, decide_eq_true_eq] at hw
        rw [f_X11_who_39, z3, if_neg (nI_ge (by omega) (by omega)), y_octet N zY sY tY jY (by omega), q_bd, y_isPerson N zY sY tY jY hP hL.s0, q_bd, perB_n hP (by omega), q_dt hw.1, nI_1, y_octet N zY sY tY jY (by omega), q_bd, if_pos (show nI (oc (sY 1) (2 * i + 1)) ≤ 1 from nI_le (b := 1) hw.2 (by omega)), L2, nI_add, show 2 * i + 2 = 2 * (i + 1) by omega]
      · show f_X11_who_39 N zY sY tY jY _ (k + 1) _ = _
        have ho := oc_lt (sY 1) (2 * i)
        have ho2 := oc_lt (sY 1) (2 * i + 1)
        rw [f_X11_who_39, z3, if_neg (nI_ge (by omega) (by omega)), y_octet N zY sY tY jY (by omega), q_bd, y_isPerson N zY sY tY jY hP hL.s0, q_bd, perB_n hP (by omega)]
        by_cases c1 : oc (sY 1) (2 * i) < P
        · rw [q_dt c1, nI_1, y_octet N zY sY tY jY (by omega), q_bd, if_neg (show ¬ nI (oc (sY 1) (2 * i + 1)) ≤ 1 from fun hc => by
            have := (nI_leI (b := 1) (by omega) (by omega)).mp hc
            unfold okW at hw
            rw [decide_eq_true c1, decide_eq_true this] at hw
            cases hw)]
        · rw [q_df c1]
    cases hall : allF (okW (sY 1) P) 0 h with
    | false =>
      rw [hall] at emask ey
      exact stay (-1) (by rw [ex, emask]; rfl) ey
    | true =>
      have hw : ∀ k, k < h → okW (sY 1) P k = true := fun k hk => by have := allF_t hall k hk; rwa [Nat.zero_add] at this
      rw [hall] at emask ey
      have em : mkS (sY 6) (sY 1) P h = stR (sY 6) (sY 1) P h P := tb_ext (fun q hq => by rw [tb_mk hL hI hq h hw, tb_st _ _ _ _ hq P hP])
      have hsm : sm (stR (sY 6) (sY 1) P h P) := sm_of (fun q hq h2 => by
        rw [tb_st _ _ _ _ hq P hP, Bool.and_eq_true, decide_eq_true_eq] at h2
        omega)
      rw [if_pos rfl, em] at emask
      rw [if_pos rfl] at ey
      by_cases c : stR (sY 6) (sY 1) P h P = 0
      · rw [if_pos ((sm_le0 hsm).mpr c)] at emask
        rw [if_pos c] at ey
        exact stay 0 (by rw [ex, emask, c]; rfl) ey
      · rw [if_neg (fun hc => c ((sm_le0 hsm).mp hc)), x_bestToAsk N sY hN hC hM hL hsm, q_bd] at emask
        rw [if_neg c, y_who_133 N (va_up zY 28 1) sY tY jY hN hL hsm] at ey
        have hP0 : P ≠ 0 := by
          intro h0; subst h0; exact c rfl
        obtain ⟨P', rfl⟩ : ∃ P', P = P' + 1 := ⟨P - 1, by omega⟩
        obtain ⟨b, hb, hb2⟩ := argB_n (lf (sY 6) (P' + 1) (stR (sY 6) (sY 1) (P' + 1) h (P' + 1))) P'
        rw [hb] at emask ey
        refine ⟨_, va_up iE 2 (nI b), va_up (va_up zY 28 1) 27 (nI b), by rw [ex, emask]; rfl, ey, fun k h0 h2 h3 h4 h5 h27 h28 => ?_, ?_, Or.inr ⟨rfl, rfl⟩, fun k hk => q_vn _ _ hk⟩
        · rw [q_vn _ _ h27, q_vn _ _ h28]; exact rest k h0 h2 h3 h4 h5 h27 h28
        · rw [q_vn _ _ (by omega), q_vn _ _ (by omega)]; exact z2
  · refine stay (-1) ?_ ?_
    · rw [ex]
      unfold f_X9_maskedBy
      rw [hT, er, ed]
      by_cases c1 : L % 2 = 0
      · rw [if_pos (show nI (L % 2) = 0 from by rw [c1]; rfl)]
        by_cases c2 : L / 2 < 1
        · rw [if_pos (show nI (L / 2) < 1 from (nI_ltI (b := 1) (by omega) (by omega)).mpr c2)]; rfl
        · rw [if_neg (show ¬ nI (L / 2) < 1 from fun hc => c2 ((nI_ltI (b := 1) (by omega) (by omega)).mp hc)), if_neg (show ¬ nI (L / 2) ≤ 8 from fun hc => by have := (nI_leI (b := 8) (by omega) (by omega)).mp hc; omega)]; rfl
      · rw [if_neg (show ¬ nI (L % 2) = 0 from nI_nb (b := 0) c1 (by omega) (by omega))]; rfl
    · unfold f_X11_who
      rw [e1, q_bd, y_isIn, q_bd, z3, er]
      by_cases c1 : ¬ nI L < 2 ∧ nI L ≤ 16
      · rw [q_dt c1]
        have h1 : ¬ L < 2 := fun hc => c1.1 ((nI_ltI (b := 2) (by omega) (by omega)).mpr hc)
        have h2 : L ≤ 16 := (nI_leI (b := 16) (by omega) (by omega)).mp c1.2
        rw [if_pos (show nI (L % 2) = 1 from by rw [show L % 2 = 1 by omega]; rfl)]
      · rw [q_df c1]
end
