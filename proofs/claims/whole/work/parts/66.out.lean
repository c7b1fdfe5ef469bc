/-! PURE: out, apart -/
theorem q_run {β : Type} (L : Nat → Nat → Option β) (n : Nat) (h1 : ∀ k i, i < n → L (k + 1) i = L k (i + 1)) (N : Nat) (hN : n < N) : ∃ k, L N 0 = L (k + 1) n := by
  have key : ∀ j, j ≤ n → L N 0 = L (N - j) j := by
    intro j
    induction j with
    | zero => intro _; rfl
    | succ j ih =>
      intro hj
      rw [ih (by omega), show N - j = (N - (j + 1)) + 1 by omega, h1 _ _ (by omega)]
  have e : N - n = N - n - 1 + 1 := by omega
  exact ⟨N - n - 1, (key n (Nat.le_refl _)).trans (congrArg (fun z => L z n) e)⟩
theorem and_all (x : Int32) : x &&& (0 ^^^ (-1)) = x := by
  refine tb_ext (fun i hi => ?_)
  rw [tb_and, tb_not _ hi, tb_0]; simp
theorem bit_m {x : Int32} {P : Nat} (hP : P ≤ 7) (h : ∀ k, k < 32 → tb x k = true → k < P) : ∃ m, m < 2 ^ P ∧ x = nI m := by
  obtain ⟨m, hm, em⟩ : sm x := sm_of (fun k hk h2 => by have := h k hk h2; omega)
  refine ⟨m, Nat.lt_of_not_le (fun hc => ?_), em⟩
  obtain ⟨k, hk, hb⟩ := Nat.exists_ge_and_testBit_of_ge_two_pow hc
  have hk7 : k < 7 := by
    refine Nat.lt_of_not_le (fun h7 => ?_)
    have : m < 2 ^ k := Nat.lt_of_lt_of_le hm (show 2 ^ 7 ≤ 2 ^ k from Nat.pow_le_pow_right (by omega) h7)
    rw [Nat.testBit_lt_two_pow this] at hb
    cases hb
  have h2 : tb (nI m) k = true := by
    show (BitVec.ofNat 32 m).getLsbD k = true
    rw [BitVec.getLsbD_ofNat, hb, decide_eq_true (show k < 32 by omega)]; rfl
  rw [← em] at h2
  have := h k (by omega) h2
  omega
theorem tb_nI {m P k : Nat} (hm : m < 2 ^ P) (h : tb (nI m) k = true) : k < P := by
  refine Nat.lt_of_not_le (fun hc => ?_)
  have h2 : (BitVec.ofNat 32 m).getLsbD k = true := h
  rw [BitVec.getLsbD_ofNat, Bool.and_eq_true] at h2
  have : m < 2 ^ k := Nat.lt_of_lt_of_le hm (Nat.pow_le_pow_right (by omega) hc)
  rw [Nat.testBit_lt_two_pow this] at h2
  exact absurd h2.2 (by decide)
section
variable (N : Nat) {qX : Nat → Option Nat} {iX : Nat → Int32} {iC : Nat → Int32} {tC : Nat → Nat → Int64} {sC : Nat → Nat → Int32} {iM : Nat → Int32} {sM : Nat → Nat → Int32} {iE : Nat → Int32} {sE : Nat → Nat → Int32} {P Q : Nat}
variable (iY : Nat → Int32) (sY : Nat → Nat → Int32) (tY : Nat → Nat → Int64) (jY : Nat → Int64)
theorem x_withKnown (hN : 2000 ≤ N) (hC : CP (sY 6) iC sC) (hM : MP (sY 6) iM sM) (hL : IL (sY 6) P Q) (x : Int32) : f_X9_withKnown N iE sE iM sM iC tC sC x = some (tlS (sY 6) x P) := by
  have hP := hL.P7
  unfold f_X9_withKnown
  refine q_loopG (fun k i => f_X9_withKnown_4 N iE sE iM sM iC tC sC x k (tlS (sY 6) x i) (nI i)) _ P N (by omega) (fun k => ?_) (fun k i hi => ?_)
  · show f_X9_withKnown_4 N iE sE iM sM iC tC sC x (k + 1) _ _ = _
    rw [f_X9_withKnown_4, hC.pe, hL.s0, if_pos (nI_le (Nat.le_refl _) (by omega))]
  · show f_X9_withKnown_4 N iE sE iM sM iC tC sC x (k + 1) _ _ = f_X9_withKnown_4 N iE sE iM sM iC tC sC x k _ _
    rw [f_X9_withKnown_4, hC.pe, hL.s0, if_neg (nI_ge hi (by omega)), x_has N _ (by omega), q_bd, q_jn, q_b0, x_known N hC hM (by omega), q_bd, nI_1, tlS]
    split <;> rfl
theorem y_tolds (hN : 2000 ≤ N) (hL : IL (sY 6) P Q) (x w : Int32) : f_X11_tolds N iY sY tY jY x w = some (tlS (sY 6) x P &&& (w ^^^ (-1))) := by
  have hP := hL.P7
  unfold f_X11_tolds
  rw [q_jn]
  refine q_loopG (fun k i => f_X11_tolds_5 N iY sY tY jY x w _ k (tlS (sY 6) x i) (nI i)) _ P N (by omega) (fun k => ?_) (fun k i hi => ?_)
  · show f_X11_tolds_5 N iY sY tY jY x w _ (k + 1) _ _ = _
    rw [f_X11_tolds_5, hL.s0, if_pos (nI_le (Nat.le_refl _) (by omega))]
  · show f_X11_tolds_5 N iY sY tY jY x w _ (k + 1) _ _ = f_X11_tolds_5 N iY sY tY jY x w _ k _ _
    rw [f_X11_tolds_5, hL.s0, if_neg (nI_ge hi (by omega)), y_bitOf N _ (by omega), q_bd, q_jn, q_b0, y_knownBy N iY sY tY jY (by omega), q_bd, nI_1, tlS]
    split
    · rfl
    · dsimp only; rw [Int32.or_zero]
theorem b_out (hN : 2000 ≤ N) (hC : CP (sY 6) iC sC) (hM : MP (sY 6) iM sM) (hL : IL (sY 6) P Q) (hI : ID (sY 6) P Q) (p1 : Int32) :
    ∃ r, f_X10_out N qX iX iE sE iM sM iC tC sC p1 = some r ∧ f_X11_out N iY sY tY jY p1 = some (r, va_up iY 0 0) := by
  have hP := hL.P7
  unfold f_X10_out f_X11_out
  rw [x_isPerson N hC hL.s0, y_isPerson N _ sY tY jY hP hL.s0, q_bd, q_bd]
  cases h1 : perB P p1 with
  | false => exact ⟨-1, rfl, rfl⟩
  | true =>
  obtain ⟨a, ha, rfl⟩ := perB_t hP h1
  rw [bI_tt, bI_tt, q_nv, q_nv, hL.s0]
  unfold f_X9_daysTillOut
  rw [q_nv]
  have ek : ∀ i, tlS (sY 6) (itK (sY 6) P 0 a i) P = itK (sY 6) P 0 a (i + 1) := fun i => by rw [itK, and_all]
  have hw : tb 0 a = false := tb_0 a
  have sx : ∀ k i, i < 7 → ¬ itK (sY 6) P 0 a i = ev P → f_X9_daysTillOut_6 N iE sE iM sM iC tC sC (k + 1) (itK (sY 6) P 0 a i) (nI i) = f_X9_daysTillOut_6 N iE sE iM sM iC tC sC k (itK (sY 6) P 0 a (i + 1)) (nI (i + 1)) := by
    intro k i hi h
    rw [f_X9_daysTillOut_6, L7, if_neg (nI_ge hi (by omega)), x_everyone N hC hL.s0, q_bd, if_neg h, x_withKnown N sY hN hC hM hL, q_bd, ek, nI_1]
  have sy : ∀ k i, ¬ itK (sY 6) P 0 a i = ev P → ¬ itK (sY 6) P 0 a (i + 1) = itK (sY 6) P 0 a i → f_X11_out_33 N (va_up iY 0 0) sY tY jY (ev P) (k + 1) (itK (sY 6) P 0 a i) (nI i) = f_X11_out_33 N (va_up iY 0 0) sY tY jY (ev P) k (itK (sY 6) P 0 a (i + 1)) (nI (i + 1)) := by
    intro k i h h2
    rw [f_X11_out_33, if_neg h, y_tolds N _ sY tY jY hN hL, q_bd, and_all, ek, if_neg h2, nI_1]
  by_cases hA : ∃ i, i < 7 ∧ itK (sY 6) P 0 a i = ev P
  · obtain ⟨n, ⟨hn, e⟩, hlow⟩ := pk_least (fun i => i < 7 ∧ itK (sY 6) P 0 a i = ev P) hA
    obtain ⟨k1, e1⟩ := q_run (fun k i => f_X9_daysTillOut_6 N iE sE iM sM iC tC sC k (itK (sY 6) P 0 a i) (nI i)) n (fun k i hi => sx k i (by omega) (fun h => hlow i hi ⟨by omega, h⟩)) N (by omega)
    obtain ⟨k2, e2⟩ := q_run (fun k i => f_X11_out_33 N (va_up iY 0 0) sY tY jY (ev P) k (itK (sY 6) P 0 a i) (nI i)) n (fun k i hi => sy k i (fun h => hlow i hi ⟨by omega, h⟩) (fun h => by
      have := it_fix h (n - i)
      rw [show i + (n - i) = n by omega, e] at this
      exact hlow i hi ⟨by omega, this.symm⟩)) N (by omega)
    rw [show f_X9_daysTillOut_6 N iE sE iM sM iC tC sC N ((1 : Int32) <<< (nI a &&& 31)) 0 = _ from e1, show f_X11_out_33 N (va_up iY 0 0) sY tY jY (((1 : Int32) <<< (nI P &&& 31)) - 1) N ((1 : Int32) <<< (nI a &&& 31)) 0 = _ from e2]
    rw [f_X9_daysTillOut_6, L7, if_neg (nI_ge hn (by omega)), x_everyone N hC hL.s0, q_bd, if_pos e, q_bd, f_X11_out_33, if_pos e]
    exact ⟨_, rfl, rfl⟩
  · have hB : ∀ i, i < 7 → ¬ itK (sY 6) P 0 a i = ev P := fun i hi h => hA ⟨i, hi, h⟩
    obtain ⟨k1, e1⟩ := q_run (fun k i => f_X9_daysTillOut_6 N iE sE iM sM iC tC sC k (itK (sY 6) P 0 a i) (nI i)) 7 (fun k i hi => sx k i hi (hB i hi)) N (by omega)
    have hf : itK (sY 6) P 0 a (P - 1 + 1) = itK (sY 6) P 0 a (P - 1) := it_end hL hI ha hw 1
    obtain ⟨n, hn, hlow⟩ := pk_least (fun i => itK (sY 6) P 0 a (i + 1) = itK (sY 6) P 0 a i) ⟨P - 1, hf⟩
    have hn6 : n ≤ P - 1 := Nat.le_of_not_lt (fun h => hlow _ h hf)
    obtain ⟨k2, e2⟩ := q_run (fun k i => f_X11_out_33 N (va_up iY 0 0) sY tY jY (ev P) k (itK (sY 6) P 0 a i) (nI i)) n (fun k i hi => sy k i (hB i (by omega)) (hlow i hi)) N (by omega)
    rw [show f_X9_daysTillOut_6 N iE sE iM sM iC tC sC N ((1 : Int32) <<< (nI a &&& 31)) 0 = _ from e1, show f_X11_out_33 N (va_up iY 0 0) sY tY jY (((1 : Int32) <<< (nI P &&& 31)) - 1) N ((1 : Int32) <<< (nI a &&& 31)) 0 = _ from e2]
    rw [f_X9_daysTillOut_6, L7, if_pos (nI_le (Nat.le_refl _) (by omega)), q_bd, f_X11_out_33, if_neg (hB n (by omega)), y_tolds N _ sY tY jY hN hL, q_bd, and_all, ek, if_pos hn]
    exact ⟨_, rfl, rfl⟩
theorem x_isLinked (hN : 2000 ≤ N) (hC : CP (sY 6) iC sC) (hM : MP (sY 6) iM sM) (hL : IL (sY 6) P Q) {a b : Nat} (ha : a < P) (hb : b < P) (w : Int32) : f_X9_isLinked N iE sE iM sM iC tC sC (nI a) (nI b) w = some (bI (tb (itK (sY 6) P w a (P - 1)) b)) := by
  have hP := hL.P7
  unfold f_X9_isLinked
  rw [q_nv, q_jn]
  refine q_loopG (fun k i => f_X9_isLinked_8 N iE sE iM sM iC tC sC (nI b) w _ k (itK (sY 6) P w a i) (nI (1 + i))) _ (P - 1) N (by omega) (fun k => ?_) (fun k i hi => ?_)
  · show f_X9_isLinked_8 N iE sE iM sM iC tC sC (nI b) w _ (k + 1) _ _ = _
    rw [f_X9_isLinked_8, hC.pe, hL.s0, if_pos (nI_le (by omega) (by omega))]
    dsimp only
    rw [x_has N _ (by omega), q_bd, q_zb]
  · show f_X9_isLinked_8 N iE sE iM sM iC tC sC (nI b) w _ (k + 1) _ _ = f_X9_isLinked_8 N iE sE iM sM iC tC sC (nI b) w _ k _ _
    rw [f_X9_isLinked_8, hC.pe, hL.s0, if_neg (nI_ge (by omega) (by omega)), x_withKnown N sY hN hC hM hL, q_bd, q_nv, nI_1]
    rfl
theorem y_areApart (hN : 2000 ≤ N) (hL : IL (sY 6) P Q) (hI : ID (sY 6) P Q) {a b : Nat} (ha : a < P) (hb : b < P) (w : Int32) (hw : tb w a = false) : f_X11_areApart N iY sY tY jY (nI a) (nI b) w = some (bI (!tb (itK (sY 6) P w a (P - 1)) b)) := by
  have hP := hL.P7
  have e7 := it_end hL hI ha hw (8 - P)
  rw [show P - 1 + (8 - P) = 7 by omega] at e7
  rw [← e7]
  unfold f_X11_areApart
  rw [q_nv, q_jn]
  refine q_loopG (fun k i => f_X11_areApart_8 N iY sY tY jY (nI b) w _ k (itK (sY 6) P w a i) (nI i)) _ 7 N (by omega) (fun k => ?_) (fun k i hi => ?_)
  · show f_X11_areApart_8 N iY sY tY jY (nI b) w _ (k + 1) _ _ = _
    rw [f_X11_areApart_8, L7, if_pos (nI_le (Nat.le_refl _) (by omega))]
    dsimp only
    rw [y_bitOf N _ (by omega), q_bd, q_b0]
    cases tb (itK (sY 6) P w a 7) b <;> rfl
  · show f_X11_areApart_8 N iY sY tY jY (nI b) w _ (k + 1) _ _ = f_X11_areApart_8 N iY sY tY jY (nI b) w _ k _ _
    rw [f_X11_areApart_8, L7, if_neg (nI_ge hi (by omega)), y_tolds N _ sY tY jY hN hL, q_bd, nI_1]
    rfl
def othS (P a b : Nat) : Int32 := (ev P &&& (pb a ^^^ (-1))) &&& (pb b ^^^ (-1))
theorem oth_tb {P a b k : Nat} (hP : P ≤ 7) (ha : a < P) (hb : b < P) (hk : k < 32) : tb (othS P a b) k = (decide (k < P) && (!decide (k = a) && !decide (k = b))) := by
  unfold othS
  rw [tb_and, tb_and, tb_not _ hk, tb_not _ hk, tb_pb a (by omega) k hk, tb_pb b (by omega) k hk, tb_ev P (by omega) k hk, Bool.and_assoc]
theorem oth_sub {P a b i : Nat} (hP : P ≤ 7) (ha : a < P) (hb : b < P) (hi : i < 2 ^ P) : nI i &&& (othS P a b ^^^ (-1)) = 0 ↔ (tb (nI i) a = false ∧ tb (nI i) b = false) := by
  constructor
  · intro h
    constructor
    · cases c : tb (nI i) a with
      | false => rfl
      | true =>
        have := sub_tb h (k := a) (by omega) c
        rw [oth_tb hP ha hb (by omega)] at this; simp at this
    · cases c : tb (nI i) b with
      | false => rfl
      | true =>
        have := sub_tb h (k := b) (by omega) c
        rw [oth_tb hP ha hb (by omega)] at this; simp at this
  · rintro ⟨h1, h2⟩
    refine tb_ext (fun k hk => ?_)
    rw [tb_and, tb_not _ hk, tb_0, oth_tb hP ha hb hk]
    cases c : tb (nI i) k with
    | false => rfl
    | true =>
      have h3 := tb_nI hi c
      have h4 : ¬ k = a := fun h => by rw [h, h1] at c; cases c
      have h5 : ¬ k = b := fun h => by rw [h, h2] at c; cases c
      rw [decide_eq_true h3, decide_eq_false h4, decide_eq_false h5]; rfl
theorem pc_sub {i o : Nat} (hi : i < o) (ho : o < 128) (h : nI i &&& (nI o ^^^ (-1)) = 0) : pcN i < pcN o := by
  rw [← pcN_eq, ← pcN_eq]
  refine pc_lt (sm_n (by omega)) (sm_n ho) (fun k hk h2 => sub_tb h (by omega) h2) (fun e => ?_)
  have := (nI_eq (by omega) (by omega)).mp e
  omega
noncomputable def bst (o : Nat) (ap : Nat → Bool) (i : Nat) : Nat := match srv (nI o) ap i with
  | none => o
  | some b => b
theorem bst_n {o : Nat} {ap : Nat → Bool} {i : Nat} (h : srv (nI o) ap i = none) : bst o ap i = o := by unfold bst; rw [h]
theorem bst_s {o : Nat} {ap : Nat → Bool} {i b : Nat} (h : srv (nI o) ap i = some b) : bst o ap i = b := by unfold bst; rw [h]
theorem x_forg26 (hN : 2000 ≤ N) {a b o : Nat} (ho : o < 128) (ap : Nat → Bool) (hap : ∀ i, f_X9_isLinked N iE sE iM sM iC tC sC (nI a) (nI b) (nI i) = some (bI (!ap i))) (K : Int32 → Option (Int32 × (Nat → Int32))) : f_X9_fewestForgotten_26 N iE sE iM sM iC tC sC (nI a) (nI b) (nI o) K N (nI o) 0 = K (nI (bst o ap o)) := by
  refine q_loopG (fun k i => f_X9_fewestForgotten_26 N iE sE iM sM iC tC sC (nI a) (nI b) (nI o) K k (nI (bst o ap i)) (nI i)) _ o N (by omega) (fun k => ?_) (fun k i hi => ?_)
  · show f_X9_fewestForgotten_26 N iE sE iM sM iC tC sC (nI a) (nI b) (nI o) K (k + 1) _ _ = _
    rw [f_X9_fewestForgotten_26, if_pos (nI_le (Nat.le_refl _) (by omega))]
  · show f_X9_fewestForgotten_26 N iE sE iM sM iC tC sC (nI a) (nI b) (nI o) K (k + 1) _ _ = f_X9_fewestForgotten_26 N iE sE iM sM iC tC sC (nI a) (nI b) (nI o) K k _ _
    have hbl : bst o ap i < 128 := by
      unfold bst
      cases h2 : srv (nI o) ap i with
      | none => exact ho
      | some b => have := (srv_lt _ _ _ _ h2).1; dsimp only; omega
    have hpi := pcN_le i
    have hpb := pcN_le (bst o ap i)
    rw [f_X9_fewestForgotten_26, if_neg (nI_ge hi (by omega)), x_bcN N (by omega), q_bd, x_bcN N hbl, q_bd, q_jn, i_le (by omega) (by omega)]
    simp only [q_jn, hap, q_bd, q_b0, nI_1]
    by_cases c : nI i &&& (nI o ^^^ (-1)) = 0
    · by_cases c2 : pcN (bst o ap i) ≤ pcN i
      · rw [if_pos c2, if_pos c, if_pos trivial]
        have : bst o ap (i + 1) = bst o ap i := by
          cases h2 : srv (nI o) ap i with
          | none => rw [bst_n h2] at c2; have := pc_sub hi ho c; omega
          | some d =>
            rw [bst_s h2] at c2 ⊢
            refine bst_s ?_
            rw [srv, h2, srvC_ge (by omega)]; rfl
        rw [this]
      · rw [if_neg c2, if_pos c, if_neg (show ¬ (1 : Int32) = 0 by decide)]
        have : bst o ap (i + 1) = if ap i then i else bst o ap i := by
          cases h2 : srv (nI o) ap i with
          | none =>
            rw [bst_n h2]
            have e : srv (nI o) ap (i + 1) = if ap i then some i else none := by rw [srv, h2, srvC_n c]
            cases h3 : ap i with
            | true => rw [h3] at e; exact bst_s e
            | false => rw [h3] at e; exact bst_n e
          | some d =>
            rw [bst_s h2] at c2 ⊢
            have e : srv (nI o) ap (i + 1) = if ap i then some i else some d := by rw [srv, h2, srvC_lt c (by omega)]
            cases h3 : ap i with
            | true => rw [h3] at e; exact bst_s e
            | false => rw [h3] at e; exact bst_s e
        rw [this]
        cases ap i <;> rfl
    · have : bst o ap (i + 1) = bst o ap i := by unfold bst; rw [srv, srvC_f c]; rfl
      rw [this]
      by_cases c2 : pcN (bst o ap i) ≤ pcN i
      · rw [if_pos c2, if_neg c]
      · rw [if_neg c2, if_neg c]
theorem y_apart45 (hN : 2000 ≤ N) {a b : Nat} (hP : P ≤ 7) (h0 : sY 6 0 = nI P) (ha : a < P) (hb : b < P) (ap : Nat → Bool) (hap : ∀ i, nI i &&& (othS P a b ^^^ (-1)) = 0 → f_X11_areApart N iY sY tY jY (nI a) (nI b) (nI i) = some (bI (ap i))) (K : Int32 → Option (Int32 × (Nat → Int32))) : f_X11_apart_45 N iY sY tY jY (nI a) (nI b) K N (-1) 0 = K (oI (srv (othS P a b) ap (2 ^ P))) := by
  have hp2 := pw_le hP
  refine q_loopG (fun k i => f_X11_apart_45 N iY sY tY jY (nI a) (nI b) K k (oI (srv (othS P a b) ap i)) (nI i)) _ (2 ^ P) N (by omega) (fun k => ?_) (fun k i hi => ?_)
  · show f_X11_apart_45 N iY sY tY jY (nI a) (nI b) K (k + 1) _ _ = _
    rw [f_X11_apart_45, h0, show ((1 : Int32) <<< (nI P &&& 31)) = nI (2 ^ P) from pb_n P (by omega), if_pos (nI_le (Nat.le_refl _) (by omega))]
  · show f_X11_apart_45 N iY sY tY jY (nI a) (nI b) K (k + 1) _ _ = f_X11_apart_45 N iY sY tY jY (nI a) (nI b) K k _ _
    rw [f_X11_apart_45, h0, show ((1 : Int32) <<< (nI P &&& 31)) = nI (2 ^ P) from pb_n P (by omega), if_neg (nI_ge hi (by omega)), y_bitOf N _ (by omega), q_bd, q_jn, q_b0, y_bitOf N _ (by omega), q_bd, q_b0, q_jn, nI_1]
    have hs := oth_sub hP ha hb hi
    by_cases c : nI i &&& (othS P a b ^^^ (-1)) = 0
    · obtain ⟨c1, c2⟩ := hs.mp c
      rw [c1, c2, hap i c]
      simp only [q_bd, q_b0, Bool.false_eq_true, if_false]
      rw [srv]
      cases h2 : srv (othS P a b) ap i with
      | none =>
        rw [oI_n, if_pos (show (-1 : Int32) < 0 by decide), srvC_n c]
        cases ap i <;> rfl
      | some d =>
        have hd := (srv_lt _ _ _ _ h2).1
        have hpi := pcN_le i
        have hpd := pcN_le d
        rw [oI_s, if_neg (nI_n0 (by omega)), y_bitsN (by omega) (by omega), q_bd, y_bitsN (by omega) (by omega), q_bd, i_le (by omega) (by omega)]
        by_cases c3 : pcN d ≤ pcN i
        · rw [if_pos c3, srvC_ge (by omega)]; rfl
        · rw [if_neg c3, srvC_lt c (by omega)]
          cases ap i <;> rfl
    · rw [srv, srvC_f c]
      cases c1 : tb (nI i) a with
      | true => rfl
      | false =>
        cases c2 : tb (nI i) b with
        | true => rfl
        | false => exact absurd (hs.mpr ⟨c1, c2⟩) c
theorem srv_top {o : Nat} (ho : o < 128) {ap : Nat → Bool} (h : ap o = true) {n : Nat} (hn : o < n) (hn2 : n ≤ 128) : srv (nI o) ap n = some (bst o ap o) := by
  have e := srv_end ho ap (n - (o + 1)) (by omega)
  rw [show o + 1 + (n - (o + 1)) = n by omega] at e
  rw [e, srv]
  have c : nI o &&& (nI o ^^^ (-1)) = 0 := by
    refine tb_ext (fun k hk => ?_)
    rw [tb_and, tb_not _ hk, tb_0]; cases tb (nI o) k <;> rfl
  cases h2 : srv (nI o) ap o with
  | none => rw [srvC_n c, h, bst_n h2]; rfl
  | some d =>
    obtain ⟨h3, h4⟩ := srv_lt _ _ _ _ h2
    have := pc_sub h3 ho h4
    rw [srvC_ge (by omega), bst_s h2]; rfl
theorem b_apart (hN : 2000 ≤ N) (hC : CP (sY 6) iC sC) (hM : MP (sY 6) iM sM) (hL : IL (sY 6) P Q) (hI : ID (sY 6) P Q) (hS : PK iE iY) (p1 p2 : Int32) :
    ∃ r iE' iY', f_X10_apart N qX iX iE sE iM sM iC tC sC p1 p2 = some (r, iE') ∧ f_X11_apart N iY sY tY jY p1 p2 = some (r, iY') ∧ (∀ k, k ≠ 0 → k ≠ 34 → k ≠ 35 → iY' k = iY k) ∧ PK iE' iY' ∧ (∀ k, k ≠ 6 → iE' k = iE k) := by
  have hP := hL.P7
  have r0 : ∀ k, k ≠ 0 → k ≠ 34 → k ≠ 35 → va_up iY 0 0 k = iY k := fun k h _ _ => q_vn _ _ h
  have hS0 : PK iE (va_up iY 0 0) := hS
  unfold f_X10_apart f_X11_apart f_X10_areTwo
  rw [x_isPerson N hC hL.s0, y_isPerson N _ sY tY jY hP hL.s0, x_isPerson N hC hL.s0, y_isPerson N _ sY tY jY hP hL.s0]
  simp only [q_bd, q_b0]
  cases h1 : perB P p1 with
  | false => exact ⟨-1, iE, va_up iY 0 0, rfl, rfl, r0, hS0, fun _ _ => rfl⟩
  | true =>
  cases h2 : perB P p2 with
  | false => exact ⟨-1, iE, va_up iY 0 0, rfl, rfl, r0, hS0, fun _ _ => rfl⟩
  | true =>
  obtain ⟨a, ha, rfl⟩ := perB_t hP h1
  obtain ⟨b, hb, rfl⟩ := perB_t hP h2
  by_cases e : nI a = nI b
  · simp only [if_true, if_pos e]; exact ⟨-1, iE, va_up iY 0 0, rfl, rfl, r0, hS0, fun _ _ => rfl⟩
  have hab : a ≠ b := fun h => e (by rw [h])
  simp only [if_true, if_neg e, q_bd]
  rw [if_neg (show ¬ (1 : Int32) = 0 by decide), x_known N hC hM (by omega), q_bd, x_has N _ (by omega), q_bd, q_b0, y_knownBy N _ sY tY jY (by omega), q_bd, y_bitOf N _ (by omega), q_bd, q_b0]
  cases hk : tb (kn (sY 6) a) b with
  | true => exact ⟨-1, iE, va_up iY 0 0, rfl, rfl, r0, hS0, fun _ _ => rfl⟩
  | false =>
  obtain ⟨o, ho, eo⟩ := bit_m (x := othS P a b) hP (fun k hk h => by
    rw [oth_tb hP ha hb hk, Bool.and_eq_true, decide_eq_true_eq] at h
    exact h.1)
  have hp2 := pw_le hP
  rw [if_neg (by decide), if_neg (by decide), q_jn]
  unfold f_X9_fewestForgotten
  rw [x_everyone N hC hL.s0, q_bd, q_nv, show (ev P &&& (((1 : Int32) <<< (nI a &&& 31)) ^^^ (-1))) &&& (((1 : Int32) <<< (nI b &&& 31)) ^^^ (-1)) = nI o from eo, q_jn]
  have hapx : ∀ i, f_X9_isLinked N iE sE iM sM iC tC sC (nI a) (nI b) (nI i) = some (bI (!(!tb (itK (sY 6) P (nI i) a (P - 1)) b))) := fun i => by rw [Bool.not_not]; exact x_isLinked N sY hN hC hM hL ha hb (nI i)
  have hapy : ∀ i, nI i &&& (othS P a b ^^^ (-1)) = 0 → f_X11_areApart N (va_up iY 0 0) sY tY jY (nI a) (nI b) (nI i) = some (bI (!tb (itK (sY 6) P (nI i) a (P - 1)) b)) := fun i hi => y_areApart N (va_up iY 0 0) sY tY jY hN hL hI ha hb (nI i) (by
    cases c : tb (nI i) a with
    | false => rfl
    | true =>
      have := sub_tb hi (k := a) (by omega) c
      rw [oth_tb hP ha hb (by omega)] at this; simp at this)
  have hoo : (fun i => !tb (itK (sY 6) P (nI i) a (P - 1)) b) o = true := by
    have ho2 : ∀ k, k < 32 → tb (nI o) k = (decide (k < P) && (!decide (k = a) && !decide (k = b))) := fun k hk => by rw [← eo]; exact oth_tb hP ha hb hk
    have hf : itK (sY 6) P (nI o) a (0 + 1) = itK (sY 6) P (nI o) a 0 := by
      refine tb_ext (fun k hk2 => ?_)
      refine Bool.eq_iff_iff.mpr ?_
      show tb (tlS (sY 6) (pb a) P &&& (nI o ^^^ (-1))) k = true ↔ tb (pb a) k = true
      rw [tb_and, tb_not _ hk2, Bool.and_eq_true, tl_tb, tb_pb a (by omega) k hk2, decide_eq_true_eq, ho2 k hk2]
      constructor
      · rintro ⟨h1 | ⟨j, hj, h3, h4⟩, h5⟩
        · exact h1
        · rw [tb_pb a (by omega) j (by omega), decide_eq_true_eq] at h3
          subst h3
          obtain ⟨-, h6, h7, -⟩ := kn_tb hL hI (by omega) h4
          have h8 : ¬ k = b := fun h => by rw [h, hk] at h4; cases h4
          rw [decide_eq_true h6, decide_eq_false (fun h => h7 h.symm), decide_eq_false h8] at h5
          exact absurd h5 (by decide)
      · intro h
        exact ⟨Or.inl h, by rw [decide_eq_true h]; simp⟩
    have := it_fix hf (P - 1)
    rw [Nat.zero_add] at this
    show (!tb (itK (sY 6) P (nI o) a (P - 1)) b) = true
    rw [this, itK, tb_pb a (by omega) b (by omega), decide_eq_false (fun h => hab h.symm)]; rfl
  rw [x_forg26 N hN (by omega) _ hapx, y_apart45 N (va_up iY 0 0) sY tY jY hN hP hL.s0 ha hb _ hapy, eo, srv_top (by omega) hoo (n := 2 ^ P) ho (by omega)]
  generalize (fun i => !tb (itK (sY 6) P (nI i) a (P - 1)) b) = ap
  have hbl : bst o ap o < 128 := by
    unfold bst
    cases h2 : srv (nI o) ap o with
    | none => show o < 128; omega
    | some b => have := (srv_lt _ _ _ _ h2).1; dsimp only; omega
  generalize bst o ap o = z at hbl
  rw [oI_s]
  dsimp only
  rw [x_bcN N hbl, q_bd, q_bd, y_bitsN (by omega) hbl, q_bd]
  exact ⟨_, va_up iE 6 (nI z), va_up (va_up (va_up iY 0 0) 35 1) 34 (nI z), rfl, rfl, fun k h0 h34 h35 => by rw [q_vn _ _ h34, q_vn _ _ h35, q_vn _ _ h0], Or.inr ⟨rfl, rfl⟩, fun k hk => q_vn _ _ hk⟩
end
