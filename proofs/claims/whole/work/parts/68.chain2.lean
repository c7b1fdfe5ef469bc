/-! PURE: chain, both sides -/
def CK (iE : Nat → Int32) (sE : Nat → Nat → Int32) (iY : Nat → Int32) (sY : Nat → Nat → Int32) : Prop :=
  ∃ m, m ≤ 7 ∧ iE 4 = nI m ∧ (iY 33 = nI m ∨ (m = 0 ∧ iY 33 = -1)) ∧ ∀ k, k < m → sE 5 k = sY 32 k
def gw (s : Nat → Int32) (P b : Nat) (g : Nat → Int32) : Nat → Nat → Int32
  | 0 => upd g 0 (pb b)
  | i + 1 => upd (gw s P b g i) (i + 1) (DS s P b (i + 1))
theorem gw_at (s : Nat → Int32) (P b : Nat) (g : Nat → Int32) : ∀ i k, k ≤ i → gw s P b g i k = DS s P b k := by
  intro i
  induction i with
  | zero => intro k hk; rw [show k = 0 by omega, gw, pk_us]; rfl
  | succ i ih =>
    intro k hk
    rw [gw]
    by_cases h : k = i + 1
    · rw [h, pk_us]
    · rw [pk_un h]; exact ih k (by omega)
def lkS (s : Nat → Int32) (P b S a : Nat) (g : Nat → Int32) : Nat → Nat → Int32
  | 0 => g
  | i + 1 => upd (lkS s P b S a g i) i (nI (lst s P b S a (i + 1)))
theorem lk_at (s : Nat → Int32) (P b S a : Nat) (g : Nat → Int32) : ∀ i k, k < i → lkS s P b S a g i k = nI (lst s P b S a (k + 1)) := by
  intro i
  induction i with
  | zero => intro k hk; omega
  | succ i ih =>
    intro k hk
    rw [lkS]
    by_cases h : k = i
    · rw [h, pk_us]
    · rw [pk_un h]; exact ih k (by omega)
def stA (g : Nat → Int32) (d : Nat → Nat) : Nat → Int32 := fun k => if k < 7 then nI (d k) else g k
theorem stA_at (g : Nat → Int32) (d : Nat → Nat) {k : Nat} (h : k < 7) : stA g d k = nI (d k) := by unfold stA; rw [if_pos h]
theorem stA_up (g : Nat → Int32) (d : Nat → Nat) {q : Nat} (hq : q < 7) (v : Nat) : upd (stA g d) q (nI v) = stA g (fun k => if k = q then v else d k) := by
  funext k
  by_cases h : k = q
  · subst h; rw [pk_us]; unfold stA; rw [if_pos hq]; dsimp only; rw [if_pos rfl]
  · rw [pk_un h]; unfold stA; dsimp only; rw [if_neg h]
def stI (g : Nat → Int32) (b i : Nat) : Nat → Int32 := fun k => if k < i then nI (d0 b k) else g k
section
variable (N : Nat) {qX : Nat → Option Nat} {iX : Nat → Int32} {iC : Nat → Int32} {tC : Nat → Nat → Int64} {sC : Nat → Nat → Int32} {iM : Nat → Int32} {sM : Nat → Nat → Int32} {iE : Nat → Int32} {sE : Nat → Nat → Int32} {P Q : Nat}
variable (iY : Nat → Int32) (sY : Nat → Nat → Int32) (tY : Nat → Nat → Int64) (jY : Nat → Int64)
theorem x_bitAt (hN : 2000 ≤ N) {x : Int32} {b : Nat} (hb : b < 7) (h : tb x b = true) (hl : ∀ c, c < b → tb x c = false) : f_X10_bitAt N x 0 = some (nI b) := by
  unfold f_X10_bitAt
  obtain ⟨k, e⟩ := q_run (fun k i => f_X10_bitAt_4 N x 0 k 0 (nI i)) b (fun k i hi => by
    show f_X10_bitAt_4 N x 0 (k + 1) _ _ = f_X10_bitAt_4 N x 0 k _ _
    rw [f_X10_bitAt_4, L7, if_neg (nI_ge (show i < 7 by omega) (by omega)), x_has N _ (by omega), q_bd, q_jn, q_b0, hl i hi, nI_1]
    rfl) N (by omega)
  refine Eq.trans e ?_
  show f_X10_bitAt_4 N x 0 (k + 1) _ _ = _
  rw [f_X10_bitAt_4, L7, if_neg (nI_ge hb (by omega)), x_has N _ (by omega), q_bd, q_jn, q_b0, h]
  rfl
theorem x_withDealers (hN : 2000 ≤ N) (hC : CP (sY 6) iC sC) (hM : MP (sY 6) iM sM) (hL : IL (sY 6) P Q) (x : Int32) : f_X9_withDealers N iE sE iM sM iC tC sC x = some (wdS (sY 6) P x P) := by
  have hP := hL.P7
  unfold f_X9_withDealers
  refine q_loopG (fun k i => f_X9_withDealers_4 N iE sE iM sM iC tC sC x k (wdS (sY 6) P x i) (nI i)) _ P N (by omega) (fun k => ?_) (fun k i hi => ?_)
  · show f_X9_withDealers_4 N iE sE iM sM iC tC sC x (k + 1) _ _ = _
    rw [f_X9_withDealers_4, hC.pe, hL.s0, if_pos (nI_le (Nat.le_refl _) (by omega))]
  · show f_X9_withDealers_4 N iE sE iM sM iC tC sC x (k + 1) _ _ = f_X9_withDealers_4 N iE sE iM sM iC tC sC x k _ _
    rw [f_X9_withDealers_4, hC.pe, hL.s0, if_neg (nI_ge hi (by omega)), x_has N _ (by omega), q_bd, q_jn, q_b0, x_dealable N hC hM hL.s0 (by omega), q_bd, nI_1, wdS]
    split <;> rfl
theorem x_go11 (hN : 2000 ≤ N) (hC : CP (sY 6) iC sC) (hM : MP (sY 6) iM sM) (hL : IL (sY 6) P Q) {a b n : Nat} (ha : a < P) (hn : n ≤ 7) (hlow : ∀ j, j < n → tb (DS (sY 6) P b j) a = false) (hend : n = 7 ∨ tb (DS (sY 6) P b n) a = true) (K : Int32 × (Nat → Nat → Int32) → Option (Int32 × (Nat → Int32) × (Nat → Nat → Int32))) :
    f_X9_goBetweens_11 N iE iM sM iC tC sC (nI a) K N (va_up sE 7 (upd (sE 7) 0 (pb b))) 0 = K (nI n, va_up sE 7 (gw (sY 6) P b (sE 7) n)) := by
  have hP := hL.P7
  obtain ⟨k, e⟩ := q_run (fun k i => f_X9_goBetweens_11 N iE iM sM iC tC sC (nI a) K k (va_up sE 7 (gw (sY 6) P b (sE 7) i)) (nI i)) n (fun k i hi => by
    show f_X9_goBetweens_11 N iE iM sM iC tC sC (nI a) K (k + 1) _ _ = f_X9_goBetweens_11 N iE iM sM iC tC sC (nI a) K k _ _
    rw [f_X9_goBetweens_11, L7, if_neg (nI_ge (show i < 7 by omega) (by omega)), q_ck (show i < 8 by omega) (by omega), q_ve, show ix (nI i) = i from q_ix (by omega), gw_at _ _ _ _ i i (Nat.le_refl _), x_has N _ (by omega), q_bd, hlow i hi, bI_ff, q_ck (show i < 8 by omega) (by omega), x_withDealers N sY hN hC hM hL, q_bd, nI_1, q_ck (show i + 1 < 8 by omega) (by omega), q_nv, show ix (nI (i + 1)) = i + 1 from q_ix (by omega), q_vv]
    rfl) N (by omega)
  refine Eq.trans e ?_
  show f_X9_goBetweens_11 N iE iM sM iC tC sC (nI a) K (k + 1) _ _ = _
  rw [f_X9_goBetweens_11]
  by_cases h7 : n = 7
  · subst h7
    rw [L7, if_pos (nI_le (Nat.le_refl _) (by omega))]
  · rcases hend with h | h
    · exact absurd h h7
    · rw [L7, if_neg (nI_ge (show n < 7 by omega) (by omega)), q_ck (show n < 8 by omega) (by omega), q_ve, show ix (nI n) = n from q_ix (by omega), gw_at _ _ _ _ n n (Nat.le_refl _), x_has N _ (by omega), q_bd, h, bI_tt]
theorem x_go82 (hN : 2000 ≤ N) (hC : CP (sY 6) iC sC) (hM : MP (sY 6) iM sM) (hL : IL (sY 6) P Q) (hI : ID (sY 6) P Q) {a b S : Nat} (ha : a < P) (h1S : 1 ≤ S) (hS7 : S ≤ 7) (hS : tb (DS (sY 6) P b S) a = true) (hlow : ∀ j, j < S → tb (DS (sY 6) P b j) a = false) {zE : Nat → Int32} {wE : Nat → Nat → Int32} (h4 : zE 4 = nI (S - 1)) (h7 : ∀ k, k ≤ S → wE 7 k = DS (sY 6) P b k) :
    f_X9_goBetweens_82 N zE iM sM iC tC sC (nI S) N wE (nI a) 0 = some (nI (S - 1), zE, va_up wE 5 (lkS (sY 6) P b S a (wE 5) (S - 1))) := by
  have hP := hL.P7
  have e0 : wE = va_up wE 5 (wE 5) := (q_vid _ _).symm
  have key := q_loopG (fun k i => f_X9_goBetweens_82 N zE iM sM iC tC sC (nI S) k (va_up wE 5 (lkS (sY 6) P b S a (wE 5) i)) (nI (lst (sY 6) P b S a i)) (nI i)) (some (nI (S - 1), zE, va_up wE 5 (lkS (sY 6) P b S a (wE 5) (S - 1)))) (S - 1) N (by omega) (fun k => by
    show f_X9_goBetweens_82 N zE iM sM iC tC sC (nI S) (k + 1) _ _ _ = _
    rw [f_X9_goBetweens_82, h4, if_pos (nI_le (Nat.le_refl _) (by omega))]) (fun k i hi => by
    show f_X9_goBetweens_82 N zE iM sM iC tC sC (nI S) (k + 1) _ _ _ = f_X9_goBetweens_82 N zE iM sM iC tC sC (nI S) k _ _ _
    obtain ⟨g1, g2, g3, g4⟩ := lst_ok hL hI ha hS hlow i (by omega)
    obtain ⟨y, hy, g5⟩ := g4 (by omega)
    obtain ⟨g6, g7, g8⟩ := lowb_ok hy g5
    rw [f_X9_goBetweens_82, h4, if_neg (nI_ge hi (by omega)), L7, if_neg (nI_ge (show i < 7 by omega) (by omega)), show nI S - 1 - nI i = nI (S - 1 - i) from by rw [show (1 : Int32) = nI 1 from rfl, pk_sub h1S, pk_sub (by omega)], q_ck (show S - 1 - i < 8 by omega) (by omega), show ix (nI (S - 1 - i)) = S - 1 - i from q_ix (by omega), q_vn _ _ (show 7 ≠ 5 by omega), h7 _ (by omega), f_X9_leastDealer, x_dealable N hC hM hL.s0 (by omega), q_bd, x_bitAt N hN g6 g7 g8, q_bd, if_neg (nI_m1 (show lowb _ < 1000 from Nat.lt_of_lt_of_le g6 (by omega))), q_bd, q_ck (show i < 7 by omega) (by omega), q_nv, show ix (nI i) = i from q_ix (by omega), q_ve, q_vv, nI_1]
    rfl)
  refine Eq.trans ?_ key
  show _ = f_X9_goBetweens_82 N zE iM sM iC tC sC (nI S) N (va_up wE 5 (wE 5)) (nI a) 0
  rw [q_vid]
theorem y_lays2 (hN : 2000 ≤ N) {b : Nat} (hb : b < 7) (K : (Nat → Nat → Int32) → Option (Nat → Nat → Int32)) : f_X11_laysSteps_2 N iY tY jY (nI b) K N sY 0 = K (va_up sY 31 (stA (sY 31) (d0 b))) := by
  have e7 : stI (sY 31) b 7 = stA (sY 31) (d0 b) := rfl
  rw [← e7]
  have key := q_loopG (fun k i => f_X11_laysSteps_2 N iY tY jY (nI b) K k (va_up sY 31 (stI (sY 31) b i)) (nI i)) (K (va_up sY 31 (stI (sY 31) b 7))) 7 N (by omega) (fun k => by
    show f_X11_laysSteps_2 N iY tY jY (nI b) K (k + 1) _ _ = _
    rw [f_X11_laysSteps_2, L7, if_pos (nI_le (Nat.le_refl _) (by omega))]) (fun k i hi => by
    show f_X11_laysSteps_2 N iY tY jY (nI b) K (k + 1) _ _ = f_X11_laysSteps_2 N iY tY jY (nI b) K k _ _
    have e : upd (stI (sY 31) b i) i (nI (d0 b i)) = stI (sY 31) b (i + 1) := by
      funext k
      by_cases h : k = i
      · subst h; rw [pk_us]; unfold stI; rw [if_pos (by omega)]
      · rw [pk_un h]; unfold stI
        by_cases h2 : k < i
        · rw [if_pos h2, if_pos (by omega)]
        · rw [if_neg h2, if_neg (by omega)]
    rw [f_X11_laysSteps_2, L7, if_neg (nI_ge hi (by omega)), q_jn, i_eq (by omega) (by omega), nI_1, ← e]
    by_cases h : i = b
    · rw [if_pos h]
      dsimp only
      rw [q_ck hi (by omega), q_nv, show ix (nI i) = i from q_ix (by omega), q_ve, q_vv, d0, if_pos h]; rfl
    · rw [if_neg h]
      dsimp only
      rw [q_ck hi (by omega), q_nv, show ix (nI i) = i from q_ix (by omega), q_ve, q_vv, d0, if_neg h]; rfl)
  refine Eq.trans ?_ key
  have e0 : stI (sY 31) b 0 = sY 31 := by funext k; unfold stI; rw [if_neg (by omega)]
  show _ = f_X11_laysSteps_2 N iY tY jY (nI b) K N (va_up sY 31 (stI (sY 31) b 0)) 0
  rw [e0, q_vid]
theorem y_lays62 (hN : 2000 ≤ N) (hP : P ≤ 7) {g : Nat → Int32} {d : Nat → Nat} {q : Nat} (hq : q < P) (h0 : sY 6 0 = nI P) (hd : ∀ r, r ≤ P → ∀ x, x < 7 → rx1 (sY 6) P d q r x ≤ 1000000) (v2 : Int32) (K K9 : (Nat → Nat → Int32) → Option (Nat → Nat → Int32)) :
    f_X11_laysSteps_62 N iY tY jY v2 (nI q) (my (sY 6) P q) K K9 N (va_up sY 31 (stA g d)) 0 = K (va_up sY 31 (stA g (rx1 (sY 6) P d q P))) := by
  refine q_loopG (fun k i => f_X11_laysSteps_62 N iY tY jY v2 (nI q) (my (sY 6) P q) K K9 k (va_up sY 31 (stA g (rx1 (sY 6) P d q i))) (nI i)) _ P N (by omega) (fun k => ?_) (fun k i hi => ?_)
  · show f_X11_laysSteps_62 N iY tY jY v2 (nI q) (my (sY 6) P q) K K9 (k + 1) _ _ = _
    rw [f_X11_laysSteps_62, q_vn _ _ (show 6 ≠ 31 by omega), h0, if_pos (nI_le (Nat.le_refl _) (by omega))]
  · show f_X11_laysSteps_62 N iY tY jY v2 (nI q) (my (sY 6) P q) K K9 (k + 1) _ _ = f_X11_laysSteps_62 N iY tY jY v2 (nI q) (my (sY 6) P q) K K9 k _ _
    have h1 := hd i (by omega) i (by omega)
    have h2 := hd i (by omega) q (by omega)
    rw [f_X11_laysSteps_62, q_vn _ _ (show 6 ≠ 31 by omega), h0, if_neg (nI_ge hi (by omega)), y_bitOf N _ (by omega), q_bd, q_jn, q_b0, q_ck (show i < 7 by omega) (by omega), q_ck (show q < 7 by omega) (by omega), q_ve, show ix (nI i) = i from q_ix (by omega), show ix (nI q) = q from q_ix (by omega), stA_at _ _ (by omega), stA_at _ _ (by omega), nI_1, nI_1, i_le (by omega) (by omega), q_ck (show i < 7 by omega) (by omega), q_ck (show q < 7 by omega) (by omega), q_nv, q_vv, stA_up _ _ (by omega), rx1]
    cases tb (my (sY 6) P q) i with
    | false => rfl
    | true =>
      rw [if_pos rfl]
      by_cases c : rx1 (sY 6) P d q i q ≤ rx1 (sY 6) P d q i i + 1
      · rw [if_pos c, decide_eq_false (by omega)]; rfl
      · rw [if_neg c, decide_eq_true (by omega)]; rfl
theorem y_lays42 (hN : 2000 ≤ N) (hP : P ≤ 7) {g : Nat → Int32} {d : Nat → Nat} (h0 : sY 6 0 = nI P) (hd : ∀ x, x < 7 → d x ≤ 1000000) (v2 : Int32) (K : (Nat → Nat → Int32) → Option (Nat → Nat → Int32)) :
    f_X11_laysSteps_42 N iY tY jY v2 K N (va_up sY 31 (stA g d)) 0 = K (va_up sY 31 (stA g (rx2 (sY 6) P d P))) := by
  refine q_loopG (fun k i => f_X11_laysSteps_42 N iY tY jY v2 K k (va_up sY 31 (stA g (rx2 (sY 6) P d i))) (nI i)) _ P N (by omega) (fun k => ?_) (fun k i hi => ?_)
  · show f_X11_laysSteps_42 N iY tY jY v2 K (k + 1) _ _ = _
    rw [f_X11_laysSteps_42, q_vn _ _ (show 6 ≠ 31 by omega), h0, if_pos (nI_le (Nat.le_refl _) (by omega))]
  · show f_X11_laysSteps_42 N iY tY jY v2 K (k + 1) _ _ = f_X11_laysSteps_42 N iY tY jY v2 K k _ _
    have e6 : va_up sY 31 (stA g (rx2 (sY 6) P d i)) 6 = sY 6 := q_vn _ _ (show 6 ≠ 31 by omega)
    rw [f_X11_laysSteps_42, e6, h0, if_neg (nI_ge hi (by omega)), y_mayBy N iY _ tY jY (P := P) (by omega) (by rw [e6]; exact h0), q_bd, q_jn, e6, y_lays62 N iY sY tY jY hN hP hi h0 (fun r hr x hx => Nat.le_trans (rx1_le _ _ _ _) (Nat.le_trans (rx2_le _ _ _) (hd x hx))), nI_1]
    rfl
theorem y_lays (hN : 2000 ≤ N) (hP : P ≤ 7) {b : Nat} (hb : b < 7) (h0 : sY 6 0 = nI P) : f_X11_laysSteps N iY sY tY jY (nI b) = some (va_up sY 31 (stA (sY 31) (rx3 (sY 6) P (d0 b) 7))) := by
  unfold f_X11_laysSteps
  rw [q_jn, y_lays2 N iY sY tY jY hN hb]
  have hd : ∀ i x, x < 7 → rx3 (sY 6) P (d0 b) i x ≤ 1000000 := by
    intro i x _
    have := rx3_mono (s := sY 6) (P := P) (d0 b) x 0 i
    rw [Nat.zero_add] at this
    refine Nat.le_trans this ?_
    show d0 b x ≤ 1000000
    unfold d0; split <;> omega
  refine q_loopG (fun k i => f_X11_laysSteps_34 N iY tY jY k (va_up sY 31 (stA (sY 31) (rx3 (sY 6) P (d0 b) i))) (nI i)) _ 7 N (by omega) (fun k => ?_) (fun k i hi => ?_)
  · show f_X11_laysSteps_34 N iY tY jY (k + 1) _ _ = _
    rw [f_X11_laysSteps_34, L7, if_pos (nI_le (Nat.le_refl _) (by omega))]
  · show f_X11_laysSteps_34 N iY tY jY (k + 1) _ _ = f_X11_laysSteps_34 N iY tY jY k _ _
    rw [f_X11_laysSteps_34, L7, if_neg (nI_ge hi (by omega)), q_jn, y_lays42 N iY sY tY jY hN hP h0 (hd i), nI_1]
    rfl
theorem y_ch76 (hN : 2000 ≤ N) {zY : Nat → Int32} {wY : Nat → Nat → Int32} {c t i : Nat} {u m : Nat} (hP : P ≤ 7) (h0 : wY 6 0 = nI P) (ht : t < 7) (hi : i ≤ m) (hm : m ≤ 7) (h33 : zY 33 = nI m) (hd : ∀ k, k < 7 → ∃ e, e ≤ 1000000 ∧ wY 31 k = nI e) (hc : c < 7) (h1 : tb (my (wY 6) P t) c = true) (h2 : wY 31 c = nI (m - i)) (hl : ∀ k, k < c → tb (my (wY 6) P t) k = true → ¬ wY 31 k = nI (m - i)) (K : Int32 → Option (Int32 × (Nat → Int32) × (Nat → Nat → Int32))) :
    f_X11_chain_76 N zY wY tY jY (nI t) (nI i) K N 0 = K (nI c) := by
  have es : nI m - nI i = nI (m - i) := pk_sub hi
  obtain ⟨k, e⟩ := q_run (fun k j => f_X11_chain_76 N zY wY tY jY (nI t) (nI i) K k (nI j)) c (fun k j hj => by
    show f_X11_chain_76 N zY wY tY jY (nI t) (nI i) K (k + 1) _ = f_X11_chain_76 N zY wY tY jY (nI t) (nI i) K k _
    rw [f_X11_chain_76, y_mayBy N zY wY tY jY (P := P) ht h0, q_bd, y_bitOf N _ (by omega), q_bd, q_jn, q_b0, q_ck (show j < 7 by omega) (by omega), show ix (nI j) = j from q_ix (by omega), h33, es, nI_1]
    cases h3 : tb (my (wY 6) P t) j with
    | false => rfl
    | true => rw [if_pos rfl, if_neg (hl j hj h3)]) N (by omega)
  refine Eq.trans e ?_
  show f_X11_chain_76 N zY wY tY jY (nI t) (nI i) K (k + 1) _ = _
  rw [f_X11_chain_76, y_mayBy N zY wY tY jY (P := P) ht h0, q_bd, y_bitOf N _ (by omega), q_bd, q_jn, q_b0, q_ck hc (by omega), show ix (nI c) = c from q_ix (by omega), h33, es, h1, if_pos rfl, if_pos h2]
theorem y_ch64 (hN : 2000 ≤ N) (hL : IL (sY 6) P Q) (hI : ID (sY 6) P Q) {a b S : Nat} (ha : a < P) (hb : b < P) (h1S : 1 ≤ S) (hS7 : S ≤ 7) (hS : tb (DS (sY 6) P b S) a = true) (hlow : ∀ j, j < S → tb (DS (sY 6) P b j) a = false) {zY : Nat → Int32} {wY : Nat → Nat → Int32} (h33 : zY 33 = nI (S - 1)) (h6 : wY 6 = sY 6) (h31 : ∀ k, k < 7 → wY 31 k = nI (rx3 (sY 6) P (d0 b) 7 k)) :
    f_X11_chain_64 N zY tY jY N wY (nI a) 0 = some (nI (S - 1), zY, va_up wY 32 (lkS (sY 6) P b S a (wY 32) (S - 1))) := by
  have hP := hL.P7
  have key := q_loopG (fun k i => f_X11_chain_64 N zY tY jY k (va_up wY 32 (lkS (sY 6) P b S a (wY 32) i)) (nI (lst (sY 6) P b S a i)) (nI i)) (some (nI (S - 1), zY, va_up wY 32 (lkS (sY 6) P b S a (wY 32) (S - 1)))) (S - 1) N (by omega) (fun k => by
    show f_X11_chain_64 N zY tY jY (k + 1) _ _ _ = _
    rw [f_X11_chain_64, h33, if_pos (nI_le (Nat.le_refl _) (by omega))]) (fun k i hi => by
    show f_X11_chain_64 N zY tY jY (k + 1) _ _ _ = f_X11_chain_64 N zY tY jY k _ _ _
    obtain ⟨g1, g2, g3, g4⟩ := lst_ok hL hI ha hS hlow i (by omega)
    obtain ⟨y, hy, g5⟩ := g4 (by omega)
    obtain ⟨g6, g7, g8⟩ := lowb_ok hy g5
    have el : lst (sY 6) P b S a (i + 1) = lowb (my (sY 6) P (lst (sY 6) P b S a i) &&& DS (sY 6) P b (S - 1 - i)) := rfl
    rw [← el] at g6 g7 g8
    have e6 : va_up wY 32 (lkS (sY 6) P b S a (wY 32) i) 6 = sY 6 := (q_vn _ _ (show 6 ≠ 32 by omega)).trans h6
    have e31 : ∀ k, k < 7 → va_up wY 32 (lkS (sY 6) P b S a (wY 32) i) 31 k = nI (rx3 (sY 6) P (d0 b) 7 k) := fun k hk => by rw [q_vn _ _ (show 31 ≠ 32 by omega)]; exact h31 k hk
    have hle : ∀ k, k < 7 → rx3 (sY 6) P (d0 b) 7 k ≤ 1000000 := fun k hk => by rcases (rx_d hL hI hb hk).2 with h | h <;> omega
    have same : ∀ c, c < 7 → tb (my (sY 6) P (lst (sY 6) P b S a i)) c = true → (rx3 (sY 6) P (d0 b) 7 c = S - 1 - i ↔ tb (DS (sY 6) P b (S - 1 - i)) c = true) := by
      intro c hc h1
      obtain ⟨r1, r2⟩ := rx_d hL hI hb hc
      constructor
      · intro h
        rcases r2 with h2 | ⟨h2, h3⟩
        · omega
        · rw [h] at h3; exact h3
      · intro h
        have h2 := r1 _ (by omega) h
        rcases r2 with h3 | ⟨h3, h4⟩
        · omega
        · refine Nat.le_antisymm h2 (Nat.le_of_not_lt (fun h5 => ?_))
          have hcP := my_in hP (by omega) h1
          have h9 : tb (DS (sY 6) P b (rx3 (sY 6) P (d0 b) 7 c + 1)) (lst (sY 6) P b S a i) = true := by
            rw [DS, wd_tb]; exact Or.inr ⟨c, hcP, h4, by rw [my_sym hL hI hcP g1]; exact h1⟩
          rw [g3 _ (by omega)] at h9; cases h9
    rw [tb_and, Bool.and_eq_true] at g7
    rw [f_X11_chain_64, h33, if_neg (nI_ge hi (by omega)), q_jn, y_ch76 N tY jY (P := P) (c := lst (sY 6) P b S a (i + 1)) (u := 0) (m := S - 1) hN hP (by rw [e6]; exact hL.s0) (by omega) (by omega) (by omega) h33 (fun k hk => ⟨_, hle k hk, e31 k hk⟩) g6 (by rw [e6]; exact g7.1) (by rw [e31 _ g6, (same _ g6 g7.1).mpr g7.2]) (fun k hk h1 => by
      rw [e6] at h1
      rw [e31 k (by omega), nI_eq (by have := hle k (by omega); omega) (by omega)]
      intro h2
      have h3 := (same k (by omega) h1).mp h2
      have h4 := g8 k hk
      rw [tb_and, h1, h3] at h4
      cases h4)]
    dsimp only
    rw [q_ck (show i < 7 by omega) (by omega), q_nv, show ix (nI i) = i from q_ix (by omega), q_ve, q_vv, nI_1]
    rfl)
  refine Eq.trans ?_ key
  show _ = f_X11_chain_64 N zY tY jY N (va_up wY 32 (wY 32)) (nI a) 0
  rw [q_vid]
theorem b_chain (hN : 2000 ≤ N) (hC : CP (sY 6) iC sC) (hM : MP (sY 6) iM sM) (hL : IL (sY 6) P Q) (hI : ID (sY 6) P Q) (hS : CK iE sE iY sY) (p1 p2 : Int32) :
    ∃ r iE' sE' iY' sY', f_X10_chain N qX iX iE sE iM sM iC tC sC p1 p2 = some (r, iE', sE') ∧ f_X11_chain N iY sY tY jY p1 p2 = some (r, iY', sY') ∧ (∀ k, k ≠ 0 → k ≠ 33 → iY' k = iY k) ∧ (∀ k, k ≠ 31 → k ≠ 32 → sY' k = sY k) ∧ CK iE' sE' iY' sY' ∧ (∀ k, k ≠ 4 → iE' k = iE k) ∧ (∀ k, k ≠ 5 → k ≠ 7 → sE' k = sE k) := by
  have hP := hL.P7
  have r0 : ∀ k, k ≠ 0 → k ≠ 33 → va_up iY 0 0 k = iY k := fun k h _ => q_vn _ _ h
  have hS0 : CK iE sE (va_up iY 0 0) sY := hS
  unfold f_X10_chain f_X11_chain f_X10_areTwo
  rw [x_isPerson N hC hL.s0, y_isPerson N _ sY tY jY hP hL.s0, x_isPerson N hC hL.s0, y_isPerson N _ sY tY jY hP hL.s0]
  simp only [q_bd, q_b0]
  cases h1 : perB P p1 with
  | false => exact ⟨-1, iE, sE, va_up iY 0 0, sY, rfl, rfl, r0, fun _ _ _ => rfl, hS0, fun _ _ => rfl, fun _ _ _ => rfl⟩
  | true =>
  cases h2 : perB P p2 with
  | false => exact ⟨-1, iE, sE, va_up iY 0 0, sY, rfl, rfl, r0, fun _ _ _ => rfl, hS0, fun _ _ => rfl, fun _ _ _ => rfl⟩
  | true =>
  obtain ⟨a, ha, rfl⟩ := perB_t hP h1
  obtain ⟨b, hb, rfl⟩ := perB_t hP h2
  by_cases e : nI a = nI b
  · simp only [if_true, if_pos e]; exact ⟨-1, iE, sE, va_up iY 0 0, sY, rfl, rfl, r0, fun _ _ _ => rfl, hS0, fun _ _ => rfl, fun _ _ _ => rfl⟩
  have hab : a ≠ b := fun h => e (by rw [h])
  simp only [if_true, if_neg e, q_bd]
  rw [if_neg (show ¬ (1 : Int32) = 0 by decide), y_lays N (va_up iY 0 0) sY tY jY hN hP (by omega) hL.s0, q_bd, q_ve, q_ck (show a < 7 by omega) (by omega), q_ck (show a < 7 by omega) (by omega), show ix (nI a) = a from q_ix (by omega), stA_at _ _ (show a < 7 by omega), q_nv]
  unfold f_X9_goBetweens
  rw [q_nv, q_jn]
  obtain ⟨d1, d2⟩ := rx_d hL hI hb (show a < 7 by omega)
  by_cases hA : ∃ i, tb (DS (sY 6) P b i) a = true
  · obtain ⟨S, hS1, hlow'⟩ := pk_least (fun i => tb (DS (sY 6) P b i) a = true) hA
    have hlow : ∀ j, j < S → tb (DS (sY 6) P b j) a = false := fun j hj => by
      cases h : tb (DS (sY 6) P b j) a with
      | false => rfl
      | true => exact absurd h (hlow' j hj)
    have hS7 : S ≤ 7 := Nat.le_of_not_lt (fun h => hlow' 7 h (DS_7 hP hb hS1))
    have h1S : 1 ≤ S := by
      refine Nat.pos_of_ne_zero (fun h => ?_)
      rw [h, DS, tb_pb b (by omega) a (by omega), decide_eq_true_eq] at hS1
      exact hab hS1
    have hd : rx3 (sY 6) P (d0 b) 7 a = S := by
      refine Nat.le_antisymm (d1 S hS7 hS1) ?_
      rcases d2 with h | ⟨h3, h4⟩
      · omega
      · exact Nat.le_of_not_lt (fun h => hlow' _ h h4)
    rw [show ((1 : Int32) <<< (nI b &&& 31)) = pb b from rfl, x_go11 N sY hN hC hM hL ha hS7 hlow (Or.inr hS1)]
    dsimp only
    rw [q_ck (show S < 8 by omega) (by omega), q_ve, show ix (nI S) = S from q_ix (by omega), gw_at _ _ _ _ S S (Nat.le_refl _), x_has N _ (by omega), q_bd, hS1, bI_tt, show nI S - 1 = nI (S - 1) from by rw [show (1 : Int32) = nI 1 from rfl, pk_sub h1S], x_go82 N sY hN hC hM hL hI ha h1S hS7 hS1 hlow (zE := va_up iE 4 (nI (S - 1))) (wE := va_up sE 7 (gw (sY 6) P b (sE 7) S)) rfl (fun k hk => by rw [q_ve]; exact gw_at _ _ _ _ S k hk), q_bd, hd, if_pos (show nI S < 1000000 from (nI_ltI (b := 1000000) (by omega) (by omega)).mpr (by omega)), show nI S - 1 = nI (S - 1) from by rw [show (1 : Int32) = nI 1 from rfl, pk_sub h1S], y_ch64 N sY tY jY hN hL hI ha hb h1S hS7 hS1 hlow (zY := va_up (va_up iY 0 0) 33 (nI (S - 1))) (wY := va_up sY 31 (stA (sY 31) (rx3 (sY 6) P (d0 b) 7))) rfl (q_vn _ _ (by omega)) (fun k hk => by rw [q_ve]; exact stA_at _ _ hk)]
    refine ⟨_, _, _, _, _, rfl, rfl, fun k h0 h33 => by rw [q_vn _ _ h33, q_vn _ _ h0], fun k h31 h32 => by rw [q_vn _ _ h32, q_vn _ _ h31], ⟨S - 1, by omega, rfl, Or.inl rfl, fun k hk => ?_⟩, fun k hk => q_vn _ _ hk, fun k h5 h7 => by dsimp only; rw [q_vn _ _ h5, q_vn _ _ h7]⟩
    dsimp only
    rw [q_ve, q_ve, lk_at _ _ _ _ _ _ _ _ hk, lk_at _ _ _ _ _ _ _ _ hk]
  · have hlow : ∀ j, tb (DS (sY 6) P b j) a = false := fun j => by
      cases h : tb (DS (sY 6) P b j) a with
      | false => rfl
      | true => exact absurd ⟨j, h⟩ hA
    have hd : rx3 (sY 6) P (d0 b) 7 a = 1000000 := by
      rcases d2 with h | ⟨h3, h4⟩
      · exact h
      · rw [hlow] at h4; cases h4
    rw [show ((1 : Int32) <<< (nI b &&& 31)) = pb b from rfl, x_go11 N sY hN hC hM hL ha (Nat.le_refl 7) (fun j _ => hlow j) (Or.inl rfl)]
    dsimp only
    rw [q_ck (show 7 < 8 by omega) (by omega), q_ve, show ix (nI 7) = 7 from q_ix (by omega), gw_at _ _ _ _ 7 7 (Nat.le_refl _), x_has N _ (by omega), q_bd, hlow, bI_ff, q_bd, hd, if_neg (show ¬ nI 1000000 < 1000000 by decide)]
    obtain ⟨m, m1, m2, m3, m4⟩ := hS
    exact ⟨_, _, _, _, _, rfl, rfl, r0, fun k h31 h32 => q_vn _ _ h31, ⟨m, m1, m2, m3, fun k hk => by dsimp only; rw [q_vn _ _ (show 5 ≠ 7 by omega), q_vn _ _ (show 32 ≠ 31 by omega)]; exact m4 k hk⟩, fun _ _ => rfl, fun k h5 h7 => q_vn _ _ h7⟩
end
