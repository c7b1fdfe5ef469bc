/-! PURE: the class's county and market as pictures of a state s, and their small methods -/
def CP (s : Nat → Int32) (iC : Nat → Int32) (sC : Nat → Nat → Int32) : Prop :=
  iC 0 = s 0 ∧ iC 1 = s 1 ∧ iC 9 = s 2 ∧ iC 10 = s 3 ∧ iC 11 = s 4 ∧ (∀ k, k < 7 → sC 3 k = s (5 + k) ∧ sC 4 k = s (117 + k) ∧ sC 5 k = s (124 + k)) ∧ (∀ k, k < 35 → sC 6 k = s (12 + k) ∧ sC 7 k = s (82 + k) ∧ sC 8 k = s (47 + k) - 1)
def MP (s : Nat → Int32) (iM : Nat → Int32) (sM : Nat → Nat → Int32) : Prop :=
  iM 1 = s 131 ∧ iM 2 = s 133 ∧ iM 3 = s 134 ∧ iM 4 = s 135 ∧ iM 5 = s 132 ∧ (∀ k, k < 7 → sM 6 k = s (136 + k) ∧ sM 7 k = s (213 + k) ∧ sM 8 k = s (220 + k)) ∧ (∀ k, k < 35 → sM 9 k = s (143 + k) ∧ sM 10 k = s (178 + k)) ∧ (∀ k, k < 49 → sM 11 k = s (227 + k))
section
variable {s : Nat → Int32} {iC : Nat → Int32} {sC : Nat → Nat → Int32} {iM : Nat → Int32} {sM : Nat → Nat → Int32}
theorem CP.pe (h : CP s iC sC) : iC 0 = s 0 := h.1
theorem CP.go (h : CP s iC sC) : iC 1 = s 1 := h.2.1
theorem CP.de (h : CP s iC sC) : iC 9 = s 2 := h.2.2.1
theorem CP.ve (h : CP s iC sC) : iC 10 = s 3 := h.2.2.2.1
theorem CP.be (h : CP s iC sC) : iC 11 = s 4 := h.2.2.2.2.1
theorem CP.co (h : CP s iC sC) {k : Nat} (hk : k < 7) : sC 3 k = s (5 + k) := (h.2.2.2.2.2.1 k hk).1
theorem CP.kn (h : CP s iC sC) {k : Nat} (hk : k < 7) : sC 4 k = s (117 + k) := (h.2.2.2.2.2.1 k hk).2.1
theorem CP.fo (h : CP s iC sC) {k : Nat} (hk : k < 7) : sC 5 k = s (124 + k) := (h.2.2.2.2.2.1 k hk).2.2
theorem CP.st (h : CP s iC sC) {k : Nat} (hk : k < 35) : sC 6 k = s (12 + k) := (h.2.2.2.2.2.2 k hk).1
theorem CP.wa (h : CP s iC sC) {k : Nat} (hk : k < 35) : sC 7 k = s (82 + k) := (h.2.2.2.2.2.2 k hk).2.1
theorem CP.pr (h : CP s iC sC) {k : Nat} (hk : k < 35) : sC 8 k = s (47 + k) - 1 := (h.2.2.2.2.2.2 k hk).2.2
theorem MP.da (h : MP s iM sM) : iM 1 = s 131 := h.1
theorem MP.ho (h : MP s iM sM) : iM 2 = s 133 := h.2.1
theorem MP.vd (h : MP s iM sM) : iM 3 = s 134 := h.2.2.1
theorem MP.vl (h : MP s iM sM) : iM 4 = s 135 := h.2.2.2.1
theorem MP.bo (h : MP s iM sM) : iM 5 = s 132 := h.2.2.2.2.1
theorem MP.co (h : MP s iM sM) {k : Nat} (hk : k < 7) : sM 6 k = s (136 + k) := (h.2.2.2.2.2.1 k hk).1
theorem MP.hu (h : MP s iM sM) {k : Nat} (hk : k < 7) : sM 7 k = s (213 + k) := (h.2.2.2.2.2.1 k hk).2.1
theorem MP.me (h : MP s iM sM) {k : Nat} (hk : k < 7) : sM 8 k = s (220 + k) := (h.2.2.2.2.2.1 k hk).2.2
theorem MP.st (h : MP s iM sM) {k : Nat} (hk : k < 35) : sM 9 k = s (143 + k) := (h.2.2.2.2.2.2.1 k hk).1
theorem MP.wa (h : MP s iM sM) {k : Nat} (hk : k < 35) : sM 10 k = s (178 + k) := (h.2.2.2.2.2.2.1 k hk).2
theorem MP.dl (h : MP s iM sM) {k : Nat} (hk : k < 49) : sM 11 k = s (227 + k) := h.2.2.2.2.2.2.2 k hk
/-- only what is kept for good counts for CP, only what changes for MP -/
theorem CP.to {s' : Nat → Int32} (h : CP s iC sC) (e : ∀ k, k < 131 → s' k = s k) : CP s' iC sC :=
  ⟨by rw [e 0 (by omega)]; exact h.pe, by rw [e 1 (by omega)]; exact h.go, by rw [e 2 (by omega)]; exact h.de, by rw [e 3 (by omega)]; exact h.ve, by rw [e 4 (by omega)]; exact h.be,
    fun k hk => by rw [e _ (by omega), e _ (by omega), e _ (by omega)]; exact h.2.2.2.2.2.1 k hk, fun k hk => by rw [e _ (by omega), e _ (by omega), e _ (by omega)]; exact h.2.2.2.2.2.2 k hk⟩
theorem MP.to {s' : Nat → Int32} (h : MP s iM sM) (e : ∀ k, 131 ≤ k → k < 276 → s' k = s k) : MP s' iM sM :=
  ⟨by rw [e 131 (by omega) (by omega)]; exact h.da, by rw [e 133 (by omega) (by omega)]; exact h.ho, by rw [e 134 (by omega) (by omega)]; exact h.vd, by rw [e 135 (by omega) (by omega)]; exact h.vl, by rw [e 132 (by omega) (by omega)]; exact h.bo,
    fun k hk => by rw [e _ (by omega) (by omega), e _ (by omega) (by omega), e _ (by omega) (by omega)]; exact h.2.2.2.2.2.1 k hk, fun k hk => by rw [e _ (by omega) (by omega), e _ (by omega) (by omega)]; exact h.2.2.2.2.2.2.1 k hk, fun k hk => by rw [e _ (by omega) (by omega)]; exact h.2.2.2.2.2.2.2 k hk⟩
end
/-! what holds of every state -/
def SY (s : Nat → Int32) (base P : Nat) : Prop := ∀ p q, p < 7 → tb (s (base + p)) q = true → p < P ∧ q < P ∧ p ≠ q ∧ tb (s (base + q)) p = true
def CE (s : Nat → Int32) (base P Q m : Nat) : Prop := ∀ p g, p < 7 → g < 5 → ∃ x, x ≤ m ∧ s (base + (5 * p + g)) = nI x ∧ (P ≤ p ∨ Q ≤ g → x = 0)
def DL (s : Nat → Int32) : Prop := ∀ p q, p < 7 → q < 7 → s (227 + (7 * p + q)) = s (227 + (7 * q + p)) ∧ (tb (s (124 + p)) q = true ∨ ∃ x d, d ≤ 9 ∧ s 2 = nI d ∧ s (227 + (7 * p + q)) = nI x ∧ (x < d ∨ (x = d ∧ tb (s (220 + p)) q = true)))
def IL (s : Nat → Int32) (P Q : Nat) : Prop :=
  P ≤ 7 ∧ Q ≤ 5 ∧ s 0 = nI P ∧ s 1 = nI Q ∧ (∃ d, 1 ≤ d ∧ d ≤ 9 ∧ s 2 = nI d) ∧ (∃ d, d ≤ 9 ∧ s 3 = nI d) ∧ (∃ d, d ≤ 30 ∧ s 4 = nI d) ∧ CE s 12 P Q 9 ∧ CE s 47 P Q 21 ∧ CE s 82 P Q 9 ∧ SY s 117 P ∧ SY s 124 P
def ID (s : Nat → Int32) (P Q : Nat) : Prop :=
  (∃ d, d ≤ 400 ∧ s 131 = nI d) ∧ (∃ d, d ≤ 9 ∧ s 135 = nI d) ∧ CE s 143 P Q 9 ∧ CE s 178 P Q 9 ∧ SY s 220 P ∧ (∀ p, p < 7 → P ≤ p → s (213 + p) = 0) ∧ DL s
section
variable {s : Nat → Int32} {P Q : Nat}
theorem IL.P7 (h : IL s P Q) : P ≤ 7 := h.1
theorem IL.Q5 (h : IL s P Q) : Q ≤ 5 := h.2.1
theorem IL.s0 (h : IL s P Q) : s 0 = nI P := h.2.2.1
theorem IL.s1 (h : IL s P Q) : s 1 = nI Q := h.2.2.2.1
theorem IL.de (h : IL s P Q) : ∃ d, 1 ≤ d ∧ d ≤ 9 ∧ s 2 = nI d := h.2.2.2.2.1
theorem IL.ve (h : IL s P Q) : ∃ d, d ≤ 9 ∧ s 3 = nI d := h.2.2.2.2.2.1
theorem IL.be (h : IL s P Q) : ∃ d, d ≤ 30 ∧ s 4 = nI d := h.2.2.2.2.2.2.1
theorem IL.st (h : IL s P Q) : CE s 12 P Q 9 := h.2.2.2.2.2.2.2.1
theorem IL.pr (h : IL s P Q) : CE s 47 P Q 21 := h.2.2.2.2.2.2.2.2.1
theorem IL.wa (h : IL s P Q) : CE s 82 P Q 9 := h.2.2.2.2.2.2.2.2.2.1
theorem IL.kn (h : IL s P Q) : SY s 117 P := h.2.2.2.2.2.2.2.2.2.2.1
theorem IL.fo (h : IL s P Q) : SY s 124 P := h.2.2.2.2.2.2.2.2.2.2.2
theorem ID.da (h : ID s P Q) : ∃ d, d ≤ 400 ∧ s 131 = nI d := h.1
theorem ID.vl (h : ID s P Q) : ∃ d, d ≤ 9 ∧ s 135 = nI d := h.2.1
theorem ID.st (h : ID s P Q) : CE s 143 P Q 9 := h.2.2.1
theorem ID.wa (h : ID s P Q) : CE s 178 P Q 9 := h.2.2.2.1
theorem ID.me (h : ID s P Q) : SY s 220 P := h.2.2.2.2.1
theorem ID.hu (h : ID s P Q) : ∀ p, p < 7 → P ≤ p → s (213 + p) = 0 := h.2.2.2.2.2.1
theorem ID.dl (h : ID s P Q) : DL s := h.2.2.2.2.2.2
theorem CE.to {s' : Nat → Int32} {base m : Nat} (h : CE s base P Q m) (e : ∀ k, k < 35 → s' (base + k) = s (base + k)) : CE s' base P Q m := by
  intro p g hp hg
  rw [e _ (by omega)]; exact h p g hp hg
theorem SY.to {s' : Nat → Int32} {base : Nat} (h : SY s base P) (hP : P ≤ 7) (e : ∀ k, k < 7 → s' (base + k) = s (base + k)) : SY s' base P := by
  intro p q hp hq
  rw [e p hp] at hq
  obtain ⟨h1, h2, h3, h4⟩ := h p q hp hq
  exact ⟨h1, h2, h3, by rw [e q (by omega)]; exact h4⟩
theorem IL.to {s' : Nat → Int32} (h : IL s P Q) (e : ∀ k, k < 131 → s' k = s k) : IL s' P Q :=
  ⟨h.P7, h.Q5, by rw [e 0 (by omega)]; exact h.s0, by rw [e 1 (by omega)]; exact h.s1, by rw [e 2 (by omega)]; exact h.de, by rw [e 3 (by omega)]; exact h.ve, by rw [e 4 (by omega)]; exact h.be,
    h.st.to (fun k hk => e _ (by omega)), h.pr.to (fun k hk => e _ (by omega)), h.wa.to (fun k hk => e _ (by omega)), h.kn.to h.P7 (fun k hk => e _ (by omega)), h.fo.to h.P7 (fun k hk => e _ (by omega))⟩
end
/-! the class's small methods -/
theorem x_cellOf (N a g : Nat) : f_X10_cellOf N (nI a) (nI g) = some (nI (5 * a + g)) := by
  unfold f_X10_cellOf
  simp only [L2, L3, L4, L5, L6, L7, L8, L9, L10, L11, L12, L13, L14, L15, L16, L17, L18, L19, L20, L21, L22, L23, L24, L30, L35, L40, L41, L47, L48, L56, L57, L59, L60, L61, L62, L80, L82, L96, L97, L117, L122, L124, L131, L136, L143, L145, L178, L200, L213, L220, L224, L227, L256, L277, L400, L457, L900, L920, L940, L999, L1015, L9999, L1000000, nI_add, pk_mul, nI_1, Nat.mul_comm]
theorem x_pairOf (N a b : Nat) : f_X10_pairOf N (nI a) (nI b) = some (nI (7 * a + b)) := by
  unfold f_X10_pairOf
  simp only [L2, L3, L4, L5, L6, L7, L8, L9, L10, L11, L12, L13, L14, L15, L16, L17, L18, L19, L20, L21, L22, L23, L24, L30, L35, L40, L41, L47, L48, L56, L57, L59, L60, L61, L62, L80, L82, L96, L97, L117, L122, L124, L131, L136, L143, L145, L178, L200, L213, L220, L224, L227, L256, L277, L400, L457, L900, L920, L940, L999, L1015, L9999, L1000000, nI_add, pk_mul, nI_1, Nat.mul_comm]
section
variable (N : Nat) {s : Nat → Int32} {iC : Nat → Int32} {tC : Nat → Nat → Int64} {sC : Nat → Nat → Int32} {iM : Nat → Int32} {sM : Nat → Nat → Int32} {P Q : Nat}
theorem x_isPerson (hC : CP s iC sC) (h0 : s 0 = nI P) (p : Int32) : f_X1_isPerson N iC tC sC p = some (bI (perB P p)) := by
  unfold f_X1_isPerson perB
  rw [hC.pe, h0]
  by_cases h1 : p < 0
  · rw [if_pos h1, decide_eq_false (fun h => h.1 h1)]; rfl
  · rw [if_neg h1]
    by_cases h2 : nI P ≤ p
    · rw [if_pos h2, decide_eq_false (fun h => Int32.not_lt.mpr h2 h.2)]; rfl
    · rw [if_neg h2, decide_eq_true ⟨h1, Int32.not_le.mp h2⟩]; rfl
theorem x_isGood (hC : CP s iC sC) (h0 : s 1 = nI P) (p : Int32) : f_X1_isGood N iC tC sC p = some (bI (perB P p)) := by
  unfold f_X1_isGood perB
  rw [hC.go, h0]
  by_cases h1 : p < 0
  · rw [if_pos h1, decide_eq_false (fun h => h.1 h1)]; rfl
  · rw [if_neg h1]
    by_cases h2 : nI P ≤ p
    · rw [if_pos h2, decide_eq_false (fun h => Int32.not_lt.mpr h2 h.2)]; rfl
    · rw [if_neg h2, decide_eq_true ⟨h1, Int32.not_le.mp h2⟩]; rfl
theorem x_everyone (hC : CP s iC sC) (h0 : s 0 = nI P) : f_X1_everyone N iC tC sC = some (ev P) := by
  unfold f_X1_everyone
  rw [hC.pe, h0]; rfl
theorem x_known (hC : CP s iC sC) (hM : MP s iM sM) {a : Nat} (ha : a < 7) : f_X4_known N iM sM iC tC sC (nI a) = some (kn s a) := by
  unfold f_X4_known
  simp (disch := omega) only [q_ck, q_ix]
  rw [hC.kn ha, hM.me ha]; rfl
theorem my_eq (s : Nat → Int32) (P a : Nat) : (((kn s a ^^^ (-1)) ||| s (124 + a)) &&& ev P) &&& (pb a ^^^ (-1)) = my s P a := by
  refine tb_ext (fun i hi => ?_)
  unfold my
  simp only [tb_and, tb_or]
  cases tb (kn s a ^^^ -1) i <;> cases tb (s (124 + a)) i <;> cases tb (ev P) i <;> cases tb (pb a ^^^ -1) i <;> rfl
theorem x_dealable (hC : CP s iC sC) (hM : MP s iM sM) (h0 : s 0 = nI P) {a : Nat} (ha : a < 7) : f_X4_dealable N iM sM iC tC sC (nI a) = some (my s P a) := by
  unfold f_X4_dealable
  rw [x_known N hC hM ha, q_bd, x_everyone N hC h0, q_ck ha (by omega), q_bd, show ix (nI a) = a from q_ix (by omega), hC.fo ha, ← my_eq]; rfl
theorem x_whyNotBuy (hC : CP s iC sC) (hM : MP s iM sM) (hI : ID s P Q) (h0 : s 0 = nI P) {a g b : Nat} (ha : a < 7) (hb : b < 7) (hg : g < 5) : f_X4_whyNotBuy N iM sM iC tC sC (nI a) (nI g) (nI b) = some (nI (whyB s P a g b)) := by
  unfold f_X4_whyNotBuy whyB
  by_cases hab : a = b
  · subst hab; rw [if_pos rfl, if_pos rfl]; rfl
  · rw [if_neg (nI_nb hab (by omega) (by omega)), if_neg hab, x_has N _ (show a < 31 by omega), q_bd, q_b0, x_has N _ (show b < 31 by omega), q_bd, q_b0, x_dealable N hC hM h0 ha, q_bd, x_has N _ (show b < 31 by omega), q_bd, q_jn, q_b0, x_has N _ (show a < 31 by omega), q_bd, q_b0, x_has N _ (show b < 31 by omega), q_bd, q_b0]
    simp (disch := omega) only [x_cellOf, q_bd, q_ck, q_ix, hM.st, hM.wa, hM.co, hC.pr, hM.ho, hM.vd]
    obtain ⟨x, hx, ex, -⟩ := hI.st b g hb hg
    obtain ⟨w, hw, ew, -⟩ := hI.wa a g ha hg
    have e1 : (1 ≤ s (143 + (5 * b + g))) ↔ ¬ s (143 + (5 * b + g)) = 0 := by
      rw [ex, show (1 : Int32) = nI 1 from rfl, nI_leI (by omega) (by omega), show (0 : Int32) = nI 0 from rfl, nI_eq (by omega) (by omega)]; omega
    have e2 : (1 ≤ s (178 + (5 * a + g))) ↔ ¬ s (178 + (5 * a + g)) = 0 := by
      rw [ew, show (1 : Int32) = nI 1 from rfl, nI_leI (by omega) (by omega), show (0 : Int32) = nI 0 from rfl, nI_eq (by omega) (by omega)]; omega
    simp only [e1, e2]
    cases tb (s 133) a <;> cases tb (s 133) b <;> cases tb (my s P a) b <;> cases tb (s 134) a <;> cases tb (s 134) b <;> simp only [if_true, if_false, Bool.false_eq_true, Bool.not_true, Bool.not_false, Bool.and_true, Bool.true_and, Bool.and_false, Bool.false_and, ite_not] <;> first | rfl | (repeat' split) <;> rfl
theorem x_whyNotNod (hC : CP s iC sC) (hM : MP s iM sM) {a b : Nat} (ha : a < 7) (hb : b < 7) : f_X4_whyNotNod N iM sM iC tC sC (nI a) (nI b) = some (nI (whyN s a b)) := by
  unfold f_X4_whyNotNod whyN
  by_cases hab : a = b
  · subst hab; rw [if_pos rfl, if_pos rfl]; rfl
  · rw [if_neg (nI_nb hab (by omega) (by omega)), if_neg hab, x_has N _ (show a < 31 by omega), q_bd, q_b0, x_has N _ (show b < 31 by omega), q_bd, q_b0, x_known N hC hM ha, q_bd, x_has N _ (show b < 31 by omega), q_bd, q_b0, hM.ho]
    repeat' split
    all_goals rfl
theorem x_whyNotVeil (hM : MP s iM sM) (hI : ID s P Q) {a : Nat} (ha : a < 7) : f_X4_whyNotVeil N iM sM iC tC sC (nI a) = some (nI (whyV s a)) := by
  unfold f_X4_whyNotVeil whyV
  obtain ⟨x, hx, ex⟩ := hI.vl
  have e1 : (1 ≤ s 135) ↔ ¬ s 135 = 0 := by
    rw [ex, show (1 : Int32) = nI 1 from rfl, nI_leI (by omega) (by omega), show (0 : Int32) = nI 0 from rfl, nI_eq (by omega) (by omega)]; omega
  rw [x_has N _ (show a < 31 by omega), q_bd, q_b0, hM.vd, hM.vl]
  simp only [e1, ite_not]
  repeat' split
  all_goals rfl
theorem x_whyNotTell (hC : CP s iC sC) (hM : MP s iM sM) {q a b : Nat} (hq : q < 7) (ha : a < 7) (hb : b < 7) : f_X4_whyNotTell N iM sM iC tC sC (nI q) (nI a) (nI b) = some (nI (whyT s q a b)) := by
  unfold f_X4_whyNotTell whyT
  simp (disch := omega) only [q_eq, x_known N hC hM hq, x_known N hC hM ha, q_bd, x_has N _ (show a < 31 by omega), x_has N _ (show b < 31 by omega), q_b0]
  cases tb (kn s q) a <;> cases tb (kn s q) b <;> cases tb (kn s a) b <;> simp only [if_true, if_false, Bool.false_eq_true, Bool.not_true, Bool.not_false] <;> (repeat' split) <;> rfl
theorem x_meet (hM : MP s iM sM) {a b : Nat} (ha : a < 7) (hb : b < 7) : ∃ sM', f_X4_meet N iM sM iC tC sC (nI a) (nI b) = some sM' ∧ MP (meetS s a b) iM sM' ∧ ∀ k, k ≠ 8 → sM' k = sM k := by
  unfold f_X4_meet
  simp (disch := omega) only [q_ck, q_ix, q_nv]
  refine ⟨_, rfl, ?_, fun k hk => q_vn _ _ hk⟩
  have hs : ∀ k, k < 220 ∨ 227 ≤ k → meetS s a b k = s k := by
    intro k hk; unfold meetS; rw [pk_un (by omega), pk_un (by omega)]
  refine ⟨by rw [hs _ (by omega)]; exact hM.da, by rw [hs _ (by omega)]; exact hM.ho, by rw [hs _ (by omega)]; exact hM.vd, by rw [hs _ (by omega)]; exact hM.vl, by rw [hs _ (by omega)]; exact hM.bo, fun k hk => ⟨?_, ?_, ?_⟩, fun k hk => ⟨?_, ?_⟩, fun k hk => ?_⟩
  · rw [q_vn _ _ (by omega), hs _ (by omega)]; exact hM.co hk
  · rw [q_vn _ _ (by omega), hs _ (by omega)]; exact hM.hu hk
  · rw [q_ve]
    unfold meetS
    simp only [q_us, hM.me ha, hM.me hb, hM.me hk, Nat.add_left_cancel_iff]
    rfl
  · rw [q_vn _ _ (by omega), hs _ (by omega)]; exact hM.st hk
  · rw [q_vn _ _ (by omega), hs _ (by omega)]; exact hM.wa hk
  · rw [q_vn _ _ (by omega), hs _ (by omega)]; exact hM.dl hk
end
