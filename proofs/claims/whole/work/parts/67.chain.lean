/-! PURE: chain -/
theorem up_idG {α : Type} {f : Nat → α} {k : Nat} {v : α} (h : v = f k) : va_up f k v = f := by rw [h, q_vid]
theorem gr_end {K : Nat → Int32} {T : Int32 → Int32} {P : Nat} (hP : P ≤ 7) (hP0 : 0 < P) (hK : ∀ i, K (i + 1) = T (K i)) (hin : ∀ i q, q < 32 → tb (K i) q = true → q < P) (hup : ∀ i q, q < 32 → tb (K i) q = true → tb (K (i + 1)) q = true) (h1 : 1 ≤ pc (K 0)) : ∀ j, K (P - 1 + j) = K (P - 1) := by
  have hsm : ∀ i, sm (K i) := fun i => sm_of (fun q hq h => by have := hin i q hq h; omega)
  have fix : ∀ i, K (i + 1) = K i → ∀ j, K (i + j) = K i := by
    intro i h j
    induction j with
    | zero => rfl
    | succ j ih => rw [show i + (j + 1) = (i + j) + 1 by omega, hK, ih, ← hK]; exact h
  have st : ∀ i, K (i + 1) = K i ∨ pc (K i) < pc (K (i + 1)) := by
    intro i
    by_cases h : K (i + 1) = K i
    · exact Or.inl h
    · exact Or.inr (pc_lt (hsm i) (hsm (i + 1)) (fun k hk h2 => hup i k (by omega) h2) (fun e => h e.symm))
  have grow : ∀ i, K (i + 1) = K i ∨ i + 2 ≤ pc (K (i + 1)) := by
    intro i
    induction i with
    | zero =>
      rcases st 0 with h | h
      · exact Or.inl h
      · exact Or.inr (by omega)
    | succ i ih =>
      rcases ih with h | h
      · exact Or.inl ((fix i h 2).trans (fix i h 1).symm)
      · rcases st (i + 1) with h2 | h2
        · exact Or.inl h2
        · exact Or.inr (by omega)
  refine fix (P - 1) ?_
  rcases grow (P - 1) with h | h
  · exact h
  · have := (pc_mono (x := K (P - 1 + 1)) (y := ev P) (fun k hk h => by rw [tb_ev P (by omega) k (by omega)]; exact decide_eq_true (hin _ k (by omega) h))).1
    rw [pc_ev P (by omega)] at this
    omega
def wdS (s : Nat → Int32) (P : Nat) (x : Int32) : Nat → Int32
  | 0 => x
  | i + 1 => if tb x i then wdS s P x i ||| my s P i else wdS s P x i
theorem wd_tb (s : Nat → Int32) (P : Nat) (x : Int32) (q : Nat) : ∀ i, tb (wdS s P x i) q = true ↔ (tb x q = true ∨ ∃ j, j < i ∧ tb x j = true ∧ tb (my s P j) q = true) := by
  intro i
  induction i with
  | zero => rw [wdS]; exact ⟨fun h => Or.inl h, fun h => h.elim id (fun ⟨j, hj, _⟩ => absurd hj (Nat.not_lt_zero _))⟩
  | succ i ih =>
    rw [wdS]
    by_cases h1 : tb x i = true
    · rw [if_pos h1, tb_or, Bool.or_eq_true, ih]
      constructor
      · rintro ((h | ⟨j, hj, h⟩) | h)
        · exact Or.inl h
        · exact Or.inr ⟨j, by omega, h⟩
        · exact Or.inr ⟨i, by omega, h1, h⟩
      · rintro (h | ⟨j, hj, h2, h3⟩)
        · exact Or.inl (Or.inl h)
        · rcases Nat.lt_or_ge j i with h4 | h4
          · exact Or.inl (Or.inr ⟨j, h4, h2, h3⟩)
          · have : j = i := by omega
            subst this; exact Or.inr h3
    · rw [if_neg h1, ih]
      constructor
      · rintro (h | ⟨j, hj, h⟩)
        · exact Or.inl h
        · exact Or.inr ⟨j, by omega, h⟩
      · rintro (h | ⟨j, hj, h2, h3⟩)
        · exact Or.inl h
        · rcases Nat.lt_or_ge j i with h4 | h4
          · exact Or.inr ⟨j, h4, h2, h3⟩
          · have : j = i := by omega
            subst this; exact absurd h2 h1
def DS (s : Nat → Int32) (P b : Nat) : Nat → Int32
  | 0 => pb b
  | i + 1 => wdS s P (DS s P b i) P
def rx1 (s : Nat → Int32) (P : Nat) (d : Nat → Nat) (q : Nat) : Nat → Nat → Nat
  | 0 => d
  | r + 1 => if tb (my s P q) r && decide (rx1 s P d q r r + 1 < rx1 s P d q r q) then (fun k => if k = q then rx1 s P d q r r + 1 else rx1 s P d q r k) else rx1 s P d q r
def rx2 (s : Nat → Int32) (P : Nat) (d : Nat → Nat) : Nat → Nat → Nat
  | 0 => d
  | q + 1 => rx1 s P (rx2 s P d q) q P
def rx3 (s : Nat → Int32) (P : Nat) (d : Nat → Nat) : Nat → Nat → Nat
  | 0 => d
  | i + 1 => rx2 s P (rx3 s P d i) P
def d0 (b : Nat) : Nat → Nat := fun k => if k = b then 0 else 1000000
def lowb (x : Int32) : Nat := if tb x 0 then 0 else if tb x 1 then 1 else if tb x 2 then 2 else if tb x 3 then 3 else if tb x 4 then 4 else if tb x 5 then 5 else 6
theorem lowb_ok {x : Int32} {b : Nat} (hb : b < 7) (h : tb x b = true) : lowb x < 7 ∧ tb x (lowb x) = true ∧ ∀ c, c < lowb x → tb x c = false := by
  have hc : ∀ k, tb x k = true ∨ tb x k = false := fun k => by cases tb x k <;> simp
  unfold lowb
  rcases hc 0 with h0 | h0
  · rw [if_pos h0]; exact ⟨by omega, h0, fun c hc => absurd hc (Nat.not_lt_zero _)⟩
  rw [if_neg (by rw [h0]; decide)]
  rcases hc 1 with h1 | h1
  · rw [if_pos h1]; exact ⟨by omega, h1, fun c hc => by rw [show c = 0 by omega]; exact h0⟩
  rw [if_neg (by rw [h1]; decide)]
  rcases hc 2 with h2 | h2
  · rw [if_pos h2]; exact ⟨by omega, h2, fun c hc => by rcases (by omega : c = 0 ∨ c = 1) with rfl | rfl <;> assumption⟩
  rw [if_neg (by rw [h2]; decide)]
  rcases hc 3 with h3 | h3
  · rw [if_pos h3]; exact ⟨by omega, h3, fun c hc => by rcases (by omega : c = 0 ∨ c = 1 ∨ c = 2) with rfl | rfl | rfl <;> assumption⟩
  rw [if_neg (by rw [h3]; decide)]
  rcases hc 4 with h4 | h4
  · rw [if_pos h4]; exact ⟨by omega, h4, fun c hc => by rcases (by omega : c = 0 ∨ c = 1 ∨ c = 2 ∨ c = 3) with rfl | rfl | rfl | rfl <;> assumption⟩
  rw [if_neg (by rw [h4]; decide)]
  rcases hc 5 with h5 | h5
  · rw [if_pos h5]; exact ⟨by omega, h5, fun c hc => by rcases (by omega : c = 0 ∨ c = 1 ∨ c = 2 ∨ c = 3 ∨ c = 4) with rfl | rfl | rfl | rfl | rfl <;> assumption⟩
  rw [if_neg (by rw [h5]; decide)]
  have h6 : tb x 6 = true := by
    rcases (by omega : b = 0 ∨ b = 1 ∨ b = 2 ∨ b = 3 ∨ b = 4 ∨ b = 5 ∨ b = 6) with rfl | rfl | rfl | rfl | rfl | rfl | rfl
    · rw [h0] at h; cases h
    · rw [h1] at h; cases h
    · rw [h2] at h; cases h
    · rw [h3] at h; cases h
    · rw [h4] at h; cases h
    · rw [h5] at h; cases h
    · exact h
  exact ⟨by omega, h6, fun c hc => by rcases (by omega : c = 0 ∨ c = 1 ∨ c = 2 ∨ c = 3 ∨ c = 4 ∨ c = 5) with rfl | rfl | rfl | rfl | rfl | rfl <;> assumption⟩
def lst (s : Nat → Int32) (P b S a : Nat) : Nat → Nat
  | 0 => a
  | i + 1 => lowb (my s P (lst s P b S a i) &&& DS s P b (S - 1 - i))
section
variable {s : Nat → Int32} {P Q b : Nat}
theorem my_in (hP : P ≤ 7) {a q : Nat} (ha : a < 7) (h : tb (my s P a) q = true) : q < P := by
  have h32 := tb_lt h
  rw [my_tb hP ha h32, Bool.and_eq_true, decide_eq_true_eq] at h
  exact h.1
theorem DS_in (hP : P ≤ 7) (hb : b < P) : ∀ i q, q < 32 → tb (DS s P b i) q = true → q < P := by
  intro i
  induction i with
  | zero => intro q hq h; rw [DS, tb_pb b (by omega) q hq, decide_eq_true_eq] at h; omega
  | succ i ih =>
    intro q hq h
    rw [DS, wd_tb] at h
    rcases h with h | ⟨j, hj, _, h⟩
    · exact ih q hq h
    · exact my_in hP (by omega) h
theorem DS_up (i : Nat) {q : Nat} (h : tb (DS s P b i) q = true) : tb (DS s P b (i + 1)) q = true := by
  rw [DS, wd_tb]; exact Or.inl h
theorem DS_mono {i j q : Nat} (hij : i ≤ j) (h : tb (DS s P b i) q = true) : tb (DS s P b j) q = true := by
  obtain ⟨k, rfl⟩ : ∃ k, j = i + k := ⟨j - i, by omega⟩
  clear hij
  induction k with
  | zero => exact h
  | succ k ih => exact DS_up (i + k) ih
theorem DS_7 (hP : P ≤ 7) (hb : b < P) {i q : Nat} (h : tb (DS s P b i) q = true) : tb (DS s P b 7) q = true := by
  have e := gr_end (K := DS s P b) (T := fun x => wdS s P x P) hP (by omega) (fun _ => rfl) (DS_in hP hb) (fun i q _ h => DS_up i h) (by rw [show DS s P b 0 = pb b from rfl, pc_pb b (by omega)]; omega)
  have e7 := e (8 - P)
  rw [show P - 1 + (8 - P) = 7 by omega] at e7
  rcases Nat.lt_or_ge i 7 with h7 | h7
  · exact DS_mono (by omega) h
  · have ei := e (i - (P - 1))
    rw [show P - 1 + (i - (P - 1)) = i by omega] at ei
    rw [e7, ← ei]; exact h
/-- what stands in steps is so -/
def Sd (s : Nat → Int32) (P b : Nat) (d : Nat → Nat) : Prop := ∀ x, x < 7 → d x = 1000000 ∨ (d x < 1000000 ∧ tb (DS s P b (d x)) x = true)
theorem Sd.le {d : Nat → Nat} (h : Sd s P b d) {x : Nat} (hx : x < 7) : d x ≤ 1000000 := by
  rcases h x hx with e | e <;> omega
theorem Sd_1 (hL : IL s P Q) (hI : ID s P Q) {d : Nat → Nat} {q : Nat} (hq : q < P) (h : Sd s P b d) : ∀ r, r ≤ P → Sd s P b (rx1 s P d q r) := by
  have hP := hL.P7
  intro r
  induction r with
  | zero => intro _; exact h
  | succ r ih =>
    intro hr
    have ih := ih (by omega)
    rw [rx1]
    split
    · rename_i hc
      rw [Bool.and_eq_true, decide_eq_true_eq] at hc
      intro x hx
      dsimp only
      by_cases hxq : x = q
      · subst hxq
        rw [if_pos rfl]
        have h1 := ih.le hx
        rcases ih r (by omega) with e | ⟨e1, e2⟩
        · omega
        · refine Or.inr ⟨by omega, ?_⟩
          rw [DS, wd_tb]
          exact Or.inr ⟨r, by omega, e2, by rw [my_sym hL hI (by omega) hq]; exact hc.1⟩
      · rw [if_neg hxq]; exact ih x hx
    · exact ih
theorem Sd_2 (hL : IL s P Q) (hI : ID s P Q) {d : Nat → Nat} (h : Sd s P b d) : ∀ q, q ≤ P → Sd s P b (rx2 s P d q) := by
  intro q
  induction q with
  | zero => intro _; exact h
  | succ q ih => intro hq; exact Sd_1 hL hI (by omega) (ih (by omega)) P (Nat.le_refl _)
theorem Sd_3 (hL : IL s P Q) (hI : ID s P Q) {d : Nat → Nat} (h : Sd s P b d) : ∀ i, Sd s P b (rx3 s P d i) := by
  intro i
  induction i with
  | zero => exact h
  | succ i ih => exact Sd_2 hL hI ih P (Nat.le_refl _)
theorem rx1_le (d : Nat → Nat) (q x : Nat) : ∀ r, rx1 s P d q r x ≤ d x := by
  intro r
  induction r with
  | zero => exact Nat.le_refl _
  | succ r ih =>
    rw [rx1]
    split
    · rename_i hc
      rw [Bool.and_eq_true, decide_eq_true_eq] at hc
      dsimp only
      by_cases hxq : x = q
      · subst hxq; rw [if_pos rfl]; omega
      · rw [if_neg hxq]; exact ih
    · exact ih
theorem rx1_mono (d : Nat → Nat) (q x r : Nat) : ∀ j, rx1 s P d q (r + j) x ≤ rx1 s P d q r x := by
  intro j
  induction j with
  | zero => exact Nat.le_refl _
  | succ j ih =>
    refine Nat.le_trans ?_ ih
    rw [show r + (j + 1) = (r + j) + 1 by omega, rx1]
    split
    · rename_i hc
      rw [Bool.and_eq_true, decide_eq_true_eq] at hc
      dsimp only
      by_cases hxq : x = q
      · subst hxq; rw [if_pos rfl]; omega
      · rw [if_neg hxq]; exact Nat.le_refl _
    · exact Nat.le_refl _
theorem rx2_le (d : Nat → Nat) (x : Nat) : ∀ q, rx2 s P d q x ≤ d x := by
  intro q
  induction q with
  | zero => exact Nat.le_refl _
  | succ q ih => rw [rx2]; exact Nat.le_trans (rx1_le _ _ _ _) ih
theorem rx2_mono (d : Nat → Nat) (x q : Nat) : ∀ j, rx2 s P d (q + j) x ≤ rx2 s P d q x := by
  intro j
  induction j with
  | zero => exact Nat.le_refl _
  | succ j ih => rw [show q + (j + 1) = (q + j) + 1 by omega, rx2]; exact Nat.le_trans (rx1_le _ _ _ _) ih
theorem rx3_mono (d : Nat → Nat) (x i : Nat) : ∀ j, rx3 s P d (i + j) x ≤ rx3 s P d i x := by
  intro j
  induction j with
  | zero => exact Nat.le_refl _
  | succ j ih => rw [show i + (j + 1) = (i + j) + 1 by omega, rx3]; exact Nat.le_trans (rx2_le _ _ _) ih
theorem rx1_hit (d : Nat → Nat) {q r : Nat} (hr : r < P) (h : tb (my s P q) r = true) : rx1 s P d q P q ≤ d r + 1 := by
  have h1 := rx1_mono (s := s) (P := P) d q q (r + 1) (P - (r + 1))
  rw [show r + 1 + (P - (r + 1)) = P by omega] at h1
  refine Nat.le_trans h1 ?_
  have h2 := rx1_le (s := s) (P := P) d q r r
  rw [rx1]
  by_cases hc : rx1 s P d q r r + 1 < rx1 s P d q r q
  · rw [h, decide_eq_true hc, Bool.true_and, if_pos rfl, if_pos rfl]; omega
  · rw [h, decide_eq_false hc, Bool.and_false, if_neg (by decide)]; omega
theorem rx_all (hL : IL s P Q) (hI : ID s P Q) (hb : b < P) : ∀ i x, x < 7 → tb (DS s P b i) x = true → rx3 s P (d0 b) i x ≤ i := by
  have hP := hL.P7
  intro i
  induction i with
  | zero =>
    intro x hx h
    rw [DS, tb_pb b (by omega) x (by omega), decide_eq_true_eq] at h
    rw [rx3, d0, if_pos h]; exact Nat.le_refl _
  | succ i ih =>
    intro x hx h
    have hxP := DS_in hP hb (i + 1) x (by omega) h
    rw [DS, wd_tb] at h
    rw [rx3]
    rcases h with h | ⟨y, hy, h1, h2⟩
    · exact Nat.le_trans (rx2_le _ _ _) (Nat.le_trans (ih x hx h) (by omega))
    · have e := rx2_mono (s := s) (P := P) (rx3 s P (d0 b) i) x (x + 1) (P - (x + 1))
      rw [show x + 1 + (P - (x + 1)) = P by omega] at e
      refine Nat.le_trans e ?_
      rw [rx2]
      refine Nat.le_trans (rx1_hit _ hy (by rw [my_sym hL hI hxP hy]; exact h2)) ?_
      have := rx2_le (s := s) (P := P) (rx3 s P (d0 b) i) y x
      have := ih y (by omega) h1
      omega
/-- steps, behind seven rounds, tell how far one is -/
theorem rx_d (hL : IL s P Q) (hI : ID s P Q) (hb : b < P) {x : Nat} (hx : x < 7) : (∀ j, j ≤ 7 → tb (DS s P b j) x = true → rx3 s P (d0 b) 7 x ≤ j) ∧ (rx3 s P (d0 b) 7 x = 1000000 ∨ (rx3 s P (d0 b) 7 x ≤ 7 ∧ tb (DS s P b (rx3 s P (d0 b) 7 x)) x = true)) := by
  have hP := hL.P7
  have h1 : ∀ j, j ≤ 7 → tb (DS s P b j) x = true → rx3 s P (d0 b) 7 x ≤ j := by
    intro j hj h
    have := rx3_mono (s := s) (P := P) (d0 b) x j (7 - j)
    rw [show j + (7 - j) = 7 by omega] at this
    exact Nat.le_trans this (rx_all hL hI hb j x hx h)
  refine ⟨h1, ?_⟩
  have hS : Sd s P b (d0 b) := by
    intro y hy
    unfold d0
    by_cases h : y = b
    · rw [if_pos h, h]
      refine Or.inr ⟨by omega, ?_⟩
      rw [DS, tb_pb b (by omega) b (by omega)]; exact decide_eq_true rfl
    · rw [if_neg h]; exact Or.inl rfl
  rcases Sd_3 hL hI hS 7 x hx with h | ⟨h2, h3⟩
  · exact Or.inl h
  · exact Or.inr ⟨h1 7 (Nat.le_refl _) (DS_7 hP hb h3), h3⟩
/-- the row of the others -/
theorem lst_ok (hL : IL s P Q) (hI : ID s P Q) {S a : Nat} (ha : a < P) (hS : tb (DS s P b S) a = true) (hlow : ∀ j, j < S → tb (DS s P b j) a = false) :
    ∀ i, i < S → lst s P b S a i < P ∧ tb (DS s P b (S - i)) (lst s P b S a i) = true ∧ (∀ j, j < S - i → tb (DS s P b j) (lst s P b S a i) = false) ∧ (i + 1 < S → ∃ y, y < 7 ∧ tb (my s P (lst s P b S a i) &&& DS s P b (S - 1 - i)) y = true) := by
  have hP := hL.P7
  have step : ∀ i c, i + 1 < S → c < P → tb (DS s P b (S - i)) c = true → (∀ j, j < S - i → tb (DS s P b j) c = false) → ∃ y, y < 7 ∧ tb (my s P c &&& DS s P b (S - 1 - i)) y = true := by
    intro i c hi hc h1 h2
    rw [show S - i = (S - 1 - i) + 1 by omega, DS, wd_tb] at h1
    rcases h1 with h1 | ⟨y, hy, h3, h4⟩
    · rw [h2 _ (by omega)] at h1; cases h1
    · exact ⟨y, by omega, by rw [tb_and, my_sym hL hI hc hy, h4, h3]; rfl⟩
  intro i
  induction i with
  | zero => intro _; exact ⟨ha, hS, hlow, fun h => step 0 a h ha hS hlow⟩
  | succ i ih =>
    intro hi
    obtain ⟨h1, h2, h3, h4⟩ := ih (by omega)
    obtain ⟨y, hy, h5⟩ := h4 (by omega)
    obtain ⟨h6, h7, -⟩ := lowb_ok hy h5
    rw [lst]
    generalize lowb (my s P (lst s P b S a i) &&& DS s P b (S - 1 - i)) = c at h6 h7
    rw [tb_and, Bool.and_eq_true] at h7
    have hcP := my_in hP (by omega) h7.1
    have k1 : tb (DS s P b (S - (i + 1))) c = true := by rw [show S - (i + 1) = S - 1 - i by omega]; exact h7.2
    have k2 : ∀ j, j < S - (i + 1) → tb (DS s P b j) c = false := by
      intro j hj
      cases h8 : tb (DS s P b j) c with
      | false => rfl
      | true =>
        have h9 : tb (DS s P b (j + 1)) (lst s P b S a i) = true := by
          rw [DS, wd_tb]; exact Or.inr ⟨c, hcP, h8, by rw [my_sym hL hI hcP h1]; exact h7.1⟩
        rw [h3 (j + 1) (by omega)] at h9; cases h9
    exact ⟨hcP, k1, k2, fun h => step (i + 1) c h hcP k1 k2⟩
end
