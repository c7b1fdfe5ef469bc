/-! PURE: the acts keep what holds of every state -/
theorem tb_meet {s : Nat → Int32} {a b p q : Nat} (ha : a < 7) (hb : b < 7) (hab : a ≠ b) (hq : q < 32) : tb (meetS s a b (220 + p)) q = (tb (s (220 + p)) q || (decide (p = a ∧ q = b) || decide (p = b ∧ q = a))) := by
  unfold meetS
  by_cases h1 : p = b
  · subst h1
    rw [pk_us, pk_un (by omega), tb_or, tb_pb a (by omega) q hq]
    have h2 : ¬ (p = a ∧ q = p) := fun h => hab h.1.symm
    simp [h2]
  · rw [pk_un (by omega)]
    by_cases h2 : p = a
    · subst h2
      rw [pk_us, tb_or, tb_pb b (by omega) q hq]
      have h3 : ¬ (p = b ∧ q = p) := fun h => h1 h.1
      simp [h3]
    · rw [pk_un (by omega)]
      have h3 : ¬ (p = b ∧ q = a) := fun h => h1 h.1
      have h4 : ¬ (p = a ∧ q = b) := fun h => h2 h.1
      simp [h3, h4]
theorem meet_o {s : Nat → Int32} {a b k : Nat} (ha : a < 7) (hb : b < 7) (hk : k < 220 ∨ 227 ≤ k) : meetS s a b k = s k := by
  unfold meetS; rw [pk_un (by omega), pk_un (by omega)]
theorem tb_lt {x : Int32} {q : Nat} (h : tb x q = true) : q < 32 := by
  refine Nat.lt_of_not_le (fun hc => ?_)
  rw [tb_big hc] at h; cases h
section
variable {s : Nat → Int32} {P Q : Nat}
theorem SY_meet (h : SY s 220 P) (hP : P ≤ 7) {a b : Nat} (ha : a < P) (hb : b < P) (hab : a ≠ b) : SY (meetS s a b) 220 P := by
  intro p q hp hq
  have hq32 := tb_lt hq
  rw [tb_meet (by omega) (by omega) hab hq32] at hq
  rw [Bool.or_eq_true, Bool.or_eq_true, decide_eq_true_eq, decide_eq_true_eq] at hq
  rcases hq with hq | hq | hq
  · obtain ⟨h1, h2, h3, h4⟩ := h p q hp hq
    exact ⟨h1, h2, h3, by rw [tb_meet (by omega) (by omega) hab (by omega), h4]; rfl⟩
  · obtain ⟨rfl, rfl⟩ := hq
    exact ⟨ha, hb, hab, by rw [tb_meet (by omega) (by omega) hab (by omega)]; simp⟩
  · obtain ⟨rfl, rfl⟩ := hq
    exact ⟨hb, ha, fun h => hab h.symm, by rw [tb_meet (by omega) (by omega) hab (by omega)]; simp⟩
theorem DL_meet (h : DL s) {a b : Nat} (ha : a < 7) (hb : b < 7) (hab : a ≠ b) : DL (meetS s a b) := by
  intro p q hp hq
  rw [meet_o ha hb (by omega), meet_o ha hb (by omega), meet_o ha hb (by omega), meet_o ha hb (by omega)]
  obtain ⟨h1, h2⟩ := h p q hp hq
  refine ⟨h1, h2.imp id ?_⟩
  rintro ⟨x, d, hd, e1, e2, h3⟩
  refine ⟨x, d, hd, e1, e2, h3.imp id (fun h4 => ⟨h4.1, ?_⟩)⟩
  rw [tb_meet ha hb hab (by omega), h4.2]; rfl
theorem ID_meet (hP : P ≤ 7) (h : ID s P Q) {a b : Nat} (ha : a < P) (hb : b < P) (hab : a ≠ b) : ID (meetS s a b) P Q := by
  refine ⟨by rw [meet_o (by omega) (by omega) (by omega)]; exact h.da, by rw [meet_o (by omega) (by omega) (by omega)]; exact h.vl, h.st.to (fun k hk => meet_o (by omega) (by omega) (by omega)), h.wa.to (fun k hk => meet_o (by omega) (by omega) (by omega)), SY_meet h.me hP ha hb hab, fun p hp hPp => by rw [meet_o (by omega) (by omega) (by omega)]; exact h.hu p hp hPp, DL_meet h.dl (by omega) (by omega) hab⟩
/-- a change of what no promise of ID speaks of -/
theorem ID.oth (h : ID s P Q) {s' : Nat → Int32} (hP : P ≤ 7) (e : ∀ k, k ≠ 132 → k ≠ 133 → k ≠ 134 → (k < 136 ∨ 143 ≤ k) → s' k = s k) : ID s' P Q := by
  refine ⟨by rw [e 131 (by omega) (by omega) (by omega) (by omega)]; exact h.da, by rw [e 135 (by omega) (by omega) (by omega) (by omega)]; exact h.vl, h.st.to (fun k hk => e _ (by omega) (by omega) (by omega) (by omega)), h.wa.to (fun k hk => e _ (by omega) (by omega) (by omega) (by omega)), h.me.to hP (fun k hk => e _ (by omega) (by omega) (by omega) (by omega)), fun p hp hPp => by rw [e _ (by omega) (by omega) (by omega) (by omega)]; exact h.hu p hp hPp, fun p q hp hq => ?_⟩
  rw [e _ (by omega) (by omega) (by omega) (by omega), e _ (by omega) (by omega) (by omega) (by omega), e (124 + p) (by omega) (by omega) (by omega) (by omega), e 2 (by omega) (by omega) (by omega) (by omega), e (220 + p) (by omega) (by omega) (by omega) (by omega)]
  exact h.dl p q hp hq
theorem ID_nod (hP : P ≤ 7) (h : ID s P Q) {a b : Nat} (ha : a < P) (hb : b < P) (hab : a ≠ b) : ID (nodS s a b) P Q :=
  (ID_meet hP h ha hb hab).oth hP (fun k _ h2 _ _ => pk_un h2)
theorem ID_veil (hP : P ≤ 7) (h : ID s P Q) {a : Nat} (hw : whyV s a = 0) : ID (veilS s a) P Q := by
  obtain ⟨x, hx, ex⟩ := h.vl
  have hx0 : x ≠ 0 := by
    intro h0; subst h0
    unfold whyV at hw
    rw [ex] at hw
    split at hw
    · omega
    · rw [if_pos nI_0] at hw; omega
  have h1 : ID (upd s 134 (s 134 ||| pb a)) P Q := h.oth hP (fun k _ _ h3 _ => pk_un h3)
  have e : ∀ k, k ≠ 135 → veilS s a k = upd s 134 (s 134 ||| pb a) k := fun k hk => pk_un hk
  refine ⟨by rw [e _ (by omega)]; exact h1.da, ⟨x - 1, by omega, ?_⟩, h1.st.to (fun k hk => e _ (by omega)), h1.wa.to (fun k hk => e _ (by omega)), h1.me.to hP (fun k hk => e _ (by omega)), fun p hp hPp => by rw [e _ (by omega)]; exact h1.hu p hp hPp, fun p q hp hq => ?_⟩
  · unfold veilS by1
    rw [pk_us, pk_un (by omega), ex, show (1 : Int32) = nI 1 from rfl, pk_sub (by omega)]
  · rw [e _ (by omega), e _ (by omega), e (124 + p) (by omega), e 2 (by omega), e (220 + p) (by omega)]
    exact h1.dl p q hp hq
theorem whyB_0 {a g b : Nat} (h : whyB s P a g b = 0) : a ≠ b ∧ (tb (s 134) a = true ∨ tb (s 134) b = true ∨ tb (my s P a) b = true) ∧ ¬ s (143 + (5 * b + g)) = 0 ∧ ¬ s (178 + (5 * a + g)) = 0 := by
  unfold whyB at h
  split at h
  · omega
  rename_i h1
  split at h
  · omega
  split at h
  · omega
  split at h
  · omega
  rename_i h4
  split at h
  · omega
  rename_i h5
  split at h
  · split at h
    · omega
    · rename_i h7
      refine ⟨h1, ?_, h5, h7⟩
      cases ha : tb (s 134) a
      · cases hb : tb (s 134) b
        · rw [ha, hb] at h4
          refine Or.inr (Or.inr ?_)
          cases hm : tb (my s P a) b
          · rw [hm] at h4; exact absurd rfl h4
          · rfl
        · exact Or.inr (Or.inl rfl)
      · exact Or.inl rfl
  · omega
theorem CE_by1 {base m p g : Nat} (h : CE s base P Q m) (hp : p < 7) (hg : g < 5) (h0 : ¬ s (base + (5 * p + g)) = 0) : CE (by1 s (base + (5 * p + g))) base P Q m := by
  intro p' g' hp' hg'
  by_cases e : p' = p ∧ g' = g
  · obtain ⟨rfl, rfl⟩ := e
    obtain ⟨x, hx, ex, hz⟩ := h p' g' hp' hg'
    have hx0 : x ≠ 0 := by intro h; subst h; exact h0 ex
    refine ⟨x - 1, by omega, ?_, fun hc => absurd (hz hc) hx0⟩
    unfold by1
    rw [pk_us, ex, show (1 : Int32) = nI 1 from rfl, pk_sub (by omega)]
  · unfold by1
    rw [pk_un (by omega)]
    exact h p' g' hp' hg'
theorem buyA_o {a g b k : Nat} (h1 : k ≠ 143 + (5 * b + g)) (h2 : k ≠ 178 + (5 * a + g)) (h3 : k ≠ 136 + a) (h4 : k ≠ 136 + b) (h5 : k ≠ 132) : buyA s a g b k = s k := by
  unfold buyA by3 by2 by1
  rw [pk_un h5, pk_un h4, pk_un h3, pk_un h2, pk_un h1]
theorem ID_buyA (hP : P ≤ 7) (h : ID s P Q) {a g b : Nat} (ha : a < 7) (hb : b < 7) (hg : g < 5) (h1 : ¬ s (143 + (5 * b + g)) = 0) (h2 : ¬ s (178 + (5 * a + g)) = 0) : ID (buyA s a g b) P Q := by
  have e1 : ∀ k, k ≠ 132 → (k < 136 ∨ 143 ≤ k) → buyA s a g b k = by1 (by1 s (143 + (5 * b + g))) (178 + (5 * a + g)) k := by
    intro k h5 h6
    show by3 (by3 (by2 (by1 (by1 s (143 + (5 * b + g))) (178 + (5 * a + g))) (136 + a) (s (47 + (5 * b + g)) - 1)) (136 + b) (s (47 + (5 * b + g)) - 1)) 132 1 k = _
    generalize by1 (by1 s (143 + (5 * b + g))) (178 + (5 * a + g)) = z
    unfold by3 by2
    rw [pk_un h5, pk_un (by omega), pk_un (by omega)]
  have e2 : ∀ k, k ≠ 132 → (k < 136 ∨ 213 ≤ k) → buyA s a g b k = s k := fun k h5 h6 => buyA_o (by omega) (by omega) (by omega) (by omega) h5
  have c1 : CE (by1 s (143 + (5 * b + g))) 143 P Q 9 := CE_by1 h.st hb hg h1
  have c2 : CE (by1 (by1 s (143 + (5 * b + g))) (178 + (5 * a + g))) 178 P Q 9 := by
    refine CE_by1 (h.wa.to (fun k hk => pk_un (by omega))) ha hg ?_
    unfold by1; rw [pk_un (by omega)]; exact h2
  refine ⟨by rw [e2 _ (by omega) (by omega)]; exact h.da, by rw [e2 _ (by omega) (by omega)]; exact h.vl, c1.to (fun k hk => ?_), c2.to (fun k hk => e1 _ (by omega) (by omega)), h.me.to hP (fun k hk => e2 _ (by omega) (by omega)), fun p hp hPp => by rw [e2 _ (by omega) (by omega)]; exact h.hu p hp hPp, fun p q hp hq => ?_⟩
  · rw [e1 _ (by omega) (by omega)]; exact pk_un (by omega)
  · rw [e2 _ (by omega) (by omega), e2 _ (by omega) (by omega), e2 (124 + p) (by omega) (by omega), e2 2 (by omega) (by omega), e2 (220 + p) (by omega) (by omega)]
    exact h.dl p q hp hq
theorem my_tb {a b : Nat} (hP : P ≤ 7) (ha : a < 7) (hb : b < 32) : tb (my s P a) b = (decide (b < P) && (!decide (b = a) && (!tb (kn s a) b || tb (s (124 + a)) b))) := by
  unfold my
  rw [tb_and, tb_and, tb_ev P (by omega) b hb, tb_not _ hb, tb_pb a (by omega) b hb, tb_or, tb_not _ hb, Bool.and_assoc]
theorem ID_buy (hL : IL s P Q) (h : ID s P Q) {a g b : Nat} (ha : a < P) (hb : b < P) (hg : g < 5) (hw : whyB s P a g b = 0) : ID (buyS s a g b) P Q := by
  have hP := hL.P7
  obtain ⟨hab, hv, h1, h2⟩ := whyB_0 hw
  have hA := ID_buyA hP h (a := a) (b := b) (by omega) (by omega) hg h1 h2
  unfold buyS
  split
  · exact hA
  rename_i va
  split
  · exact hA
  rename_i vb
  have hm : tb (my s P a) b = true := by
    rcases hv with h | h | h
    · exact absurd h va
    · exact absurd h vb
    · exact h
  rw [my_tb hP (by omega) (by omega)] at hm
  have eA : ∀ k, k ≠ 132 → (k < 136 ∨ 213 ≤ k) → buyA s a g b k = s k := fun k h5 h6 => buyA_o (by omega) (by omega) (by omega) (by omega) h5
  have eo : ∀ z : Nat → Int32, ∀ k, k ≠ 227 + (7 * a + b) → k ≠ 227 + (7 * b + a) → buyD z a b k = z k := by
    intro z k h1 h2
    unfold buyD by3
    rw [pk_un h2, pk_un h1]
  have ea : ∀ z : Nat → Int32, buyD z a b (227 + (7 * a + b)) = z (227 + (7 * a + b)) + 1 := by
    intro z; unfold buyD by3
    rw [pk_un (by omega), pk_us]
  have eb : ∀ z : Nat → Int32, buyD z a b (227 + (7 * b + a)) = z (227 + (7 * b + a)) + 1 := by
    intro z; unfold buyD by3
    rw [pk_us, pk_un (by omega)]
  generalize hz : buyA s a g b = z at hA eA
  obtain ⟨d0, hd1, hd9, ed⟩ := hL.de
  have ez2 : z 2 = nI d0 := by rw [eA 2 (by omega) (by omega)]; exact ed
  have hsym := (hA.dl a b (by omega) (by omega)).1
  -- what DL says of a and b behind the buy
  have hab' : tb (s (124 + a)) b = true ∨ ∃ x, z (227 + (7 * a + b)) = nI x ∧ x < d0 := by
    rcases (hA.dl a b (by omega) (by omega)).2 with hf | ⟨x, d, hd, e1, e2, h3⟩
    · rw [eA (124 + a) (by omega) (by omega)] at hf; exact Or.inl hf
    · have hdd : d = d0 := by rw [ez2, nI_eq (by omega) (by omega)] at e1; exact e1.symm
      subst hdd
      rcases h3 with h3 | h3
      · exact Or.inr ⟨x, e2, h3⟩
      · left
        rw [eA (220 + a) (by omega) (by omega)] at h3
        have hk : tb (kn s a) b = true := by unfold kn; rw [tb_or, h3.2, Bool.or_true]
        rw [hk] at hm
        cases hf : tb (s (124 + a)) b
        · rw [hf] at hm; simp at hm
        · rfl
  have base : ∀ y : Nat → Int32, (∀ k, k < 220 ∨ 227 ≤ k → y k = buyD z a b k) → SY y 220 P → (∀ p q, p < 7 → q < 7 → tb (z (220 + p)) q = true → tb (y (220 + p)) q = true) → (tb (s (124 + a)) b = true ∨ ∃ x, z (227 + (7 * a + b)) = nI x ∧ (x + 1 < d0 ∨ (x + 1 = d0 ∧ tb (y (220 + a)) b = true ∧ tb (y (220 + b)) a = true))) → ID y P Q := by
    intro y ey hme hmo hcase
    have e3 : ∀ k, k < 220 → y k = z k := fun k hk => by rw [ey k (by omega), eo z k (by omega) (by omega)]
    refine ⟨by rw [e3 _ (by omega)]; exact hA.da, by rw [e3 _ (by omega)]; exact hA.vl, hA.st.to (fun k hk => e3 _ (by omega)), hA.wa.to (fun k hk => e3 _ (by omega)), hme, fun p hp hPp => by rw [e3 _ (by omega)]; exact hA.hu p hp hPp, fun p q hp hq => ?_⟩
    rw [e3 2 (by omega), e3 (124 + p) (by omega), ey _ (by omega), ey (227 + (7 * q + p)) (by omega)]
    by_cases c1 : p = a ∧ q = b
    · obtain ⟨rfl, rfl⟩ := c1
      rw [ea, eb, hsym]
      refine ⟨rfl, ?_⟩
      rcases hcase with hf | ⟨x, e1, h3⟩
      · left; rw [eA (124 + p) (by omega) (by omega)]; exact hf
      · right
        refine ⟨x + 1, d0, hd9, ez2, by rw [← hsym, e1, nI_1], h3.imp id (fun h => ⟨h.1, h.2.1⟩)⟩
    · by_cases c2 : p = b ∧ q = a
      · obtain ⟨rfl, rfl⟩ := c2
        rw [ea, eb, hsym]
        refine ⟨rfl, ?_⟩
        rcases hcase with hf | ⟨x, e1, h3⟩
        · left; rw [eA (124 + p) (by omega) (by omega)]; exact (hL.fo q p (by omega) hf).2.2.2
        · right
          refine ⟨x + 1, d0, hd9, ez2, by rw [← hsym, e1, nI_1], h3.imp id (fun h => ⟨h.1, h.2.2⟩)⟩
      · rw [eo z _ (by omega) (by omega), eo z _ (by omega) (by omega)]
        obtain ⟨k1, k2⟩ := hA.dl p q hp hq
        refine ⟨k1, k2.imp id ?_⟩
        rintro ⟨x, d, hd, e1, e2, h3⟩
        exact ⟨x, d, hd, e1, e2, h3.imp id (fun h => ⟨h.1, hmo p q hp hq h.2⟩)⟩
  have hcmp : (buyD z a b (227 + (7 * a + b)) < s 2) ↔ z (227 + (7 * a + b)) + 1 < nI d0 := by rw [ea, ed]
  split
  · rename_i hlt
    rw [hcmp] at hlt
    refine base _ (fun k _ => rfl) (hA.me.to hP (fun k hk => eo z _ (by omega) (by omega))) (fun p q hp hq h => by rw [eo z _ (by omega) (by omega)]; exact h) (hab'.imp id ?_)
    rintro ⟨x, e1, h3⟩
    refine ⟨x, e1, Or.inl ?_⟩
    rw [e1, nI_1, nI_ltI (by omega) (by omega)] at hlt
    exact hlt
  · rename_i hlt
    rw [hcmp] at hlt
    have hme : SY (buyD z a b) 220 P := hA.me.to hP (fun k hk => eo z _ (by omega) (by omega))
    refine base _ (fun k hk => meet_o (by omega) (by omega) hk) (SY_meet hme hP ha hb hab) (fun p q hp hq h => ?_) (hab'.imp id ?_)
    · rw [tb_meet (by omega) (by omega) hab (by omega), eo z _ (by omega) (by omega), h]; rfl
    · rintro ⟨x, e1, h3⟩
      refine ⟨x, e1, Or.inr ⟨?_, ?_, ?_⟩⟩
      · rw [e1, nI_1, nI_ltI (by omega) (by omega)] at hlt
        omega
      · rw [tb_meet (by omega) (by omega) hab (by omega)]; simp
      · rw [tb_meet (by omega) (by omega) hab (by omega)]; simp
/-- the acts change nothing of the county, nor the sentence -/
theorem buy_o {a g b k : Nat} (ha : a < 7) (hb : b < 7) (hg : g < 5) (hk : k < 131 ∨ 276 ≤ k) : buyS s a g b k = s k := by
  have e1 : buyA s a g b k = s k := buyA_o (by omega) (by omega) (by omega) (by omega) (by omega)
  have e2 : buyD (buyA s a g b) a b k = s k := by
    unfold buyD by3
    rw [pk_un (by omega), pk_un (by omega)]; exact e1
  unfold buyS
  repeat' split
  · exact e1
  · exact e1
  · exact e2
  · rw [meet_o ha hb (by omega)]; exact e2
theorem nod_o {a b k : Nat} (ha : a < 7) (hb : b < 7) (hk : k < 131 ∨ 276 ≤ k) : nodS s a b k = s k := by
  unfold nodS
  rw [pk_un (by omega)]; exact meet_o ha hb (by omega)
theorem veil_o {a k : Nat} (hk : k < 131 ∨ 276 ≤ k) : veilS s a k = s k := by
  unfold veilS by1
  rw [pk_un (by omega), pk_un (by omega)]
end
