/-! PURE: the tape read token by token -/
def wdL : List (List Nat) := [[14,15,19,18,5,16],[4,15,15,7],[19,12,12,5,19],[19,20,14,1,23],[19,23,15,14,11],[19,5,15,6],[19,12,1,5,4],[19,12,9,5,22],[12,12,5,2],[19,25,21,2],[19,4,15,14],[19,12,12,5,20],[25,1,4],[18,15],[4,14,1],[20,15,14],[5,13,15,8],[4,5,12,9,5,22],[4,5,6],[4,12,15,19],[19,14,9,15,3],[19,4,14,5,9,18,6],[18,5,7,14,21,8],[18,5,2,13,21,14]]
def wds (k : Nat) : List Nat := wdL.getD k []
def wst : List Nat := [0,7,12,18,24,30,35,41,47,52,57,62,68,72,75,79,83,88,95,99,104,110,118,125,132]
theorem wds_ok : ∀ k, k < 24 → ((wds k).all (fun l => decide (1 ≤ l) && decide (l ≤ 26))) = true ∧ 1 ≤ (wds k).length ∧ (wds k).length ≤ 7 := by decide +kernel
theorem WR_w {k : Nat} (hk : k < 24) : WR (lN (e32 (wds k))) (lN (e256 (wds k))) := by
  obtain ⟨h1, h2, h3⟩ := wds_ok k hk
  exact ⟨wds k, wok_d h1, h2, h3, rfl, rfl⟩
theorem wds_inj : ∀ k, k < 24 → ∀ j, j < 24 → wds k = wds j → k = j := by decide +kernel
/-- which of the told words a word is -/
def PW (x : Int32) (l : Int64) : Prop := (∃ k, k < 24 ∧ x = nI k ∧ l = lN (e32 (wds k))) ∨ (x = -1 ∧ ∀ k, k < 24 → l ≠ lN (e32 (wds k)))
theorem lw0 : (123581014175598 : Int64) = lN (e256 (wds 0)) := by decide +kernel
theorem lw1 : (1735356260 : Int64) = lN (e256 (wds 1)) := by decide +kernel
theorem lw2 : (495622843507 : Int64) = lN (e256 (wds 2)) := by decide +kernel
theorem lw3 : (512735736947 : Int64) = lN (e256 (wds 3)) := by decide +kernel
theorem lw4 : (461414299507 : Int64) = lN (e256 (wds 4)) := by decide +kernel
theorem lw5 : (1718576499 : Int64) = lN (e256 (wds 5)) := by decide +kernel
theorem lw6 : (431197613171 : Int64) = lN (e256 (wds 6)) := by decide +kernel
theorem lw7 : (508507548787 : Int64) = lN (e256 (wds 7)) := by decide +kernel
theorem lw8 : (1650814060 : Int64) = lN (e256 (wds 8)) := by decide +kernel
theorem lw9 : (1651865971 : Int64) = lN (e256 (wds 9)) := by decide +kernel
theorem lw10 : (1852793971 : Int64) = lN (e256 (wds 10)) := by decide +kernel
theorem lw11 : (499917810803 : Int64) = lN (e256 (wds 11)) := by decide +kernel
theorem lw12 : (6578553 : Int64) = lN (e256 (wds 12)) := by decide +kernel
theorem lw13 : (28530 : Int64) = lN (e256 (wds 13)) := by decide +kernel
theorem lw14 : (6385252 : Int64) = lN (e256 (wds 14)) := by decide +kernel
theorem lw15 : (7237492 : Int64) = lN (e256 (wds 15)) := by decide +kernel
theorem lw16 : (1752132965 : Int64) = lN (e256 (wds 16)) := by decide +kernel
theorem lw17 : (130177932485988 : Int64) = lN (e256 (wds 17)) := by decide +kernel
theorem lw18 : (6710628 : Int64) = lN (e256 (wds 18)) := by decide +kernel
theorem lw19 : (1936682084 : Int64) = lN (e256 (wds 19)) := by decide +kernel
theorem lw20 : (427070942835 : Int64) = lN (e256 (wds 20)) := by decide +kernel
theorem lw21 : (28836244623352947 : Int64) = lN (e256 (wds 21)) := by decide +kernel
theorem lw22 : (114853572732274 : Int64) = lN (e256 (wds 22)) := by decide +kernel
theorem lw23 : (121450625394034 : Int64) = lN (e256 (wds 23)) := by decide +kernel
theorem q_rel {σ β : Type} (L : Nat → σ → Option β) (K : σ → Option β) (n : Nat) (Φ : Nat → σ → Prop)
    (h0 : ∀ k x, Φ n x → L (k + 1) x = K x) (h1 : ∀ k i x, i < n → Φ i x → ∃ y, Φ (i + 1) y ∧ L (k + 1) x = L k y) (x : σ) (hx : Φ 0 x) (N : Nat) (hN : n < N) : ∃ y, Φ n y ∧ L N x = K y := by
  have key : ∀ j i x k, i + j = n → j < k → Φ i x → ∃ y, Φ n y ∧ L k x = K y := by
    intro j
    induction j with
    | zero =>
      intro i x k h hk hx
      obtain ⟨k, rfl⟩ : ∃ m, k = m + 1 := ⟨k - 1, by omega⟩
      have : i = n := by omega
      subst this
      exact ⟨x, hx, h0 k x hx⟩
    | succ j ih =>
      intro i x k h hk hx
      obtain ⟨k, rfl⟩ : ∃ m, k = m + 1 := ⟨k - 1, by omega⟩
      obtain ⟨y, hy, e⟩ := h1 k i x (by omega) hx
      obtain ⟨z, hz, e2⟩ := ih (i + 1) y k (by omega) (by omega) hy
      exact ⟨z, hz, e.trans e2⟩
  exact key n 0 x N (by omega) hN hx
/-! place in words -/
theorem pw_tab : ∀ k, k < 24 → wst.getD k 0 + (wds k).length + 1 = wst.getD (k + 1) 0 ∧ wst.getD (k + 1) 0 ≤ 132 ∧ chS 0 (wst.getD k 0 + (wds k).length) = 32 ∧ (∀ m, m < (wds k).length → ¬ chS 0 (wst.getD k 0 + m) = 32) ∧ (List.range (wds k).length).foldl (fun a m => a * 32 + (chS 0 (wst.getD k 0 + m)).toInt64 - 96) (lN 0) = lN (e32 (wds k)) := by decide +kernel
theorem rsv_ok : ∀ k, k < 24 → RSV k = lN (e32 (wds k)) := by decide +kernel
theorem rsv_0 {k : Nat} (h : 24 ≤ k) : RSV k = 0 := by
  unfold RSV
  rw [List.getD_eq_getElem?_getD, List.getElem?_eq_none (show rsvL.length ≤ k from h)]; rfl
theorem x_place (N : Nat) (hN : 2000 ≤ N) (sT : Nat → Nat → Int32) (iT : Nat → Int32) (jT : Nat → Int64) (v0 : Int64) : ∃ r, f_X8_placeInWords N sT iT jT v0 = some r ∧ PW r v0 := by
  have key : ∀ j k f, k + j = 24 → j < f → (∀ m, m < k → v0 ≠ lN (e32 (wds m))) → ∃ r, f_X8_placeInWords_2 N sT iT jT v0 f (nI k) = some r ∧ PW r v0 := by
    intro j
    induction j with
    | zero =>
      intro k f hk hf hm
      have : k = 24 := by omega
      subst this
      obtain ⟨f, rfl⟩ : ∃ m, f = m + 1 := ⟨f - 1, by omega⟩
      refine ⟨-1, ?_, Or.inr ⟨rfl, hm⟩⟩
      rw [f_X8_placeInWords_2, if_pos (by decide +kernel)]
    | succ j ih =>
      intro k f hk hf hm
      obtain ⟨g, rfl⟩ : ∃ g, f = g + 1 := ⟨f - 1, by omega⟩
      rw [f_X8_placeInWords_2, L24, if_neg (nI_ge (show k < 24 by omega) (by omega)), q_ck (show k < 24 by omega) (by omega), show ix (nI k) = k from q_ix (by omega), rsv_ok k (by omega), nI_1]
      by_cases c : lN (e32 (wds k)) = v0
      · rw [if_pos ((lg_cmp_eq _ _).mpr c)]
        exact ⟨nI k, rfl, Or.inl ⟨k, by omega, rfl, c.symm⟩⟩
      · rw [if_neg (fun h => c ((lg_cmp_eq _ _).mp h))]
        refine ih (k + 1) g (by omega) (by omega) (fun m hmk => ?_)
        rcases Nat.lt_or_ge m k with h | h
        · exact hm m h
        · have : m = k := by omega
          subst this; exact fun h => c h.symm
  exact key 24 0 N (by omega) (by omega) (fun m hm => absurd hm (Nat.not_lt_zero _))
/-! bytes and runs of them -/
def blk (c : Nat) : Bool := decide (c = 32) || decide (c = 10)
def isLt (c : Nat) : Bool := decide (97 ≤ c) && decide (c ≤ 122)
def isDg (c : Nat) : Bool := decide (48 ≤ c) && decide (c ≤ 57)
def rc (c : Nat) : Bool := isLt c || isDg c
def vvS (o : Nat → Nat) (st : Nat) : Nat → Int32
  | 0 => 0
  | i + 1 => if isDg (o (st + i)) then vvS o st i * 10 + nI (o (st + i)) - 48 else vvS o st i
def llS (o : Nat → Nat) (st : Nat) : Nat → Int64
  | 0 => 0
  | i + 1 => if isDg (o (st + i)) then llS o st i else llS o st i * 32 + (nI (o (st + i))).toInt64 - 96
def cDS (o : Nat → Nat) (st : Nat) : Nat → Nat
  | 0 => 0
  | i + 1 => if isDg (o (st + i)) then cDS o st i + 1 else cDS o st i
def nnS (o : Nat → Nat) (st : Nat) : Nat → Int32
  | 0 => 0
  | i + 1 => if i < 3 then 10 * nnS o st i + nI (o (st + i)) - 48 else nnS o st i
def wwS (o : Nat → Nat) (st : Nat) : Nat → Int64
  | 0 => 0
  | i + 1 => if i < 7 then (sll (wwS o st i) 8) ||| (nI (o (st + i))).toInt64 else wwS o st i
def alS (o : Nat → Nat) (st : Nat) (sm : Bool) : Nat → Bool
  | 0 => true
  | i + 1 => alS o st sm i && (isLt (o (st + i)) == sm)
def wlS (o : Nat → Nat) (st : Nat) : Nat → List Nat
  | 0 => []
  | i + 1 => (o (st + i) - 96) :: wlS o st i
theorem lt_dg {c : Nat} (h : isLt c = true) : isDg c = false := by
  unfold isLt at h; unfold isDg
  rw [Bool.and_eq_true, decide_eq_true_eq, decide_eq_true_eq] at h
  rw [Bool.and_eq_false_iff, decide_eq_false_iff_not, decide_eq_false_iff_not]
  omega
theorem lt_in {c : Nat} (h : isLt c = true) : 97 ≤ c ∧ c ≤ 122 := by
  unfold isLt at h
  rwa [Bool.and_eq_true, decide_eq_true_eq, decide_eq_true_eq] at h
theorem dg_in {c : Nat} (h : isDg c = true) : 48 ≤ c ∧ c ≤ 57 := by
  unfold isDg at h
  rwa [Bool.and_eq_true, decide_eq_true_eq, decide_eq_true_eq] at h
section
variable {o : Nat → Nat} {st : Nat}
theorem wl_ok : ∀ i, (∀ j, j < i → isLt (o (st + j)) = true) → wok (wlS o st i) ∧ (wlS o st i).length = i := by
  intro i
  induction i with
  | zero => intro _; exact ⟨fun x hx => absurd hx List.not_mem_nil, rfl⟩
  | succ i ih =>
    intro h
    obtain ⟨h1, h2⟩ := ih (fun j hj => h j (by omega))
    have := lt_in (h i (by omega))
    exact ⟨wok_k (by omega) (by omega) h1, by rw [wlS, List.length_cons, h2]⟩
theorem ll_w : ∀ i, i ≤ 7 → (∀ j, j < i → isLt (o (st + j)) = true) → llS o st i = lN (e32 (wlS o st i)) := by
  intro i
  induction i with
  | zero => intro _ _; rfl
  | succ i ih =>
    intro hi h
    have h1 := lt_in (h i (by omega))
    have hb := e32_b (wl_ok i (fun j hj => h j (by omega))).1 (by rw [(wl_ok i (fun j hj => h j (by omega))).2]; omega)
    rw [llS, lt_dg (h i (by omega)), if_neg (by decide), ih (by omega) (fun j hj => h j (by omega)), nI_l (by omega), show (32 : Int64) = lN 32 from rfl, lN_mul, lN_add, show (96 : Int64) = lN 96 from rfl, lN_sub (by omega), wlS, e32]
    exact congrArg lN (by omega)
theorem ww_w : ∀ i, i ≤ 7 → (∀ j, j < i → isLt (o (st + j)) = true) → wwS o st i = lN (e256 (wlS o st i)) := by
  intro i
  induction i with
  | zero => intro _ _; rfl
  | succ i ih =>
    intro hi h
    have h1 := lt_in (h i (by omega))
    have hb := e256_lt _ (wl_ok i (fun j hj => h j (by omega))).1
    rw [(wl_ok i (fun j hj => h j (by omega))).2] at hb
    have hp : 256 ^ i ≤ 256 ^ 6 := Nat.pow_le_pow_right (by omega) (by omega)
    have h6 : 256 ^ 6 = 2 ^ 48 := by decide
    rw [wwS, if_pos (by omega), ih (by omega) (fun j hj => h j (by omega)), nI_l (by omega), sll_or (by omega) (by omega), wlS, e256]
    exact congrArg lN (by omega)
theorem cD_le : ∀ i, cDS o st i ≤ i := by
  intro i
  induction i with
  | zero => exact Nat.le_refl _
  | succ i ih => rw [cDS]; split <;> omega
theorem cD_0 : ∀ i, (∀ j, j < i → rc (o (st + j)) = true) → (cDS o st i = 0 ↔ ∀ j, j < i → isLt (o (st + j)) = true) := by
  intro i
  induction i with
  | zero => intro _; exact ⟨fun _ j hj => absurd hj (Nat.not_lt_zero _), fun _ => rfl⟩
  | succ i ih =>
    intro h
    have ih := ih (fun j hj => h j (by omega))
    have hr := h i (by omega)
    unfold rc at hr
    rw [cDS]
    by_cases hd : isDg (o (st + i)) = true
    · rw [if_pos hd]
      constructor
      · intro e; omega
      · intro e
        have := lt_dg (e i (by omega))
        rw [hd] at this; cases this
    · rw [if_neg hd, ih]
      have hl : isLt (o (st + i)) = true := by
        rw [Bool.or_eq_true] at hr
        exact hr.resolve_right hd
      constructor
      · intro e j hj
        rcases Nat.lt_or_ge j i with h1 | h1
        · exact e j h1
        · rw [show j = i by omega]; exact hl
      · intro e j hj; exact e j (by omega)
theorem cD_n : ∀ i, (cDS o st i = i ↔ ∀ j, j < i → isDg (o (st + j)) = true) := by
  intro i
  induction i with
  | zero => exact ⟨fun _ j hj => absurd hj (Nat.not_lt_zero _), fun _ => rfl⟩
  | succ i ih =>
    have hle := cD_le (o := o) (st := st) i
    rw [cDS]
    by_cases hd : isDg (o (st + i)) = true
    · rw [if_pos hd]
      constructor
      · intro e j hj
        rcases Nat.lt_or_ge j i with h1 | h1
        · exact ih.mp (by omega) j h1
        · rw [show j = i by omega]; exact hd
      · intro e
        have := ih.mpr (fun j hj => e j (by omega))
        omega
    · rw [if_neg hd]
      constructor
      · intro e; omega
      · intro e; exact absurd (e i (by omega)) hd
theorem al_t (sm : Bool) : ∀ i, alS o st sm i = true ↔ ∀ j, j < i → isLt (o (st + j)) = sm := by
  intro i
  induction i with
  | zero => exact ⟨fun _ j hj => absurd hj (Nat.not_lt_zero _), fun _ => rfl⟩
  | succ i ih =>
    rw [alS, Bool.and_eq_true, ih, beq_iff_eq]
    constructor
    · rintro ⟨h1, h2⟩ j hj
      rcases Nat.lt_or_ge j i with h3 | h3
      · exact h1 j h3
      · rw [show j = i by omega]; exact h2
    · intro h; exact ⟨fun j hj => h j (by omega), h i (by omega)⟩
theorem nn_v : ∀ i, i ≤ 3 → (∀ j, j < i → isDg (o (st + j)) = true) → nnS o st i = vvS o st i ∧ ∃ v, v < 10 ^ i ∧ vvS o st i = nI v := by
  intro i
  induction i with
  | zero => intro _ _; exact ⟨rfl, 0, by omega, rfl⟩
  | succ i ih =>
    intro hi h
    obtain ⟨h1, v, hv, e⟩ := ih (by omega) (fun j hj => h j (by omega))
    have hd := h i (by omega)
    have hin := dg_in hd
    have hp : 10 ^ i ≤ 10 ^ 2 := Nat.pow_le_pow_right (by omega) (by omega)
    rw [nnS, if_pos (by omega), vvS, if_pos hd, h1, e, show (10 : Int32) = nI 10 from rfl, pk_mul, pk_mul, nI_add, nI_add, show (48 : Int32) = nI 48 from rfl, pk_sub (by omega), pk_sub (by omega)]
    refine ⟨congrArg nI (by omega), _, ?_, rfl⟩
    rw [Nat.pow_succ]; omega
end
