/-! PURE: most: class = reference -/
section
variable {s : Nat → Int32} {P Q : Nat}
theorem cl_own (hL : IL s P Q) {j : Nat} (hj : j < P) : clN s P j j = 0 := by
  have hP := hL.P7
  unfold clN
  have h1 : tb (s (124 + j)) j = false := by
    cases h : tb (s (124 + j)) j with
    | false => rfl
    | true => exact absurd rfl (hL.fo j j (by omega) h).2.2.1
  have h2 : tb (my s P j) j = false := by
    unfold my
    rw [tb_and, tb_and, tb_not _ (by omega), tb_pb j (by omega) j (by omega), decide_eq_true rfl]
    simp
  rw [h1, h2]
  rfl
theorem re_Z (X : Int32) (j : Nat) : ∀ n, (reN s P X j n : Int) = sZ (fun i => if tb X i then (clN s P j i : Int) else 0) n := by
  intro n
  induction n with
  | zero => rfl
  | succ n ih =>
    rw [reN, sZ, ← ih]
    split <;> omega
theorem re_ge (X : Int32) (j : Nat) {i : Nat} (hX : tb X i = true) : ∀ n, i < n → clN s P j i ≤ reN s P X j n := by
  intro n
  induction n with
  | zero => intro h; omega
  | succ n ih =>
    intro h
    rw [reN]
    by_cases c : i = n
    · subst c; rw [hX, if_pos rfl]; omega
    · have := ih (by omega)
      omega
theorem tm_Z (g : Nat) (X : Int32) : ∀ n, (tmN s P g X n : Int) = sZ (fun i => (if tb X i then 0 else (ix (s (143 + (5 * i + g))) : Int)) + ((min (reN s P X i P) (ix (s (178 + (5 * i + g)))) : Nat) : Int)) n := by
  intro n
  induction n with
  | zero => rfl
  | succ n ih =>
    rw [tmN, sZ, ← ih]
    split <;> omega
theorem wa_9 (hI : ID s P Q) {i g : Nat} (hi : i < 7) (hg : g < 5) : ix (s (178 + (5 * i + g))) ≤ 9 := by
  obtain ⟨z, hz, e2, -⟩ := hI.wa i g hi hg
  rw [e2, show ix (nI z) = z from q_ix (by omega)]; exact hz
theorem tm_cut (hL : IL s P Q) (hI : ID s P Q) {g : Nat} {S : Nat → Bool} (h14 : S 14 = true) (h15 : S 15 = false) {X : Int32} (hX : ∀ i, i < P → tb X i = S i) : (tmN s P g X P : Int) ≤ cutZ (nZ (capN s P g)) S := by
  have hP := hL.P7
  rw [cut_cols hP h14 h15, tm_Z]
  refine sZ_le P (fun j hj => ?_)
  show _ + _ ≤ _ + _
  rw [hX j hj]
  refine Int.add_le_add_left ?_ _
  cases hS : S (7 + j) with
  | true => rw [if_pos rfl]; omega
  | false =>
    rw [if_neg (by decide)]
    have h1 : (reN s P X j P : Int) ≤ giZ s P S j := by
      rw [re_Z]
      refine sZ_le P (fun i hi => ?_)
      show (if tb X i = true then _ else _) ≤ (if _ then _ else _)
      rw [hX i hi]
      cases S i with
      | false => rw [if_neg (by decide), if_neg (fun x => absurd x.2 (by decide))]; exact Int.le_refl _
      | true =>
        rw [if_pos rfl]
        by_cases c : i = j
        · rw [if_neg (fun x => x.1 c), c, cl_own hL hj]; exact Int.le_refl _
        · rw [if_pos ⟨c, rfl⟩]
          rcases dl_cl hL hI hi hj (Ne.symm c) with h | h
          · omega
          · omega
    omega
def cutS (s : Nat → Int32) (P g : Nat) (X : Int32) : Nat → Bool := fun v => if v < 7 then tb X v else if v < 14 then decide (ix (s (178 + (5 * (v - 7) + g))) ≤ reN s P X (v - 7) P) else decide (v = 14)
theorem cut_tm (hL : IL s P Q) (hI : ID s P Q) {g : Nat} (hg : g < 5) (X : Int32) : cutZ (nZ (capN s P g)) (cutS s P g X) ≤ (tmN s P g X P : Int) := by
  have hP := hL.P7
  have hX : ∀ i, i < P → cutS s P g X i = tb X i := fun i hi => by unfold cutS; rw [if_pos (by omega)]
  have hW : ∀ j, j < 7 → cutS s P g X (7 + j) = decide (ix (s (178 + (5 * j + g))) ≤ reN s P X j P) := fun j hj => by
    unfold cutS; rw [if_neg (by omega), if_pos (by omega), show 7 + j - 7 = j by omega]
  rw [cut_cols hP (S := cutS s P g X) rfl rfl, tm_Z]
  refine sZ_le P (fun j hj => ?_)
  show _ + _ ≤ _ + _
  rw [hX j hj, hW j (by omega)]
  refine Int.add_le_add_left ?_ _
  have h9 := wa_9 (P := P) hI (show j < 7 by omega) hg
  by_cases c : ix (s (178 + (5 * j + g))) ≤ reN s P X j P
  · rw [if_pos (decide_eq_true c)]; omega
  · rw [if_neg (fun x => c (of_decide_eq_true x))]
    have h1 : giZ s P (cutS s P g X) j ≤ (reN s P X j P : Int) := by
      rw [re_Z]
      refine sZ_le P (fun i hi => ?_)
      show (if _ then _ else _) ≤ (if tb X i = true then _ else _)
      rw [hX i hi]
      cases ht : tb X i with
      | false => rw [if_neg (fun x => absurd x.2 (by decide)), if_neg (by decide)]; exact Int.le_refl _
      | true =>
        rw [if_pos rfl]
        by_cases d : i = j
        · rw [if_neg (fun x => x.1 d)]; omega
        · rw [if_pos ⟨d, rfl⟩]
          rcases dl_cl hL hI hi hj (Ne.symm d) with h | h
          · have := re_ge (s := s) (P := P) X j ht P hi
            omega
          · omega
    omega
theorem mn_ge {g F : Nat} (hF : F ≤ 999) (h : ∀ x, F ≤ tmN s P g (nI x) P) : ∀ n, F ≤ mnN s P g n := by
  intro n
  induction n with
  | zero => exact hF
  | succ n ih => rw [mnN]; have := h n; omega
theorem mn_at {g x : Nat} : ∀ n, x < n → mnN s P g n ≤ tmN s P g (nI x) P := by
  intro n
  induction n with
  | zero => intro h; omega
  | succ n ih =>
    intro h
    rw [mnN]
    by_cases c : x = n
    · subst c; omega
    · have := ih (by omega)
      omega
def maS (S : Nat → Bool) : Nat → Int32
  | 0 => 0
  | n + 1 => if S n then maS S n ||| pb n else maS S n
theorem ma_tb (S : Nat → Bool) : ∀ n, n ≤ 7 → ∀ k, k < 32 → tb (maS S n) k = (decide (k < n) && S k) := by
  intro n
  induction n with
  | zero => intro _ k _; rw [maS, tb_0, decide_eq_false (by omega)]; rfl
  | succ n ih =>
    intro hn k hk
    rw [maS]
    by_cases c : k = n
    · subst c
      cases hS : S k with
      | true => rw [if_pos rfl, tb_or, ih (by omega) k hk, tb_pb k (by omega) k hk]; simp
      | false => rw [if_neg (by decide), ih (by omega) k hk, hS]; simp
    · have e : decide (k < n + 1) = decide (k < n) := by
        by_cases d : k < n
        · rw [decide_eq_true d, decide_eq_true (by omega)]
        · rw [decide_eq_false d, decide_eq_false (by omega)]
      rw [e]
      split
      · rw [tb_or, ih (by omega) k hk, tb_pb n (by omega) k hk, decide_eq_false (p := k = n) c, Bool.or_false]
      · exact ih (by omega) k hk
theorem mn_F (hL : IL s P Q) (hI : ID s P Q) {g F : Nat} (hg : g < 5) (hF : F ≤ 63) (h1 : ∃ S, S 14 = true ∧ S 15 = false ∧ (F : Int) = cutZ (nZ (capN s P g)) S) (h2 : ∀ S, S 14 = true → S 15 = false → (F : Int) ≤ cutZ (nZ (capN s P g)) S) : mnN s P g (2 ^ P) = F := by
  have hP := hL.P7
  refine Nat.le_antisymm ?_ (mn_ge (by omega) (fun x => ?_) _)
  · obtain ⟨S, s14, s15, e⟩ := h1
    obtain ⟨m, hm, em⟩ := bit_m (x := maS S P) hP (fun k hk h => by
      rw [ma_tb S P hP k hk, Bool.and_eq_true] at h
      exact of_decide_eq_true h.1)
    have h3 := tm_cut hL hI (g := g) s14 s15 (X := maS S P) (fun i hi => by rw [ma_tb S P hP i (by omega), decide_eq_true hi]; rfl)
    rw [em] at h3
    have h4 := mn_at (s := s) (P := P) (g := g) (2 ^ P) hm
    omega
  · have h3 := h2 (cutS s P g (nI x)) rfl rfl
    have h4 := cut_tm hL hI hg (nI x)
    omega
end
section
variable (N : Nat) {qX : Nat → Option Nat} {iX : Nat → Int32} {iC : Nat → Int32} {tC : Nat → Nat → Int64} {sC : Nat → Nat → Int32} {iM : Nat → Int32} {sM : Nat → Nat → Int32} {iE : Nat → Int32} {sE : Nat → Nat → Int32} {P Q : Nat}
variable (iY : Nat → Int32) (sY : Nat → Nat → Int32) (tY : Nat → Nat → Int64) (jY : Nat → Int64)
theorem b_most (hN : 2000 ≤ N) (hC : CP (sY 6) iC sC) (hM : MP (sY 6) iM sM) (hL : IL (sY 6) P Q) (hI : ID (sY 6) P Q) (p1 : Int32) :
    ∃ r sY', f_X10_most N qX iX iE sE iM sM iC tC sC p1 = some r ∧ f_X11_most N iY sY tY jY p1 = some (r, va_up iY 0 0, sY') ∧ (∀ k, k ≠ 24 → k ≠ 25 → k ≠ 26 → sY' k = sY k) := by
  have hP := hL.P7
  have hQ := hL.Q5
  unfold f_X10_most f_X11_most
  rw [x_isGood N hC hL.s1, y_isGood N _ sY tY jY (by omega) hL.s1, q_bd, q_bd]
  cases h1 : perB Q p1 with
  | false => exact ⟨-1, sY, rfl, rfl, fun _ _ _ _ => rfl⟩
  | true =>
  obtain ⟨g, hg, rfl⟩ := perB_t (by omega) h1
  obtain ⟨F, sY', e1, e2, e3, e4, e5⟩ := y_mostG N (iY := iY) (tY := tY) (jY := jY) hN hL hI (show g < 5 by omega)
  refine ⟨nI F, sY', ?_, ?_, e5⟩
  · rw [if_neg (show ¬ bI true = 0 by decide), x_mostOf N hN hC hM hL hI (by omega), q_bd, mn_F hL hI (by omega) e2 e3 e4]
  · rw [if_neg (show ¬ bI true = 0 by decide)]
    exact e1
end
