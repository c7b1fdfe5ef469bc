/-! PURE: most: what the search gives -/
def nZ (n : Nat → Nat) : Nat → Int := fun i => (n i : Int)
def TV (pa : Nat → Int32) : Nat → Bool := fun v => decide ((0 : Int32) ≤ pa v)
def PV (pa : Nat → Int32) : Nat → Nat := fun v => ix (pa v)
section
variable {n : Nat → Nat} {pa qu : Nat → Int32} {q : Nat → Nat} {t : Nat}
theorem TV_s (hq : BQ n pa qu q t) {v : Nat} (hv : v < 16) : TV pa v = true ↔ seen q t v := by
  unfold TV
  rcases hq.pa hv with ⟨h1, h2⟩ | ⟨h1, -, h2⟩
  · exact ⟨fun _ => h1, fun _ => decide_eq_true h2⟩
  · exact ⟨fun x => absurd (of_decide_eq_true x) h2, fun x => absurd x h1⟩
theorem TRE_of (hq : BQ n pa qu q t) : ∃ rk, TRE (nZ n) (TV pa) (PV pa) rk ∧ ∀ v, rk v < 17 := by
  have t16 := hq.t16
  have hx : ∀ v, ∃ j, j < 17 ∧ (seen q t v → j < t ∧ q j = v) := by
    intro v
    by_cases c : seen q t v
    · obtain ⟨j, hj, e⟩ := c
      exact ⟨j, by omega, fun _ => ⟨hj, e⟩⟩
    · exact ⟨0, by omega, fun x => absurd x c⟩
  refine ⟨fun v => Classical.choose (hx v), fun v hv hT h14 => ?_, fun v => (Classical.choose_spec (hx v)).1⟩
  obtain ⟨j, hj, e⟩ := (TV_s hq hv).mp hT
  subst e
  have rkj : ∀ i, i < t → Classical.choose (hx (q i)) = i := by
    intro i hi
    obtain ⟨a, b⟩ := (Classical.choose_spec (hx (q i))).2 ⟨i, hi, rfl⟩
    exact hq.2.2.2.1 _ _ a hi b
  have j1 : 1 ≤ j := by
    rcases Nat.eq_zero_or_pos j with x | x
    · subst x; exact absurd hq.2.1 h14
    · exact x
  obtain ⟨i, hi, e1, e2⟩ := hq.2.2.2.2.2.1 j j1 hj
  have qi := (hq.1 i (by omega)).1
  have ep : PV pa (q j) = q i := by unfold PV; rw [e1]; exact q_ix (by omega)
  rw [ep]
  refine ⟨qi, (TV_s hq qi).mpr ⟨i, by omega, rfl⟩, ?_, ?_⟩
  · show Classical.choose (hx (q i)) < Classical.choose (hx (q j))
    rw [rkj i (by omega), rkj j hj]; exact hi
  · show (0 : Int) < (n (16 * q i + q j) : Int)
    omega
theorem cut_T (hq : BQ n pa qu q t) (hc : clo n q t t 0) : cutZ (nZ n) (TV pa) = 0 := by
  refine cut_0 (fun u v hu hv h1 h2 => ?_)
  obtain ⟨i, hi, e⟩ := (TV_s hq hu).mp h1
  subst e
  by_cases c : n (16 * q i + v) = 0
  · unfold nZ; rw [c]; rfl
  · have := (TV_s hq hv).mpr (hc.1 i hi v hv c)
    rw [this] at h2; cases h2
end
section
variable (N : Nat) {iY : Nat → Int32} {sY : Nat → Nat → Int32} {tY : Nat → Nat → Int64} {jY : Nat → Int64} {n : Nat → Nat} {pa : Nat → Int32} {rk : Nat → Nat}
theorem y_168 (h24 : ∀ i, i < 256 → n i < 2147483648 ∧ sY 24 i = nI (n i)) (h25 : sY 25 = pa) (ht : TRE (nZ n) (TV pa) (PV pa) rk) (hpa : ∀ v, v < 16 → TV pa v = true → pa v = nI (PV pa v)) (v2 : Int32) (K : Int32 → Option (Int32 × (Nat → Int32) × (Nat → Nat → Int32))) : ∀ (k v m : Nat), rk v < k → v < 16 → TV pa v = true → m < 2147483648 → ∃ m', f_X11_most_168 N iY sY tY jY v2 K k (nI m) (nI v) = K (nI m') ∧ m' ≤ m ∧ (m' : Int) = minZ (nZ n) (PV pa) k (m : Int) v := by
  intro k
  induction k with
  | zero => intro v m hk; omega
  | succ k ih =>
    intro v m hk hv hT hm
    rw [minZ]
    by_cases c : v = 14
    · refine ⟨m, ?_, Nat.le_refl _, by rw [if_pos c]⟩
      rw [f_X11_most_168, if_pos (show nI v = 14 by rw [c]; rfl)]
    · obtain ⟨h1, h2, h3, h4⟩ := ht v hv hT c
      have hc : ∀ {α : Type} {y : Option α}, ck (nI v) 16 y = y := q_ck hv (by omega)
      have e : f_X11_most_168 N iY sY tY jY v2 K (k + 1) (nI m) (nI v) = f_X11_most_168 N iY sY tY jY v2 K k (nI (if n (16 * PV pa v + v) ≤ m then n (16 * PV pa v + v) else m)) (nI (PV pa v)) := by
        rw [f_X11_most_168, if_neg (show ¬ nI v = 14 from nI_nb (b := 14) c (by omega) (by omega))]
        simp only [hc]
        rw [show ix (nI v) = v from q_ix (by omega), h25, hpa v hv hT, show (16 : Int32) = nI 16 from rfl, pk_mul, nI_add, q_ck (show 16 * PV pa v + v < 256 by omega) (by omega), show ix (nI (16 * PV pa v + v)) = 16 * PV pa v + v from q_ix (by omega), (h24 _ (by omega)).2]
        unfold f_X11_lesser
        rw [i_le (h24 _ (by omega)).1 hm]
        by_cases d : n (16 * PV pa v + v) ≤ m
        · rw [if_pos d, if_pos d, q_bd]
        · rw [if_neg d, if_neg d, q_bd]
      obtain ⟨m', e1, e2, e3⟩ := ih (PV pa v) (if n (16 * PV pa v + v) ≤ m then n (16 * PV pa v + v) else m) (by omega) h1 h2 (by split <;> omega)
      refine ⟨m', e.trans e1, Nat.le_trans e2 (by split <;> omega), ?_⟩
      rw [if_neg c, e3]
      congr 1
      unfold nZ
      by_cases d : n (16 * PV pa v + v) ≤ m
      · rw [if_pos d]
        by_cases d2 : ((n (16 * PV pa v + v) : Int)) < (m : Int)
        · rw [if_pos d2]
        · rw [if_neg d2]; omega
      · rw [if_neg d, if_neg (by omega)]
end
