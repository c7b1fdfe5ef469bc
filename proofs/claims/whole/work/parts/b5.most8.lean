/-! PURE: most: the rounds -/
theorem hpa_of {n : Nat → Nat} {pa qu : Nat → Int32} {q : Nat → Nat} {t : Nat} (hq : BQ n pa qu q t) : ∀ v, v < 16 → TV pa v = true → pa v = nI (PV pa v) := by
  intro v hv hT
  obtain ⟨j, hj, e⟩ := (TV_s hq hv).mp hT
  subst e
  unfold PV
  rcases Nat.eq_zero_or_pos j with x | x
  · subst x
    rw [hq.2.1, hq.2.2.2.2.2.2, show ix (nI 14) = 14 from q_ix (by omega)]
  · obtain ⟨i, hi, e1, -⟩ := hq.2.2.2.2.2.1 j x hj
    have := (hq.1 i (by omega)).1
    rw [e1, show ix (nI (q i)) = q i from q_ix (by omega)]
theorem iZ_t {S : Nat → Bool} {v : Nat} {d : Int} (h : S v = true) : iZ S v d = d := if_pos h
theorem iZ_f {S : Nat → Bool} {v : Nat} {d : Int} (h : S v = false) : iZ S v d = 0 := by unfold iZ; rw [h]; rfl
theorem min_ex {R : Nat → Int} {T : Nat → Bool} {p rk : Nat → Nat} (ht : TRE R T p rk) (h : rk 15 < 17) (hT : T 15 = true) : ∃ D : Int, 0 ≤ D ∧ 0 < D ∧ ways R p D 15 := by
  obtain ⟨m1, m2, m3⟩ := min_p ht 17 15 1 h (by omega) hT (by omega)
  exact ⟨_, by omega, m1, m3⟩
def S14 : Nat → Bool := fun v => decide (v = 14)
section
variable (N : Nat) {iY : Nat → Int32} {tY : Nat → Nat → Int64} {jY : Nat → Int64} {c : Nat → Nat}
theorem y_153 (hN : 2000 ≤ N) (hM : cutZ (nZ c) S14 ≤ 63) : ∀ (r k F : Nat) (sY : Nat → Nat → Int32) (n : Nat → Nat), 63 ≤ F + r → r < k → (∀ i, i < 256 → sY 24 i = nI (n i)) → (∀ i, i < 256 → n i ≤ 1000000 + 16 * F) → (∀ S, S 14 = true → S 15 = false → cutZ (nZ n) S + (F : Int) = cutZ (nZ c) S) →
    ∃ F' sY', f_X11_most_153 N iY tY jY k sY (nI F) = some (nI F', iY, sY') ∧ F' ≤ 63 ∧ (∃ S, S 14 = true ∧ S 15 = false ∧ (F' : Int) = cutZ (nZ c) S) ∧ (∀ S, S 14 = true → S 15 = false → (F' : Int) ≤ cutZ (nZ c) S) ∧ (∀ k, k ≠ 24 → k ≠ 25 → k ≠ 26 → sY' k = sY k) := by
  intro r
  induction r with
  | zero =>
    intro k F sY n hr hk h24 hb hi
    obtain ⟨k, rfl⟩ : ∃ x, k = x + 1 := ⟨k - 1, by omega⟩
    have i14 := hi S14 rfl rfl
    have nn : ∀ i, i < 256 → 0 ≤ nZ n i := fun i _ => Int.natCast_nonneg _
    have n14 := cut_nn S14 nn
    have hF : F = 63 := by omega
    have h24' : ∀ i, i < 256 → n i < 2147483648 ∧ sY 24 i = nI (n i) := fun i hx => ⟨by have := hb i hx; omega, h24 i hx⟩
    obtain ⟨t, pa, qu, q, e1, e2, e3⟩ := y_finds N (iY := iY) (sY := sY) (tY := tY) (jY := jY) (n := n) hN h24'
    by_cases c15 : pa 15 < 0
    · rw [if_pos c15] at e1
      have T14 : TV pa 14 = true := (TV_s e2 (by omega)).mpr ⟨0, e2.2.2.1, e2.2.1⟩
      have T15 : TV pa 15 = false := decide_eq_false (fun x => by exact absurd c15 (Int32.not_lt.mpr x))
      have hT := cut_T e2 e3
      refine ⟨F, va_up (va_up sY 25 pa) 26 qu, ?_, by omega, ⟨TV pa, T14, T15, ?_⟩, fun S s1 s2 => ?_, ?_⟩
      · rw [f_X11_most_153, e1, q_bd]; dsimp only; rw [if_pos rfl]
      · have := hi (TV pa) T14 T15; omega
      · have h1 := hi S s1 s2; have h2 := cut_nn S nn; omega
      · intro k k1 k2 k3; rw [q_vn _ _ k3, q_vn _ _ k2]
    · exfalso
      have T15 : TV pa 15 = true := decide_eq_true (Int32.not_lt.mp c15)
      obtain ⟨rk, ht, hrk⟩ := TRE_of e2
      have r15 := hrk 15
      obtain ⟨D, hD, m1, m3⟩ := min_ex ht r15 T15
      have a1 := aug_cut ht S14 D 17 15 (nZ n) r15 (by omega) T15
      have a2 := cut_nn S14 (aug_nn ht (by omega) 17 15 (nZ n) r15 (by omega) T15 nn m3)
      rw [a1, iZ_t rfl, iZ_f rfl] at a2
      omega
  | succ r ih =>
    intro k F sY n hr hk h24 hb hi
    obtain ⟨k, rfl⟩ : ∃ x, k = x + 1 := ⟨k - 1, by omega⟩
    have i14 := hi S14 rfl rfl
    have nn : ∀ i, i < 256 → 0 ≤ nZ n i := fun i _ => Int.natCast_nonneg _
    have n14 := cut_nn S14 nn
    have hF : F ≤ 63 := by omega
    have h24' : ∀ i, i < 256 → n i < 2147483648 ∧ sY 24 i = nI (n i) := fun i hx => ⟨by have := hb i hx; omega, h24 i hx⟩
    obtain ⟨t, pa, qu, q, e1, e2, e3⟩ := y_finds N (iY := iY) (sY := sY) (tY := tY) (jY := jY) (n := n) hN h24'
    by_cases c15 : pa 15 < 0
    · rw [if_pos c15] at e1
      have T14 : TV pa 14 = true := (TV_s e2 (by omega)).mpr ⟨0, e2.2.2.1, e2.2.1⟩
      have T15 : TV pa 15 = false := decide_eq_false (fun x => by exact absurd c15 (Int32.not_lt.mpr x))
      have hT := cut_T e2 e3
      refine ⟨F, va_up (va_up sY 25 pa) 26 qu, ?_, by omega, ⟨TV pa, T14, T15, ?_⟩, fun S s1 s2 => ?_, ?_⟩
      · rw [f_X11_most_153, e1, q_bd]; dsimp only; rw [if_pos rfl]
      · have := hi (TV pa) T14 T15; omega
      · have h1 := hi S s1 s2; have h2 := cut_nn S nn; omega
      · intro k k1 k2 k3; rw [q_vn _ _ k3, q_vn _ _ k2]
    · rw [if_neg c15] at e1
      have T15 : TV pa 15 = true := decide_eq_true (Int32.not_lt.mp c15)
      obtain ⟨rk, ht, hrk⟩ := TRE_of e2
      have r15 := hrk 15
      have hpa := hpa_of e2
      have g24 : ∀ i, i < 256 → n i < 2147483648 ∧ va_up (va_up sY 25 pa) 26 qu 24 i = nI (n i) := h24'
      obtain ⟨d, d1, d2, d3⟩ := y_168 N (pa := pa) (iY := iY) (sY := va_up (va_up sY 25 pa) 26 qu) (tY := tY) (jY := jY) g24 rfl ht hpa (nI F) (fun x3 => jn (fun z => f_X11_most_153 N iY tY jY k z (nI F + x3)) (fun K_75 => f_X11_most_214 N iY tY jY (nI F) x3 K_75 N (va_up (va_up sY 25 pa) 26 qu) 15)) N 15 1000000 (by omega) (by omega) T15 (by omega)
      obtain ⟨m1, m2, m3⟩ := min_p ht N 15 ((1000000 : Nat) : Int) (by omega) (by omega) T15 (by omega)
      rw [← d3] at m1 m3
      obtain ⟨g', n', f1, f2, f3, f4⟩ := y_214 N (pa := pa) (iY := iY) (sY := va_up (va_up sY 25 pa) 26 qu) (tY := tY) (jY := jY) rfl ht hpa (nI F) d (fun z => f_X11_most_153 N iY tY jY k z (nI F + nI d)) N 15 (1000000 + 16 * F) (sY 24) n (by omega) (by omega) T15 h24 hb m3
      have hcut : ∀ S, S 14 = true → S 15 = false → cutZ (nZ n') S = cutZ (nZ n) S - (d : Int) := by
        intro S s1 s2
        rw [f4, aug_cut ht S (d : Int) N 15 (nZ n) (by omega) (by omega) T15]
        unfold iZ
        rw [s1, s2, if_pos rfl, if_neg (by decide)]; omega
      have c14 := hcut S14 rfl rfl
      have p14 := cut_nn S14 (R := nZ n') (fun i _ => Int.natCast_nonneg _)
      have rd : rk 15 * d ≤ 16 * d := Nat.mul_le_mul_right d (by omega)
      have hev : va_up (va_up (va_up sY 25 pa) 26 qu) 24 (sY 24) = va_up (va_up sY 25 pa) 26 qu := q_vid _ _
      rw [hev] at f1
      obtain ⟨F', sY', k1, k2, k3, k4, k5⟩ := ih k (F + d) (va_up (va_up (va_up sY 25 pa) 26 qu) 24 g') n' (by omega) (by omega) f2 (fun i hx => by have := f3 i hx; omega) (fun S s1 s2 => by have h1 := hcut S s1 s2; have h2 := hi S s1 s2; omega)
      refine ⟨F', sY', ?_, k2, k3, k4, fun k a1 a2 a3 => ?_⟩
      · rw [f_X11_most_153, e1, q_bd]
        dsimp only
        rw [if_neg (show ¬ (1 : Int32) = 0 by decide), q_jn]
        refine Eq.trans d1 ?_
        rw [q_jn]
        refine Eq.trans f1 ?_
        rw [nI_add]; exact k1
      · rw [k5 k a1 a2 a3, q_vn _ _ a1, q_vn _ _ a3, q_vn _ _ a2]
end
