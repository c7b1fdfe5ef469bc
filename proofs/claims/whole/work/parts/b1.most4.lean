/-! PURE: most: the search, its loops -/
section
variable (N : Nat) {iY : Nat → Int32} {sY : Nat → Nat → Int32} {tY : Nat → Nat → Int64} {jY : Nat → Int64} {n : Nat → Nat}
def clo (n : Nat → Nat) (q : Nat → Nat) (t h w : Nat) : Prop := (∀ i, i < h → ∀ v, v < 16 → n (16 * q i + v) ≠ 0 → seen q t v) ∧ (∀ v, v < w → n (16 * q h + v) ≠ 0 → seen q t v)
theorem y_f49 (h24 : ∀ i, i < 256 → n i < 2147483648 ∧ sY 24 i = nI (n i)) (h : Nat) (K17 : Int32 × (Nat → Nat → Int32) → Option (Int32 × (Nat → Nat → Int32))) (K7 : (Nat → Nat → Int32) → Option (Int32 × (Nat → Nat → Int32))) : ∀ (r w t k : Nat) (pa qu : Nat → Int32) (q : Nat → Nat), w + r = 16 → r < k → BQ n pa qu q t → h < t → clo n q t h w →
    ∃ t' pa' qu' q', f_X11_finds_49 N iY tY jY (nI h) K17 K7 k (va_up (va_up sY 25 pa) 26 qu) (nI t) (nI w) = K17 (nI t', va_up (va_up sY 25 pa') 26 qu') ∧ BQ n pa' qu' q' t' ∧ t ≤ t' ∧ clo n q' t' (h + 1) 0 := by
  intro r
  induction r with
  | zero =>
    intro w t k pa qu q hw hk hq hh hc
    obtain ⟨k, rfl⟩ : ∃ x, k = x + 1 := ⟨k - 1, by omega⟩
    refine ⟨t, pa, qu, q, ?_, hq, Nat.le_refl _, fun i hi v hv e => ?_, fun v hv => absurd hv (Nat.not_lt_zero _)⟩
    · rw [f_X11_finds_49, show (16 : Int32) = nI 16 from rfl, if_pos (nI_le (by omega) (by omega))]
    · by_cases c : i = h
      · subst c; exact hc.2 v (by omega) e
      · exact hc.1 i (by omega) v hv e
  | succ r ih =>
    intro w t k pa qu q hw hk hq hh hc
    obtain ⟨k, rfl⟩ : ∃ x, k = x + 1 := ⟨k - 1, by omega⟩
    have t16 := hq.t16
    obtain ⟨qh, eh⟩ := hq.1 h hh
    have hc16 : ∀ {α : Type} {y : Option α}, ck (nI w) 16 y = y := q_ck (by omega) (by omega)
    have hch : ∀ {α : Type} {y : Option α}, ck (nI h) 16 y = y := q_ck (by omega) (by omega)
    have e1 : va_up (va_up sY 25 pa) 26 qu 25 = pa := rfl
    have e2 : va_up (va_up sY 25 pa) 26 qu 26 = qu := rfl
    have e3 : va_up (va_up sY 25 pa) 26 qu 24 = sY 24 := rfl
    have go : ∀ {t1 : Nat} {q1 : Nat → Nat}, t ≤ t1 → (∀ i, i < t → q1 i = q i) → seen q1 t1 w ∨ n (16 * q h + w) = 0 → clo n q1 t1 h (w + 1) := by
      intro t1 q1 ht1 hq1 hs
      have up : ∀ v, seen q t v → seen q1 t1 v := fun v ⟨j, hj, e⟩ => ⟨j, by omega, by rw [hq1 j hj]; exact e⟩
      refine ⟨fun i hi v hv e => ?_, fun v hv e => ?_⟩
      · rw [hq1 i (by omega)] at e; exact up v (hc.1 i hi v hv e)
      · rw [hq1 h hh] at e
        by_cases c : v = w
        · subst c
          rcases hs with x | x
          · exact x
          · exact absurd x e
        · exact up v (hc.2 v (by omega) e)
    rw [f_X11_finds_49, show (16 : Int32) = nI 16 from rfl, if_neg (nI_ge (show w < 16 by omega) (by omega))]
    simp only [hc16, hch, q_jn, e1, e2, e3]
    rw [show ix (nI w) = w from q_ix (by omega), show ix (nI h) = h from q_ix (by omega), eh, pk_mul, nI_add, q_ck (show 16 * q h + w < 256 by omega) (by omega), show ix (nI (16 * q h + w)) = 16 * q h + w from q_ix (by omega), (h24 _ (by omega)).2, nI_1, nI_1]
    rcases hq.pa (show w < 16 by omega) with ⟨p1, p2⟩ | ⟨p1, p2, p3⟩
    · rw [if_pos p2]
      exact ih (w + 1) t k pa qu q (by omega) (by omega) hq hh (go (Nat.le_refl _) (fun _ _ => rfl) (Or.inl p1))
    · rw [if_neg p3]
      by_cases c : n (16 * q h + w) = 0
      · rw [c, if_pos (show nI 0 = 0 from rfl)]
        exact ih (w + 1) t k pa qu q (by omega) (by omega) hq hh (go (Nat.le_refl _) (fun _ _ => rfl) (Or.inr c))
      · have ha := hq.add hh (show w < 16 by omega) p1 c
        have t17 := ha.t16
        rw [if_neg (show ¬ nI (n (16 * q h + w)) = 0 by rw [show (0 : Int32) = nI 0 from rfl, nI_eq (h24 _ (by omega)).1 (by omega)]; exact c), q_nv, q_ck (show t < 16 by omega) (by omega), q_nv, show ix (nI t) = t from q_ix (by omega)]
        have ev : va_up (va_up (va_up (va_up sY 25 pa) 26 qu) 25 (upd pa w (nI (q h)))) 26 (upd qu t (nI w)) = va_up (va_up sY 25 (upd pa w (nI (q h)))) 26 (upd qu t (nI w)) := by
          rw [q_vc (va_up sY 25 pa) (k := 26) (j := 25) qu _ (by omega), q_vv, q_vv]
        rw [ev]
        obtain ⟨t', pa', qu', q', f1, f2, f3, f4⟩ := ih (w + 1) (t + 1) k _ _ _ (by omega) (by omega) ha (by omega) (go (Nat.le_succ _) (fun i hi => if_neg (by omega)) (Or.inl ⟨t, by omega, if_pos rfl⟩))
        exact ⟨t', pa', qu', q', f1, f2, by omega, f4⟩
end
