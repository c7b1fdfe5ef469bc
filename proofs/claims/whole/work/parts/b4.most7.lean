/-! PURE: most: a way's flow -/
theorem ways_n {R0 R : Nat → Int} {T : Nat → Bool} {p rk : Nat → Nat} (ht : TRE R0 T p rk) {d : Int} (hd : 0 ≤ d) {v : Nat} (hv : v < 16) (hT : T v = true) (c : v ≠ 14) (hw : ways R p d v) : d ≤ R (16 * p v + v) ∧ ways (edZ R (p v) v d) p d (p v) := by
  obtain ⟨h1, h2, h3, h4⟩ := ht v hv hT c
  have w0 : d ≤ R (16 * p v + v) := hw 0 (fun i hi => by rw [show i = 0 by omega]; exact c)
  refine ⟨w0, fun j hj => ?_⟩
  have w1 := hw (j + 1) (fun i hi => by
    cases i with
    | zero => exact c
    | succ i => exact hj i (by omega))
  obtain ⟨a1, a2, a3⟩ := it_rk ht j (p v) h1 h2 (fun i hi => hj i (by omega))
  have ne : itP p j (p v) ≠ v := fun x => by rw [x] at a3; omega
  have w1' : d ≤ R (16 * p (itP p j (p v)) + itP p j (p v)) := w1
  rcases ed_at (R := R) (u := p v) (v := v) (16 * p (itP p j (p v)) + itP p j (p v)) hd with e | e | ⟨e1, e2⟩
  · rw [e]; exact w1'
  · exact Int.le_trans w1' e
  · exact absurd (show itP p j (p v) = v by omega) ne
def edN (n : Nat → Nat) (a b d : Nat) : Nat → Nat := fun i => if i = b then (if b = a then n a - d else n b) + d else if i = a then n a - d else n i
theorem edN_Z {n : Nat → Nat} {p v d : Nat} (h : d ≤ n (16 * p + v)) : nZ (edN n (16 * p + v) (16 * v + p) d) = edZ (nZ n) p v (d : Int) := by
  funext i
  unfold edZ uZ nZ edN
  by_cases c : i = 16 * v + p
  · rw [if_pos c, if_pos c]
    by_cases c2 : 16 * v + p = 16 * p + v
    · rw [if_pos c2, if_pos c2]; omega
    · rw [if_neg c2, if_neg c2]; omega
  · rw [if_neg c, if_neg c]
    by_cases c2 : i = 16 * p + v
    · rw [if_pos c2, if_pos c2]; omega
    · rw [if_neg c2, if_neg c2]
theorem edN_le {n : Nat → Nat} {a b d B : Nat} (hb : b < 256) (ha : a < 256) (h : ∀ i, i < 256 → n i ≤ B) : ∀ i, i < 256 → edN n a b d i ≤ B + d := by
  intro i hi
  have h1 := h a ha
  have h2 := h b hb
  have h3 := h i hi
  unfold edN
  split
  · split <;> omega
  · split <;> omega
section
variable (N : Nat) {iY : Nat → Int32} {sY : Nat → Nat → Int32} {tY : Nat → Nat → Int64} {jY : Nat → Int64} {n0 : Nat → Nat} {pa : Nat → Int32} {rk : Nat → Nat}
theorem y_214 (h25 : sY 25 = pa) (ht : TRE (nZ n0) (TV pa) (PV pa) rk) (hpa : ∀ v, v < 16 → TV pa v = true → pa v = nI (PV pa v)) (v2 : Int32) (d : Nat) (K : (Nat → Nat → Int32) → Option (Int32 × (Nat → Int32) × (Nat → Nat → Int32))) : ∀ (k v B : Nat) (g : Nat → Int32) (n : Nat → Nat), rk v < k → v < 16 → TV pa v = true → (∀ i, i < 256 → g i = nI (n i)) → (∀ i, i < 256 → n i ≤ B) → ways (nZ n) (PV pa) (d : Int) v →
    ∃ g' n', f_X11_most_214 N iY tY jY v2 (nI d) K k (va_up sY 24 g) (nI v) = K (va_up sY 24 g') ∧ (∀ i, i < 256 → g' i = nI (n' i)) ∧ (∀ i, i < 256 → n' i ≤ B + rk v * d) ∧ nZ n' = augZ (PV pa) (d : Int) k (nZ n) v := by
  intro k
  induction k with
  | zero => intro v B g n hk; omega
  | succ k ih =>
    intro v B g n hk hv hT hg hB hw
    rw [augZ]
    by_cases c : v = 14
    · refine ⟨g, n, ?_, hg, fun i hi => Nat.le_trans (hB i hi) (Nat.le_add_right _ _), by rw [if_pos c]⟩
      rw [f_X11_most_214, if_pos (show nI v = 14 by rw [c]; rfl)]
    · obtain ⟨h1, h2, h3, h4⟩ := ht v hv hT c
      obtain ⟨w0, w1⟩ := ways_n ht (Int.natCast_nonneg d) hv hT c hw
      have w0' : d ≤ n (16 * PV pa v + v) := by
        have : (d : Int) ≤ (n (16 * PV pa v + v) : Int) := w0
        omega
      rw [← edN_Z w0'] at w1
      have hc : ∀ {α : Type} {y : Option α}, ck (nI v) 16 y = y := q_ck hv (by omega)
      have hca : ∀ {α : Type} {y : Option α}, ck (nI (16 * PV pa v + v)) 256 y = y := q_ck (by omega) (by omega)
      have hcb : ∀ {α : Type} {y : Option α}, ck (nI (16 * v + PV pa v)) 256 y = y := q_ck (by omega) (by omega)
      have e25 : va_up sY 24 g 25 = pa := h25
      have hg1 : ∀ i, i < 256 → upd (upd g (16 * PV pa v + v) (g (16 * PV pa v + v) - nI d)) (16 * v + PV pa v) (upd g (16 * PV pa v + v) (g (16 * PV pa v + v) - nI d) (16 * v + PV pa v) + nI d) i = nI (edN n (16 * PV pa v + v) (16 * v + PV pa v) d i) := by
        intro i hi
        have es : g (16 * PV pa v + v) - nI d = nI (n (16 * PV pa v + v) - d) := by rw [hg _ (by omega), pk_sub w0']
        rw [es]
        unfold edN
        by_cases c1 : i = 16 * v + PV pa v
        · rw [if_pos c1, c1, pk_us]
          by_cases c2 : 16 * v + PV pa v = 16 * PV pa v + v
          · rw [if_pos c2, c2, pk_us, nI_add]
          · rw [if_neg c2, pk_un c2, hg _ (by omega), nI_add]
        · rw [if_neg c1, pk_un c1]
          by_cases c2 : i = 16 * PV pa v + v
          · rw [if_pos c2, c2, pk_us]
          · rw [if_neg c2, pk_un c2]; exact hg i hi
      obtain ⟨g', n', e1, e2, e3, e4⟩ := ih (PV pa v) (B + d) _ (edN n (16 * PV pa v + v) (16 * v + PV pa v) d) (by omega) h1 h2 hg1 (edN_le (by omega) (by omega) hB) w1
      refine ⟨g', n', Eq.trans ?_ e1, e2, fun i hi => Nat.le_trans (e3 i hi) ?_, ?_⟩
      · rw [f_X11_most_214, if_neg (show ¬ nI v = 14 from nI_nb (b := 14) c (by omega) (by omega))]
        simp only [hc, e25]
        rw [show ix (nI v) = v from q_ix (by omega), hpa v hv hT, show (16 : Int32) = nI 16 from rfl, pk_mul, pk_mul, nI_add, nI_add]
        simp only [hca, hcb, q_nv]
        rw [show ix (nI (16 * PV pa v + v)) = 16 * PV pa v + v from q_ix (by omega), show ix (nI (16 * v + PV pa v)) = 16 * v + PV pa v from q_ix (by omega), q_ve, q_vv]
      · have : (rk (PV pa v) + 1) * d ≤ rk v * d := Nat.mul_le_mul_right d h3
        rw [Nat.succ_mul] at this
        omega
      · rw [if_neg c, e4, edN_Z w0']
end
