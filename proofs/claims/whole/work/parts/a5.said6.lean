/-! PURE: said -/
def cN (V : Nat → Bool) : Nat → Nat
  | 0 => 0
  | i + 1 => cN V i + if V i then 1 else 0
theorem cN_le (V : Nat → Bool) : ∀ i, cN V i ≤ i := by
  intro i
  induction i with
  | zero => exact Nat.le_refl _
  | succ i ih => rw [cN]; split <;> omega
theorem cN_pc (x : Int32) : cN (fun q => tb x q) 7 = pc x := by
  unfold pc
  simp only [cN, Nat.zero_add]
theorem cN_P {x : Int32} {V : Nat → Bool} {P : Nat} (hP : P ≤ 7) (h : ∀ q, q < 32 → tb x q = (decide (q < P) && V q)) : cN (fun q => tb x q) 7 = cN V P := by
  have h1 : ∀ i, i ≤ P → cN (fun q => tb x q) i = cN V i := by
    intro i
    induction i with
    | zero => intro _; rfl
    | succ i ih =>
      intro hi
      rw [cN, cN, ih (by omega)]
      show cN V i + (if tb x i = true then 1 else 0) = _
      rw [h i (by omega), decide_eq_true (show i < P by omega), Bool.true_and]
  have h2 : ∀ j, P + j ≤ 7 → cN (fun q => tb x q) (P + j) = cN V P := by
    intro j
    induction j with
    | zero => intro _; exact h1 P (Nat.le_refl _)
    | succ j ih =>
      intro hj
      rw [show P + (j + 1) = (P + j) + 1 by omega, cN, ih (by omega)]
      show cN V P + (if tb x (P + j) = true then 1 else 0) = _
      rw [h (P + j) (by omega), decide_eq_false (show ¬ P + j < P by omega), Bool.false_and]; rfl
  have := h2 (7 - P) (by omega)
  rw [show P + (7 - P) = 7 by omega] at this
  exact this
section
variable (N : Nat) {qX : Nat → Option Nat} {iX : Nat → Int32} {iC : Nat → Int32} {tC : Nat → Nat → Int64} {sC : Nat → Nat → Int32} {iM : Nat → Int32} {sM : Nat → Nat → Int32} {iS : Nat → Int32} {sS : Nat → Nat → Int32} {P Q m : Nat}
theorem x_bitTail {x p1 : Int32} : ∀ (d i kx : Nat) (c : Int32), i + d = 7 → d < kx → (∀ q, i ≤ q → q < 7 → tb x q = false) → f_X10_bitAt_4 N x p1 kx c (nI i) = some (-1) := by
  intro d
  induction d with
  | zero =>
    intro i kx c hi hk _
    obtain ⟨kx, rfl⟩ : ∃ y, kx = y + 1 := ⟨kx - 1, by omega⟩
    rw [f_X10_bitAt_4, show (7 : Int32) = nI 7 from rfl, if_pos (nI_le (by omega) (by omega))]
  | succ d ih =>
    intro i kx c hi hk hz
    obtain ⟨kx, rfl⟩ : ∃ y, kx = y + 1 := ⟨kx - 1, by omega⟩
    rw [f_X10_bitAt_4, show (7 : Int32) = nI 7 from rfl, if_neg (nI_ge (show i < 7 by omega) (by omega)), x_has N _ (by omega), q_bd, q_jn, hz i (Nat.le_refl _) (by omega), if_pos (show bI false = 0 from rfl), nI_1]
    exact ih (i + 1) kx c (by omega) (by omega) (fun q h1 h2 => hz q (by omega) h2)
variable (iY : Nat → Int32) (sY : Nat → Nat → Int32) (tY : Nat → Nat → Int64) (jY : Nat → Int64)
theorem b_saidN (hN : 2000 ≤ N) (hL : IL (sY 6) P Q) (hI : ID (sY 6) P Q) (hm : m ≤ 40) (h276 : sY 6 276 = nI m) (hcr : CR P Q m sS (fun k => sY 6 (277 + k))) (ho : HO (sS 2) m) (hg : hgt (sS 2) m = 1) {x : Int32} (hx : ∀ q, q < 32 → tb x q = (decide (q < P) && vst (sY 6) (sS 2) q m 0)) {p1 : Int32} (K3 : (Int32 × (Nat → Nat → Int32)) → Option (Int32 × (Nat → Int32) × (Nat → Nat → Int32))) (iZ : Nat → Int32) (hK : ∀ a b, K3 (a, b) = some (-1, iZ, b)) : ∀ (d i kx ky c : Nat) (g : Nat → Int32), i + d = P → 8 - i < kx → d < ky → ∃ r g', f_X10_bitAt_4 N x p1 kx (nI c) (nI i) = some r ∧ f_X11_said_27 N iZ tY jY p1 K3 ky (va_up sY 48 g) (nI c) (nI i) = some (r, iZ, va_up sY 48 g') := by
  have hP := hL.P7
  intro d
  induction d with
  | zero =>
    intro i kx ky c g hi hk hky
    obtain ⟨ky, rfl⟩ : ∃ y, ky = y + 1 := ⟨ky - 1, by omega⟩
    refine ⟨-1, g, x_bitTail N (7 - i) i kx (nI c) (by omega) (by omega) (fun q h1 h2 => by rw [hx q (by omega), decide_eq_false (by omega), Bool.false_and]), ?_⟩
    rw [f_X11_said_27, if_pos (show va_up sY 48 g 6 0 ≤ nI i by rw [show va_up sY 48 g 6 0 = nI P from hL.s0]; exact nI_le (by omega) (by omega)), hK]
  | succ d ih =>
    intro i kx ky c g hi hk hky
    obtain ⟨kx, rfl⟩ : ∃ y, kx = y + 1 := ⟨kx - 1, by omega⟩
    obtain ⟨ky, rfl⟩ : ∃ y, ky = y + 1 := ⟨ky - 1, by omega⟩
    obtain ⟨g2, e⟩ := y_isSaid N (iY := iZ) (sY := va_up sY 48 g) (tY := tY) (jY := jY) (sS := sS) (P := P) (Q := Q) hN hL hI hm h276 hcr ho hg (p := i) (by omega)
    rw [q_vv, show va_up sY 48 g 6 = sY 6 from rfl] at e
    rw [f_X10_bitAt_4, show (7 : Int32) = nI 7 from rfl, if_neg (nI_ge (show i < 7 by omega) (by omega)), x_has N _ (by omega), q_bd, q_jn, hx i (by omega), decide_eq_true (show i < P by omega), Bool.true_and]
    rw [f_X11_said_27, if_neg (show ¬ va_up sY 48 g 6 0 ≤ nI i by rw [show va_up sY 48 g 6 0 = nI P from hL.s0]; exact nI_ge (by omega) (by omega)), e, q_bd]
    dsimp only
    rw [q_jn]
    cases hv : vst (sY 6) (sS 2) i m 0 with
    | false =>
      rw [if_pos (show bI false = 0 from rfl), if_pos (show bI false = 0 from rfl), nI_1]
      exact ih (i + 1) kx ky c g2 (by omega) (by omega) (by omega)
    | true =>
      rw [if_neg (show ¬ bI true = 0 by decide), if_neg (show ¬ bI true = 0 by decide)]
      by_cases c1 : nI c = p1
      · rw [if_pos c1, if_pos c1]
        exact ⟨_, g2, rfl, rfl⟩
      · rw [if_neg c1, if_neg c1, nI_1, nI_1]
        exact ih (i + 1) kx ky (c + 1) g2 (by omega) (by omega) (by omega)
theorem b_said (hN : 2000 ≤ N) (hC : CP (sY 6) iC sC) (hM : MP (sY 6) iM sM) (hL : IL (sY 6) P Q) (hI : ID (sY 6) P Q) (hS : SP (sY 6) iS sS P Q) (p1 : Int32) : ∃ r g g', f_X10_said N qX iX iS sS iM sM iC tC sC p1 = some (r, va_up sS 5 g) ∧ f_X11_said N iY sY tY jY p1 = some (r, va_up iY 0 0, va_up sY 48 g') := by
  have hP := hL.P7
  obtain ⟨m, o, hm, ho20, h276, h1, h0, hmo, hcr, ho, hg⟩ := hS
  unfold f_X10_said f_X11_said
  have q5 : va_up sS 5 (sS 5) = sS := q_vid _ _
  have q48 : va_up sY 48 (sY 48) = sY := q_vid _ _
  by_cases c0 : m = 0
  · have o0 := hmo.mp c0
    rw [if_pos (show iS 0 = 0 by rw [h0, o0]; rfl), if_pos (show sY 6 276 = 0 by rw [h276, c0]; rfl)]
    exact ⟨-1, sS 5, sY 48, by rw [q5], by rw [q48]⟩
  · have o0 : ¬ o = 0 := fun x => c0 (hmo.mpr x)
    rw [if_neg (show ¬ iS 0 = 0 by rw [h0]; exact nI_nb (b := 0) o0 (by omega) (by omega)), if_neg (show ¬ sY 6 276 = 0 by rw [h276]; exact nI_nb (b := 0) c0 (by omega) (by omega))]
    by_cases cp : (-1 : Int32) ≤ p1
    · rw [if_pos cp, if_pos cp]
      obtain ⟨g, e, hx⟩ := x_trueOf N (iC := iC) (tC := tC) (sC := sC) (iM := iM) (sM := sM) (iS := iS) (sS := sS) (P := P) (Q := Q) hN hC hM hL hI hm h1 hcr ho (hg c0)
      rw [e, q_bd, q_jn]
      dsimp only
      by_cases c1 : p1 = -1
      · simp only [if_pos c1]
        have hsm : sm (g 0) := sm_of (fun k hk h2 => by
          rw [hx k hk] at h2
          have := of_decide_eq_true ((Bool.and_eq_true _ _ ▸ h2 : _ ∧ _).1)
          omega)
        rw [x_bc N hsm, q_bd]
        have key := q_loop0 (fun k (z : Int32 × (Nat → Nat → Int32)) v => f_X11_said_27 N (va_up iY 0 0) tY jY p1 (fun z => some (z.1, va_up iY 0 0, z.2)) k z.2 z.1 v) (fun z => some (z.1, va_up iY 0 0, z.2)) P N (by omega) (fun i z => ∃ g, z = (nI (cN (fun q => vst (sY 6) (sS 2) q m 0) i), va_up sY 48 g)) (0, sY) ⟨sY 48, by rw [q48]; rfl⟩ (fun k z hz => by
          obtain ⟨g, rfl⟩ := hz
          show f_X11_said_27 N (va_up iY 0 0) tY jY p1 _ (k + 1) _ _ _ = _
          rw [f_X11_said_27]
          dsimp only
          rw [if_pos (show va_up sY 48 g 6 0 ≤ nI P by rw [show va_up sY 48 g 6 0 = nI P from hL.s0]; exact nI_le (by omega) (by omega))]) (fun k i z hi hz => by
          obtain ⟨g, rfl⟩ := hz
          obtain ⟨g2, e⟩ := y_isSaid N (iY := va_up iY 0 0) (sY := va_up sY 48 g) (tY := tY) (jY := jY) (sS := sS) (P := P) (Q := Q) hN hL hI hm h276 hcr ho (hg c0) (p := i) hi
          rw [q_vv, show va_up sY 48 g 6 = sY 6 from rfl] at e
          refine ⟨(nI (cN (fun q => vst (sY 6) (sS 2) q m 0) (i + 1)), va_up sY 48 g2), ⟨g2, rfl⟩, ?_⟩
          show f_X11_said_27 N (va_up iY 0 0) tY jY p1 _ (k + 1) _ _ _ = f_X11_said_27 N (va_up iY 0 0) tY jY p1 _ k _ _ _
          have hcn := cN_le (fun q => vst (sY 6) (sS 2) q m 0) i
          rw [f_X11_said_27]
          dsimp only
          rw [if_neg (show ¬ va_up sY 48 g 6 0 ≤ nI i by rw [show va_up sY 48 g 6 0 = nI P from hL.s0]; exact nI_ge hi (by omega)), e, q_bd, q_jn]
          dsimp only
          rw [cN]
          cases hv : vst (sY 6) (sS 2) i m 0 with
          | false => rw [if_pos (show bI false = 0 from rfl), nI_1]; rfl
          | true => rw [if_neg (show ¬ bI true = 0 by decide), if_neg (show ¬ nI (cN (fun q => vst (sY 6) (sS 2) q m 0) i) = p1 by rw [c1]; exact nI_m1 (by omega)), nI_1, nI_1]; rfl)
        obtain ⟨z, ⟨g2, rfl⟩, e2⟩ := key
        refine ⟨nI (pc (g 0)), g, g2, rfl, Eq.trans e2 ?_⟩
        dsimp only
        rw [← cN_pc, cN_P hP hx]
      · simp only [if_neg c1]
        obtain ⟨r, g2, d1, d2⟩ := b_saidN N (sS := sS) (P := P) (Q := Q) sY tY jY hN hL hI hm h276 hcr ho (hg c0) hx (p1 := p1) (fun z => some (-1, va_up iY 0 0, z.2)) (va_up iY 0 0) (fun _ _ => rfl) P 0 N N 0 (sY 48) (by omega) (by omega) (by omega)
        rw [q48] at d2
        unfold f_X10_bitAt
        rw [show f_X10_bitAt_4 N (g 0) p1 N 0 0 = _ from d1, q_bd]
        exact ⟨r, g, g2, rfl, d2⟩
    · rw [if_neg cp, if_neg cp]
      exact ⟨-1, sS 5, sY 48, by rw [q5], by rw [q48]⟩
end
