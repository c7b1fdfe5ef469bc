/-! PURE: a sentence's value for one person, in the reference -/
theorem nar_bI (b : Bool) : vp_nar .boolean (bI b) = bI b := by cases b <;> decide
theorem nar_b1 : vp_nar .boolean 1 = bI true := by decide
theorem nar_b0 : vp_nar .boolean 0 = bI false := by decide
section
variable (N : Nat) {iY : Nat → Int32} {sY : Nat → Nat → Int32} {tY : Nat → Nat → Int64} {jY : Nat → Int64} {sS : Nat → Nat → Int32} {P Q m : Nat}
theorem y_isSaid (hN : 2000 ≤ N) (hL : IL (sY 6) P Q) (hI : ID (sY 6) P Q) (hm : m ≤ 40) (h276 : sY 6 276 = nI m) (hcr : CR P Q m sS (fun k => sY 6 (277 + k))) (ho : HO (sS 2) m) (hg : hgt (sS 2) m = 1) {p : Nat} (hp : p < P) : ∃ g, f_X11_isSaid N iY sY tY jY (nI p) = some (bI (vst (sY 6) (sS 2) p m 0), va_up sY 48 g) := by
  have hP := hL.P7
  unfold f_X11_isSaid
  rw [q_jn]
  have key := q_loop0 (fun k (x : Int32 × (Nat → Nat → Int32)) v => f_X11_isSaid_4 N iY tY jY (nI p) (fun z => zb (z 48 0) (some (z 48 0, z))) k x.2 x.1 v) (fun z => zb (z.2 48 0) (some (z.2 48 0, z.2))) m N (by omega) (fun i x => ∃ g, x = (nI (hgt (sS 2) i), va_up sY 48 g) ∧ ∀ j, j < hgt (sS 2) i → g j = bI (vst (sY 6) (sS 2) p i j)) (0, sY) ⟨sY 48, by rw [q_vid]; rfl, fun j hj => absurd hj (Nat.not_lt_zero _)⟩ (fun k x hx => by
    obtain ⟨g, rfl, -⟩ := hx
    show f_X11_isSaid_4 N iY tY jY (nI p) _ (k + 1) _ _ _ = _
    rw [f_X11_isSaid_4]
    dsimp only
    rw [if_pos (show va_up sY 48 g 6 276 ≤ nI m by rw [show va_up sY 48 g 6 276 = nI m from h276]; exact nI_le (Nat.le_refl _) (by omega))]) (fun k i x hi hx => by
    obtain ⟨g, rfl, hk⟩ := hx
    show ∃ y, _ ∧ f_X11_isSaid_4 N iY tY jY (nI p) _ (k + 1) _ _ _ = f_X11_isSaid_4 N iY tY jY (nI p) _ k _ _ _
    have hle := hgt_le ho i (by omega)
    have hsw := SW_c (hcr i hi)
    obtain ⟨o1, o2, o3⟩ := ho i hi
    have n0 : (277 : Int32) + (3 : Int32) * nI i = nI (277 + 3 * i) := by rw [L3, pk_mul, show (277 : Int32) = nI 277 from rfl, nI_add]
    have n1 : nI (277 + 3 * i) + 1 = nI (277 + (3 * i + 1)) := nI_1 _
    have n2 : nI (277 + 3 * i) + 2 = nI (277 + (3 * i + 2)) := by rw [L2, nI_add]; rfl
    have hc : ∀ {α : Type} {y : Option α}, ck (nI (277 + 3 * i)) 457 y = y := q_ck (by omega) (by omega)
    have hc1 : ∀ {α : Type} {y : Option α}, ck (nI (277 + (3 * i + 1))) 457 y = y := q_ck (by omega) (by omega)
    have hc2 : ∀ {α : Type} {y : Option α}, ck (nI (277 + (3 * i + 2))) 457 y = y := q_ck (by omega) (by omega)
    rw [f_X11_isSaid_4]
    dsimp only
    rw [if_neg (show ¬ va_up sY 48 g 6 276 ≤ nI i by rw [show va_up sY 48 g 6 276 = nI m from h276]; exact nI_ge hi (by omega)), n0, q_nv, n1, n2]
    simp only [hc, hc1, hc2, q_jn]
    rw [show ix (nI (277 + 3 * i)) = 277 + 3 * i from q_ix (by omega), show ix (nI (277 + (3 * i + 1))) = 277 + (3 * i + 1) from q_ix (by omega), show ix (nI (277 + (3 * i + 2))) = 277 + (3 * i + 2) from q_ix (by omega), nI_1]
    rcases hsw with ⟨w1, c1⟩ | ⟨w1, c1⟩ | ⟨w1, c1⟩ | ⟨w15, w14, w13, c20, c21, c22, hl⟩
    · -- not
      have h1' := o1 w1
      obtain ⟨a, ha⟩ : ∃ a, hgt (sS 2) i = a + 1 := ⟨hgt (sS 2) i - 1, by omega⟩
      have eh : hgt (sS 2) (i + 1) = a + 1 := by rw [hgt, if_pos w1, ha]
      have ga := hk a (by omega)
      refine ⟨(nI (hgt (sS 2) (i + 1)), va_up sY 48 (upd g a (bI (!(vst (sY 6) (sS 2) p i a))))), ⟨_, rfl, ?_⟩, ?_⟩
      · intro j hj
        rw [eh] at hj
        rw [vst, if_pos w1, ha, show a + 1 - 1 = a from rfl]
        by_cases c : j = a
        · rw [if_pos c, c, pk_us]
        · rw [pk_un c, if_neg c]; exact hk j (by omega)
      · dsimp only
        rw [eh, ha, if_pos (show va_up sY 48 g 6 (277 + 3 * i) = 20 from c1), sub_1 (by omega), q_ck (show a < 45 by omega) (by omega), show ix (nI a) = a from q_ix (by omega), q_ve, ga]
        cases vst (sY 6) (sS 2) p i a with
        | true => rw [if_neg (show ¬ bI true = 0 by decide), q_ck (show a < 45 by omega) (by omega), q_nv, q_vv, nar_b0]; rfl
        | false => rw [if_pos (show bI false = 0 from rfl), q_ck (show a < 45 by omega) (by omega), q_nv, q_vv, nar_b1]; rfl
    · -- and
      have h2' := o2 (Or.inl w1)
      obtain ⟨a, ha⟩ : ∃ a, hgt (sS 2) i = a + 2 := ⟨hgt (sS 2) i - 2, by omega⟩
      have n15 : ¬ sS 2 i = 15 := by rw [w1]; decide
      have eh : hgt (sS 2) (i + 1) = a + 1 := by rw [hgt, if_neg n15, if_pos (Or.inl w1), ha]; rfl
      have ga := hk a (by omega)
      have gb := hk (a + 1) (by omega)
      refine ⟨(nI (hgt (sS 2) (i + 1)), va_up sY 48 (upd g a (bI (vst (sY 6) (sS 2) p i a && vst (sY 6) (sS 2) p i (a + 1))))), ⟨_, rfl, ?_⟩, ?_⟩
      · intro j hj
        rw [eh] at hj
        rw [vst, if_neg n15, if_pos w1, ha, show a + 2 - 2 = a from rfl, show a + 2 - 1 = a + 1 from rfl]
        by_cases c : j = a
        · rw [if_pos c, c, pk_us]
        · rw [pk_un c, if_neg c]; exact hk j (by omega)
      · dsimp only
        have q1 : va_up sY 48 g 6 (277 + 3 * i) = 21 := c1
        rw [eh, ha, if_neg (show ¬ va_up sY 48 g 6 (277 + 3 * i) = 20 by rw [q1]; decide), if_pos q1, if_pos q1, show nI (a + 2) + (-1) = nI (a + 1) from add_m1 (by omega), sub_1 (by omega), q_ck (show a < 45 by omega) (by omega), show ix (nI a) = a from q_ix (by omega), show ix (nI (a + 1)) = a + 1 from q_ix (by omega), q_ve, ga, gb, q_ck (show a + 1 < 45 by omega) (by omega)]
        simp only [q_ck (show a < 45 by omega) (show 45 ≤ 2000 by omega), q_nv, q_vv, nar_b0, nar_b1]
        cases vst (sY 6) (sS 2) p i a with
        | false => rfl
        | true => cases vst (sY 6) (sS 2) p i (a + 1) with
          | false => rfl
          | true => rfl
    · -- or
      have h2' := o2 (Or.inr w1)
      obtain ⟨a, ha⟩ : ∃ a, hgt (sS 2) i = a + 2 := ⟨hgt (sS 2) i - 2, by omega⟩
      have n15 : ¬ sS 2 i = 15 := by rw [w1]; decide
      have n14 : ¬ sS 2 i = 14 := by rw [w1]; decide
      have eh : hgt (sS 2) (i + 1) = a + 1 := by rw [hgt, if_neg n15, if_pos (Or.inr w1), ha]; rfl
      have ga := hk a (by omega)
      have gb := hk (a + 1) (by omega)
      refine ⟨(nI (hgt (sS 2) (i + 1)), va_up sY 48 (upd g a (bI (vst (sY 6) (sS 2) p i a || vst (sY 6) (sS 2) p i (a + 1))))), ⟨_, rfl, ?_⟩, ?_⟩
      · intro j hj
        rw [eh] at hj
        rw [vst, if_neg n15, if_neg n14, if_pos w1, ha, show a + 2 - 2 = a from rfl, show a + 2 - 1 = a + 1 from rfl]
        by_cases c : j = a
        · rw [if_pos c, c, pk_us]
        · rw [pk_un c, if_neg c]; exact hk j (by omega)
      · dsimp only
        have q1 : va_up sY 48 g 6 (277 + 3 * i) = 22 := c1
        have q21 : ¬ va_up sY 48 g 6 (277 + 3 * i) = 21 := by rw [q1]; decide
        rw [eh, ha, if_neg (show ¬ va_up sY 48 g 6 (277 + 3 * i) = 20 by rw [q1]; decide), if_neg q21, if_pos q1, if_neg q21, show nI (a + 2) + (-1) = nI (a + 1) from add_m1 (by omega), sub_1 (by omega), q_ck (show a < 45 by omega) (by omega), show ix (nI a) = a from q_ix (by omega), show ix (nI (a + 1)) = a + 1 from q_ix (by omega), q_ve, ga, gb, q_ck (show a + 1 < 45 by omega) (by omega)]
        simp only [q_ck (show a < 45 by omega) (show 45 ≤ 2000 by omega), q_nv, q_vv, nar_b0, nar_b1]
        cases vst (sY 6) (sS 2) p i a with
        | true => rfl
        | false => cases vst (sY 6) (sS 2) p i (a + 1) with
          | false => rfl
          | true => rfl
    · -- a leaf
      have nb : ¬ (sS 2 i = 14 ∨ sS 2 i = 13) := fun x => by rcases x with x | x; exact w14 x; exact w13 x
      have h20 := o3 w15 nb
      have eh : hgt (sS 2) (i + 1) = hgt (sS 2) i + 1 := by rw [hgt, if_neg w15, if_neg nb]
      have est := y_isLeaf N (iY := iY) (sY := va_up sY 48 g) (tY := tY) (jY := jY) (P := P) (Q := Q) hN hL hI hp hl
      refine ⟨(nI (hgt (sS 2) (i + 1)), va_up sY 48 (upd g (hgt (sS 2) i) (bI (lb (sY 6) p (sY 6 (277 + 3 * i)) (sY 6 (277 + (3 * i + 1))) (sY 6 (277 + (3 * i + 2))))))), ⟨_, rfl, ?_⟩, ?_⟩
      · intro j hj
        rw [eh] at hj
        rw [vst, if_neg w15, if_neg w14, if_neg w13]
        by_cases c : j = hgt (sS 2) i
        · rw [if_pos c, c, pk_us]
        · rw [pk_un c, if_neg c]; exact hk j (by omega)
      · dsimp only
        rw [eh, if_neg (show ¬ va_up sY 48 g 6 (277 + 3 * i) = 20 from c20), if_neg (show ¬ va_up sY 48 g 6 (277 + 3 * i) = 21 from c21), if_neg (show ¬ va_up sY 48 g 6 (277 + 3 * i) = 22 from c22), show f_X11_isLeaf N iY (va_up sY 48 g) tY jY (nI p) (va_up sY 48 g 6 (277 + 3 * i)) (va_up sY 48 g 6 (277 + (3 * i + 1))) (va_up sY 48 g 6 (277 + (3 * i + 2))) = _ from est, q_bd, q_ck (show hgt (sS 2) i < 45 by omega) (by omega), q_nv, nI_1, show ix (nI (hgt (sS 2) i)) = hgt (sS 2) i from q_ix (by omega), q_ve, q_vv, nar_bI]
        rfl)
  obtain ⟨y, ⟨g, rfl, hk⟩, e⟩ := key
  refine ⟨g, Eq.trans e ?_⟩
  dsimp only
  rw [q_ve, hk 0 (by omega), q_zb]
end
