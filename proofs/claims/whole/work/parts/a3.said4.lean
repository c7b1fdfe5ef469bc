/-! PURE: a sentence's values -/
def vst (s w : Nat → Int32) (p : Nat) : Nat → Nat → Bool
  | 0, _ => false
  | k + 1, j => if w k = 15 then (if j = hgt w k - 1 then !(vst s w p k (hgt w k - 1)) else vst s w p k j)
    else if w k = 14 then (if j = hgt w k - 2 then (vst s w p k (hgt w k - 2) && vst s w p k (hgt w k - 1)) else vst s w p k j)
    else if w k = 13 then (if j = hgt w k - 2 then (vst s w p k (hgt w k - 2) || vst s w p k (hgt w k - 1)) else vst s w p k j)
    else (if j = hgt w k then lb s p (s (277 + 3 * k)) (s (277 + (3 * k + 1))) (s (277 + (3 * k + 2))) else vst s w p k j)
theorem sub_1 {h : Nat} (hh : h < 1000) : nI (h + 1) - 1 = nI h := by rw [show (1 : Int32) = nI 1 from rfl, pk_sub (by omega)]; rfl
theorem add_m1 {h : Nat} (hh : h < 1000) : nI (h + 1) + (-1) = nI h := by
  rw [← sub_1 hh, Int32.sub_eq_add_neg]
theorem SW_c {P Q : Nat} {w sg v c0 c1 c2 : Int32} (h : SW P Q w sg v c0 c1 c2) : (w = 15 ∧ c0 = 20) ∨ (w = 14 ∧ c0 = 21) ∨ (w = 13 ∧ c0 = 22) ∨ (w ≠ 15 ∧ w ≠ 14 ∧ w ≠ 13 ∧ c0 ≠ 20 ∧ c0 ≠ 21 ∧ c0 ≠ 22 ∧ LW P Q w sg v c0 c1 c2) := by
  rcases h with h | h | h | h
  · exact Or.inl h
  · exact Or.inr (Or.inl h)
  · exact Or.inr (Or.inr (Or.inl h))
  · refine Or.inr (Or.inr (Or.inr ?_))
    have hl : LW P Q w sg v c0 c1 c2 := h
    rcases h with ⟨i, hi, rfl, rfl⟩ | ⟨rfl, rfl, -⟩ | ⟨rfl, rfl, -⟩ | ⟨i, z, t, hi, rfl, rfl, -⟩
    · exact ⟨nI_nb (b := 15) (by omega) (by omega) (by omega), nI_nb (b := 14) (by omega) (by omega) (by omega), nI_nb (b := 13) (by omega) (by omega) (by omega), nI_nb (b := 20) (by omega) (by omega) (by omega), nI_nb (b := 21) (by omega) (by omega) (by omega), nI_nb (b := 22) (by omega) (by omega) (by omega), hl⟩
    · exact ⟨by decide, by decide, by decide, by decide, by decide, by decide, hl⟩
    · exact ⟨by decide, by decide, by decide, by decide, by decide, by decide, hl⟩
    · exact ⟨nI_nb (b := 15) (by omega) (by omega) (by omega), nI_nb (b := 14) (by omega) (by omega) (by omega), nI_nb (b := 13) (by omega) (by omega) (by omega), nI_nb (b := 20) (by omega) (by omega) (by omega), nI_nb (b := 21) (by omega) (by omega) (by omega), nI_nb (b := 22) (by omega) (by omega) (by omega), hl⟩
theorem hgt_le {w : Nat → Int32} {m : Nat} (h : HO w m) : ∀ k, k ≤ m → hgt w k ≤ 20 := by
  intro k
  induction k with
  | zero => intro _; exact Nat.zero_le _
  | succ k ih =>
    intro hk
    have e := ih (by omega)
    obtain ⟨-, -, h3⟩ := h k (by omega)
    rw [hgt]
    by_cases c : w k = 15
    · rw [if_pos c]; exact e
    · rw [if_neg c]
      by_cases d : w k = 14 ∨ w k = 13
      · rw [if_pos d]; omega
      · rw [if_neg d]; have := h3 c d; omega
section
variable (N : Nat) {s : Nat → Int32} {iC : Nat → Int32} {tC : Nat → Nat → Int64} {sC : Nat → Nat → Int32} {iM : Nat → Int32} {sM : Nat → Nat → Int32} {iS : Nat → Int32} {sS : Nat → Nat → Int32} {P Q m : Nat}
def MK (s w : Nat → Int32) (P i : Nat) (g : Nat → Int32) : Prop := ∀ j, j < hgt w i → ∀ q, q < 32 → tb (g j) q = (decide (q < P) && vst s w q i j)
theorem x_trueOf (hN : 2000 ≤ N) (hC : CP s iC sC) (hM : MP s iM sM) (hL : IL s P Q) (hI : ID s P Q) (hm : m ≤ 40) (h1 : iS 1 = nI m) (hcr : CR P Q m sS (fun k => s (277 + k))) (ho : HO (sS 2) m) (hg : hgt (sS 2) m = 1) : ∃ g, f_X6_trueOf N iS sS iM sM iC tC sC = some (g 0, va_up sS 5 g) ∧ ∀ q, q < 32 → tb (g 0) q = (decide (q < P) && vst s (sS 2) q m 0) := by
  have hP := hL.P7
  unfold f_X6_trueOf
  rw [q_jn]
  have key := q_loop0 (fun k (x : Int32 × (Nat → Nat → Int32)) v => f_X6_trueOf_5 N iS iM sM iC tC sC (fun z => if z.1 ≤ 0 then some (0, z.2) else some (z.2 5 0, z.2)) k x.2 x.1 v) (fun z => if z.1 ≤ 0 then some ((0 : Int32), z.2) else some (z.2 5 0, z.2)) m N (by omega) (fun i x => ∃ g, x = (nI (hgt (sS 2) i), va_up sS 5 g) ∧ MK s (sS 2) P i g) (0, sS) ⟨sS 5, by rw [q_vid]; rfl, fun j hj => absurd hj (Nat.not_lt_zero _)⟩ (fun k x hx => by
    obtain ⟨g, rfl, -⟩ := hx
    show f_X6_trueOf_5 N iS iM sM iC tC sC _ (k + 1) _ _ _ = _
    rw [f_X6_trueOf_5, h1, if_pos (nI_le (Nat.le_refl _) (by omega))]) (fun k i x hi hx => by
    obtain ⟨g, rfl, hk⟩ := hx
    show ∃ y, _ ∧ f_X6_trueOf_5 N iS iM sM iC tC sC _ (k + 1) _ _ _ = f_X6_trueOf_5 N iS iM sM iC tC sC _ k _ _ _
    have hi40 : i < 40 := by omega
    have hc : ∀ {α : Type} {y : Option α}, ck (nI i) 40 y = y := q_ck hi40 (by omega)
    have hle := hgt_le ho i (by omega)
    have hsw := SW_c (hcr i hi)
    obtain ⟨o1, o2, o3⟩ := ho i hi
    rw [f_X6_trueOf_5, h1, if_neg (nI_ge hi (by omega)), show (40 : Int32) = nI 40 from rfl, if_neg (nI_ge hi40 (by omega))]
    simp only [hc, q_jn]
    rw [show ix (nI i) = i from q_ix (by omega), nI_1]
    rcases hsw with ⟨w1, -⟩ | ⟨w1, -⟩ | ⟨w1, -⟩ | ⟨w15, w14, w13, -, -, -, hl⟩
    · -- not
      have h1' := o1 w1
      obtain ⟨a, ha⟩ : ∃ a, hgt (sS 2) i = a + 1 := ⟨hgt (sS 2) i - 1, by omega⟩
      refine ⟨(nI (hgt (sS 2) (i + 1)), va_up sS 5 (upd g a ((g a ^^^ (-1)) &&& ev P))), ⟨_, rfl, ?_⟩, ?_⟩
      · intro j hj q hq
        have eh : hgt (sS 2) (i + 1) = a + 1 := by rw [hgt, if_pos w1, ha]
        rw [eh] at hj
        rw [vst, if_pos w1, ha, show a + 1 - 1 = a from rfl]
        by_cases c : j = a
        · subst c
          rw [pk_us, if_pos rfl, tb_and, tb_not _ hq, tb_ev P (by omega) q hq, hk j (by omega) q hq]
          cases decide (q < P) <;> cases vst s (sS 2) q i j <;> rfl
        · rw [pk_un c, if_neg c]; exact hk j (by omega) q hq
      · dsimp only
        have eh : hgt (sS 2) (i + 1) = a + 1 := by rw [hgt, if_pos w1, ha]
        rw [eh, ha, if_pos (show va_up sS 5 g 2 i = 15 from w1), if_neg (show ¬ nI (a + 1) ≤ 0 from nI_ge (a := 0) (by omega) (by omega)), sub_1 (by omega), q_ck (show a < 20 by omega) (by omega), x_everyone N hC hL.s0, q_bd, q_ck (show a < 20 by omega) (by omega), q_nv, show ix (nI a) = a from q_ix (by omega), q_ve, q_vv]
    · -- and
      have h2' := o2 (Or.inl w1)
      obtain ⟨a, ha⟩ : ∃ a, hgt (sS 2) i = a + 2 := ⟨hgt (sS 2) i - 2, by omega⟩
      have n15 : ¬ sS 2 i = 15 := by rw [w1]; decide
      have eh : hgt (sS 2) (i + 1) = a + 1 := by rw [hgt, if_neg n15, if_pos (Or.inl w1), ha]; rfl
      refine ⟨(nI (hgt (sS 2) (i + 1)), va_up sS 5 (upd g a (g a &&& g (a + 1)))), ⟨_, rfl, ?_⟩, ?_⟩
      · intro j hj q hq
        rw [eh] at hj
        rw [vst, if_neg n15, if_pos w1, ha, show a + 2 - 2 = a from rfl, show a + 2 - 1 = a + 1 from rfl]
        by_cases c : j = a
        · subst c
          rw [pk_us, if_pos rfl, tb_and, hk j (by omega) q hq, hk (j + 1) (by omega) q hq]
          cases decide (q < P) <;> cases vst s (sS 2) q i j <;> cases vst s (sS 2) q i (j + 1) <;> rfl
        · rw [pk_un c, if_neg c]; exact hk j (by omega) q hq
      · dsimp only
        rw [eh, ha, if_neg (show ¬ va_up sS 5 g 2 i = 15 from n15), if_pos (show va_up sS 5 g 2 i = 14 from w1), if_neg (show ¬ nI (a + 2) ≤ 1 from nI_ge (a := 1) (by omega) (by omega)), show nI (a + 2) + (-1) = nI (a + 1) from add_m1 (by omega), sub_1 (by omega), q_ck (show a < 20 by omega) (by omega), q_ck (show a + 1 < 20 by omega) (by omega), q_ck (show a < 20 by omega) (by omega), q_nv, show ix (nI a) = a from q_ix (by omega), show ix (nI (a + 1)) = a + 1 from q_ix (by omega), q_ve, q_vv]
    · -- or
      have h2' := o2 (Or.inr w1)
      obtain ⟨a, ha⟩ : ∃ a, hgt (sS 2) i = a + 2 := ⟨hgt (sS 2) i - 2, by omega⟩
      have n15 : ¬ sS 2 i = 15 := by rw [w1]; decide
      have eh : hgt (sS 2) (i + 1) = a + 1 := by rw [hgt, if_neg n15, if_pos (Or.inr w1), ha]; rfl
      refine ⟨(nI (hgt (sS 2) (i + 1)), va_up sS 5 (upd g a (g a ||| g (a + 1)))), ⟨_, rfl, ?_⟩, ?_⟩
      · intro j hj q hq
        rw [eh] at hj
        rw [vst, if_neg n15, if_neg (show ¬ sS 2 i = 14 by rw [w1]; decide), if_pos w1, ha, show a + 2 - 2 = a from rfl, show a + 2 - 1 = a + 1 from rfl]
        by_cases c : j = a
        · subst c
          rw [pk_us, if_pos rfl, tb_or, hk j (by omega) q hq, hk (j + 1) (by omega) q hq]
          cases decide (q < P) <;> cases vst s (sS 2) q i j <;> cases vst s (sS 2) q i (j + 1) <;> rfl
        · rw [pk_un c, if_neg c]; exact hk j (by omega) q hq
      · dsimp only
        rw [eh, ha, if_neg (show ¬ va_up sS 5 g 2 i = 15 from n15), if_neg (show ¬ va_up sS 5 g 2 i = 14 by show ¬ sS 2 i = 14; rw [w1]; decide), if_pos (show va_up sS 5 g 2 i = 13 from w1), if_neg (show ¬ nI (a + 2) ≤ 1 from nI_ge (a := 1) (by omega) (by omega)), show nI (a + 2) + (-1) = nI (a + 1) from add_m1 (by omega), sub_1 (by omega), q_ck (show a < 20 by omega) (by omega), q_ck (show a + 1 < 20 by omega) (by omega), q_ck (show a < 20 by omega) (by omega), q_nv, show ix (nI a) = a from q_ix (by omega), show ix (nI (a + 1)) = a + 1 from q_ix (by omega), q_ve, q_vv]
    · -- a leaf
      have nb : ¬ (sS 2 i = 14 ∨ sS 2 i = 13) := fun x => by rcases x with x | x; exact w14 x; exact w13 x
      have h20 := o3 w15 nb
      have eh : hgt (sS 2) (i + 1) = hgt (sS 2) i + 1 := by rw [hgt, if_neg w15, if_neg nb]
      have est := x_ofStep N (iS := iS) (sS := va_up sS 5 g) (iC := iC) (tC := tC) (sC := sC) (iM := iM) (sM := sM) hN hC hM hL hI (k := i) hi40 (c0 := s (277 + 3 * i)) (c1 := s (277 + (3 * i + 1))) (c2 := s (277 + (3 * i + 2))) hl
      refine ⟨(nI (hgt (sS 2) (i + 1)), va_up sS 5 (upd g (hgt (sS 2) i) (lfM s (s (277 + 3 * i)) (s (277 + (3 * i + 1))) (s (277 + (3 * i + 2))) P))), ⟨_, rfl, ?_⟩, ?_⟩
      · intro j hj q hq
        rw [eh] at hj
        rw [vst, if_neg w15, if_neg w14, if_neg w13]
        by_cases c : j = hgt (sS 2) i
        · rw [if_pos c, c, pk_us, tb_lfM _ _ _ _ hq P hP]
        · rw [pk_un c, if_neg c]; exact hk j (by omega) q hq
      · dsimp only
        rw [eh, if_neg (show ¬ va_up sS 5 g 2 i = 15 from w15), if_neg (show ¬ va_up sS 5 g 2 i = 14 from w14), if_neg (show ¬ va_up sS 5 g 2 i = 13 from w13), show (20 : Int32) = nI 20 from rfl, if_neg (show ¬ nI 20 ≤ nI (hgt (sS 2) i) from nI_ge h20 (by omega)), est, q_bd, q_ck (show hgt (sS 2) i < 20 from h20) (by omega), q_nv, nI_1, show ix (nI (hgt (sS 2) i)) = hgt (sS 2) i from q_ix (by omega), q_ve, q_vv])
  obtain ⟨y, ⟨g, rfl, hk⟩, e⟩ := key
  refine ⟨g, Eq.trans e ?_, fun q hq => hk 0 (by omega) q hq⟩
  dsimp only
  rw [hg, if_neg (show ¬ nI 1 ≤ 0 by decide), q_ve]
end
