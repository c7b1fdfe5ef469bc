/-! PURE: sentences, a condition: the reference behind an operand -/
section
variable (N : Nat) {sT : Nat → Nat → Int32} {iT : Nat → Int32} {jT : Nat → Int64} {iY : Nat → Int32} {sY : Nat → Nat → Int32} {tY : Nat → Nat → Int64} {jY : Nat → Int64} {L lim st : Nat} {K6 : YZ → YK} {P Q M h e va vb : Nat} {sS : Nat → Nat → Int32}
theorem y_j22 (hN : 2000 ≤ N) (ha : va ≤ 1) (hb : vb ≤ 1) (hh : h ≤ 40) (hM : M + va + vb ≤ 45) (y43 : iY 43 = nI M) (y45 : iY 45 = nI (h + vb + va)) (t21 : va = 1 → sY 42 (h + vb) = 21) (t22 : vb = 1 → sY 42 h = 22) (tb : h = 0 ∨ sY 42 (h - 1) = 23) (hc : CR P Q M sS (sY 8)) :
    ∃ iY' c, f_X11_joins N iY sY tY jY 22 = some (iY', va_up sY 8 c) ∧ iY' 43 = nI (M + va + vb) ∧ iY' 45 = nI h ∧ (∀ k, k ≠ 43 → k ≠ 45 → iY' k = iY k) ∧ CR P Q (M + va + vb) (adF (adF sS M va 14) (M + va) vb 13) c := by
  obtain ⟨c1, e1, d1⟩ := y_pop N (P := P) (Q := Q) (tY := tY) (jY := jY) (g := h + vb) (m := M) (k := N - va) (fl := va) (v1 := 22) (w := 14) (c0 := 21) (iY := iY) (sY := sY) (sS := sS) ha (by omega) (by omega) y43 y45 t21 (Or.inl rfl) (Or.inl ⟨rfl, rfl⟩) hc
  obtain ⟨c2, e2, d2⟩ := y_pop N (P := P) (Q := Q) (tY := tY) (jY := jY) (g := h) (m := M + va) (k := N - va - vb) (fl := vb) (v1 := 22) (w := 13) (c0 := 22) (iY := va_up (va_up iY 45 (nI (h + vb))) 43 (nI (M + va))) (sY := va_up sY 8 c1) (sS := adF sS M va 14) hb (by omega) (by omega) rfl rfl t22 (Or.inr ⟨rfl, rfl⟩) (Or.inr ⟨rfl, rfl⟩) d1
  refine ⟨va_up (va_up (va_up (va_up iY 45 (nI (h + vb))) 43 (nI (M + va))) 45 (nI h)) 43 (nI (M + va + vb)), c2, ?_, rfl, rfl, fun k k1 k2 => ?_, d2⟩
  · unfold f_X11_joins
    rw [show N - va + va = N by omega] at e1
    rw [show N - va - vb + vb = N - va by omega] at e2
    rw [e1, e2, q_vv]
    obtain ⟨k, hk⟩ : ∃ k, N - va - vb = k + 1 := ⟨N - va - vb - 1, by omega⟩
    rw [hk]
    refine y_jstop N (h := h) (by omega) rfl ?_
    rcases tb with x | x
    · exact Or.inl x
    · refine Or.inr ?_
      rw [show va_up sY 8 c2 42 (h - 1) = sY 42 (h - 1) from rfl, x]
      exact ⟨by decide, fun y => absurd y.1 (by decide)⟩
  · rw [q_vn _ _ k1, q_vn _ _ k2, q_vn _ _ k1, q_vn _ _ k2]
theorem y_j21 (hN : 2000 ≤ N) (ha : va ≤ 1) (hb : vb ≤ 1) (hh : h ≤ 40) (hM : M + va ≤ 45) (y43 : iY 43 = nI M) (y45 : iY 45 = nI (h + vb + va)) (t21 : va = 1 → sY 42 (h + vb) = 21) (t22 : vb = 1 → sY 42 h = 22) (tb : h = 0 ∨ sY 42 (h - 1) = 23) (hc : CR P Q M sS (sY 8)) :
    ∃ iY' c, f_X11_joins N iY sY tY jY 21 = some (iY', va_up sY 8 c) ∧ iY' 43 = nI (M + va) ∧ iY' 45 = nI (h + vb) ∧ (∀ k, k ≠ 43 → k ≠ 45 → iY' k = iY k) ∧ CR P Q (M + va) (adF sS M va 14) c := by
  obtain ⟨c1, e1, d1⟩ := y_pop N (P := P) (Q := Q) (tY := tY) (jY := jY) (g := h + vb) (m := M) (k := N - va) (fl := va) (v1 := 21) (w := 14) (c0 := 21) (iY := iY) (sY := sY) (sS := sS) ha (by omega) (by omega) y43 y45 t21 (Or.inl rfl) (Or.inl ⟨rfl, rfl⟩) hc
  refine ⟨va_up (va_up iY 45 (nI (h + vb))) 43 (nI (M + va)), c1, ?_, rfl, rfl, fun k k1 k2 => ?_, d1⟩
  · unfold f_X11_joins
    rw [show N - va + va = N by omega] at e1
    rw [e1]
    obtain ⟨k, hk⟩ : ∃ k, N - va = k + 1 := ⟨N - va - 1, by omega⟩
    rw [hk]
    refine y_jstop N (h := h + vb) (by omega) rfl ?_
    rcases (by omega : vb = 0 ∨ vb = 1) with rfl | rfl
    · rcases tb with x | x
      · exact Or.inl (by omega)
      · refine Or.inr ?_
        rw [show va_up sY 8 c1 42 (h + 0 - 1) = sY 42 (h - 1) from rfl, x]
        exact ⟨by decide, fun y => absurd y.1 (by decide)⟩
    · refine Or.inr ?_
      rw [show va_up sY 8 c1 42 (h + 1 - 1) = sY 42 h from rfl, t22 rfl]
      exact ⟨by decide, fun y => absurd y.2 (by decide)⟩
  · rw [q_vn _ _ k1, q_vn _ _ k2]
/-- and, or: what the reference pushes -/
theorem y_behJ {iY2 iY3 : Nat → Int32} {sY2 sY3 : Nat → Nat → Int32} {g : Nat} {v : Int32} (hg : g < 45) (hT : TR L lim st iT jT iY jY) (hv : (iT 7 = nI 14 ∧ v = 21) ∨ (iT 7 = nI 13 ∧ v = 22)) (e1 : f_X11_nots N iY sY tY jY = some (iY2, sY2)) (e2 : f_X11_joins N iY2 sY2 tY jY v = some (iY3, sY3)) (f2 : ∀ k, k ≠ 43 → k ≠ 45 → k ≠ 46 → iY2 k = iY k) (f3 : ∀ k, k ≠ 43 → k ≠ 45 → k ≠ 46 → iY3 k = iY k) (y45 : iY3 45 = nI g) : f_X11_behind N iY sY tY jY = bd (f_X11_next N (va_up (va_up iY3 45 (nI (g + 1))) 47 0) (va_up sY3 42 (upd (sY3 42) g v)) tY jY) (fun (iY_26, jY_27) => some ((1 : Int32), iY_26, (va_up sY3 42 (upd (sY3 42) g v)), jY_27)) := by
  have t2 := TR_y hT f2
  have t3 := TR_y hT f3
  unfold f_X11_behind
  rw [e1, q_bd]
  dsimp only
  rw [lw14, lw13, t_word N t2 (k := 14) (by omega), t_word N t2 (k := 13) (by omega)]
  simp only [q_bd, q_b0, decide_eq_true_eq, q_jn]
  rcases hv with ⟨h7, rfl⟩ | ⟨h7, rfl⟩
  · rw [if_pos h7, if_pos h7, e2, q_bd]
    dsimp only
    rw [t_word N t3 (k := 14) (by omega)]
    simp only [q_bd, q_b0, decide_eq_true_eq]
    rw [if_pos h7, y45, q_ck hg (by omega), q_nv, show ix (nI g) = g from q_ix (by omega), nI_1]
  · have n14 : ¬ iT 7 = nI 14 := by rw [h7]; exact nI_nb (by omega) (by omega) (by omega)
    rw [if_neg n14, if_pos h7, if_neg n14, e2, q_bd]
    dsimp only
    rw [t_word N t3 (k := 14) (by omega)]
    simp only [q_bd, q_b0, decide_eq_true_eq]
    rw [if_neg n14, y45, q_ck hg (by omega), q_nv, show ix (nI g) = g from q_ix (by omega), nI_1]
end
