/-! PURE: most: what two may deal, seen from both sides -/
section
variable {s : Nat → Int32} {P Q : Nat}
theorem my_tbn {i j : Nat} (hP : P ≤ 7) (hi : i < P) (hj : j < P) (hij : j ≠ i) : tb (my s P i) j = (!(tb (kn s i) j) || tb (s (124 + i)) j) := by
  unfold my
  rw [tb_and, tb_and, tb_ev P (by omega) j (by omega), tb_not _ (by omega), tb_pb i (by omega) j (by omega), tb_or, tb_not _ (by omega), decide_eq_true hj, decide_eq_false hij]
  rfl
theorem kn_sy (hL : IL s P Q) (hI : ID s P Q) {i j : Nat} (hi : i < P) (hj : j < P) : tb (kn s i) j = tb (kn s j) i := by
  have hP := hL.P7
  cases h : tb (kn s i) j with
  | true => exact (kn_tb hL hI (by omega) h).2.2.2.symm
  | false =>
    cases h2 : tb (kn s j) i with
    | false => rfl
    | true =>
      have := (kn_tb hL hI (by omega) h2).2.2.2
      rw [this] at h; cases h
theorem fo_sy (hL : IL s P Q) {i j : Nat} (hi : i < P) (hj : j < P) : tb (s (124 + i)) j = tb (s (124 + j)) i := by
  have hP := hL.P7
  cases h : tb (s (124 + i)) j with
  | true => exact (hL.fo i j (by omega) h).2.2.2.symm
  | false =>
    cases h2 : tb (s (124 + j)) i with
    | false => rfl
    | true =>
      have := (hL.fo j i (by omega) h2).2.2.2
      rw [this] at h; cases h
theorem dl_cl (hL : IL s P Q) (hI : ID s P Q) {i j : Nat} (hi : i < P) (hj : j < P) (hij : j ≠ i) : (dlN s P i j = 1000000 ∧ clN s P j i = 999) ∨ dlN s P i j = clN s P j i := by
  have hP := hL.P7
  unfold dlN clN
  rw [my_tbn hP hi hj hij, my_tbn hP hj hi (Ne.symm hij), ← kn_sy hL hI hi hj, ← fo_sy hL hi hj, (hI.dl i j (by omega) (by omega)).1]
  cases tb (s (124 + i)) j with
  | true =>
    refine Or.inl ⟨?_, ?_⟩
    · rw [Bool.or_true, if_pos rfl, if_pos rfl]
    · rw [if_pos rfl]
  | false =>
    refine Or.inr ?_
    simp
end
