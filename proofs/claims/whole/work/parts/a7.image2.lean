/-! PURE: image, restore, whole -/
def IMG (k : Nat) (sY : Nat → Nat → Int32) (tY : Nat → Nat → Int64) (iI : Nat → Int32) (iC : Nat → Int32) (tC : Nat → Nat → Int64) (sC : Nat → Nat → Int32) (iM : Nat → Int32) (sM : Nat → Nat → Int32) (iS : Nat → Int32) (sS : Nat → Nat → Int32) : Prop :=
  iI 0 = sY 51 k ∧ (iI 0 ≠ 0 → STT (fun i => sY 49 (457 * k + i)) (fun i => tY 50 (12 * k + i)) iC tC sC iM sM iS sS)
theorem IMG.to {k : Nat} {sY sY' : Nat → Nat → Int32} {tY tY' : Nat → Nat → Int64} {iI : Nat → Int32} {iC : Nat → Int32} {tC : Nat → Nat → Int64} {sC : Nat → Nat → Int32} {iM : Nat → Int32} {sM : Nat → Nat → Int32} {iS : Nat → Int32} {sS : Nat → Nat → Int32} (h : IMG k sY tY iI iC tC sC iM sM iS sS) (e51 : sY' 51 k = sY 51 k) (e49 : ∀ i, i < 457 → sY' 49 (457 * k + i) = sY 49 (457 * k + i)) (e50 : ∀ i, i < 12 → tY' 50 (12 * k + i) = tY 50 (12 * k + i)) : IMG k sY' tY' iI iC tC sC iM sM iS sS :=
  ⟨h.1.trans e51.symm, fun x => (h.2 x).to e49 e50⟩
section
variable (N : Nat) {iY : Nat → Int32} {sY : Nat → Nat → Int32} {tY : Nat → Nat → Int64} {jY : Nat → Int64}
theorem y_image (hN : 2000 ≤ N) {k : Nat} (hk : k < 2) : f_X11_image N iY sY tY jY (nI k) = some (1, va_up iY 0 0, va_up (va_up sY 49 (imS (sY 6) (sY 49) k 457)) 51 (upd (sY 51) k 1), va_up tY 50 (imT (tY 9) (tY 50) k 12)) := by
  unfold f_X11_image
  have hin : ¬ nI k < 0 ∧ nI k ≤ 1 := ⟨nI_n0 (by omega), nI_le (b := 1) (by omega) (by omega)⟩
  rw [y_isIn, q_bd, q_dt hin, q_jn, y_im18 N hN hk, q_jn, y_im51 N hN hk, q_ck hk (by omega), q_nv, show ix (nI k) = k from q_ix (by omega), nar_b1]
  rfl
theorem y_restore (hN : 2000 ≤ N) {k : Nat} (hk : k < 2) : f_X11_restore N iY sY tY jY (nI k) = if sY 51 k = 0 then some (0, va_up iY 0 0, sY, tY) else some (1, va_up (va_up iY 0 0) 23 0, va_up sY 6 (reS (sY 49) (sY 6) k 457), va_up tY 9 (reT (tY 50) (tY 9) k 12)) := by
  unfold f_X11_restore
  have hin : ¬ nI k < 0 ∧ nI k ≤ 1 := ⟨nI_n0 (by omega), nI_le (b := 1) (by omega) (by omega)⟩
  rw [y_isIn, q_bd, q_dt hin, q_ck hk (by omega), show ix (nI k) = k from q_ix (by omega), q_jn, y_re27 N hN hk, q_jn, y_re60 N hN hk]
theorem y_imN {p1 : Int32} (h : ¬ (p1 = 0 ∨ p1 = 1)) : f_X11_image N iY sY tY jY p1 = some (0, va_up iY 0 0, sY, tY) ∧ f_X11_restore N iY sY tY jY p1 = some (0, va_up iY 0 0, sY, tY) := by
  have hin : ¬ (¬ p1 < 0 ∧ p1 ≤ 1) := by
    intro x
    obtain ⟨j, hj, e⟩ := in_le (m := 1) (by omega) x.1 x.2
    rcases (by omega : j = 0 ∨ j = 1) with rfl | rfl
    · exact h (Or.inl e)
    · exact h (Or.inr e)
  unfold f_X11_image f_X11_restore
  rw [y_isIn, q_bd, q_df hin, q_bd, q_df hin]
  exact ⟨rfl, rfl⟩
/-- the place that is written -/
theorem IMG.new {k : Nat} (hk : k < 2) {iI : Nat → Int32} {iC : Nat → Int32} {tC : Nat → Nat → Int64} {sC : Nat → Nat → Int32} {iM : Nat → Int32} {sM : Nat → Nat → Int32} {iS : Nat → Int32} {sS : Nat → Nat → Int32} (h : STT (sY 6) (tY 9) iC tC sC iM sM iS sS) : IMG k (va_up (va_up sY 49 (imS (sY 6) (sY 49) k 457)) 51 (upd (sY 51) k 1)) (va_up tY 50 (imT (tY 9) (tY 50) k 12)) (va_up iI 0 1) iC tC sC iM sM iS sS := by
  refine ⟨?_, fun _ => h.to (fun i hi => ?_) (fun i hi => ?_)⟩
  · rw [q_ve, q_ve, pk_us]
  · show imS (sY 6) (sY 49) k 457 (457 * k + i) = _
    unfold imS; rw [if_pos (by omega), show 457 * k + i - 457 * k = i by omega]
  · show imT (tY 9) (tY 50) k 12 (12 * k + i) = _
    unfold imT; rw [if_pos (by omega), show 12 * k + i - 12 * k = i by omega]
theorem IMG.old {k l : Nat} (hk : k < 2) (hl : l < 2) (hkl : l ≠ k) {iI : Nat → Int32} {iC : Nat → Int32} {tC : Nat → Nat → Int64} {sC : Nat → Nat → Int32} {iM : Nat → Int32} {sM : Nat → Nat → Int32} {iS : Nat → Int32} {sS : Nat → Nat → Int32} (h : IMG l sY tY iI iC tC sC iM sM iS sS) : IMG l (va_up (va_up sY 49 (imS (sY 6) (sY 49) k 457)) 51 (upd (sY 51) k 1)) (va_up tY 50 (imT (tY 9) (tY 50) k 12)) iI iC tC sC iM sM iS sS := by
  refine h.to ?_ (fun i hi => ?_) (fun i hi => ?_)
  · rw [q_ve, pk_un hkl]
  · show imS (sY 6) (sY 49) k 457 (457 * l + i) = _
    unfold imS; rw [if_neg (by omega)]
  · show imT (tY 9) (tY 50) k 12 (12 * l + i) = _
    unfold imT; rw [if_neg (by omega)]
variable {qX : Nat → Option Nat} {iX : Nat → Int32} {iC : Nat → Int32} {tC : Nat → Nat → Int64} {sC : Nat → Nat → Int32} {iM : Nat → Int32} {sM : Nat → Nat → Int32} {iS : Nat → Int32} {sS : Nat → Nat → Int32} {iI iI2 : Nat → Int32} {iC2 iC3 : Nat → Int32} {tC2 tC3 : Nat → Nat → Int64} {sC2 sC3 : Nat → Nat → Int32} {iM2 iM3 : Nat → Int32} {sM2 sM3 : Nat → Nat → Int32} {iS2 iS3 : Nat → Int32} {sS2 sS3 : Nat → Nat → Int32}
theorem b_image (hN : 2000 ≤ N) (h : STT (sY 6) (tY 9) iC tC sC iM sM iS sS) (h0 : IMG 0 sY tY iI iC2 tC2 sC2 iM2 sM2 iS2 sS2) (h1 : IMG 1 sY tY iI2 iC3 tC3 sC3 iM3 sM3 iS3 sS3) (p1 : Int32) : ∃ r iI' iC2' tC2' sC2' iM2' sM2' iS2' sS2' iI2' iC3' tC3' sC3' iM3' sM3' iS3' sS3' sY' tY', f_X10_image N qX iX iC tC sC iM sM iS sS iI iC2 tC2 sC2 iM2 sM2 iS2 sS2 iI2 iC3 tC3 sC3 iM3 sM3 iS3 sS3 p1 = some (r, iI', iC2', tC2', sC2', iM2', sM2', iS2', sS2', iI2', iC3', tC3', sC3', iM3', sM3', iS3', sS3') ∧ f_X11_image N iY sY tY jY p1 = some (r, va_up iY 0 0, sY', tY') ∧ IMG 0 sY' tY' iI' iC2' tC2' sC2' iM2' sM2' iS2' sS2' ∧ IMG 1 sY' tY' iI2' iC3' tC3' sC3' iM3' sM3' iS3' sS3' ∧ (∀ k, k ≠ 49 → k ≠ 51 → sY' k = sY k) ∧ (∀ k, k ≠ 50 → tY' k = tY k) := by
  have fr : ∀ j, (∀ k, k ≠ 49 → k ≠ 51 → va_up (va_up sY 49 (imS (sY 6) (sY 49) j 457)) 51 (upd (sY 51) j 1) k = sY k) := fun j k k1 k2 => by rw [q_vn _ _ k2, q_vn _ _ k1]
  by_cases hp : p1 = 0 ∨ p1 = 1
  · rcases hp with rfl | rfl
    · obtain ⟨a1, a2, a3, a4, a5, a6, a7, b1, b2, b3, b4⟩ := x_copyT N h iC2 tC2 sC2 iM2 sM2 iS2 sS2
      refine ⟨1, va_up iI 0 1, a1, a2, a3, a4, a5, a6, a7, iI2, iC3, tC3, sC3, iM3, sM3, iS3, sS3, _, _, ?_, y_image N hN (k := 0) (by omega), IMG.new (by omega) b4, IMG.old (by omega) (by omega) (by omega) h1, fr 0, fun k hk => q_vn _ _ hk⟩
      unfold f_X10_image
      rw [if_pos rfl, if_pos rfl, b1, q_bd]
      dsimp only
      rw [b2, q_bd]
      dsimp only
      rw [b3, q_bd]
    · obtain ⟨a1, a2, a3, a4, a5, a6, a7, b1, b2, b3, b4⟩ := x_copyT N h iC3 tC3 sC3 iM3 sM3 iS3 sS3
      refine ⟨1, iI, iC2, tC2, sC2, iM2, sM2, iS2, sS2, va_up iI2 0 1, a1, a2, a3, a4, a5, a6, a7, _, _, ?_, y_image N hN (k := 1) (by omega), IMG.old (by omega) (by omega) (by omega) h0, IMG.new (by omega) b4, fr 1, fun k hk => q_vn _ _ hk⟩
      unfold f_X10_image
      rw [if_neg (show ¬ (1 : Int32) = 0 by decide), if_pos rfl, if_neg (show ¬ (1 : Int32) = 0 by decide), b1, q_bd]
      dsimp only
      rw [b2, q_bd]
      dsimp only
      rw [b3, q_bd]
  · refine ⟨0, iI, iC2, tC2, sC2, iM2, sM2, iS2, sS2, iI2, iC3, tC3, sC3, iM3, sM3, iS3, sS3, sY, tY, ?_, (y_imN N hp).1, h0, h1, fun _ _ _ => rfl, fun _ _ => rfl⟩
    unfold f_X10_image
    rw [if_neg (fun x => hp (Or.inl x)), if_neg (fun x => hp (Or.inr x))]
theorem b_restore (hN : 2000 ≤ N) (h : STT (sY 6) (tY 9) iC tC sC iM sM iS sS) (h0 : IMG 0 sY tY iI iC2 tC2 sC2 iM2 sM2 iS2 sS2) (h1 : IMG 1 sY tY iI2 iC3 tC3 sC3 iM3 sM3 iS3 sS3) (p1 : Int32) :
    (∃ r, f_X10_restore N qX iX iC tC sC iM sM iS sS iI iC2 tC2 sC2 iM2 sM2 iS2 sS2 iI2 iC3 tC3 sC3 iM3 sM3 iS3 sS3 p1 = some (r, iX, iC, tC, sC, iM, sM, iS, sS) ∧ f_X11_restore N iY sY tY jY p1 = some (r, va_up iY 0 0, sY, tY)) ∨
    (∃ r iC' tC' sC' iM' sM' iS' sS' s' t', f_X10_restore N qX iX iC tC sC iM sM iS sS iI iC2 tC2 sC2 iM2 sM2 iS2 sS2 iI2 iC3 tC3 sC3 iM3 sM3 iS3 sS3 p1 = some (r, va_up iX 6 0, iC', tC', sC', iM', sM', iS', sS') ∧ f_X11_restore N iY sY tY jY p1 = some (r, va_up (va_up iY 0 0) 23 0, va_up sY 6 s', va_up tY 9 t') ∧ STT s' t' iC' tC' sC' iM' sM' iS' sS') := by
  by_cases hp : p1 = 0 ∨ p1 = 1
  · rcases hp with rfl | rfl
    · unfold f_X10_restore
      rw [if_pos rfl, if_pos rfl, show f_X11_restore N iY sY tY jY 0 = _ from y_restore N hN (k := 0) (by omega), ← h0.1]
      by_cases c : iI 0 = 0
      · rw [if_pos c, if_pos c]; exact Or.inl ⟨0, rfl, rfl⟩
      · rw [if_neg c, if_neg c]
        obtain ⟨a1, a2, a3, a4, a5, a6, a7, b1, b2, b3, b4⟩ := x_copyT N (h0.2 c) iC tC sC iM sM iS sS
        refine Or.inr ⟨1, a1, a2, a3, a4, a5, a6, a7, _, _, ?_, rfl, b4.to (fun k hk => if_pos hk) (fun k hk => if_pos hk)⟩
        rw [b1, q_bd]
        dsimp only
        rw [b2, q_bd]
        dsimp only
        rw [b3, q_bd]
    · unfold f_X10_restore
      rw [if_neg (show ¬ (1 : Int32) = 0 by decide), if_pos rfl, if_neg (show ¬ (1 : Int32) = 0 by decide), show f_X11_restore N iY sY tY jY 1 = _ from y_restore N hN (k := 1) (by omega), ← h1.1]
      by_cases c : iI2 0 = 0
      · rw [if_pos c, if_pos c]; exact Or.inl ⟨0, rfl, rfl⟩
      · rw [if_neg c, if_neg c]
        obtain ⟨a1, a2, a3, a4, a5, a6, a7, b1, b2, b3, b4⟩ := x_copyT N (h1.2 c) iC tC sC iM sM iS sS
        refine Or.inr ⟨1, a1, a2, a3, a4, a5, a6, a7, _, _, ?_, rfl, b4.to (fun k hk => if_pos hk) (fun k hk => if_pos hk)⟩
        rw [b1, q_bd]
        dsimp only
        rw [b2, q_bd]
        dsimp only
        rw [b3, q_bd]
  · refine Or.inl ⟨0, ?_, (y_imN N hp).2⟩
    unfold f_X10_restore
    rw [if_neg (fun x => hp (Or.inl x)), if_neg (fun x => hp (Or.inr x))]
end
