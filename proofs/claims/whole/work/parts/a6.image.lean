/-! PURE: image, restore -/
/-- a state, class against reference -/
def STT (s : Nat → Int32) (t : Nat → Int64) (iC : Nat → Int32) (tC : Nat → Nat → Int64) (sC : Nat → Nat → Int32) (iM : Nat → Int32) (sM : Nat → Nat → Int32) (iS : Nat → Int32) (sS : Nat → Nat → Int32) : Prop :=
  ∃ P Q, CP s iC sC ∧ MP s iM sM ∧ IL s P Q ∧ ID s P Q ∧ NM (tC 2) t 0 P Q ∧ SP s iS sS P Q
theorem STT.to {s s' : Nat → Int32} {t t' : Nat → Int64} {iC : Nat → Int32} {tC : Nat → Nat → Int64} {sC : Nat → Nat → Int32} {iM : Nat → Int32} {sM : Nat → Nat → Int32} {iS : Nat → Int32} {sS : Nat → Nat → Int32} (h : STT s t iC tC sC iM sM iS sS) (e : ∀ k, k < 457 → s' k = s k) (et : ∀ k, k < 12 → t' k = t k) : STT s' t' iC tC sC iM sM iS sS := by
  obtain ⟨P, Q, h1, h2, h3, h4, ⟨n1, n2, n3, n4, n5⟩, h6⟩ := h
  have hP := h3.P7
  have hQ := h3.Q5
  refine ⟨P, Q, h1.to (fun k hk => e k (by omega)), h2.to (fun k _ hk => e k (by omega)), h3.to (fun k hk => e k (by omega)), h4.to hP (fun k hk => e k (by omega)), ⟨fun k hk => ?_, n2, fun k hk => ?_, n4, n5⟩, h6.to (fun k _ hk => e k hk)⟩
  · rw [et _ (by omega)]; exact n1 k hk
  · rw [et _ (by omega)]; exact n3 k hk
section
variable (N : Nat) {s : Nat → Int32} {t : Nat → Int64} {iC2 : Nat → Int32} {tC2 : Nat → Nat → Int64} {sC2 : Nat → Nat → Int32} {iM2 : Nat → Int32} {sM2 : Nat → Nat → Int32} {iS2 : Nat → Int32} {sS2 : Nat → Nat → Int32}
theorem x_copyS {P Q : Nat} (hS : SP s iS2 sS2 P Q) (iS : Nat → Int32) (sS : Nat → Nat → Int32) : ∃ iS' sS', f_X6_copyFrom N iS sS iS2 sS2 = some (iS', sS') ∧ SP s iS' sS' P Q := by
  obtain ⟨m, o, h1, h2, h3, h4, h5, h6, h7, h8, h9⟩ := hS
  unfold f_X6_copyFrom
  simp only [q_nv]
  refine ⟨_, _, rfl, m, o, h1, h2, h3, h4, h5, h6, CR_c h7 (fun k hk => ⟨?_, ?_, ?_⟩) (fun _ _ => rfl), HO_c (w := sS2 2) (fun k hk => ?_) h8, fun x => ?_⟩
  · show va_cpy (sS2 2) (sS 2) 0 0 40 k = _
    rw [sb_cpy0 (by omega)]
  · show va_cpy (sS2 3) (sS 3) 0 0 40 k = _
    rw [sb_cpy0 (by omega)]
  · show va_cpy (sS2 4) (sS 4) 0 0 40 k = _
    rw [sb_cpy0 (by omega)]
  · show va_cpy (sS2 2) (sS 2) 0 0 40 k = _
    rw [sb_cpy0 (by omega)]
  · rw [hgt_c (w := sS2 2) (fun k hk => ?_)]
    · exact h9 x
    · show va_cpy (sS2 2) (sS 2) 0 0 40 k = _
      rw [sb_cpy0 (by omega)]
theorem x_copyT (h : STT s t iC2 tC2 sC2 iM2 sM2 iS2 sS2) (iC : Nat → Int32) (tC : Nat → Nat → Int64) (sC : Nat → Nat → Int32) (iM : Nat → Int32) (sM : Nat → Nat → Int32) (iS : Nat → Int32) (sS : Nat → Nat → Int32) : ∃ iC' tC' sC' iM' sM' iS' sS', f_X1_copyFrom N iC tC sC iC2 tC2 sC2 = some (iC', tC', sC') ∧ f_X4_copyFrom N iM sM iM2 sM2 = some (iM', sM') ∧ f_X6_copyFrom N iS sS iS2 sS2 = some (iS', sS') ∧ STT s t iC' tC' sC' iM' sM' iS' sS' := by
  obtain ⟨P, Q, h1, h2, h3, h4, h5, h6⟩ := h
  obtain ⟨iC', tC', sC', a1, a2, a3⟩ := x_copyC N h1 h5 iC tC sC h3.P7 h3.Q5
  obtain ⟨iM', sM', b1, b2⟩ := x_copyM N h2 iM sM
  obtain ⟨iS', sS', c1, c2⟩ := x_copyS N h6 iS sS
  exact ⟨iC', tC', sC', iM', sM', iS', sS', a1, b1, c1, P, Q, a2, b2, h3, h4, a3, c2⟩
end
def imS (s u : Nat → Int32) (k i : Nat) : Nat → Int32 := fun j => if 457 * k ≤ j ∧ j < 457 * k + i then s (j - 457 * k) else u j
def imT (t u : Nat → Int64) (k i : Nat) : Nat → Int64 := fun j => if 12 * k ≤ j ∧ j < 12 * k + i then t (j - 12 * k) else u j
def reS (u s : Nat → Int32) (k i : Nat) : Nat → Int32 := fun j => if j < i then u (457 * k + j) else s j
def reT (u t : Nat → Int64) (k i : Nat) : Nat → Int64 := fun j => if j < i then u (12 * k + j) else t j
theorem updL_s {f : Nat → Int64} {i : Nat} {v : Int64} : vp_updL f i v i = v := if_pos rfl
theorem updL_n {f : Nat → Int64} {i j : Nat} {v : Int64} (h : j ≠ i) : vp_updL f i v j = f j := if_neg h
section
variable (N : Nat) {iY : Nat → Int32} {sY : Nat → Nat → Int32} {tY : Nat → Nat → Int64} {jY : Nat → Int64}
theorem y_im18 (hN : 2000 ≤ N) {k : Nat} (hk : k < 2) (K : (Nat → Nat → Int32) → Option (Int32 × (Nat → Int32) × (Nat → Nat → Int32) × (Nat → Nat → Int64))) : f_X11_image_18 N iY tY jY (nI k) K N sY 0 = K (va_up sY 49 (imS (sY 6) (sY 49) k 457)) := by
  have key := q_loopG (fun j i => f_X11_image_18 N iY tY jY (nI k) K j (va_up sY 49 (imS (sY 6) (sY 49) k i)) (nI i)) (K (va_up sY 49 (imS (sY 6) (sY 49) k 457))) 457 N (by omega) (fun j => by
    show f_X11_image_18 N iY tY jY (nI k) K (j + 1) _ _ = _
    rw [f_X11_image_18, show (457 : Int32) = nI 457 from rfl, if_pos (nI_le (Nat.le_refl _) (by omega))]) (fun j i hi => by
    show f_X11_image_18 N iY tY jY (nI k) K (j + 1) _ _ = f_X11_image_18 N iY tY jY (nI k) K j _ _
    rw [f_X11_image_18, show (457 : Int32) = nI 457 from rfl, if_neg (nI_ge hi (by omega)), pk_mul, nI_add, q_ck hi (by omega), q_ck (show 457 * k + i < 914 by omega) (by omega), q_nv, show ix (nI i) = i from q_ix (by omega), show ix (nI (457 * k + i)) = 457 * k + i from q_ix (by omega), q_ve, q_vv, nI_1, q_vn _ _ (show 6 ≠ 49 by omega)]
    have e : upd (imS (sY 6) (sY 49) k i) (457 * k + i) (sY 6 i) = imS (sY 6) (sY 49) k (i + 1) := by
      funext x
      by_cases c : x = 457 * k + i
      · subst c; rw [pk_us]; unfold imS; rw [if_pos (by omega), show 457 * k + i - 457 * k = i by omega]
      · rw [pk_un c]; unfold imS
        by_cases h2 : 457 * k ≤ x ∧ x < 457 * k + i
        · rw [if_pos h2, if_pos (by omega)]
        · rw [if_neg h2, if_neg (by omega)]
    rw [e])
  refine Eq.trans ?_ key
  show _ = f_X11_image_18 N iY tY jY (nI k) K N (va_up sY 49 (imS (sY 6) (sY 49) k 0)) 0
  rw [show imS (sY 6) (sY 49) k 0 = sY 49 from funext (fun x => if_neg (by omega)), q_vid]
theorem y_im51 (hN : 2000 ≤ N) {k : Nat} (hk : k < 2) (K : (Nat → Nat → Int64) → Option (Int32 × (Nat → Int32) × (Nat → Nat → Int32) × (Nat → Nat → Int64))) : f_X11_image_51 N iY sY jY (nI k) K N tY 0 = K (va_up tY 50 (imT (tY 9) (tY 50) k 12)) := by
  have key := q_loopG (fun j i => f_X11_image_51 N iY sY jY (nI k) K j (va_up tY 50 (imT (tY 9) (tY 50) k i)) (nI i)) (K (va_up tY 50 (imT (tY 9) (tY 50) k 12))) 12 N (by omega) (fun j => by
    show f_X11_image_51 N iY sY jY (nI k) K (j + 1) _ _ = _
    rw [f_X11_image_51, show (12 : Int32) = nI 12 from rfl, if_pos (nI_le (Nat.le_refl _) (by omega))]) (fun j i hi => by
    show f_X11_image_51 N iY sY jY (nI k) K (j + 1) _ _ = f_X11_image_51 N iY sY jY (nI k) K j _ _
    rw [f_X11_image_51, show (12 : Int32) = nI 12 from rfl, if_neg (nI_ge hi (by omega)), pk_mul, nI_add, q_ck (show i < 24 by omega) (by omega), q_ck (show 12 * k + i < 24 by omega) (by omega), q_nv, show ix (nI i) = i from q_ix (by omega), show ix (nI (12 * k + i)) = 12 * k + i from q_ix (by omega), q_ve, q_vv, nI_1, q_vn _ _ (show 9 ≠ 50 by omega)]
    have e : vp_updL (imT (tY 9) (tY 50) k i) (12 * k + i) (tY 9 i) = imT (tY 9) (tY 50) k (i + 1) := by
      funext x
      by_cases c : x = 12 * k + i
      · subst c; rw [updL_s]; unfold imT; rw [if_pos (by omega), show 12 * k + i - 12 * k = i by omega]
      · rw [updL_n c]; unfold imT
        by_cases h2 : 12 * k ≤ x ∧ x < 12 * k + i
        · rw [if_pos h2, if_pos (by omega)]
        · rw [if_neg h2, if_neg (by omega)]
    rw [e])
  refine Eq.trans ?_ key
  show _ = f_X11_image_51 N iY sY jY (nI k) K N (va_up tY 50 (imT (tY 9) (tY 50) k 0)) 0
  rw [show imT (tY 9) (tY 50) k 0 = tY 50 from funext (fun x => if_neg (by omega)), q_vid]
theorem y_re27 (hN : 2000 ≤ N) {k : Nat} (hk : k < 2) (K : (Nat → Nat → Int32) → Option (Int32 × (Nat → Int32) × (Nat → Nat → Int32) × (Nat → Nat → Int64))) : f_X11_restore_27 N iY tY jY (nI k) K N sY 0 = K (va_up sY 6 (reS (sY 49) (sY 6) k 457)) := by
  have key := q_loopG (fun j i => f_X11_restore_27 N iY tY jY (nI k) K j (va_up sY 6 (reS (sY 49) (sY 6) k i)) (nI i)) (K (va_up sY 6 (reS (sY 49) (sY 6) k 457))) 457 N (by omega) (fun j => by
    show f_X11_restore_27 N iY tY jY (nI k) K (j + 1) _ _ = _
    rw [f_X11_restore_27, show (457 : Int32) = nI 457 from rfl, if_pos (nI_le (Nat.le_refl _) (by omega))]) (fun j i hi => by
    show f_X11_restore_27 N iY tY jY (nI k) K (j + 1) _ _ = f_X11_restore_27 N iY tY jY (nI k) K j _ _
    rw [f_X11_restore_27, show (457 : Int32) = nI 457 from rfl, if_neg (nI_ge hi (by omega)), pk_mul, nI_add, q_ck (show 457 * k + i < 914 by omega) (by omega), q_ck hi (by omega), q_nv, show ix (nI i) = i from q_ix (by omega), show ix (nI (457 * k + i)) = 457 * k + i from q_ix (by omega), q_ve, q_vv, nI_1, q_vn _ _ (show 49 ≠ 6 by omega)]
    have e : upd (reS (sY 49) (sY 6) k i) i (sY 49 (457 * k + i)) = reS (sY 49) (sY 6) k (i + 1) := by
      funext x
      by_cases c : x = i
      · subst c; rw [pk_us]; unfold reS; rw [if_pos (by omega)]
      · rw [pk_un c]; unfold reS
        by_cases h2 : x < i
        · rw [if_pos h2, if_pos (by omega)]
        · rw [if_neg h2, if_neg (by omega)]
    rw [e])
  refine Eq.trans ?_ key
  show _ = f_X11_restore_27 N iY tY jY (nI k) K N (va_up sY 6 (reS (sY 49) (sY 6) k 0)) 0
  rw [show reS (sY 49) (sY 6) k 0 = sY 6 from funext (fun x => if_neg (by omega)), q_vid]
theorem y_re60 (hN : 2000 ≤ N) {k : Nat} (hk : k < 2) (K : (Nat → Nat → Int64) → Option (Int32 × (Nat → Int32) × (Nat → Nat → Int32) × (Nat → Nat → Int64))) : f_X11_restore_60 N iY sY jY (nI k) K N tY 0 = K (va_up tY 9 (reT (tY 50) (tY 9) k 12)) := by
  have key := q_loopG (fun j i => f_X11_restore_60 N iY sY jY (nI k) K j (va_up tY 9 (reT (tY 50) (tY 9) k i)) (nI i)) (K (va_up tY 9 (reT (tY 50) (tY 9) k 12))) 12 N (by omega) (fun j => by
    show f_X11_restore_60 N iY sY jY (nI k) K (j + 1) _ _ = _
    rw [f_X11_restore_60, show (12 : Int32) = nI 12 from rfl, if_pos (nI_le (Nat.le_refl _) (by omega))]) (fun j i hi => by
    show f_X11_restore_60 N iY sY jY (nI k) K (j + 1) _ _ = f_X11_restore_60 N iY sY jY (nI k) K j _ _
    rw [f_X11_restore_60, show (12 : Int32) = nI 12 from rfl, if_neg (nI_ge hi (by omega)), pk_mul, nI_add, q_ck (show 12 * k + i < 24 by omega) (by omega), q_ck (show i < 24 by omega) (by omega), q_nv, show ix (nI i) = i from q_ix (by omega), show ix (nI (12 * k + i)) = 12 * k + i from q_ix (by omega), q_ve, q_vv, nI_1, q_vn _ _ (show 50 ≠ 9 by omega)]
    have e : vp_updL (reT (tY 50) (tY 9) k i) i (tY 50 (12 * k + i)) = reT (tY 50) (tY 9) k (i + 1) := by
      funext x
      by_cases c : x = i
      · subst c; rw [updL_s]; unfold reT; rw [if_pos (by omega)]
      · rw [updL_n c]; unfold reT
        by_cases h2 : x < i
        · rw [if_pos h2, if_pos (by omega)]
        · rw [if_neg h2, if_neg (by omega)]
    rw [e])
  refine Eq.trans ?_ key
  show _ = f_X11_restore_60 N iY sY jY (nI k) K N (va_up tY 9 (reT (tY 50) (tY 9) k 0)) 0
  rw [show reT (tY 50) (tY 9) k 0 = tY 9 from funext (fun x => if_neg (by omega)), q_vid]
end
