/-! PURE: sentence, whole -/
/-- the sentence that stands: class against reference -/
def SP (s : Nat → Int32) (iS : Nat → Int32) (sS : Nat → Nat → Int32) (P Q : Nat) : Prop :=
  ∃ m o, m ≤ 40 ∧ o ≤ 20 ∧ s 276 = nI m ∧ iS 1 = nI m ∧ iS 0 = nI o ∧ (m = 0 ↔ o = 0) ∧ CR P Q m sS (fun k => s (277 + k)) ∧ HO (sS 2) m ∧ (m ≠ 0 → hgt (sS 2) m = 1)
theorem SP.to {s s' : Nat → Int32} {iS : Nat → Int32} {sS : Nat → Nat → Int32} {P Q : Nat} (h : SP s iS sS P Q) (e : ∀ k, 276 ≤ k → k < 457 → s' k = s k) : SP s' iS sS P Q := by
  obtain ⟨m, o, h1, h2, h3, h4, h5, h6, h7, h8, h9⟩ := h
  exact ⟨m, o, h1, h2, (e 276 (by omega) (by omega)).trans h3, h4, h5, h6, CR_c h7 (fun _ _ => ⟨rfl, rfl, rfl⟩) (fun k hk => e (277 + k) (by omega) (by omega)), h8, h9⟩
theorem SP.zero {s : Nat → Int32} {iS : Nat → Int32} {sS : Nat → Nat → Int32} {P Q : Nat} (h : s 276 = 0) (h0 : iS 0 = 0) (h1 : iS 1 = 0) : SP s iS sS P Q :=
  ⟨0, 0, by omega, by omega, h, h1, h0, Iff.rfl, fun k hk => absurd hk (Nat.not_lt_zero _), fun k hk => absurd hk (Nat.not_lt_zero _), fun x => absurd rfl x⟩
def snS (s c : Nat → Int32) (m i : Nat) : Nat → Int32 := fun k => if k = 276 then nI m else if 277 ≤ k ∧ k < 277 + i then c (k - 277) else s k
section
variable (N : Nat) {tY : Nat → Nat → Int64} {jY : Nat → Int64} {sT : Nat → Nat → Int32}
theorem y_146 (hN : 2000 ≤ N) {iY : Nat → Int32} {sY : Nat → Nat → Int32} {m : Nat} (hm : m ≤ 40) (y43 : iY 43 = nI m) : f_X11_sentence_146 N iY tY jY N (va_up sY 6 (upd (sY 6) 276 (iY 43))) 0 = some (iY 44, iY, va_up sY 6 (snS (sY 6) (sY 8) m (3 * m)), jY) := by
  have key := q_loopG (fun k i => f_X11_sentence_146 N iY tY jY k (va_up sY 6 (snS (sY 6) (sY 8) m i)) (nI i)) (some (iY 44, iY, va_up sY 6 (snS (sY 6) (sY 8) m (3 * m)), jY)) (3 * m) N (by omega) (fun k => by
    show f_X11_sentence_146 N iY tY jY (k + 1) _ _ = _
    rw [f_X11_sentence_146, y43, L3, pk_mul, if_pos (nI_le (Nat.le_refl _) (by omega))]) (fun k i hi => by
    show f_X11_sentence_146 N iY tY jY (k + 1) _ _ = f_X11_sentence_146 N iY tY jY k _ _
    rw [f_X11_sentence_146, y43, L3, pk_mul, if_neg (nI_ge hi (by omega)), q_ck (show i < 160 by omega) (by omega), show (277 : Int32) = nI 277 from rfl, nI_add, q_ck (show 277 + i < 457 by omega) (by omega), q_nv, show ix (nI i) = i from q_ix (by omega), show ix (nI (277 + i)) = 277 + i from q_ix (by omega), q_ve, q_vv, nI_1, q_vn _ _ (show 8 ≠ 6 by omega)]
    have e : upd (snS (sY 6) (sY 8) m i) (277 + i) (sY 8 i) = snS (sY 6) (sY 8) m (i + 1) := by
      funext j
      by_cases c : j = 277 + i
      · subst c
        rw [pk_us]; unfold snS; rw [if_neg (by omega), if_pos (by omega), show 277 + i - 277 = i by omega]
      · rw [pk_un c]; unfold snS
        by_cases h0 : j = 276
        · rw [if_pos h0, if_pos h0]
        · rw [if_neg h0, if_neg h0]
          by_cases h2 : 277 ≤ j ∧ j < 277 + i
          · rw [if_pos h2, if_pos (by omega)]
          · rw [if_neg h2, if_neg (by omega)]
    rw [e])
  refine Eq.trans ?_ key
  show _ = f_X11_sentence_146 N iY tY jY N (va_up sY 6 (snS (sY 6) (sY 8) m 0)) 0
  have e0 : upd (sY 6) 276 (iY 43) = snS (sY 6) (sY 8) m 0 := by
    funext j
    by_cases c : j = 276
    · subst c; rw [pk_us, y43]; unfold snS; rw [if_pos rfl]
    · rw [pk_un c]; unfold snS; rw [if_neg c, if_neg (by omega)]
  rw [e0]
theorem x_pEnd {iT : Nat → Int32} {jT : Nat → Int64} (h5 : ¬ iT 5 = 0) : f_X8_passEnd N sT iT jT = some (0, va_up (va_up iT 11 1) 12 (iT 6)) := by
  unfold f_X8_passEnd f_X8_refuse
  rw [q_jn, if_neg h5]; rfl
end
