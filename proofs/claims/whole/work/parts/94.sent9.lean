/-! PURE: sentences, a condition -/
def adF (sS : Nat → Nat → Int32) (m fl : Nat) (w : Int32) : Nat → Nat → Int32 := if fl = 0 then sS else adS sS m w (-1) (-1)
theorem adF_lt (sS : Nat → Nat → Int32) {m : Nat} (fl : Nat) (w : Int32) {k : Nat} (hk : k < m) : adF sS m fl w 2 k = sS 2 k ∧ adF sS m fl w 3 k = sS 3 k ∧ adF sS m fl w 4 k = sS 4 k := by
  unfold adF
  by_cases c : fl = 0
  · rw [if_pos c]; exact ⟨rfl, rfl, rfl⟩
  · rw [if_neg c]; exact ad_lt sS _ _ _ hk
theorem adF_H {sS : Nat → Nat → Int32} {m fl y : Nat} {w : Int32} (ho : HO (sS 2) m) (hh : hgt (sS 2) m = y + fl) (hy : 1 ≤ y) (hf : fl ≤ 1) (hw : w = 14 ∨ w = 13) : HO (adF sS m fl w 2) (m + fl) ∧ hgt (adF sS m fl w 2) (m + fl) = y := by
  have n15 : w ≠ 15 := by rcases hw with rfl | rfl <;> decide
  unfold adF
  by_cases c : fl = 0
  · subst c
    rw [if_pos rfl]; exact ⟨ho, hh⟩
  · have : fl = 1 := by omega
    subst this
    rw [if_neg c]
    refine ⟨HO_a ho w _ _ ⟨fun x => absurd x n15, fun _ => by omega, fun _ x => absurd hw x⟩, ?_⟩
    rw [hgt_a, if_neg n15, if_pos hw, hh]; omega
section
variable (N : Nat)
theorem x_adF {α : Type} {iS : Nat → Int32} {sS : Nat → Nat → Int32} {m fl : Nat} {v : Int32} (hm : m < 40) (h : iS 1 = nI m) (hf : fl ≤ 1) (hv : v = nI fl) (w : Int32) (K : (Nat → Int32) × (Nat → Nat → Int32) → Option α) : (if v = 0 then K (iS, sS) else bd (f_X6_addStep N iS sS w (-1) (-1)) K) = K (va_up iS 1 (nI (m + fl)), adF sS m fl w) := by
  unfold adF
  by_cases c : fl = 0
  · subst c
    rw [if_pos (show v = 0 from hv), if_pos rfl, up_id (show iS 1 = nI (m + 0) from h)]
  · have : fl = 1 := by omega
    subst this
    rw [if_neg (show ¬ v = 0 by rw [hv]; decide), if_neg c, x_adS N hm h, q_bd]
theorem y_pop {P Q : Nat} {tY : Nat → Nat → Int64} {jY : Nat → Int64} {g m k fl : Nat} {v1 w c0 : Int32} {iY : Nat → Int32} {sY sS : Nat → Nat → Int32} (hf : fl ≤ 1) (hg : g < 45) (hm : m ≤ 50) (y43 : iY 43 = nI m) (y45 : iY 45 = nI (g + fl)) (ht : fl = 1 → sY 42 g = c0) (h0 : c0 = 21 ∨ (c0 = 22 ∧ v1 = 22)) (hw : (w = 14 ∧ c0 = 21) ∨ (w = 13 ∧ c0 = 22)) (hc : CR P Q m sS (sY 8)) :
    ∃ c, f_X11_joins_0 N tY jY v1 (k + fl) iY sY = f_X11_joins_0 N tY jY v1 k (va_up (va_up iY 45 (nI g)) 43 (nI (m + fl))) (va_up sY 8 c) ∧ CR P Q (m + fl) (adF sS m fl w) c := by
  unfold adF
  by_cases c : fl = 0
  · subst c
    refine ⟨sY 8, ?_, by rw [if_pos rfl]; exact hc⟩
    rw [q_vid, up_id (show va_up iY 45 (nI g) 43 = nI (m + 0) by rw [q_vn _ _ (by omega)]; exact y43), up_id (show iY 45 = nI g from y45)]; rfl
  · have : fl = 1 := by omega
    subst this
    have h42 := ht rfl
    rw [if_neg c]
    refine ⟨ad3 (sY 8) m (sY 42 g) 0 0, y_jpop N hg hm y43 y45 (by rw [h42]; exact h0), ?_⟩
    refine CR_y (CR_c hc (fun k hk => ad_lt sS _ _ _ hk) (fun _ _ => rfl)) _ _ _ ?_
    rw [(ad_at sS m w (-1) (-1)).1, h42]
    rcases hw with x | x
    · exact Or.inr (Or.inl x)
    · exact Or.inr (Or.inr (Or.inl x))
end
/-- a condition's end, told in numbers -/
def QD (N : Nat) (tY : Nat → Nat → Int64) (K6 : YZ → YK) (P Q L lim st m o x h e : Nat) (iT : Nat → Int32) (iY : Nat → Int32) (sY : Nat → Nat → Int32) (jY : Nat → Int64) (fx : RX) : Prop :=
  ∃ j iT' jT' iS' sS' iY' sY' jY' iY2 sY2 iY3 sY3 m' o' st', fx = some (1, iT', jT', iS', sS') ∧ j + st ≤ st' ∧ (∀ k, LoP N tY K6 (k + j) iY sY jY = LoP N tY K6 k iY' sY' jY') ∧ TR L lim st' iT' jT' iY' jY' ∧ iY' 47 = 1 ∧ ¬ iT' 7 = nI 13 ∧ ¬ iT' 7 = nI 14 ∧ f_X11_nots N iY' sY' tY jY' = some (iY2, sY2) ∧ f_X11_joins N iY2 sY2 tY jY' 22 = some (iY3, sY3) ∧ (∀ k, k ≠ 43 → k ≠ 45 → k ≠ 46 → iY2 k = iY' k) ∧ (∀ k, k ≠ 43 → k ≠ 45 → k ≠ 46 → iY3 k = iY' k) ∧ SR P Q m' 0 o' h e iS' sS' iY3 sY3 ∧ HO (sS' 2) m' ∧ hgt (sS' 2) m' = x + 1 ∧ o < o' ∧ o' ≤ 20 ∧ m' + 2 * o + 1 ≤ m + 2 * o' ∧ FR h iT iT' iY iY3 sY sY3
theorem QD.pre {N : Nat} {tY : Nat → Nat → Int64} {K6 : YZ → YK} {P Q L lim st st' m o x h e j : Nat} {iT iT' iY iY' : Nat → Int32} {sY sY' : Nat → Nat → Int32} {jY jY' : Nat → Int64} {fx : RX} (q : QD N tY K6 P Q L lim st' m o x h e iT' iY' sY' jY' fx) (hj : j + st ≤ st') (hl : ∀ k, LoP N tY K6 (k + j) iY sY jY = LoP N tY K6 k iY' sY' jY') (hf : FR h iT iT' iY iY' sY sY') : QD N tY K6 P Q L lim st m o x h e iT iY sY jY fx := by
  obtain ⟨j2, a1, a2, a3, a4, a5, a6, a7, a8, a9, a10, a11, a12, a13, a14, b1, b2, b3, b4, b5, b6, b7, b8, b9, b10, b11, b12, b13, b14, b15, b16, b17, b18⟩ := q
  refine ⟨j2 + j, a1, a2, a3, a4, a5, a6, a7, a8, a9, a10, a11, a12, a13, a14, b1, by omega, fun k => ?_, b4, b5, b6, b7, b8, b9, b10, b11, b12, b13, b14, b15, b16, b17, hf.tr b18 (Nat.le_refl _)⟩
  rw [← Nat.add_assoc, hl, b3]
theorem QF.pre2 {N : Nat} {tY : Nat → Nat → Int64} {K6 : YZ → YK} {st st' j : Nat} {iY iY' : Nat → Int32} {sY sY' : Nat → Nat → Int32} {jY jY' : Nat → Int64} {fx : RX} (h : QF N tY K6 st' iY' sY' jY' fx) (hj : j + st ≤ st') (hl : ∀ k, LoP N tY K6 (k + j) iY sY jY = LoP N tY K6 k iY' sY' jY') (hg : GF iY iY') (hf : ∀ k, k ≠ 8 → k ≠ 42 → sY' k = sY k) : QF N tY K6 st iY sY jY fx := by
  obtain ⟨a, b, c, d, e, f⟩ := h.pre hj hl hg hf
  rw [e]; exact f
