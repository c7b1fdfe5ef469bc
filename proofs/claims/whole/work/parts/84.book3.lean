/-! PURE: book -/
section
variable (N : Nat)
theorem up_640 {α : Type} (f : Nat → α) (a b c d : α) : va_up (va_up (va_up (va_up f 6 a) 40 b) 6 c) 40 d = va_up (va_up f 6 c) 40 d := by
  rw [q_vc (va_up f 6 a) (k := 40) (j := 6) b c (by omega), q_vv, q_vv]
theorem jg_loop (hN : 2000 ≤ N) {P Q m : Nat} {iC : Nat → Int32} {tC : Nat → Nat → Int64} {sC : Nat → Nat → Int32} {sB : Nat → Nat → Int32} (iY : Nat → Int32) (tY : Nat → Nat → Int64) (jY : Nat → Int64) (v1 : Int32) (hm : m ≤ 40) (h39 : iY 39 = nI m) :
    ∀ (r i kx ky : Nat) (iB iM : Nat → Int32) (sM : Nat → Nat → Int32) (sY : Nat → Nat → Int32), i + r = m → r + 1 < kx → r + 1 < ky → BLs P Q m sB (sY 8) → CP (sY 6) iC sC → MP (sY 6) iM sM → IL (sY 6) P Q → ID (sY 6) P Q → iB 6 = nI m → iB 8 = 0 → iB 9 = nI i → sY 40 0 = 0 → sY 40 1 = nI i →
      ∃ w j s' iB' iM' sM' g, w < 100 ∧ i ≤ j ∧ j ≤ m ∧ (∀ K, f_X0_judge_15 N sB iC tC sC K kx iB iM sM = K (iB', iM', sM')) ∧ (∀ K21, f_X11_book_111 N iY tY jY v1 K21 ky sY (-1) (nI i) = K21 (if w = 0 then -1 else nI j, va_up (va_up sY 6 s') 40 g)) ∧ iB' 8 = nI w ∧ iB' 9 = nI j ∧ (∀ k, k ≠ 8 → k ≠ 9 → iB' k = iB k) ∧ g 0 = nI w ∧ g 1 = nI j ∧ MP s' iM' sM' ∧ ID s' P Q ∧ (∀ k, k < 131 ∨ 276 ≤ k → s' k = sY 6 k) ∧ (j = i → s' = sY 6) := by
  intro r
  induction r with
  | zero =>
    intro i kx ky iB iM sM sY hi hkx hky hb hC hM hL hI b6 b8 b9 g0 g1
    obtain ⟨kx, rfl⟩ : ∃ m, kx = m + 1 := ⟨kx - 1, by omega⟩
    obtain ⟨ky, rfl⟩ : ∃ m, ky = m + 1 := ⟨ky - 1, by omega⟩
    have : i = m := by omega
    subst this
    refine ⟨0, i, sY 6, iB, iM, sM, sY 40, by omega, Nat.le_refl _, Nat.le_refl _, ?_, ?_, b8, b9, fun _ _ _ => rfl, g0, g1, hM, hI, fun _ _ => rfl, fun _ => rfl⟩
    · intro K; rw [f_X0_judge_15, if_pos b8, b6, b9, if_pos (nI_le (Nat.le_refl _) (by omega))]
    · intro K21; rw [f_X11_book_111, h39, if_pos (nI_le (Nat.le_refl _) (by omega)), q_vid, q_vid, if_pos rfl]
  | succ r ih =>
    intro i kx ky iB iM sM sY hi hkx hky hb hC hM hL hI b6 b8 b9 g0 g1
    obtain ⟨kx, rfl⟩ : ∃ m, kx = m + 2 := ⟨kx - 2, by omega⟩
    obtain ⟨ky, rfl⟩ : ∃ m, ky = m + 2 := ⟨ky - 2, by omega⟩
    obtain ⟨w, s1, iM1, sM1, hw, e1, e2, e3, e4, e5, e6⟩ := b_live N (tC := tC) (sB := sB) (iB := iB) hN iY sY tY jY (i := i) (by omega) hC hM hL hI (hb i (by omega))
    have hx : ∀ K, f_X0_judge_15 N sB iC tC sC K (kx + 2) iB iM sM = if w = 0 then f_X0_judge_15 N sB iC tC sC K (kx + 1) (va_up (va_up iB 8 (nI w)) 9 (nI (i + 1))) iM1 sM1 else f_X0_judge_15 N sB iC tC sC K (kx + 1) (va_up iB 8 (nI w)) iM1 sM1 := by
      intro K
      rw [f_X0_judge_15, if_pos b8, b6, b9, if_neg (nI_ge (show i < m by omega) (by omega)), e1, q_bd]
      dsimp only
      rw [nI_eq0 hw, nI_1]
    have hy : ∀ K21, f_X11_book_111 N iY tY jY v1 K21 (ky + 2) sY (-1) (nI i) = if w = 0 then f_X11_book_111 N iY tY jY v1 K21 (ky + 1) (va_up (va_up sY 6 s1) 40 (upd (upd (sY 40) 0 (nI w)) 1 (nI (i + 1)))) (-1) (nI (i + 1)) else f_X11_book_111 N iY tY jY v1 K21 (ky + 1) (va_up (va_up sY 6 s1) 40 (upd (sY 40) 0 (nI w))) (nI i) (nI (i + 1)) := by
      intro K21
      rw [f_X11_book_111, h39, if_neg (nI_ge (show i < m by omega) (by omega)), if_neg (show ¬ (0 : Int32) ≤ -1 by decide), L4, pk_mul, nI_1, L2, nI_add, L3, nI_add, q_ck (show 4 * i < 160 by omega) (by omega), q_ck (show 4 * i + 1 < 160 by omega) (by omega), q_ck (show 4 * i + 2 < 160 by omega) (by omega), q_ck (show 4 * i + 3 < 160 by omega) (by omega), show ix (nI (4 * i)) = 4 * i from q_ix (by omega), show ix (nI (4 * i + 1)) = 4 * i + 1 from q_ix (by omega), show ix (nI (4 * i + 2)) = 4 * i + 2 from q_ix (by omega), show ix (nI (4 * i + 3)) = 4 * i + 3 from q_ix (by omega), e2, q_bd]
      dsimp only
      rw [q_nv, q_jn, q_vn _ _ (show 40 ≠ 6 by omega), pk_us, nI_le0 hw, q_nv, pk_un (show 1 ≠ 0 by omega), g1, nI_1]
    by_cases c : w = 0
    · simp only [if_pos c] at hx hy
      have hs6 : va_up (va_up sY 6 s1) 40 (upd (upd (sY 40) 0 (nI w)) 1 (nI (i + 1))) 6 = s1 := by rw [q_vn _ _ (by omega), q_ve]
      obtain ⟨w', j, s', iB', iM', sM', g, f1, f2, f3, f4, f5, f6, f7, f8, f9, f10, f11, f12, f13, f14⟩ := ih (i + 1) (kx + 1) (ky + 1) (va_up (va_up iB 8 (nI w)) 9 (nI (i + 1))) iM1 sM1 (va_up (va_up sY 6 s1) 40 (upd (upd (sY 40) 0 (nI w)) 1 (nI (i + 1)))) (by omega) (by omega) (by omega) hb (by rw [hs6]; exact hC.to (fun k hk => e5 k (Or.inl hk))) (by rw [hs6]; exact e3) (by rw [hs6]; exact hL.to (fun k hk => e5 k (Or.inl hk))) (by rw [hs6]; exact e4) b6 (by rw [c]; rfl) rfl (by rw [q_ve, pk_un (by omega), pk_us, c]; rfl) (by rw [q_ve, pk_us])
      rw [hs6] at f13 f14
      refine ⟨w', j, s', iB', iM', sM', g, f1, by omega, f3, fun K => (hx K).trans (f4 K), fun K => (hy K).trans ((f5 K).trans ?_), f6, f7, fun k h8 h9 => ?_, f9, f10, f11, f12, fun k hk => (f13 k hk).trans (e5 k hk), fun h => by omega⟩
      · rw [up_640]
      · rw [f8 k h8 h9, q_vn _ _ h9, q_vn _ _ h8]
    · simp only [if_neg c] at hx hy
      refine ⟨w, i, s1, va_up iB 8 (nI w), iM1, sM1, upd (sY 40) 0 (nI w), hw, Nat.le_refl _, by omega, fun K => (hx K).trans ?_, fun K => (hy K).trans ?_, rfl, b9, fun k h8 _ => q_vn _ _ h8, pk_us, by rw [pk_un (by omega)]; exact g1, e3, e4, e5, fun _ => e6 c⟩
      · rw [f_X0_judge_15, if_neg (show ¬ va_up iB 8 (nI w) 8 = 0 from nI_nb (b := 0) c (by omega) (by omega))]
      · rw [f_X11_book_111, if_pos (show (0 : Int32) ≤ nI i from nI_le (a := 0) (by omega) (by omega)), if_neg c]
        split <;> rfl
theorem y_89 (hN : 2000 ≤ N) (iY : Nat → Int32) (sY : Nat → Nat → Int32) (tY : Nat → Nat → Int64) (jY : Nat → Int64) (v1 : Int32) (K : (Nat → Nat → Int32) → Option (Int32 × (Nat → Int32) × (Nat → Nat → Int32) × (Nat → Int64))) : f_X11_book_89 N iY tY jY v1 K N sY 0 = K (va_up sY 40 (fun k => if k < 4 then 0 else sY 40 k)) := by
  have key := q_loopG (fun k i => f_X11_book_89 N iY tY jY v1 K k (va_up sY 40 (fun k => if k < i then 0 else sY 40 k)) (nI i)) (K (va_up sY 40 (fun k => if k < 4 then 0 else sY 40 k))) 4 N (by omega) (fun k => by
    show f_X11_book_89 N iY tY jY v1 K (k + 1) _ _ = _
    rw [f_X11_book_89, L4, if_pos (nI_le (Nat.le_refl _) (by omega))]) (fun k i hi => by
    show f_X11_book_89 N iY tY jY v1 K (k + 1) _ _ = f_X11_book_89 N iY tY jY v1 K k _ _
    rw [f_X11_book_89, L4, if_neg (nI_ge hi (by omega)), q_ck hi (by omega), q_nv, show ix (nI i) = i from q_ix (by omega), q_ve, q_vv, nI_1]
    have e : upd (fun k => if k < i then 0 else sY 40 k) i 0 = (fun k => if k < i + 1 then 0 else sY 40 k) := by
      funext j
      by_cases c : j = i
      · subst c; rw [pk_us, if_pos (by omega)]
      · rw [pk_un c]
        by_cases h2 : j < i
        · rw [if_pos h2, if_pos (by omega)]
        · rw [if_neg h2, if_neg (by omega)]
    rw [e])
  refine Eq.trans ?_ key
  show _ = f_X11_book_89 N iY tY jY v1 K N (va_up sY 40 (fun k => if k < 0 then 0 else sY 40 k)) 0
  rw [show (fun k => if k < 0 then (0 : Int32) else sY 40 k) = sY 40 from funext (fun k => if_neg (by omega)), q_vid]
def bkU (b u : Nat → Int32) (m i : Nat) : Nat → Int32 := fun k => if 145 * m ≤ k ∧ k < 145 * m + i then b (k - 145 * m) else u k
theorem y_250 (hN : 2000 ≤ N) (iY : Nat → Int32) (sY : Nat → Nat → Int32) (tY : Nat → Nat → Int64) (jY : Nat → Int64) (v1 v2 : Int32) {m : Nat} (hm : m < 8) (h23 : iY 23 = nI (m + 1)) (K : (Nat → Int32) × (Nat → Nat → Int32) → Option (Int32 × (Nat → Int32) × (Nat → Nat → Int32) × (Nat → Int64))) : f_X11_book_250 N iY tY jY v1 v2 K N sY 0 = K (iY, va_up sY 21 (bkU (sY 22) (sY 21) m 145)) := by
  have key := q_loopG (fun k i => f_X11_book_250 N iY tY jY v1 v2 K k (va_up sY 21 (bkU (sY 22) (sY 21) m i)) (nI i)) (K (iY, va_up sY 21 (bkU (sY 22) (sY 21) m 145))) 145 N (by omega) (fun k => by
    show f_X11_book_250 N iY tY jY v1 v2 K (k + 1) _ _ = _
    rw [f_X11_book_250, L145, if_pos (nI_le (Nat.le_refl _) (by omega))]) (fun k i hi => by
    show f_X11_book_250 N iY tY jY v1 v2 K (k + 1) _ _ = f_X11_book_250 N iY tY jY v1 v2 K k _ _
    rw [f_X11_book_250, L145, if_neg (nI_ge hi (by omega)), h23, show nI (m + 1) - 1 = nI m from by rw [show (1 : Int32) = nI 1 from rfl, pk_sub (by omega)]; rfl, pk_mul, nI_add, q_ck hi (by omega), q_ck (show 145 * m + i < 1160 by omega) (by omega), q_nv, show ix (nI i) = i from q_ix (by omega), show ix (nI (145 * m + i)) = 145 * m + i from q_ix (by omega), q_ve, q_vv, nI_1, q_vn _ _ (show 22 ≠ 21 by omega)]
    have e : upd (bkU (sY 22) (sY 21) m i) (145 * m + i) (sY 22 i) = bkU (sY 22) (sY 21) m (i + 1) := by
      funext j
      by_cases c : j = 145 * m + i
      · subst c; rw [pk_us]; unfold bkU; rw [if_pos (by omega), show 145 * m + i - 145 * m = i by omega]
      · rw [pk_un c]; unfold bkU
        by_cases h2 : 145 * m ≤ j ∧ j < 145 * m + i
        · rw [if_pos h2, if_pos (by omega)]
        · rw [if_neg h2, if_neg (by omega)]
    rw [e])
  refine Eq.trans ?_ key
  show _ = f_X11_book_250 N iY tY jY v1 v2 K N (va_up sY 21 (bkU (sY 22) (sY 21) m 0)) 0
  rw [show bkU (sY 22) (sY 21) m 0 = sY 21 from funext (fun k => if_neg (by omega)), q_vid]
theorem bkU_cp {b s s' u : Nat → Int32} {m : Nat} (h : ∀ k, k < 145 → b k = s (131 + k)) : bkU b (cpU s' u m 145) m 145 = cpU s u m 145 := by
  funext k
  unfold bkU cpU
  by_cases c : 145 * m ≤ k ∧ k < 145 * m + 145
  · rw [if_pos c, if_pos c, h _ (by omega)]
  · rw [if_neg c, if_neg c, if_neg c]
end
