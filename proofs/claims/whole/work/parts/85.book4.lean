/-! PURE: book, whole -/
section
variable (N : Nat) {iX iM : Nat → Int32} {sM : Nat → Nat → Int32} {aU : Nat → Nat → Nat} {iU : Nat → Nat → Int32} {sU : Nat → Nat → Nat → Int32} {iC : Nat → Int32} {tC : Nat → Nat → Int64} {sC : Nat → Nat → Int32} {iM2 : Nat → Int32} {sM2 : Nat → Nat → Int32} {sT : Nat → Nat → Int32} {iT : Nat → Int32} {jT : Nat → Int64} {sB : Nat → Nat → Int32} {iB : Nat → Int32} {P Q n : Nat}
variable (iY : Nat → Int32) (sY : Nat → Nat → Int32) (tY : Nat → Nat → Int64) (jY : Nat → Int64)
/-- keep, when the reference has moved on and lays the old state there itself -/
theorem b_keep2 (hN : 2000 ≤ N) {s0 : Nat → Int32} (zY : Nat → Int32) (wY : Nat → Nat → Int32) (hX : iX 6 = nI n) (hZ : zY 23 = nI n) (hM : MP s0 iM sM) (hI : ID s0 P Q) (hK : RK s0 (wY 21) n iU sU P Q) (h22 : ∀ k, k < 145 → wY 22 k = s0 (131 + k)) (v1 v2 : Int32) (K : (Nat → Int32) × (Nat → Nat → Int32) → Option (Int32 × (Nat → Int32) × (Nat → Nat → Int32) × (Nat → Int64))) :
    ∃ n' u' aU' iU' sU', f_X10_keepU N iX iM sM aU iU sU = some (va_up iX 6 (nI n'), aU', iU', sU') ∧ bd (f_X11_keep N zY wY tY jY) (fun (iY_40, sY_41) => f_X11_book_250 N iY_40 tY jY v1 v2 K N sY_41 0) = K (va_up zY 23 (nI n'), va_up wY 21 u') ∧ RK s0 u' n' iU' sU' P Q := by
  rcases Nat.lt_or_ge n 8 with h8 | h8
  · obtain ⟨iU', sU', e, ho, hm⟩ := x_keepA N (aU := aU) (iU := iU) (sU := sU) hM n h8 hX
    refine ⟨n + 1, cpU s0 (wY 21) n 145, _, _, _, e, ?_, ⟨by omega, fun j hj => ?_⟩⟩
    · rw [y_keep N zY wY tY jY hN h8 hZ, q_bd]
      dsimp only
      rw [y_250 N hN _ _ tY jY v1 v2 h8 rfl, q_ve, q_vv, q_vn _ _ (show 22 ≠ 21 by omega), bkU_cp h22]
    · rcases Nat.lt_or_ge j n with h1 | h1
      · rw [row_old _ _ h1, (ho j h1).1, (ho j h1).2]; exact hK.2 j h1
      · have : j = n := by omega
        subst this
        rw [row_new]; exact ⟨hm, hI⟩
  · have : n = 8 := by have := hK.1; omega
    subst this
    obtain ⟨iU', sU', e, ho, hm⟩ := x_keepB N (aU := aU) (iU := iU) (sU := sU) hM hX
    refine ⟨8, cpU s0 (shU (wY 21) 1015) 7 145, _, _, _, e, ?_, ⟨by omega, fun j hj => ?_⟩⟩
    · rw [y_keep8 N zY wY tY jY hN hZ, q_bd]
      dsimp only
      rw [y_250 N hN _ _ tY jY v1 v2 (m := 7) (by omega) rfl, q_ve, q_vv, q_vn _ _ (show 22 ≠ 21 by omega), bkU_cp h22]
    · rcases Nat.lt_or_ge j 7 with h1 | h1
      · rw [row_old _ _ h1, row_sh _ _ h1, (ho j h1).1, (ho j h1).2]; exact hK.2 (j + 1) (by omega)
      · have : j = 7 := by omega
        subst this
        rw [row_new]; exact ⟨hm, hI⟩
theorem b_book (hN : 2000 ≤ N) {L : Nat} (hL9 : L ≤ 940) (h1 : iT 1 = nI L) (h2 : iY 2 = nI L) (hB : ∀ k, k < 940 → sT 0 k = sY 1 k &&& 255) (hR : ∀ k, k < 24 → tY 10 k = lN (e256 (wds k))) (hC : CP (sY 6) iC sC) (hM : MP (sY 6) iM sM) (hL : IL (sY 6) P Q) (hI : ID (sY 6) P Q) (hNm : NM (tC 2) (tY 9) 0 P Q) (hX : iX 6 = nI n) (hY : iY 23 = nI n) (hK : RK (sY 6) (sY 21) n iU sU P Q) (p1 : Int32) :
    (f_X10_book N iX iM sM aU iU sU iC tC sC iM2 sM2 sT iT jT sB iB p1 = some (-1000, iX, iM, sM, aU, iU, sU, iM2, sM2, iT, jT, sB, iB) ∧ f_X11_book N iY sY tY jY p1 = some (-1000, va_up iY 0 0, sY, jY)) ∨
    (∃ r m iT' jT' sB' iY' sY' jY', f_X10_book N iX iM sM aU iU sU iC tC sC iM2 sM2 sT iT jT sB iB p1 = some (r, iX, iM, sM, aU, iU, sU, iM2, sM2, va_up iT' 1 0, jT', sB', va_up iB 6 (nI m)) ∧ f_X11_book N iY sY tY jY p1 = some (r, iY', sY', jY') ∧ iT' 11 = iY' 15 ∧ iY' 2 = 0 ∧ (∀ k, gk k = true → k ≠ 0 → k ≠ 2 → iY' k = iY k) ∧ (∀ k, k ≠ 8 → sY' k = sY k)) ∨
    (∃ r n' s' u' iM' sM' aU' iU' sU' iM2' sM2' iT' jT' sB' iB' iY' sY' jY', f_X10_book N iX iM sM aU iU sU iC tC sC iM2 sM2 sT iT jT sB iB p1 = some (r, va_up iX 6 (nI n'), iM', sM', aU', iU', sU', iM2', sM2', va_up iT' 1 0, jT', sB', iB') ∧ f_X11_book N iY sY tY jY p1 = some (r, iY', sY', jY') ∧ iT' 11 = iY' 15 ∧ iY' 2 = 0 ∧ iY' 23 = nI n' ∧ iY' 41 = 1 ∧ iB' 7 = 1 ∧ (∀ k, k < 4 → iB' (8 + k) = sY' 40 k) ∧ (∀ k, gk k = true → k ≠ 0 → k ≠ 2 → k ≠ 23 → k ≠ 41 → iY' k = iY k) ∧ (∀ k, k ≠ 6 → k ≠ 8 → k ≠ 21 → k ≠ 22 → k ≠ 40 → sY' k = sY k) ∧ sY' 6 = s' ∧ sY' 21 = u' ∧ MP s' iM' sM' ∧ ID s' P Q ∧ (∀ k, k < 131 ∨ 276 ≤ k → s' k = sY 6 k) ∧ RK s' u' n' iU' sU' P Q) := by
  have hP := hL.P7
  have hQ := hL.Q5
  unfold f_X10_book f_X11_book
  rw [y_isIn, q_bd, q_jn]
  by_cases hp : p1 = 0 ∨ p1 = 1
  · refine Or.inr ?_
    have hin : ¬ p1 < 0 ∧ p1 ≤ 1 := by rcases hp with rfl | rfl <;> decide
    rw [q_dt hin]
    have ex : ∀ {α : Type} {a b : α}, (if p1 = 0 then a else if p1 = 1 then a else b) = a := by
      intro α a b
      rcases hp with h | h
      · rw [if_pos h]
      · by_cases h0 : p1 = 0
        · rw [if_pos h0]
        · rw [if_neg h0, if_pos h]
    rw [ex]
    dsimp only
    unfold f_X0_readText f_X11_taken
    rw [q_bd]
    generalize hz : va_up (va_up (va_up (va_up (va_up (va_up (va_up iY 0 0) 3 (va_up iY 0 0 2)) 2 0) 4 0) 5 400) 15 0) 39 0 = zY
    have z3 : zY 3 = nI L := by rw [← hz]; exact h2
    have z4 : zY 4 = 0 := by rw [← hz]; rfl
    have z5 : zY 5 = nI 400 := by rw [← hz]; rfl
    have z2 : zY 2 = 0 := by rw [← hz]; rfl
    have z15 : zY 15 = 0 := by rw [← hz]; rfl
    have z39 : zY 39 = nI 0 := by rw [← hz]; rfl
    have zo : ∀ k, gk k = true → k ≠ 0 → k ≠ 2 → zY k = iY k := by
      intro k hk h0 h2
      have ne : ∀ j, gk j = false → k ≠ j := fun j hj e => by rw [e, hj] at hk; cases hk
      rw [← hz, q_vn _ _ (ne 39 rfl), q_vn _ _ (ne 15 rfl), q_vn _ _ (ne 5 rfl), q_vn _ _ (ne 4 rfl), q_vn _ _ h2, q_vn _ _ (ne 3 rfl), q_vn _ _ h0]
    obtain ⟨iT1, jT1, iY1, jY1, st, o1, o2, o3, o4, o5⟩ := b_open N (sT := sT) (iT := iT) (jT := jT) (iY := zY) (sY := sY) (jY := jY) (lim := 400) hN hB tY hL9 (by omega) h1 z3 z4 z5
    rw [show f_X8_open N sT iT jT 400 = _ from o1, o2, q_bd, q_bd]
    dsimp only
    rw [q_jn, q_jn]
    have loop := fun K101 K9 => bk_loop N (sT := sT) (iC := iC) (tC := tC) (sC := sC) (tY := tY) (iB := iB) hN (L := L) (lim := 400) p1 (by omega) hR K101 K9 940 N N st 0 sB iT1 jT1 iY1 sY jY1 (by omega) (by omega) (by omega) (by omega) hB hL hNm o3 (fun j hj => absurd hj (Nat.not_lt_zero _)) ((o5 39 (by omega) (by omega) (by omega) (by omega) (by omega) (by omega)).trans z39) o4 (o5.at.1.trans z15)
    rcases loop _ _ with ⟨m, sB', iT', jT', iY', sY', jY', e1, e2, e3, e4, e5⟩ | ⟨m, sB', iT', jT', iY', sY', jY', hm, e1, e2, e3, e4, e5, e6, e7, e8⟩
    · refine Or.inl ⟨_, m, iT', jT', sB', iY', sY', jY', ?_, e2, e3.1, ?_, ?_, e5⟩
      · show bd (f_X0_readText_17 N sT iC tC sC (KXb N sT) N sB (va_up iB 6 (nI 0)) iT1 jT1 (nI 0)) _ = _
        rw [e1, q_bd]
        dsimp only
        rw [if_pos rfl, e3.2]
      · rw [e4 2 rfl, o5.gf 2 rfl]; exact z2
      · intro k hk h0 h2; rw [e4 k hk, o5.gf k hk]; exact zo k hk h0 h2
    · -- the book stands: it is judged
      refine Or.inr ?_
      have gf : ∀ k, gk k = true → k ≠ 0 → k ≠ 2 → iY' k = iY k := fun k hk h0 h2 => by rw [e7 k hk, o5.gf k hk]; exact zo k hk h0 h2
      have y2 : iY' 2 = 0 := by rw [e7 2 rfl, o5.gf 2 rfl]; exact z2
      have y23 : iY' 23 = nI n := (gf 23 rfl (by omega) (by omega)).trans hY
      have s6 : sY' 6 = sY 6 := e8 6 (by omega)
      obtain ⟨iM3, sM3, c1, c2⟩ := x_copyM N hM iM2 sM2
      -- the reference's row before judging
      obtain ⟨w, j, s', iB1, iM1, sM1, g, hw, hj0, hjm, f4, f5, f6, f7, f8, f9, f10, f11, f12, f13, f14⟩ := jg_loop N (P := P) (Q := Q) (m := m) (iC := iC) (tC := tC) (sC := sC) (sB := sB') hN iY' tY jY' p1 hm e4 m 0 N N (va_up (va_up (va_up (va_up iB 6 (nI m)) 7 1) 8 0) 9 0) iM3 sM3 (va_up (va_up sY' 22 (trS (sY' 6) (sY' 22) 145)) 40 (fun k => if k < 4 then 0 else va_up sY' 22 (trS (sY' 6) (sY' 22) 145) 40 k)) (by omega) (by omega) (by omega) e3 (by rw [q_vn _ _ (by omega), q_vn _ _ (by omega), s6]; exact hC) (by rw [q_vn _ _ (by omega), q_vn _ _ (by omega), s6]; exact c2) (by rw [q_vn _ _ (by omega), q_vn _ _ (by omega), s6]; exact hL) (by rw [q_vn _ _ (by omega), q_vn _ _ (by omega), s6]; exact hI) rfl rfl rfl rfl rfl
      have hs6 : va_up (va_up sY' 22 (trS (sY' 6) (sY' 22) 145)) 40 (fun k => if k < 4 then 0 else va_up sY' 22 (trS (sY' 6) (sY' 22) 145) 40 k) 6 = sY 6 := by rw [q_vn _ _ (by omega), q_vn _ _ (by omega), s6]
      rw [hs6] at f13 f14
      have hCs : CP s' iC sC := hC.to (fun k hk => f13 k (Or.inl hk))
      have hLs : IL s' P Q := hL.to (fun k hk => f13 k (Or.inl hk))
      have hjx : f_X0_judge N sB' (va_up iB 6 (nI m)) iM3 sM3 iC tC sC = some (va_up (va_up iB1 10 (s' 131)) 11 (fedS s' P), iM1, sM1) := by
        unfold f_X0_judge
        rw [q_jn]
        refine Eq.trans (f4 _) ?_
        dsimp only
        rw [x_fed N hN f11 hCs hP hLs.s0, q_bd, f11.da]
      generalize hF : va_up (va_up (va_up (va_up sY' 22 (trS (sY' 6) (sY' 22) 145)) 40 (fun k => if k < 4 then 0 else va_up sY' 22 (trS (sY' 6) (sY' 22) 145) 40 k)) 6 s') 40 g = sF at f5
      have F6 : sF 6 = s' := by rw [← hF]; rfl
      have F40 : sF 40 = g := by rw [← hF]; rfl
      have F21 : sF 21 = sY 21 := by
        rw [← hF]
        show sY' 21 = _
        exact e8 21 (by omega)
      have F22 : ∀ k, k < 145 → sF 22 k = sY 6 (131 + k) := by
        intro k hk
        rw [← hF]
        show trS (sY' 6) (sY' 22) 145 k = _
        unfold trS; rw [if_pos hk, s6]
      have Fo : ∀ k, k ≠ 6 → k ≠ 8 → k ≠ 22 → k ≠ 40 → sF k = sY k := by
        intro k k6 k8 k22 k40
        rw [← hF, q_vn _ _ k40, q_vn _ _ k6, q_vn _ _ k40, q_vn _ _ k22]; exact e8 k k8
      -- the class, behind the judging
      have hx : ∀ r4 : Int32, bd (f_X0_readText_17 N sT iC tC sC (KXb N sT) N sB (va_up iB 6 (nI 0)) iT1 jT1 (nI 0)) (fun (r_4, sB_5, iB_6, iT_7, jT_8) => (if r_4 = 0 then some (((-2 : Int32) - (iT_7 12)), iX, iM, sM, aU, iU, sU, iM2, sM2, (va_up iT_7 1 0), jT_8, sB_5, iB_6) else bd (f_X4_copyFrom N iM2 sM2 iM sM) (fun (iM2_11, sM2_12) => bd (f_X0_judge N sB_5 iB_6 iM2_11 sM2_12 iC tC sC) (fun (iB_14, iM2_15, sM2_16) => jn (fun (z : (Nat → Int32) × (Nat → Int32) × (Nat → Nat → Int32) × (Nat → Nat → Nat) × (Nat → Nat → Int32) × (Nat → Nat → Nat → Int32)) => match z with | (iX_21, iM_22, sM_23, aU_24, iU_25, sU_26) => (if (iB_14 8) = 0 then some ((-1), iX_21, iM_22, sM_23, aU_24, iU_25, sU_26, iM2_15, sM2_16, (va_up iT_7 1 0), jT_8, sB_5, iB_14) else some ((iB_14 9), iX_21, iM_22, sM_23, aU_24, iU_25, sU_26, iM2_15, sM2_16, (va_up iT_7 1 0), jT_8, sB_5, iB_14))) (fun K_18 => (if p1 = 1 then (if (iB_14 9) ≤ 0 then K_18 (iX, iM, sM, aU, iU, sU) else bd (f_X10_keepU N iX iM sM aU iU sU) (fun (iX_30, aU_31, iU_32, sU_33) => bd (f_X4_copyFrom N iM sM iM2_15 sM2_16) (fun (iM_35, sM_36) => K_18 (iX_30, iM_35, sM_36, aU_31, iU_32, sU_33)))) else K_18 (iX, iM, sM, aU, iU, sU))))))) = (if p1 = 1 then (if j = 0 then some (if w = 0 then -1 else nI j, iX, iM, sM, aU, iU, sU, iM1, sM1, va_up iT' 1 0, jT', sB', va_up (va_up iB1 10 (s' 131)) 11 (fedS s' P)) else bd (f_X10_keepU N iX iM sM aU iU sU) (fun (iX_30, aU_31, iU_32, sU_33) => bd (f_X4_copyFrom N iM sM iM1 sM1) (fun (iM_35, sM_36) => some (if w = 0 then -1 else nI j, iX_30, iM_35, sM_36, aU_31, iU_32, sU_33, iM1, sM1, va_up iT' 1 0, jT', sB', va_up (va_up iB1 10 (s' 131)) 11 (fedS s' P))))) else some (if w = 0 then -1 else nI j, iX, iM, sM, aU, iU, sU, iM1, sM1, va_up iT' 1 0, jT', sB', va_up (va_up iB1 10 (s' 131)) 11 (fedS s' P))) := by
        intro _
        rw [e1, q_bd]
        dsimp only
        rw [if_neg (show ¬ (1 : Int32) = 0 by decide), c1, q_bd]
        dsimp only
        rw [hjx, q_bd, q_jn]
        have b8 : va_up (va_up iB1 10 (s' 131)) 11 (fedS s' P) 8 = nI w := f6
        have b9 : va_up (va_up iB1 10 (s' 131)) 11 (fedS s' P) 9 = nI j := f7
        have t8 : ((nI w : Int32) = 0) = (w = 0) := propext (by rw [show (0 : Int32) = nI 0 from rfl, nI_eq (by omega) (by omega)])
        have t9 : ((nI j : Int32) ≤ 0) = (j = 0) := propext (by rw [show (0 : Int32) = nI 0 from rfl, nI_leI (by omega) (by omega)]; omega)
        simp only [b8, b9, t8, t9]
        by_cases cw : w = 0
        · simp only [cw, if_true]
        · simp only [if_neg cw]
      -- the reference, behind the judging
      have hfed : f_X11_fed N iY' (va_up sF 40 (upd g 2 (s' 131))) tY jY' = some (fedS s' P) := by
        have := y_fed N iY' (va_up sF 40 (upd g 2 (s' 131))) tY jY' (P := P) (Q := Q) hN hP hQ (by rw [q_vn _ _ (by omega), F6]; exact hLs.s0) (by rw [q_vn _ _ (by omega), F6]; exact hLs.s1) (by rw [q_vn _ _ (by omega), F6]; exact f12.wa)
        rw [q_vn _ _ (by omega), F6] at this
        exact this
      have told : ∀ (sZ : Nat → Nat → Int32), sZ 40 = upd (upd g 2 (s' 131)) 3 (fedS s' P) → ∀ k, k < 4 → va_up (va_up iB1 10 (s' 131)) 11 (fedS s' P) (8 + k) = sZ 40 k := by
        intro sZ hZ k hk
        rw [hZ]
        rcases (by omega : k = 0 ∨ k = 1 ∨ k = 2 ∨ k = 3) with rfl | rfl | rfl | rfl
        · rw [pk_un (by omega), pk_un (by omega), f9]; exact f6
        · rw [pk_un (by omega), pk_un (by omega), f10]; exact f7
        · rw [pk_un (by omega), pk_us]; rfl
        · rw [pk_us]; rfl
      have b7 : va_up (va_up iB1 10 (s' 131)) 11 (fedS s' P) 7 = 1 := f8 7 (by omega) (by omega)
      have gF1 : upd (upd g 2 (s' 131)) 3 (fedS s' P) 1 = nI j := by rw [pk_un (by omega), pk_un (by omega), f10]
      have t9 : ((nI j : Int32) ≤ 0) = (j = 0) := propext (by rw [show (0 : Int32) = nI 0 from rfl, nI_leI (by omega) (by omega)]; omega)
      have hback : bkS s' (sF 22) 0 145 = sY 6 := by
        funext k
        unfold bkS
        by_cases c : 131 ≤ k ∧ k < 131 + 145
        · rw [if_pos c, F22 _ (by omega), show 131 + (0 + (k - 131)) = k by omega]
        · rw [if_neg c]; exact f13 k (by omega)
      have fin : ∀ (iZ : Nat → Int32), iZ 41 = 1 → (∀ k, k ≠ 41 → k ≠ 23 → iZ k = iY' k) → (iT' 11 = iZ 15 ∧ iZ 2 = 0 ∧ ∀ k, gk k = true → k ≠ 0 → k ≠ 2 → k ≠ 23 → k ≠ 41 → iZ k = iY k) := by
        intro iZ _ ho
        refine ⟨?_, ?_, ?_⟩
        · rw [ho 15 (by omega) (by omega)]; exact e5.trans e6.symm
        · rw [ho 2 (by omega) (by omega)]; exact y2
        · intro k hk k0 k2 k23 k41
          rw [ho k k41 k23]; exact gf k hk k0 k2
      have hx2 := hx 0
      clear hx
      rcases hp with rfl | rfl
      · -- only tried
        rw [if_neg (show ¬ (0 : Int32) = 1 by decide)] at hx2
        obtain ⟨g1, g2, g3⟩ := fin (va_up iY' 41 1) rfl (fun k k41 _ => q_vn _ _ k41)
        refine ⟨if w = 0 then -1 else nI j, n, sY 6, sY 21, iM, sM, aU, iU, sU, iM1, sM1, iT', jT', sB', va_up (va_up iB1 10 (s' 131)) 11 (fedS s' P), va_up iY' 41 1, va_up (va_up sF 40 (upd (upd g 2 (s' 131)) 3 (fedS s' P))) 6 (sY 6), jY', ?_, ?_, g1, g2, y23, rfl, b7, told _ rfl, g3, ?_, rfl, F21, hM, hI, fun _ _ => rfl, hK⟩
        · rw [up_id hX]; exact hx2
        · refine e2.trans ?_
          dsimp only
          rw [y_tries N _ _ tY _ hN, q_bd, q_jn, y_89 N hN, q_jn]
          refine Eq.trans (f5 _) ?_
          dsimp only
          rw [q_nv, F40, F6, hfed, q_bd, q_nv, q_jn, if_neg (show ¬ (0 : Int32) = 1 by decide)]
          dsimp only
          rw [if_pos rfl, y_back N _ _ tY _ hN, q_bd, q_vn _ _ (show 6 ≠ 40 by omega), q_vn _ _ (show 22 ≠ 40 by omega), F6, hback]
        · intro k k6 k8 k21 k22 k40
          rw [q_vn _ _ k6, q_vn _ _ k40]; exact Fo k k6 k8 k22 k40
      · rw [if_pos rfl] at hx2
        by_cases cj : j = 0
        · rw [if_pos cj] at hx2
          have s6' : s' = sY 6 := f14 cj
          obtain ⟨g1, g2, g3⟩ := fin (va_up iY' 41 1) rfl (fun k k41 _ => q_vn _ _ k41)
          refine ⟨if w = 0 then -1 else nI j, n, sY 6, sY 21, iM, sM, aU, iU, sU, iM1, sM1, iT', jT', sB', va_up (va_up iB1 10 (s' 131)) 11 (fedS s' P), va_up iY' 41 1, va_up sF 40 (upd (upd g 2 (s' 131)) 3 (fedS s' P)), jY', ?_, ?_, g1, g2, y23, rfl, b7, told _ rfl, g3, ?_, F6.trans s6', F21, hM, hI, fun _ _ => rfl, hK⟩
          · rw [up_id hX]; exact hx2
          · refine e2.trans ?_
            dsimp only
            rw [y_tries N _ _ tY _ hN, q_bd, q_jn, y_89 N hN, q_jn]
            refine Eq.trans (f5 _) ?_
            dsimp only
            rw [q_nv, F40, F6, hfed, q_bd, q_nv, q_jn, if_pos rfl, gF1, if_pos (t9.mpr cj)]
            dsimp only
            rw [if_neg (show ¬ (1 : Int32) = 0 by decide)]
          · intro k k6 k8 k21 k22 k40
            rw [q_vn _ _ k40]; exact Fo k k6 k8 k22 k40
        · rw [if_neg cj] at hx2
          obtain ⟨n', u', aU', iU', sU', k1, k2, k3⟩ := b_keep2 N (iX := iX) (iM := iM) (sM := sM) (aU := aU) (iU := iU) (sU := sU) (P := P) (Q := Q) (n := n) tY jY' hN (s0 := sY 6) (va_up iY' 41 1) (va_up sF 40 (upd (upd g 2 (s' 131)) 3 (fedS s' P))) hX y23 hM hI (by rw [q_vn _ _ (show 21 ≠ 40 by omega), F21]; exact hK) (fun k hk => by rw [q_vn _ _ (show 22 ≠ 40 by omega)]; exact F22 k hk) 1 (if w = 0 then -1 else nI j) (fun z => some (if w = 0 then -1 else nI j, z.1, z.2, jY'))
          obtain ⟨iM4, sM4, d1, d2⟩ := x_copyM N f11 iM sM
          obtain ⟨g1, g2, g3⟩ := fin (va_up (va_up iY' 41 1) 23 (nI n')) rfl (fun k k41 k23 => by rw [q_vn _ _ k23, q_vn _ _ k41])
          refine ⟨if w = 0 then -1 else nI j, n', s', u', iM4, sM4, aU', iU', sU', iM1, sM1, iT', jT', sB', va_up (va_up iB1 10 (s' 131)) 11 (fedS s' P), va_up (va_up iY' 41 1) 23 (nI n'), va_up (va_up sF 40 (upd (upd g 2 (s' 131)) 3 (fedS s' P))) 21 u', jY', ?_, ?_, g1, g2, rfl, rfl, b7, told _ rfl, g3, ?_, F6, rfl, d2, f12, f13, k3.to hP (fun k hk => f13 k (Or.inl hk))⟩
          · refine hx2.trans ?_
            rw [k1, q_bd]
            dsimp only
            rw [d1, q_bd]
          · refine e2.trans ?_
            dsimp only
            rw [y_tries N _ _ tY _ hN, q_bd, q_jn, y_89 N hN, q_jn]
            refine Eq.trans (f5 _) ?_
            dsimp only
            rw [q_nv, F40, F6, hfed, q_bd, q_nv, q_jn, if_pos rfl, gF1, if_neg (fun h => cj (t9.mp h))]
            refine Eq.trans ?_ k2
            simp only [if_neg (show ¬ (1 : Int32) = 0 by decide)]
          · intro k k6 k8 k21 k22 k40
            rw [q_vn _ _ k21, q_vn _ _ k40]; exact Fo k k6 k8 k22 k40
  · refine Or.inl ⟨?_, ?_⟩
    · rw [if_neg (fun h => hp (Or.inl h)), if_neg (fun h => hp (Or.inr h))]
    · rw [q_df]
      intro h
      obtain ⟨j, hj, e⟩ := in_le (m := 1) (by omega) h.1 h.2
      rcases (by omega : j = 0 ∨ j = 1) with rfl | rfl
      · exact hp (Or.inl e)
      · exact hp (Or.inr e)
end
