/-! PURE: a county's lines -/
def YF (iY : Nat → Int32) (sY : Nat → Nat → Int32) (tY : Nat → Nat → Int64) (iY' : Nat → Int32) (sY' : Nat → Nat → Int32) (tY' : Nat → Nat → Int64) : Prop :=
  GF iY iY' ∧ (∀ k, k ≠ 7 → sY' k = sY k) ∧ (∀ k, k ≠ 9 → tY' k = tY k) ∧ ∀ k, k < 12 → tY' 9 k = tY 9 k
theorem YF.rf (iY : Nat → Int32) (sY : Nat → Nat → Int32) (tY : Nat → Nat → Int64) : YF iY sY tY iY sY tY := ⟨GF.rf _, fun _ _ => rfl, fun _ _ => rfl, fun _ _ => rfl⟩
theorem YF.tr {a a' a'' : Nat → Int32} {b b' b'' : Nat → Nat → Int32} {c c' c'' : Nat → Nat → Int64} (h : YF a b c a' b' c') (g : YF a' b' c' a'' b'' c'') : YF a b c a'' b'' c'' :=
  ⟨h.1.tr g.1, fun k hk => (g.2.1 k hk).trans (h.2.1 k hk), fun k hk => (g.2.2.1 k hk).trans (h.2.2.1 k hk), fun k hk => (g.2.2.2 k hk).trans (h.2.2.2 k hk)⟩
theorem YF.i {a a' a'' : Nat → Int32} {b b' : Nat → Nat → Int32} {c c' : Nat → Nat → Int64} (h : YF a b c a' b' c') (g : GF a' a'') : YF a b c a'' b' c' := ⟨h.1.tr g, h.2⟩
theorem YF.h {a a' : Nat → Int32} {b b' : Nat → Nat → Int32} {c c' : Nat → Nat → Int64} (h : YF a b c a' b' c') (v : Nat → Int32) : YF a b c a' (va_up b' 7 v) c' := ⟨h.1, fun k hk => (q_vn _ _ hk).trans (h.2.1 k hk), h.2.2⟩
theorem YF.n {a a' : Nat → Int32} {b b' : Nat → Nat → Int32} {c c' : Nat → Nat → Int64} (h : YF a b c a' b' c') {j : Nat} (hj : 12 ≤ j) (x : Int64) : YF a b c a' b' (va_up c' 9 (vp_updL (c' 9) j x)) :=
  ⟨h.1, h.2.1, fun k hk => (q_vn _ _ hk).trans (h.2.2.1 k hk), fun k hk => by rw [q_ve, pk_uLn (by omega)]; exact h.2.2.2 k hk⟩
/-- the draft on both sides -/
def DR (iR iC : Nat → Int32) (tC : Nat → Nat → Int64) (sC : Nat → Nat → Int32) (iY : Nat → Int32) (sY : Nat → Nat → Int32) (tY : Nat → Nat → Int64) (P Q : Nat) : Prop :=
  CP (sY 7) iC sC ∧ IL (sY 7) P Q ∧ NM (tC 2) (tY 9) 12 P Q ∧ iR 2 = bI (tb (iY 20) 0) ∧ iR 3 = bI (tb (iY 20) 1) ∧ iR 4 = bI (tb (iY 20) 2)
theorem IL.up {s s' : Nat → Int32} {P Q P' Q' : Nat} (h : IL s P Q) (hP : P ≤ P') (hQ : Q ≤ Q') (hP7 : P' ≤ 7) (hQ5 : Q' ≤ 5) (e0 : s' 0 = nI P') (e1 : s' 1 = nI Q') (e : ∀ k, k ≠ 0 → k ≠ 1 → (k < 5 ∨ 12 ≤ k) → k < 131 → s' k = s k) : IL s' P' Q' := by
  have ce : ∀ base m, 12 ≤ base → base + 35 ≤ 131 → CE s base P Q m → CE s' base P' Q' m := by
    intro base m h1 h2 hc p g hp hg
    obtain ⟨x, hx, ex, hz⟩ := hc p g hp hg
    exact ⟨x, hx, by rw [e _ (by omega) (by omega) (by omega) (by omega)]; exact ex, fun hz2 => hz (by omega)⟩
  have sy : ∀ base, 12 ≤ base → base + 7 ≤ 131 → SY s base P → SY s' base P' := by
    intro base h1 h2 hs p q hp hq
    rw [e _ (by omega) (by omega) (by omega) (by omega)] at hq
    obtain ⟨a1, a2, a3, a4⟩ := hs p q hp hq
    have := h.P7
    exact ⟨by omega, by omega, a3, by rw [e _ (by omega) (by omega) (by omega) (by omega)]; exact a4⟩
  refine ⟨hP7, hQ5, e0, e1, ?_, ?_, ?_, ce 12 9 (by omega) (by omega) h.st, ce 47 21 (by omega) (by omega) h.pr, ce 82 9 (by omega) (by omega) h.wa, sy 117 (by omega) (by omega) h.kn, sy 124 (by omega) (by omega) h.fo⟩
  · rw [e 2 (by omega) (by omega) (by omega) (by omega)]; exact h.de
  · rw [e 3 (by omega) (by omega) (by omega) (by omega)]; exact h.ve
  · rw [e 4 (by omega) (by omega) (by omega) (by omega)]; exact h.be
theorem NM.per {tc ty : Nat → Int64} {P Q : Nat} (h : NM tc ty 12 P Q) (hP : P < 7) {x y : Int64} (hw : WR x y) (hx : ∀ i, i < 12 → ¬ tc i = x) : NM (vp_updL tc P x) (vp_updL ty (12 + P) y) 12 (P + 1) Q := by
  obtain ⟨n1, n2, n3, n4, n5⟩ := h
  refine ⟨fun k hk => ?_, fun k h1 h2 => ?_, fun k hk => ?_, fun k h1 h2 => ?_, fun i j hi hj he hne => ?_⟩
  · by_cases c : k = P
    · subst c; rw [pk_uLs, pk_uLs]; exact hw
    · rw [pk_uLn c, pk_uLn (by omega)]; exact n1 k (by omega)
  · rw [pk_uLn (by omega)]; exact n2 k (by omega) h2
  · rw [pk_uLn (by omega), pk_uLn (by omega)]; exact n3 k hk
  · rw [pk_uLn (by omega)]; exact n4 k h1 h2
  · by_cases ci : i = P
    · by_cases cj : j = P
      · omega
      · rw [ci, pk_uLs, pk_uLn cj] at he
        exact absurd he.symm (hx j hj)
    · by_cases cj : j = P
      · rw [cj, pk_uLs, pk_uLn ci] at he
        exact absurd he (hx i hi)
      · rw [pk_uLn ci, pk_uLn cj] at he
        rw [pk_uLn ci] at hne
        exact n5 i j hi hj he hne
theorem NM.gd {tc ty : Nat → Int64} {P Q : Nat} (h : NM tc ty 12 P Q) (hP : P ≤ 7) (hQ : Q < 5) {x y : Int64} (hw : WR x y) (hx : ∀ i, i < 12 → ¬ tc i = x) : NM (vp_updL tc (7 + Q) x) (vp_updL ty (12 + (7 + Q)) y) 12 P (Q + 1) := by
  obtain ⟨n1, n2, n3, n4, n5⟩ := h
  refine ⟨fun k hk => ?_, fun k h1 h2 => ?_, fun k hk => ?_, fun k h1 h2 => ?_, fun i j hi hj he hne => ?_⟩
  · rw [pk_uLn (by omega), pk_uLn (by omega)]; exact n1 k hk
  · rw [pk_uLn (by omega)]; exact n2 k h1 h2
  · by_cases c : k = Q
    · subst c; rw [pk_uLs, show 12 + 7 + k = 12 + (7 + k) by omega, pk_uLs]; exact hw
    · rw [pk_uLn (by omega), pk_uLn (by omega)]; exact n3 k (by omega)
  · rw [pk_uLn (by omega)]; exact n4 k (by omega) h2
  · by_cases ci : i = 7 + Q
    · by_cases cj : j = 7 + Q
      · omega
      · rw [ci, pk_uLs, pk_uLn cj] at he
        exact absurd he.symm (hx j hj)
    · by_cases cj : j = 7 + Q
      · rw [cj, pk_uLs, pk_uLn ci] at he
        exact absurd he (hx i hi)
      · rw [pk_uLn ci, pk_uLn cj] at he
        rw [pk_uLn ci] at hne
        exact n5 i j hi hj he hne
section
variable (N : Nat) {sT : Nat → Nat → Int32} {iT : Nat → Int32} {jT : Nat → Int64} {iY : Nat → Int32} {sY : Nat → Nat → Int32} {tY : Nat → Nat → Int64} {jY : Nat → Int64} {iR iC : Nat → Int32} {tC : Nat → Nat → Int64} {sC : Nat → Nat → Int32} {L lim st P Q : Nat}
theorem b_puts (hN : 2000 ≤ N) (hB : ∀ k, k < 940 → sT 0 k = sY 1 k &&& 255) (h : TR L lim st iT jT iY jY) {to lo hi : Nat} (ht : to < 131) (hlo : lo < 1000) (hhi : hi < 1000) :
    (∃ iT' iY', f_X8_passNumber N sT iT jT (nI lo) (nI hi) = some (-1, iT', jT) ∧ f_X11_puts N iY sY tY jY (nI to) (nI lo) (nI hi) = some (0, iY', sY, jY) ∧ FT iT' iY' ∧ GF iY iY') ∨
    (∃ v iT' jT' iY' jY' st', lo ≤ v ∧ v ≤ hi ∧ f_X8_passNumber N sT iT jT (nI lo) (nI hi) = some (nI v, iT', jT') ∧ f_X11_puts N iY sY tY jY (nI to) (nI lo) (nI hi) = some (1, iY', va_up sY 7 (upd (sY 7) to (nI v)), jY') ∧ TR L lim st' iT' jT' iY' jY' ∧ st < st' ∧ iT' 11 = iT 11 ∧ SF iY iY') := by
  unfold f_X11_puts
  rcases b_num N (tY := tY) hN hB h hlo hhi with ⟨iT', iY', e1, e2, e3, e4⟩ | ⟨v, iT', jT', iY', jY', st', v1, v2, e1, e2, e3, e4, e5, e6, e7⟩
  · rw [e2, q_bd]
    exact Or.inl ⟨iT', iY', e1, rfl, e3, e4⟩
  · rw [e2, q_bd]
    dsimp only
    rw [if_neg (show ¬ (1 : Int32) = 0 by decide), q_ck ht (by omega), q_nv, show ix (nI to) = to from q_ix (by omega), e3]
    exact Or.inr ⟨v, iT', jT', iY', jY', st', v1, v2, e1, rfl, e4, e5, e6, e7⟩
theorem b_fresh (hN : 2000 ≤ N) (hB : ∀ k, k < 940 → sT 0 k = sY 1 k &&& 255) (hR : ∀ k, k < 24 → tY 10 k = lN (e256 (wds k))) (hP : P ≤ 7) (hQ : Q ≤ 5) (hn : NM (tC 2) (tY 9) 12 P Q) (h0 : sY 7 0 = nI P) (h1 : sY 7 1 = nI Q) (h : TR L lim st iT jT iY jY) {k : Nat} (hk : k < 12) :
    (∃ iT' iY', f_X2_passNewName N iR sT iT jT iC tC sC (nI k) = some (0, iT', jT, tC) ∧ f_X11_fresh N iY sY tY jY (nI (12 + k)) = some (0, iY', tY, jY) ∧ FT iT' iY' ∧ GF iY iY') ∨
    (∃ iT' jT' iY' jY' st', f_X2_passNewName N iR sT iT jT iC tC sC (nI k) = some (1, iT', jT', va_up tC 2 (vp_updL (tC 2) k (jT 10))) ∧ f_X11_fresh N iY sY tY jY (nI (12 + k)) = some (1, iY', va_up tY 9 (vp_updL (tY 9) (12 + k) (jY 17)), jY') ∧ WR (jT 10) (jY 17) ∧ (∀ i, i < 12 → ¬ tC 2 i = jT 10) ∧ TR L lim st' iT' jT' iY' jY' ∧ st < st' ∧ iT' 11 = iT 11 ∧ SF iY iY') := by
  unfold f_X2_passNewName f_X11_fresh
  rw [x_isName, y_isName N hN hR h, q_bd, q_bd]
  cases hnm : nmB iT with
  | false =>
    obtain ⟨r1, r2, r3, r4⟩ := y_refuse N (sT := sT) (sY := sY) (tY := tY) h 1
    rw [bI_ff, bI_ff, r1, r2, q_bd, q_bd]
    exact Or.inl ⟨_, _, rfl, rfl, r3, r4⟩
  | true =>
    obtain ⟨hw, hs⟩ := nm_WR h hnm
    obtain ⟨r1, r2, r3, r4⟩ := y_refuse N (sT := sT) (sY := sY) (tY := tY) h 3
    rw [bI_tt, bI_tt, h0, h1, show (12 : Int32) = nI 12 from rfl, show (19 : Int32) = nI (12 + 7) from rfl]
    rcases slot_c N (iC := iC) (sC := sC) (iY := iY) (sY := sY) hN hP hQ (by omega) hn hw with ⟨j, hj, s1, s2, s3⟩ | ⟨j, hj, s1, s2, s3⟩ | ⟨s1, s2, s3, s4⟩
    · rw [s1, s2, q_bd, q_bd, if_neg (nI_m1 (by omega)), q_jn, if_pos (show (0 : Int32) ≤ nI j from nI_le (a := 0) (by omega) (by omega)), r1, q_bd]
      dsimp only
      rw [r2, q_bd]
      exact Or.inl ⟨_, _, rfl, rfl, r3, r4⟩
    · rw [s1, s2, q_bd, q_bd, if_neg (nI_m1 (by omega)), q_jn, if_neg (show ¬ (0 : Int32) ≤ -1 by decide), s3, q_bd, if_neg (nI_n0 (by omega)), r1, q_bd]
      dsimp only
      rw [r2, q_bd]
      exact Or.inl ⟨_, _, rfl, rfl, r3, r4⟩
    · obtain ⟨iT', jT', iY', jY', st', a1, a2, a3, a4, a5, a6, a7, a8⟩ := t_next N (sY := sY) hN hB (va_up tY 9 (vp_updL (tY 9) (12 + k) (jY 17))) h
      rw [s1, s2, q_bd, q_bd, if_pos rfl, q_jn, if_neg (show ¬ (0 : Int32) ≤ -1 by decide), s3, q_bd, if_pos (show (-1 : Int32) < 0 by decide), q_ck hk (by omega), q_nv, a1, q_bd, q_ck (show 12 + k < 24 by omega) (by omega), q_nv, show ix (nI k) = k from q_ix (by omega), show ix (nI (12 + k)) = 12 + k from q_ix (by omega), a2, q_bd]
      exact Or.inr ⟨iT', jT', iY', jY', st', rfl, rfl, hw, s4, a3, a5 hs, a6, a7⟩
end
