/-! PURE: most: the search, whole -/
section
variable (N : Nat) {iY : Nat → Int32} {sY : Nat → Nat → Int32} {tY : Nat → Nat → Int64} {jY : Nat → Int64} {n : Nat → Nat}
theorem y_f42 (hN : 2000 ≤ N) (h24 : ∀ i, i < 256 → n i < 2147483648 ∧ sY 24 i = nI (n i)) (K7 : (Nat → Nat → Int32) → Option (Int32 × (Nat → Nat → Int32))) : ∀ (r h t k : Nat) (pa qu : Nat → Int32) (q : Nat → Nat), h + r = 17 → r < k → BQ n pa qu q t → h ≤ t → clo n q t h 0 →
    ∃ t' pa' qu' q', f_X11_finds_42 N iY tY jY K7 k (va_up (va_up sY 25 pa) 26 qu) (nI t) (nI h) = K7 (va_up (va_up sY 25 pa') 26 qu') ∧ BQ n pa' qu' q' t' ∧ clo n q' t' t' 0 := by
  intro r
  induction r with
  | zero =>
    intro h t k pa qu q hr hk hq hh
    have := hq.t16
    omega
  | succ r ih =>
    intro h t k pa qu q hr hk hq hh hc
    obtain ⟨k, rfl⟩ : ∃ x, k = x + 1 := ⟨k - 1, by omega⟩
    have t16 := hq.t16
    by_cases c : h = t
    · subst c
      refine ⟨h, pa, qu, q, ?_, hq, hc⟩
      rw [f_X11_finds_42, if_pos (nI_le (Nat.le_refl _) (by omega))]
    · rw [f_X11_finds_42, if_neg (nI_ge (show h < t by omega) (by omega)), q_jn]
      obtain ⟨t1, pa1, qu1, q1, e1, e2, e3, e4⟩ := y_f49 N (iY := iY) (sY := sY) (tY := tY) (jY := jY) (n := n) h24 h (fun z => f_X11_finds_42 N iY tY jY K7 k z.2 z.1 (nI h + 1)) K7 16 0 t N pa qu q (by omega) (by omega) hq (by omega) hc
      obtain ⟨t', pa', qu', q', f1, f2, f3⟩ := ih (h + 1) t1 k pa1 qu1 q1 (by omega) (by omega) e2 (by omega) e4
      refine ⟨t', pa', qu', q', Eq.trans e1 ?_, f2, f3⟩
      dsimp only
      rw [nI_1]; exact f1
def m1S (u : Nat → Int32) (i : Nat) : Nat → Int32 := fun k => if k < i then -1 else u k
theorem y_f2 (hN : 2000 ≤ N) (K : (Nat → Nat → Int32) → Option (Int32 × (Nat → Nat → Int32))) : f_X11_finds_2 N iY tY jY K N sY 0 = K (va_up sY 25 (m1S (sY 25) 16)) := by
  have key := q_loopG (fun j i => f_X11_finds_2 N iY tY jY K j (va_up sY 25 (m1S (sY 25) i)) (nI i)) (K (va_up sY 25 (m1S (sY 25) 16))) 16 N (by omega) (fun j => by
    show f_X11_finds_2 N iY tY jY K (j + 1) _ _ = _
    rw [f_X11_finds_2, show (16 : Int32) = nI 16 from rfl, if_pos (nI_le (Nat.le_refl _) (by omega))]) (fun j i hi => by
    show f_X11_finds_2 N iY tY jY K (j + 1) _ _ = f_X11_finds_2 N iY tY jY K j _ _
    rw [f_X11_finds_2, show (16 : Int32) = nI 16 from rfl, if_neg (nI_ge hi (by omega)), q_ck hi (by omega), q_nv, show ix (nI i) = i from q_ix (by omega), q_ve, q_vv, nI_1]
    have e : upd (m1S (sY 25) i) i (-1) = m1S (sY 25) (i + 1) := by
      funext x
      by_cases c : x = i
      · subst c; rw [pk_us]; unfold m1S; rw [if_pos (by omega)]
      · rw [pk_un c]; unfold m1S
        by_cases h2 : x < i
        · rw [if_pos h2, if_pos (by omega)]
        · rw [if_neg h2, if_neg (by omega)]
    rw [e])
  refine Eq.trans ?_ key
  show _ = f_X11_finds_2 N iY tY jY K N (va_up sY 25 (m1S (sY 25) 0)) 0
  rw [show m1S (sY 25) 0 = sY 25 from funext (fun x => if_neg (by omega)), q_vid]
theorem y_finds (hN : 2000 ≤ N) (h24 : ∀ i, i < 256 → n i < 2147483648 ∧ sY 24 i = nI (n i)) : ∃ t pa qu q, f_X11_finds N iY sY tY jY = some (if pa 15 < 0 then 0 else 1, va_up (va_up sY 25 pa) 26 qu) ∧ BQ n pa qu q t ∧ clo n q t t 0 := by
  unfold f_X11_finds
  rw [q_jn, y_f2 N hN]
  dsimp only
  rw [q_nv, q_nv, q_jn]
  have hq : BQ n (upd (m1S (sY 25) 16) 14 14) (upd (sY 26) 0 14) (fun _ => 14) 1 := by
    refine ⟨fun j hj => ?_, rfl, by omega, fun i j hi hj _ => by omega, fun v hv => ?_, fun j j1 hj => by omega, pk_us⟩
    · rw [show j = 0 by omega, pk_us]; exact ⟨show 14 < 16 by omega, rfl⟩
    · by_cases c : v = 14
      · exact Or.inl ⟨0, by omega, c.symm⟩
      · refine Or.inr ?_
        rw [pk_un c]; unfold m1S; rw [if_pos hv]
  have ev : va_up (va_up (va_up sY 25 (m1S (sY 25) 16)) 25 (upd (va_up sY 25 (m1S (sY 25) 16) 25) 14 14)) 26 (upd (va_up sY 25 (m1S (sY 25) 16) 26) 0 14) = va_up (va_up sY 25 (upd (m1S (sY 25) 16) 14 14)) 26 (upd (sY 26) 0 14) := by
    rw [q_vv, q_ve]; rfl
  obtain ⟨t, pa, qu, q, e1, e2, e3⟩ := y_f42 N (iY := iY) (sY := sY) (tY := tY) (jY := jY) (n := n) hN h24 (fun z => if z 25 15 < 0 then some (0, z) else some (1, z)) 17 0 1 N _ _ _ (by omega) (by omega) hq (by omega) ⟨fun i hi => absurd hi (Nat.not_lt_zero _), fun v hv => absurd hv (Nat.not_lt_zero _)⟩
  refine ⟨t, pa, qu, q, ?_, e2, e3⟩
  rw [ev]
  refine Eq.trans e1 ?_
  show (if pa 15 < 0 then some ((0 : Int32), va_up (va_up sY 25 pa) 26 qu) else some (1, va_up (va_up sY 25 pa) 26 qu)) = _
  split <;> rfl
end
