/-! PURE: sentences, steps -/
def SW (P Q : Nat) (w sg v c0 c1 c2 : Int32) : Prop :=
  (w = 15 ∧ c0 = 20) ∨ (w = 14 ∧ c0 = 21) ∨ (w = 13 ∧ c0 = 22) ∨ (∃ i, i < 4 ∧ w = nI (16 + i) ∧ c0 = nI i) ∨ (w = 4 ∧ c0 = 4 ∧ ∃ p, p < P ∧ v = nI p ∧ c2 = nI p) ∨ (w = 3 ∧ c0 = 5 ∧ ∃ g, g < Q ∧ v = nI g ∧ c2 = nI g) ∨ (∃ i z t, i < 4 ∧ w = nI (20 + i) ∧ c0 = nI (6 + i) ∧ 60 ≤ z ∧ z ≤ 62 ∧ t ≤ 999 ∧ sg = nI z ∧ c1 = nI z ∧ v = nI t ∧ c2 = nI t)
def CR (P Q m : Nat) (sS : Nat → Nat → Int32) (c : Nat → Int32) : Prop := ∀ k, k < m → SW P Q (sS 2 k) (sS 3 k) (sS 4 k) (c (3 * k)) (c (3 * k + 1)) (c (3 * k + 2))
def adS (sS : Nat → Nat → Int32) (m : Nat) (w sg v : Int32) : Nat → Nat → Int32 := va_up (va_up (va_up sS 2 (upd (sS 2) m w)) 3 (upd (sS 3) m sg)) 4 (upd (sS 4) m v)
def ad3 (c : Nat → Int32) (m : Nat) (a b d : Int32) : Nat → Int32 := upd (upd (upd c (3 * m) a) (3 * m + 1) b) (3 * m + 2) d
def hgt (w : Nat → Int32) : Nat → Nat
  | 0 => 0
  | k + 1 => if w k = 15 then hgt w k else if w k = 14 ∨ w k = 13 then hgt w k - 1 else hgt w k + 1
def HO (w : Nat → Int32) (m : Nat) : Prop := ∀ k, k < m → (w k = 15 → 1 ≤ hgt w k) ∧ (w k = 14 ∨ w k = 13 → 2 ≤ hgt w k) ∧ (w k ≠ 15 → ¬ (w k = 14 ∨ w k = 13) → hgt w k < 20)
theorem hgt_c {w w' : Nat → Int32} {m : Nat} (h : ∀ k, k < m → w' k = w k) : hgt w' m = hgt w m := by
  induction m with
  | zero => rfl
  | succ m ih =>
    have e := ih (fun k hk => h k (by omega))
    unfold hgt
    rw [h m (by omega), e]
theorem HO_c {w w' : Nat → Int32} {m : Nat} (h : ∀ k, k < m → w' k = w k) (ho : HO w m) : HO w' m := by
  intro k hk
  rw [h k hk, hgt_c (w := w) (w' := w') (m := k) (fun j hj => h j (by omega))]
  exact ho k hk
theorem ad_2 (sS : Nat → Nat → Int32) (m : Nat) (w sg v : Int32) : adS sS m w sg v 2 = upd (sS 2) m w := rfl
theorem ad_lt (sS : Nat → Nat → Int32) {m : Nat} (w sg v : Int32) {k : Nat} (hk : k < m) : adS sS m w sg v 2 k = sS 2 k ∧ adS sS m w sg v 3 k = sS 3 k ∧ adS sS m w sg v 4 k = sS 4 k := by
  refine ⟨?_, ?_, ?_⟩
  · show upd (sS 2) m w k = _
    rw [pk_un (by omega)]
  · show upd (sS 3) m sg k = _
    rw [pk_un (by omega)]
  · show upd (sS 4) m v k = _
    rw [pk_un (by omega)]
theorem ad_at (sS : Nat → Nat → Int32) (m : Nat) (w sg v : Int32) : adS sS m w sg v 2 m = w ∧ adS sS m w sg v 3 m = sg ∧ adS sS m w sg v 4 m = v := by
  refine ⟨?_, ?_, ?_⟩
  · show upd (sS 2) m w m = _
    rw [pk_us]
  · show upd (sS 3) m sg m = _
    rw [pk_us]
  · show upd (sS 4) m v m = _
    rw [pk_us]
theorem ad3_lt (c : Nat → Int32) {m : Nat} (a b d : Int32) {k : Nat} (hk : k < 3 * m) : ad3 c m a b d k = c k := by
  unfold ad3; rw [pk_un (by omega), pk_un (by omega), pk_un (by omega)]
theorem ad3_at (c : Nat → Int32) (m : Nat) (a b d : Int32) : ad3 c m a b d (3 * m) = a ∧ ad3 c m a b d (3 * m + 1) = b ∧ ad3 c m a b d (3 * m + 2) = d := by
  unfold ad3
  refine ⟨?_, ?_, pk_us⟩
  · rw [pk_un (by omega), pk_un (by omega), pk_us]
  · rw [pk_un (by omega), pk_us]
/-- class already has the step; the reference adds it -/
theorem CR_y {P Q m : Nat} {sS : Nat → Nat → Int32} {c : Nat → Int32} (h : CR P Q m sS c) (a b d : Int32) (hs : SW P Q (sS 2 m) (sS 3 m) (sS 4 m) a b d) : CR P Q (m + 1) sS (ad3 c m a b d) := by
  intro k hk
  by_cases e : k = m
  · subst e; obtain ⟨e1, e2, e3⟩ := ad3_at c k a b d; rw [e1, e2, e3]; exact hs
  · rw [ad3_lt _ _ _ _ (by omega), ad3_lt _ _ _ _ (by omega), ad3_lt _ _ _ _ (by omega)]; exact h k (by omega)
theorem CR_c {P Q m : Nat} {sS sS' : Nat → Nat → Int32} {c c' : Nat → Int32} (h : CR P Q m sS c) (e : ∀ k, k < m → sS' 2 k = sS 2 k ∧ sS' 3 k = sS 3 k ∧ sS' 4 k = sS 4 k) (ec : ∀ k, k < 3 * m → c' k = c k) : CR P Q m sS' c' := by
  intro k hk
  obtain ⟨e1, e2, e3⟩ := e k hk
  rw [e1, e2, e3, ec _ (by omega), ec _ (by omega), ec _ (by omega)]; exact h k hk
theorem HO_a {sS : Nat → Nat → Int32} {m : Nat} (h : HO (sS 2) m) (w sg v : Int32) (hw : (w = 15 → 1 ≤ hgt (sS 2) m) ∧ (w = 14 ∨ w = 13 → 2 ≤ hgt (sS 2) m) ∧ (w ≠ 15 → ¬ (w = 14 ∨ w = 13) → hgt (sS 2) m < 20)) : HO (adS sS m w sg v 2) (m + 1) := by
  intro k hk
  by_cases e : k = m
  · subst e
    rw [(ad_at sS k w sg v).1, hgt_c (w := sS 2) (fun j hj => (ad_lt sS w sg v hj).1)]; exact hw
  · exact HO_c (w := sS 2) (fun j hj => (ad_lt sS w sg v hj).1) h k (by omega)
theorem hgt_a (sS : Nat → Nat → Int32) (m : Nat) (w sg v : Int32) : hgt (adS sS m w sg v 2) (m + 1) = if w = 15 then hgt (sS 2) m else if w = 14 ∨ w = 13 then hgt (sS 2) m - 1 else hgt (sS 2) m + 1 := by
  rw [hgt, (ad_at sS m w sg v).1, hgt_c (w := sS 2) (fun j hj => (ad_lt sS w sg v hj).1)]
section
variable (N : Nat)
theorem x_adS {iS : Nat → Int32} {sS : Nat → Nat → Int32} {m : Nat} (hm : m < 40) (h : iS 1 = nI m) (w sg v : Int32) : f_X6_addStep N iS sS w sg v = some (va_up iS 1 (nI (m + 1)), adS sS m w sg v) := by
  unfold f_X6_addStep
  rw [h, show (40 : Int32) = nI 40 from rfl, if_neg (nI_ge hm (by omega)), q_ck hm (by omega), q_nv, q_ck hm (by omega), q_nv, q_ck hm (by omega), q_nv, nI_1, show ix (nI m) = m from q_ix (by omega)]
  rfl
theorem y_code {iY : Nat → Int32} {sY : Nat → Nat → Int32} {tY : Nat → Nat → Int64} {jY : Nat → Int64} {m : Nat} (hm : m ≤ 50) (h : iY 43 = nI m) (a b d : Int32) : f_X11_code N iY sY tY jY a b d = some (va_up iY 43 (nI (m + 1)), va_up sY 8 (ad3 (sY 8) m a b d)) := by
  unfold f_X11_code
  rw [h, L3, pk_mul, nI_1, L2, nI_add, nI_1, q_ck (show 3 * m < 160 by omega) (by omega), q_nv, q_ck (show 3 * m + 1 < 160 by omega) (by omega), q_nv, q_ck (show 3 * m + 2 < 160 by omega) (by omega), q_nv, show ix (nI (3 * m)) = 3 * m from q_ix (by omega), show ix (nI (3 * m + 1)) = 3 * m + 1 from q_ix (by omega), show ix (nI (3 * m + 2)) = 3 * m + 2 from q_ix (by omega)]
  rfl
theorem y_nots {tY : Nat → Nat → Int64} {jY : Nat → Int64} {P Q h e : Nat} {sS : Nat → Nat → Int32} (hN : 2000 ≤ N) : ∀ (n k m : Nat) (iY : Nat → Int32) (sY : Nat → Nat → Int32), n < k → m + n ≤ 50 → h + n ≤ 45 → e ≤ 20 → iY 43 = nI m → iY 45 = nI (h + n) → iY 46 = nI (e + n) → (∀ i, i < n → sY 42 (h + i) = 20) → (h = 0 ∨ sY 42 (h - 1) ≠ 20) → CR P Q m sS (sY 8) → (∀ i, i < n → sS 2 (m + i) = 15) →
    ∃ iY' c, f_X11_nots_0 N tY jY k iY sY = some (iY', va_up sY 8 c) ∧ iY' 43 = nI (m + n) ∧ iY' 45 = nI h ∧ iY' 46 = nI e ∧ (∀ i, i ≠ 43 → i ≠ 45 → i ≠ 46 → iY' i = iY i) ∧ CR P Q (m + n) sS c := by
  intro n
  induction n with
  | zero =>
    intro k m iY sY hk hm hh he y43 y45 y46 hst hb hc hs
    obtain ⟨k, rfl⟩ : ∃ x, k = x + 1 := ⟨k - 1, by omega⟩
    refine ⟨iY, sY 8, ?_, y43, y45, y46, fun _ _ _ _ => rfl, hc⟩
    rw [f_X11_nots_0, y45, q_vid]
    rcases Nat.eq_zero_or_pos h with h0 | h0
    · subst h0; rw [if_pos (show nI (0 + 0) ≤ 0 by decide)]
    · obtain ⟨g, rfl⟩ : ∃ x, h = x + 1 := ⟨h - 1, by omega⟩
      rw [if_neg (show ¬ nI (g + 1 + 0) ≤ 0 from nI_ge (a := 0) (by omega) (by omega)), show nI (g + 1 + 0) - 1 = nI g from by rw [show (1 : Int32) = nI 1 from rfl, pk_sub (by omega)]; rfl, q_ck (show g < 45 by omega) (by omega), show ix (nI g) = g from q_ix (by omega)]
      rw [if_neg]
      rcases hb with hb | hb
      · omega
      · exact hb
  | succ n ih =>
    intro k m iY sY hk hm hh he y43 y45 y46 hst hb hc hs
    obtain ⟨k, rfl⟩ : ∃ x, k = x + 1 := ⟨k - 1, by omega⟩
    have e45 : iY 45 - 1 = nI (h + n) := by rw [y45, show (1 : Int32) = nI 1 from rfl, pk_sub (by omega)]; rfl
    have e46 : iY 46 - 1 = nI (e + n) := by rw [y46, show (1 : Int32) = nI 1 from rfl, pk_sub (by omega)]; rfl
    have hstep : f_X11_nots_0 N tY jY (k + 1) iY sY = f_X11_nots_0 N tY jY k (va_up (va_up (va_up iY 45 (nI (h + n))) 46 (nI (e + n))) 43 (nI (m + 1))) (va_up sY 8 (ad3 (sY 8) m 20 0 0)) := by
      rw [f_X11_nots_0, e45, e46, y45, if_neg (show ¬ nI (h + (n + 1)) ≤ 0 from nI_ge (a := 0) (by omega) (by omega)), q_ck (show h + n < 45 by omega) (by omega), show ix (nI (h + n)) = h + n from q_ix (by omega), hst n (by omega), if_pos rfl, y_code N (m := m) (by omega) (by rw [q_vn _ _ (by omega), q_vn _ _ (by omega)]; exact y43), q_bd]
    obtain ⟨iY', c, a1, a2, a3, a4, a5, a6⟩ := ih k (m + 1) (va_up (va_up (va_up iY 45 (nI (h + n))) 46 (nI (e + n))) 43 (nI (m + 1))) (va_up sY 8 (ad3 (sY 8) m 20 0 0)) (by omega) (by omega) (by omega) he rfl rfl rfl (fun i hi => hst i (by omega)) hb (CR_y hc 20 0 0 (Or.inl ⟨hs 0 (by omega), rfl⟩)) (fun i hi => by rw [show m + 1 + i = m + (i + 1) by omega]; exact hs (i + 1) (by omega))
    refine ⟨iY', c, hstep.trans (a1.trans ?_), a2.trans (congrArg nI (by omega)), a3, a4, fun i i1 i2 i3 => ?_, ?_⟩
    · rw [q_vv]
    · rw [a5 i i1 i2 i3, q_vn _ _ i1, q_vn _ _ i3, q_vn _ _ i2]
    · rw [show m + (n + 1) = m + 1 + n by omega]; exact a6
theorem y_jpop {tY : Nat → Nat → Int64} {jY : Nat → Int64} {h m k : Nat} {v1 : Int32} {iY : Nat → Int32} {sY : Nat → Nat → Int32} (hh : h < 45) (hm : m ≤ 50) (y43 : iY 43 = nI m) (y45 : iY 45 = nI (h + 1)) (ht : sY 42 h = 21 ∨ (sY 42 h = 22 ∧ v1 = 22)) : f_X11_joins_0 N tY jY v1 (k + 1) iY sY = f_X11_joins_0 N tY jY v1 k (va_up (va_up iY 45 (nI h)) 43 (nI (m + 1))) (va_up sY 8 (ad3 (sY 8) m (sY 42 h) 0 0)) := by
  have e45 : iY 45 - 1 = nI h := by rw [y45, show (1 : Int32) = nI 1 from rfl, pk_sub (by omega)]; rfl
  have hc : ∀ {α : Type} {k : Option α}, ck (nI h) 45 k = k := q_ck hh (by omega)
  have e := y_code N (iY := va_up iY 45 (nI h)) (sY := sY) (tY := tY) (jY := jY) (m := m) hm (by rw [q_vn _ _ (by omega)]; exact y43) (sY 42 h) 0 0
  rw [f_X11_joins_0, e45, y45, if_neg (show ¬ nI (h + 1) ≤ 0 from nI_ge (a := 0) (by omega) (by omega)), hc, q_jn, show ix (nI h) = h from q_ix (by omega)]
  rcases ht with ht | ⟨ht, rfl⟩
  · rw [if_pos ht, hc, e, q_bd]
  · rw [if_neg (by rw [ht]; decide), hc, if_pos ht, if_pos rfl, hc, e, q_bd]
theorem y_jstop {tY : Nat → Nat → Int64} {jY : Nat → Int64} {h k : Nat} {v1 : Int32} {iY : Nat → Int32} {sY : Nat → Nat → Int32} (hh : h ≤ 45) (y45 : iY 45 = nI h) (ht : h = 0 ∨ (sY 42 (h - 1) ≠ 21 ∧ ¬ (sY 42 (h - 1) = 22 ∧ v1 = 22))) : f_X11_joins_0 N tY jY v1 (k + 1) iY sY = some (iY, sY) := by
  rcases Nat.eq_zero_or_pos h with h0 | h0
  · subst h0
    rw [f_X11_joins_0, y45, if_pos (show nI 0 ≤ 0 by decide)]
  · obtain ⟨g, rfl⟩ : ∃ x, h = x + 1 := ⟨h - 1, by omega⟩
    have e45 : iY 45 - 1 = nI g := by rw [y45, show (1 : Int32) = nI 1 from rfl, pk_sub (by omega)]; rfl
    have hc : ∀ {α : Type} {k : Option α}, ck (nI g) 45 k = k := q_ck (by omega) (by omega)
    rw [f_X11_joins_0, e45, y45, if_neg (show ¬ nI (g + 1) ≤ 0 from nI_ge (a := 0) (by omega) (by omega)), hc, q_jn, show ix (nI g) = g from q_ix (by omega)]
    rcases ht with ht | ⟨t1, t2⟩
    · omega
    · rw [show g + 1 - 1 = g from rfl] at t1 t2
      rw [if_neg t1, hc]
      by_cases c : sY 42 g = 22
      · rw [if_pos c, if_neg (fun hv => t2 ⟨c, hv⟩)]
      · rw [if_neg c]
end
