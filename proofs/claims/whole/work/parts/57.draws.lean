/-! PURE: days by draws -/
theorem rnd_ex : ∃ f : Int32 → Int32, ∀ z, f z = (z * 1103515245) + 12345 := ⟨_, fun _ => rfl⟩
noncomputable def rnd : Int32 → Int32 := rnd_ex.choose
theorem rnd_eq (z : Int32) : (z * 1103515245) + 12345 = rnd z := (rnd_ex.choose_spec z).symm
theorem nI_self (x : Int32) : x = nI x.toBitVec.toNat := by
  refine tb_ext (fun i hi => ?_)
  show x.toBitVec.getLsbD i = (BitVec.ofNat 32 x.toBitVec.toNat).getLsbD i
  rw [BitVec.ofNat_toNat, BitVec.setWidth_eq]
theorem rv_0 (z : Int32) {m : Nat} (h0 : 0 < m) (hm : m ≤ 7) : us z 8 - us z 8 / nI m * nI m = nI ((z.toBitVec.toNat / 2 ^ 8) % m) := by
  have e : us z 8 = nI (z.toBitVec.toNat / 2 ^ 8) := by
    rw [nI_self (us z 8)]
    exact congrArg nI (pk_ushr z 8 8 (by decide))
  have hb : z.toBitVec.toNat < 2 ^ 32 := z.toBitVec.isLt
  rw [e, pk_rem (by omega) h0 (by omega)]
theorem rv_ex : ∃ f : Int32 → Nat → Nat, (∀ z m, 0 < m → f z m < m) ∧ ∀ z m, 0 < m → m ≤ 7 → us z 8 - us z 8 / nI m * nI m = nI (f z m) := ⟨fun z m => (z.toBitVec.toNat / 2 ^ 8) % m, fun z m h => Nat.mod_lt _ h, fun z m h h7 => rv_0 z h h7⟩
noncomputable def rvN : Int32 → Nat → Nat := rv_ex.choose
theorem rvN_lt (z : Int32) {m : Nat} (h0 : 0 < m) : rvN z m < m := rv_ex.choose_spec.1 z m h0
theorem rv_eq (z : Int32) {m : Nat} (h0 : 0 < m) (hm : m ≤ 7) : us z 8 - us z 8 / nI m * nI m = nI (rvN z m) := rv_ex.choose_spec.2 z m h0 hm
def drawQ (P Q : Nat) (s : Nat → Int32) (w g b c : Nat) (z1 z2 z3 : Int32) (a : Nat) : Int32 × (Nat → Int32) :=
  if w < 3 then (if Q = 0 then (z1, s) else (z3, if whyB s P a g b = 0 then buyS s a g b else s))
  else if w = 3 then (z2, if whyN s a c = 0 then nodS s a c else s)
  else if w = 4 then (z1, if whyV s a = 0 then veilS s a else s) else (z1, s)
noncomputable def drawP (P Q : Nat) (s : Nat → Int32) (z : Int32) (a : Nat) : Int32 × (Nat → Int32) := drawQ P Q s (rvN (rnd z) 6) (rvN (rnd (rnd z)) Q) (rvN (rnd (rnd (rnd z))) P) (rvN (rnd (rnd z)) P) (rnd z) (rnd (rnd z)) (rnd (rnd (rnd z))) a
noncomputable def drawR (P Q : Nat) (s : Nat → Int32) (z : Int32) : Nat → Int32 × (Nat → Int32)
  | 0 => (z, s)
  | i + 1 => drawP P Q (drawR P Q s z i).2 (drawR P Q s z i).1 i
noncomputable def drS (P Q : Nat) : Nat → Int32 → (Nat → Int32) → Nat × Int32 × (Nat → Int32)
  | 0, z, s => (0, z, s)
  | r + 1, z, s => if 400 ≤ s 131 then (0, z, s) else ((drS P Q r (drawR P Q s z P).1 (dayS (drawR P Q s z P).2 P)).1 + 1, (drS P Q r (drawR P Q s z P).1 (dayS (drawR P Q s z P).2 P)).2)
theorem whyN_0 {s : Nat → Int32} {a b : Nat} (h : whyN s a b = 0) : a ≠ b := by
  intro e; unfold whyN at h; rw [if_pos e] at h; omega
theorem whyB_lt (s : Nat → Int32) (P a g b : Nat) : whyB s P a g b < 100 := by
  unfold whyB; repeat' split
  all_goals omega
theorem whyN_lt (s : Nat → Int32) (a b : Nat) : whyN s a b < 100 := by
  unfold whyN; repeat' split
  all_goals omega
theorem whyV_lt (s : Nat → Int32) (a : Nat) : whyV s a < 100 := by
  unfold whyV; repeat' split
  all_goals omega
theorem whyT_lt (s : Nat → Int32) (q a b : Nat) : whyT s q a b < 100 := by
  unfold whyT; repeat' split
  all_goals omega
section
variable {s : Nat → Int32} {P Q : Nat}
theorem drawQ_o (hP : P ≤ 7) {w g b c : Nat} (z1 z2 z3 : Int32) {a k : Nat} (ha : a < P) (hb : b < P) (hc : c < P) (hg : Q ≠ 0 → g < 5) (hk : k < 131 ∨ 276 ≤ k) : (drawQ P Q s w g b c z1 z2 z3 a).2 k = s k := by
  unfold drawQ
  split
  · split
    · rfl
    · rename_i hQ0
      dsimp only
      split
      · exact buy_o (by omega) (by omega) (hg hQ0) hk
      · rfl
  · split
    · dsimp only
      split
      · exact nod_o (by omega) (by omega) hk
      · rfl
    · split
      · dsimp only
        split
        · exact veil_o hk
        · rfl
      · rfl
theorem rv_c (hQ : Q ≤ 5) (z : Int32) : Q ≠ 0 → rvN z Q < 5 := fun h => Nat.lt_of_lt_of_le (rvN_lt z (by omega)) hQ
theorem drawP_o (hP : P ≤ 7) (hQ : Q ≤ 5) (z : Int32) {a k : Nat} (ha : a < P) (hk : k < 131 ∨ 276 ≤ k) : (drawP P Q s z a).2 k = s k := by
  unfold drawP
  exact drawQ_o hP _ _ _ ha (rvN_lt _ (by omega)) (rvN_lt _ (by omega)) (rv_c hQ _) hk
theorem ID_drawQ (hL : IL s P Q) (h : ID s P Q) {w g b c : Nat} (z1 z2 z3 : Int32) {a : Nat} (ha : a < P) (hb : b < P) (hc : c < P) (hg : Q ≠ 0 → g < 5) : ID (drawQ P Q s w g b c z1 z2 z3 a).2 P Q := by
  have hP := hL.P7
  unfold drawQ
  split
  · split
    · exact h
    · rename_i hQ0
      dsimp only
      split
      · rename_i hw
        exact ID_buy hL h ha hb (hg hQ0) hw
      · exact h
  · split
    · dsimp only
      split
      · rename_i hw
        exact ID_nod hP h ha hc (whyN_0 hw)
      · exact h
    · split
      · dsimp only
        split
        · rename_i hw; exact ID_veil hP h hw
        · exact h
      · exact h
theorem ID_drawP (hL : IL s P Q) (h : ID s P Q) (z : Int32) {a : Nat} (ha : a < P) : ID (drawP P Q s z a).2 P Q := by
  unfold drawP
  exact ID_drawQ hL h _ _ _ ha (rvN_lt _ (by omega)) (rvN_lt _ (by omega)) (rv_c hL.Q5 _)
theorem buy_day {a g b : Nat} (ha : a < 7) (hb : b < 7) (hg : g < 5) : buyS s a g b 131 = s 131 := by
  have e1 : buyA s a g b 131 = s 131 := buyA_o (by omega) (by omega) (by omega) (by omega) (by omega)
  have e2 : buyD (buyA s a g b) a b 131 = s 131 := by
    unfold buyD by3
    rw [pk_un (by omega), pk_un (by omega)]; exact e1
  unfold buyS
  repeat' split
  · exact e1
  · exact e1
  · exact e2
  · rw [meet_o (by omega) (by omega) (by omega)]; exact e2
theorem drawQ_day (hP : P ≤ 7) {w g b c : Nat} (z1 z2 z3 : Int32) {a : Nat} (ha : a < P) (hb : b < P) (hc : c < P) (hg : Q ≠ 0 → g < 5) : (drawQ P Q s w g b c z1 z2 z3 a).2 131 = s 131 := by
  unfold drawQ
  split
  · split
    · rfl
    · rename_i hQ0
      dsimp only
      split
      · exact buy_day (by omega) (by omega) (hg hQ0)
      · rfl
  · split
    · dsimp only
      split
      · unfold nodS
        rw [pk_un (by omega), meet_o (by omega) (by omega) (by omega)]
      · rfl
    · split
      · dsimp only
        split
        · unfold veilS by1
          rw [pk_un (by omega), pk_un (by omega)]
        · rfl
      · rfl
theorem drawP_day (hP : P ≤ 7) (hQ : Q ≤ 5) (z : Int32) {a : Nat} (ha : a < P) : (drawP P Q s z a).2 131 = s 131 := by
  unfold drawP
  exact drawQ_day hP _ _ _ ha (rvN_lt _ (by omega)) (rvN_lt _ (by omega)) (rv_c hQ _)
theorem drawR_o (hP : P ≤ 7) (hQ : Q ≤ 5) (z : Int32) (i : Nat) (hi : i ≤ P) {k : Nat} (hk : k < 131 ∨ 276 ≤ k) : (drawR P Q s z i).2 k = s k := by
  induction i with
  | zero => rfl
  | succ i ih => rw [drawR, drawP_o hP hQ _ (by omega) hk]; exact ih (by omega)
theorem ID_drawR (hL : IL s P Q) (h : ID s P Q) (z : Int32) (i : Nat) (hi : i ≤ P) : ID (drawR P Q s z i).2 P Q := by
  induction i with
  | zero => exact h
  | succ i ih => exact ID_drawP (hL.to (fun k hk => drawR_o hL.P7 hL.Q5 z i (by omega) (by omega))) (ih (by omega)) _ (by omega)
theorem drS_o (hP : P ≤ 7) (hQ : Q ≤ 5) (r : Nat) : ∀ (z : Int32) (s : Nat → Int32) (k : Nat), k < 131 ∨ 276 ≤ k → (drS P Q r z s).2.2 k = s k := by
  induction r with
  | zero => intro z s k _; rfl
  | succ r ih =>
    intro z s k hk
    rw [drS]
    split
    · rfl
    · show (drS P Q r _ _).2.2 k = s k
      rw [ih _ _ k hk, day_o hP hk, drawR_o hP hQ z P (Nat.le_refl _) hk]
theorem drawR_day (hP : P ≤ 7) (hQ : Q ≤ 5) (z : Int32) (i : Nat) (hi : i ≤ P) : (drawR P Q s z i).2 131 = s 131 := by
  induction i with
  | zero => rfl
  | succ i ih => rw [drawR, drawP_day hP hQ _ (by omega)]; exact ih (by omega)
theorem ID_dr (r : Nat) : ∀ (z : Int32) (s : Nat → Int32), IL s P Q → ID s P Q → ID (drS P Q r z s).2.2 P Q := by
  induction r with
  | zero => intro z s _ h; exact h
  | succ r ih =>
    intro z s hL h
    rw [drS]
    split
    · exact h
    · rename_i h4
      have hL1 : IL (drawR P Q s z P).2 P Q := hL.to (fun k hk => drawR_o hL.P7 hL.Q5 z P (Nat.le_refl _) (by omega))
      have h1 := ID_drawR hL h z P (Nat.le_refl _)
      exact ih _ _ (hL1.to (fun k hk => day_o hL.P7 (by omega))) (ID_day hL1 h1 (by rw [drawR_day hL.P7 hL.Q5 z P (Nat.le_refl _)]; exact Int32.not_le.mp h4)).1
end
section
variable (N : Nat) (iY : Nat → Int32) (sY : Nat → Nat → Int32) (tY : Nat → Nat → Int64) (jY : Nat → Int64)
theorem y_draw {m : Nat} (h0 : 0 < m) (hm : m ≤ 7) : f_X11_draw N iY sY tY jY (nI m) = some (nI (rvN (rnd (iY 38)) m), va_up iY 38 (rnd (iY 38))) := by
  unfold f_X11_draw
  rw [q_nv]
  have enz : ∀ k : Option (Int32 × (Nat → Int32)), nz (nI m) k = k := fun k => by unfold nz; rw [if_neg (nI_ne0 h0 (by omega))]
  rw [enz, rnd_eq, rv_eq _ h0 hm]
theorem y_drawPerson {P Q a : Nat} (hP : P ≤ 7) (hQ : Q ≤ 5) (ha : a < P) (h0 : sY 6 0 = nI P) (h1 : sY 6 1 = nI Q) : f_X11_drawPerson N iY sY tY jY (nI a) = some (va_up iY 38 (drawP P Q (sY 6) (iY 38) a).1, va_up sY 6 (drawP P Q (sY 6) (iY 38) a).2) := by
  have hb : ∀ z, rvN z P < P := fun z => rvN_lt z (by omega)
  have h6 := rvN_lt (rnd (iY 38)) (m := 6) (by omega)
  unfold f_X11_drawPerson
  rw [L6, y_draw N iY sY tY jY (m := 6) (by omega) (by omega), q_bd, h0, h1]
  unfold drawP
  have r2 : rnd (va_up iY 38 (rnd (iY 38)) 38) = rnd (rnd (iY 38)) := by rw [q_ve]
  have r3 : rnd (va_up iY 38 (rnd (rnd (iY 38))) 38) = rnd (rnd (rnd (iY 38))) := by rw [q_ve]
  have hg2 := rv_c (Q := Q) hQ (rnd (rnd (iY 38)))
  have hb2 := hb (rnd (rnd (iY 38)))
  have hb3 := hb (rnd (rnd (rnd (iY 38))))
  have hdQ : ∀ (h : 0 < Q), f_X11_draw N (va_up iY 38 (rnd (iY 38))) sY tY jY (nI Q) = some (nI (rvN (rnd (rnd (iY 38))) Q), va_up iY 38 (rnd (rnd (iY 38)))) := by
    intro h; rw [y_draw N _ sY tY jY h (by omega), r2, q_vv]
  have hdP : f_X11_draw N (va_up iY 38 (rnd (iY 38))) sY tY jY (nI P) = some (nI (rvN (rnd (rnd (iY 38))) P), va_up iY 38 (rnd (rnd (iY 38)))) := by
    rw [y_draw N _ sY tY jY (by omega) (by omega), r2, q_vv]
  have hdP3 : f_X11_draw N (va_up iY 38 (rnd (rnd (iY 38)))) sY tY jY (nI P) = some (nI (rvN (rnd (rnd (rnd (iY 38)))) P), va_up iY 38 (rnd (rnd (rnd (iY 38))))) := by
    rw [y_draw N _ sY tY jY (by omega) (by omega), r3, q_vv]
  clear r2 r3
  generalize rvN (rnd (iY 38)) 6 = w at *
  generalize rvN (rnd (rnd (rnd (iY 38)))) P = b at *
  generalize rvN (rnd (rnd (iY 38))) P = c at *
  generalize rvN (rnd (rnd (iY 38))) Q = g at *
  generalize rnd (rnd (rnd (iY 38))) = z3 at *
  generalize rnd (rnd (iY 38)) = z2 at *
  generalize rnd (iY 38) = z1 at *
  simp only [q_jn]
  unfold drawQ
  have c3 : ((3 : Int32) ≤ nI w) ↔ 3 ≤ w := nI_leI (a := 3) (by omega) (by omega)
  have d3 : (nI w = (3 : Int32)) ↔ w = 3 := nI_eq (b := 3) (by omega) (by omega)
  have d4 : (nI w = (4 : Int32)) ↔ w = 4 := nI_eq (b := 4) (by omega) (by omega)
  have cq : (nI Q ≤ (0 : Int32)) ↔ Q = 0 := by rw [show (0 : Int32) = nI 0 from rfl, nI_leI (by omega) (by omega)]; omega
  have ez : ∀ n, n < 100 → ((nI n = (0 : Int32)) ↔ n = 0) := fun n hn => nI_eq (b := 0) (by omega) (by omega)
  simp only [c3, d3, d4, cq]
  by_cases k1 : w < 3
  · rw [if_pos k1, if_neg (show ¬ 3 ≤ w by omega)]
    by_cases k2 : Q = 0
    · rw [if_pos k2, if_pos k2, if_neg (show ¬ w = 3 by omega), if_neg (show ¬ w = 4 by omega), q_vid]
    · rw [if_neg k2, if_neg k2, hdQ (by omega), q_bd, hdP3, q_bd, y_whyBuy N _ sY tY jY (P := P) (by omega) (by omega) (hg2 k2) h0, q_bd]
      simp only [ez _ (whyB_lt _ _ _ _ _)]
      split
      · rw [y_buys N _ sY tY jY (by omega) (by omega) (hg2 k2), q_bd, if_neg (show ¬ w = 3 by omega), if_neg (show ¬ w = 4 by omega)]
      · rw [if_neg (show ¬ w = 3 by omega), if_neg (show ¬ w = 4 by omega), q_vid]
  · rw [if_neg k1, if_pos (show 3 ≤ w by omega)]
    by_cases k3 : w = 3
    · rw [if_pos k3, if_pos k3, h0, hdP, q_bd, y_whyNod N _ sY tY jY (by omega) (by omega), q_bd]
      simp only [ez _ (whyN_lt _ _ _)]
      split
      · rw [y_nods N _ sY tY jY (by omega) (by omega), q_bd, if_neg (show ¬ w = 4 by omega)]
      · rw [if_neg (show ¬ w = 4 by omega), q_vid]
    · rw [if_neg k3, if_neg k3]
      by_cases k4 : w = 4
      · rw [if_pos k4, if_pos k4, y_whyVeil N _ sY tY jY (by omega), q_bd]
        simp only [ez _ (whyV_lt _ _)]
        split
        · rw [y_veils, q_bd]
        · rw [q_vid]
      · rw [if_neg k4, if_neg k4, q_vid]
end
