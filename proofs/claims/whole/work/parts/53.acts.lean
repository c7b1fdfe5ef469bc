/-! PURE: a market's picture under single changes; buy, nod, veil -/
section
variable {s : Nat → Int32} {iM : Nat → Int32} {sM : Nat → Nat → Int32} {v v' : Int32} {k : Nat}
theorem MP.u6 (h : MP s iM sM) (hk : k < 7) (hv : v' = v) : MP (upd s (136 + k) v) iM (va_up sM 6 (upd (sM 6) k v')) := by
  subst hv
  refine ⟨by rw [pk_un (by omega)]; exact h.da, by rw [pk_un (by omega)]; exact h.ho, by rw [pk_un (by omega)]; exact h.vd, by rw [pk_un (by omega)]; exact h.vl, by rw [pk_un (by omega)]; exact h.bo, fun j hj => ⟨?_, ?_, ?_⟩, fun j hj => ⟨?_, ?_⟩, fun j hj => ?_⟩
  · rw [q_ve, q_us, q_us, h.co hj]; simp only [Nat.add_left_cancel_iff]
  · rw [q_vn _ _ (by omega), pk_un (by omega)]; exact h.hu hj
  · rw [q_vn _ _ (by omega), pk_un (by omega)]; exact h.me hj
  · rw [q_vn _ _ (by omega), pk_un (by omega)]; exact h.st hj
  · rw [q_vn _ _ (by omega), pk_un (by omega)]; exact h.wa hj
  · rw [q_vn _ _ (by omega), pk_un (by omega)]; exact h.dl hj
theorem MP.u7 (h : MP s iM sM) (hk : k < 7) (hv : v' = v) : MP (upd s (213 + k) v) iM (va_up sM 7 (upd (sM 7) k v')) := by
  subst hv
  refine ⟨by rw [pk_un (by omega)]; exact h.da, by rw [pk_un (by omega)]; exact h.ho, by rw [pk_un (by omega)]; exact h.vd, by rw [pk_un (by omega)]; exact h.vl, by rw [pk_un (by omega)]; exact h.bo, fun j hj => ⟨?_, ?_, ?_⟩, fun j hj => ⟨?_, ?_⟩, fun j hj => ?_⟩
  · rw [q_vn _ _ (by omega), pk_un (by omega)]; exact h.co hj
  · rw [q_ve, q_us, q_us, h.hu hj]; simp only [Nat.add_left_cancel_iff]
  · rw [q_vn _ _ (by omega), pk_un (by omega)]; exact h.me hj
  · rw [q_vn _ _ (by omega), pk_un (by omega)]; exact h.st hj
  · rw [q_vn _ _ (by omega), pk_un (by omega)]; exact h.wa hj
  · rw [q_vn _ _ (by omega), pk_un (by omega)]; exact h.dl hj
theorem MP.u9 (h : MP s iM sM) (hk : k < 35) (hv : v' = v) : MP (upd s (143 + k) v) iM (va_up sM 9 (upd (sM 9) k v')) := by
  subst hv
  refine ⟨by rw [pk_un (by omega)]; exact h.da, by rw [pk_un (by omega)]; exact h.ho, by rw [pk_un (by omega)]; exact h.vd, by rw [pk_un (by omega)]; exact h.vl, by rw [pk_un (by omega)]; exact h.bo, fun j hj => ⟨?_, ?_, ?_⟩, fun j hj => ⟨?_, ?_⟩, fun j hj => ?_⟩
  · rw [q_vn _ _ (by omega), pk_un (by omega)]; exact h.co hj
  · rw [q_vn _ _ (by omega), pk_un (by omega)]; exact h.hu hj
  · rw [q_vn _ _ (by omega), pk_un (by omega)]; exact h.me hj
  · rw [q_ve, q_us, q_us, h.st hj]; simp only [Nat.add_left_cancel_iff]
  · rw [q_vn _ _ (by omega), pk_un (by omega)]; exact h.wa hj
  · rw [q_vn _ _ (by omega), pk_un (by omega)]; exact h.dl hj
theorem MP.u10 (h : MP s iM sM) (hk : k < 35) (hv : v' = v) : MP (upd s (178 + k) v) iM (va_up sM 10 (upd (sM 10) k v')) := by
  subst hv
  refine ⟨by rw [pk_un (by omega)]; exact h.da, by rw [pk_un (by omega)]; exact h.ho, by rw [pk_un (by omega)]; exact h.vd, by rw [pk_un (by omega)]; exact h.vl, by rw [pk_un (by omega)]; exact h.bo, fun j hj => ⟨?_, ?_, ?_⟩, fun j hj => ⟨?_, ?_⟩, fun j hj => ?_⟩
  · rw [q_vn _ _ (by omega), pk_un (by omega)]; exact h.co hj
  · rw [q_vn _ _ (by omega), pk_un (by omega)]; exact h.hu hj
  · rw [q_vn _ _ (by omega), pk_un (by omega)]; exact h.me hj
  · rw [q_vn _ _ (by omega), pk_un (by omega)]; exact h.st hj
  · rw [q_ve, q_us, q_us, h.wa hj]; simp only [Nat.add_left_cancel_iff]
  · rw [q_vn _ _ (by omega), pk_un (by omega)]; exact h.dl hj
theorem MP.u11 (h : MP s iM sM) (hk : k < 49) (hv : v' = v) : MP (upd s (227 + k) v) iM (va_up sM 11 (upd (sM 11) k v')) := by
  subst hv
  refine ⟨by rw [pk_un (by omega)]; exact h.da, by rw [pk_un (by omega)]; exact h.ho, by rw [pk_un (by omega)]; exact h.vd, by rw [pk_un (by omega)]; exact h.vl, by rw [pk_un (by omega)]; exact h.bo, fun j hj => ⟨?_, ?_, ?_⟩, fun j hj => ⟨?_, ?_⟩, fun j hj => ?_⟩
  · rw [q_vn _ _ (by omega), pk_un (by omega)]; exact h.co hj
  · rw [q_vn _ _ (by omega), pk_un (by omega)]; exact h.hu hj
  · rw [q_vn _ _ (by omega), pk_un (by omega)]; exact h.me hj
  · rw [q_vn _ _ (by omega), pk_un (by omega)]; exact h.st hj
  · rw [q_vn _ _ (by omega), pk_un (by omega)]; exact h.wa hj
  · rw [q_ve, q_us, q_us, h.dl hj]; simp only [Nat.add_left_cancel_iff]
theorem MP.i1 (h : MP s iM sM) (hv : v' = v) : MP (upd s 131 v) (va_up iM 1 v') sM := by
  subst hv
  exact ⟨rfl, h.ho, h.vd, h.vl, h.bo, fun j hj => by simp (disch := omega) only [pk_un]; exact h.2.2.2.2.2.1 j hj, fun j hj => by simp (disch := omega) only [pk_un]; exact h.2.2.2.2.2.2.1 j hj, fun j hj => by simp (disch := omega) only [pk_un]; exact h.2.2.2.2.2.2.2 j hj⟩
theorem MP.i2 (h : MP s iM sM) (hv : v' = v) : MP (upd s 133 v) (va_up iM 2 v') sM := by
  subst hv
  exact ⟨h.da, rfl, h.vd, h.vl, h.bo, fun j hj => by simp (disch := omega) only [pk_un]; exact h.2.2.2.2.2.1 j hj, fun j hj => by simp (disch := omega) only [pk_un]; exact h.2.2.2.2.2.2.1 j hj, fun j hj => by simp (disch := omega) only [pk_un]; exact h.2.2.2.2.2.2.2 j hj⟩
theorem MP.i3 (h : MP s iM sM) (hv : v' = v) : MP (upd s 134 v) (va_up iM 3 v') sM := by
  subst hv
  exact ⟨h.da, h.ho, rfl, h.vl, h.bo, fun j hj => by simp (disch := omega) only [pk_un]; exact h.2.2.2.2.2.1 j hj, fun j hj => by simp (disch := omega) only [pk_un]; exact h.2.2.2.2.2.2.1 j hj, fun j hj => by simp (disch := omega) only [pk_un]; exact h.2.2.2.2.2.2.2 j hj⟩
theorem MP.i4 (h : MP s iM sM) (hv : v' = v) : MP (upd s 135 v) (va_up iM 4 v') sM := by
  subst hv
  exact ⟨h.da, h.ho, h.vd, rfl, h.bo, fun j hj => by simp (disch := omega) only [pk_un]; exact h.2.2.2.2.2.1 j hj, fun j hj => by simp (disch := omega) only [pk_un]; exact h.2.2.2.2.2.2.1 j hj, fun j hj => by simp (disch := omega) only [pk_un]; exact h.2.2.2.2.2.2.2 j hj⟩
theorem MP.i5 (h : MP s iM sM) (hv : v' = v) : MP (upd s 132 v) (va_up iM 5 v') sM := by
  subst hv
  exact ⟨h.da, h.ho, h.vd, h.vl, rfl, fun j hj => by simp (disch := omega) only [pk_un]; exact h.2.2.2.2.2.1 j hj, fun j hj => by simp (disch := omega) only [pk_un]; exact h.2.2.2.2.2.2.1 j hj, fun j hj => by simp (disch := omega) only [pk_un]; exact h.2.2.2.2.2.2.2 j hj⟩
theorem MP.i12 (h : MP s iM sM) (v : Int32) : MP s (va_up iM 12 v) sM := ⟨h.da, h.ho, h.vd, h.vl, h.bo, h.2.2.2.2.2⟩
end
section
variable (N : Nat) {s : Nat → Int32} {iC : Nat → Int32} {tC : Nat → Nat → Int64} {sC : Nat → Nat → Int32} {iM : Nat → Int32} {sM : Nat → Nat → Int32} {P Q : Nat}
theorem x_doBuy (hC : CP s iC sC) (hM : MP s iM sM) {a g b : Nat} (ha : a < 7) (hb : b < 7) (hg : g < 5) :
    ∃ iM' sM', f_X4_doBuy N iM sM iC tC sC (nI a) (nI g) (nI b) = some (iM', sM') ∧ MP (buyS s a g b) iM' sM' ∧ iM' 12 = iM 12 := by
  unfold f_X4_doBuy
  simp (disch := omega) only [x_cellOf, x_pairOf, q_bd, q_ck, q_ix, q_nv, x_has N _ (show a < 31 by omega), x_has N _ (show b < 31 by omega), q_b0, hC.pr, hC.de, hM.vd]
  have h1 := hM.u9 (k := 5 * b + g) (v := s (143 + (5 * b + g)) - 1) (v' := sM 9 (5 * b + g) - 1) (by omega) (by rw [hM.st (by omega)])
  have h2 := h1.u10 (k := 5 * a + g) (v := by1 s (143 + (5 * b + g)) (178 + (5 * a + g)) - 1) (v' := sM 10 (5 * a + g) - 1) (by omega) (congrArg (· - 1) (h1.wa (k := 5 * a + g) (by omega)))
  have h3 := h2.u6 (k := a) (v := by1 (by1 s (143 + (5 * b + g))) (178 + (5 * a + g)) (136 + a) - (s (47 + (5 * b + g)) - 1)) (v' := sM 6 a - (s (47 + (5 * b + g)) - 1)) ha (congrArg (· - (s (47 + (5 * b + g)) - 1)) (h2.co (k := a) ha))
  have h4 := h3.u6 (k := b) (v := by2 (by1 (by1 s (143 + (5 * b + g))) (178 + (5 * a + g))) (136 + a) (s (47 + (5 * b + g)) - 1) (136 + b) + (s (47 + (5 * b + g)) - 1)) (v' := (upd (sM 6) a (sM 6 a - (s (47 + (5 * b + g)) - 1))) b + (s (47 + (5 * b + g)) - 1)) hb (congrArg (· + (s (47 + (5 * b + g)) - 1)) (h3.co (k := b) hb))
  rw [q_vv, q_ve] at h4
  have h5 := h4.i5 (v := by3 (by2 (by1 (by1 s (143 + (5 * b + g))) (178 + (5 * a + g))) (136 + a) (s (47 + (5 * b + g)) - 1)) (136 + b) (s (47 + (5 * b + g)) - 1) 132 + 1) (v' := iM 5 + 1) (congrArg (· + 1) h4.bo)
  have hA : MP (buyA s a g b) (va_up iM 5 (iM 5 + 1)) (va_up (va_up (va_up sM 9 (upd (sM 9) (5 * b + g) (sM 9 (5 * b + g) - 1))) 10 (upd (sM 10) (5 * a + g) (sM 10 (5 * a + g) - 1))) 6 (upd (upd (sM 6) a (sM 6 a - (s (47 + (5 * b + g)) - 1))) b (upd (sM 6) a (sM 6 a - (s (47 + (5 * b + g)) - 1)) b + (s (47 + (5 * b + g)) - 1)))) := h5
  clear h1 h2 h3 h4 h5
  unfold buyS
  by_cases va : tb (s 134) a = true
  · simp only [va, if_true]
    exact ⟨_, _, rfl, hA, rfl⟩
  · by_cases vb : tb (s 134) b = true
    · simp only [va, vb, if_true, if_false, Bool.false_eq_true]
      exact ⟨_, _, rfl, hA, rfl⟩
    · simp only [va, vb, if_false, Bool.false_eq_true]
      have d1 := hA.u11 (k := 7 * a + b) (v := buyA s a g b (227 + (7 * a + b)) + 1) (v' := sM 11 (7 * a + b) + 1) (by omega) (congrArg (· + 1) (hA.dl (k := 7 * a + b) (by omega)))
      have d2 := d1.u11 (k := 7 * b + a) (v := by3 (buyA s a g b) (227 + (7 * a + b)) 1 (227 + (7 * b + a)) + 1) (v' := (upd (sM 11) (7 * a + b) (sM 11 (7 * a + b) + 1)) (7 * b + a) + 1) (by omega) (congrArg (· + 1) (d1.dl (k := 7 * b + a) (by omega)))
      rw [q_vv, q_ve] at d2
      have d3 : (upd (upd (sM 11) (7 * a + b) (sM 11 (7 * a + b) + 1)) (7 * b + a) ((upd (sM 11) (7 * a + b) (sM 11 (7 * a + b) + 1)) (7 * b + a) + 1)) (7 * a + b) = (buyD (buyA s a g b) a b) (227 + (7 * a + b)) := d2.dl (k := 7 * a + b) (by omega)
      rw [d3]
      split
      · exact ⟨_, _, rfl, d2, rfl⟩
      · obtain ⟨sM', e, hm, -⟩ := x_meet N (iC := iC) (tC := tC) (sC := sC) d2 ha hb
        refine ⟨va_up iM 5 (iM 5 + 1), sM', ?_, hm, rfl⟩
        have e' : f_X4_meet N (va_up iM 5 (iM 5 + 1)) (va_up (va_up (va_up (va_up sM 9 (upd (sM 9) (5 * b + g) (sM 9 (5 * b + g) - 1))) 10 (upd (sM 10) (5 * a + g) (sM 10 (5 * a + g) - 1))) 6 (upd (upd (sM 6) a (sM 6 a - (s (47 + (5 * b + g)) - 1))) b (upd (sM 6) a (sM 6 a - (s (47 + (5 * b + g)) - 1)) b + (s (47 + (5 * b + g)) - 1)))) 11 (upd (upd (sM 11) (7 * a + b) (sM 11 (7 * a + b) + 1)) (7 * b + a) ((upd (sM 11) (7 * a + b) (sM 11 (7 * a + b) + 1)) (7 * b + a) + 1))) iC tC sC (nI a) (nI b) = some sM' := e
        rw [e']; rfl
theorem x_doNod (hM : MP s iM sM) {a b : Nat} (ha : a < 7) (hb : b < 7) :
    ∃ iM' sM', f_X4_doNod N iM sM iC tC sC (nI a) (nI b) = some (iM', sM') ∧ MP (nodS s a b) iM' sM' ∧ iM' 12 = iM 12 := by
  unfold f_X4_doNod
  obtain ⟨sM', e, hm, -⟩ := x_meet N (iC := iC) (tC := tC) (sC := sC) hM ha hb
  rw [e, q_bd, q_nv]
  refine ⟨_, _, rfl, ?_, rfl⟩
  exact hm.i2 (v := meetS s a b 133 ||| pb a) (by rw [hm.ho]; rfl)
theorem x_doVeil (hM : MP s iM sM) {a : Nat} :
    ∃ iM', f_X4_doVeil N iM sM iC tC sC (nI a) = some iM' ∧ MP (veilS s a) iM' sM ∧ iM' 12 = iM 12 := by
  unfold f_X4_doVeil
  rw [q_nv]
  refine ⟨_, rfl, ?_, rfl⟩
  have h1 := hM.i3 (v := s 134 ||| pb a) (v' := iM 3 ||| pb a) (by rw [hM.vd])
  have h2 := h1.i4 (v := upd s 134 (s 134 ||| pb a) 135 - 1) (v' := iM 4 - 1) (congrArg (· - 1) h1.vl)
  exact h2
end
