/-! PURE: what the constructors make -/
def w24 : Nat → Int64 := (vp_updL (vp_updL (vp_updL (vp_updL (vp_updL (vp_updL (vp_updL (vp_updL (vp_updL (vp_updL (vp_updL (vp_updL (vp_updL (vp_updL (vp_updL (vp_updL (vp_updL (vp_updL (vp_updL (vp_updL (vp_updL (vp_updL (vp_updL (vp_updL (fun _ => 0) 0 123581014175598) 1 1735356260) 2 495622843507) 3 512735736947) 4 461414299507) 5 1718576499) 6 431197613171) 7 508507548787) 8 1650814060) 9 1651865971) 10 1852793971) 11 499917810803) 12 6578553) 13 28530) 14 6385252) 15 7237492) 16 1752132965) 17 130177932485988) 18 6710628) 19 1936682084) 20 427070942835) 21 28836244623352947) 22 114853572732274) 23 121450625394034)
theorem w24_ok : ∀ k, k < 24 → w24 k = lN (e256 (wds k)) := by decide +kernel
def cpR (s h : Nat → Int32) (i : Nat) : Nat → Int32 := fun k => if k < i then h k else s k
theorem cp_s (s h : Nat → Int32) (i : Nat) : upd (cpR s h i) i (h i) = cpR s h (i + 1) := by
  funext x
  by_cases c : x = i
  · subst c; rw [pk_us]; unfold cpR; rw [if_pos (by omega)]
  · rw [pk_un c]; unfold cpR
    by_cases h2 : x < i
    · rw [if_pos h2, if_pos (by omega)]
    · rw [if_neg h2, if_neg (by omega)]
section
variable {N : Nat} {iY : Nat → Int32} {sY : Nat → Nat → Int32} {tY : Nat → Nat → Int64} {jY : Nat → Int64}
theorem y_415 (hN : 2000 ≤ N) (K : (Nat → Nat → Int32) → Option ((Nat → Nat → Int32) × (Nat → Nat → Int64))) : f_X11_initr_415 N iY tY jY K N sY 0 = K (va_up sY 6 (cpR (sY 6) (sY 7) 131)) := by
  have key := q_loopG (fun k i => f_X11_initr_415 N iY tY jY K k (va_up sY 6 (cpR (sY 6) (sY 7) i)) (nI i)) (K (va_up sY 6 (cpR (sY 6) (sY 7) 131))) 131 N (by omega) (fun k => by
    show f_X11_initr_415 N iY tY jY K (k + 1) _ _ = _
    rw [f_X11_initr_415, L131, if_pos (nI_le (Nat.le_refl _) (by omega))]) (fun k i hi => by
    show f_X11_initr_415 N iY tY jY K (k + 1) _ _ = f_X11_initr_415 N iY tY jY K k _ _
    rw [f_X11_initr_415, L131, if_neg (nI_ge hi (by omega)), q_ck hi (by omega), q_ck (show i < 457 by omega) (by omega), q_nv, show ix (nI i) = i from q_ix (by omega), q_ve, q_vv, nI_1, show va_up sY 6 (cpR (sY 6) (sY 7) i) 7 = sY 7 from rfl, cp_s])
  refine Eq.trans ?_ key
  show _ = f_X11_initr_415 N iY tY jY K N (va_up sY 6 (cpR (sY 6) (sY 7) 0)) 0
  rw [show cpR (sY 6) (sY 7) 0 = sY 6 from funext (fun k => if_neg (by omega)), q_vid]
end
def s0S : Nat → Int32 := fun k => if k = 2 then 2 else if k = 3 then 1 else if k = 135 then 1 else 0
theorem s0_z {k : Nat} (h2 : k ≠ 2) (h3 : k ≠ 3) (h5 : k ≠ 135) : s0S k = 0 := by unfold s0S; rw [if_neg h2, if_neg h3, if_neg h5]
theorem s0_cp : upd (cpR (fun _ => 0) (clH (fun _ => 0)) 131) 135 1 = s0S := by
  funext k
  by_cases c : k = 135
  · subst c; rw [pk_us]; rfl
  · rw [pk_un c]
    unfold cpR
    by_cases c2 : k = 2
    · subst c2; rfl
    · by_cases c3 : k = 3
      · subst c3; rfl
      · rw [s0_z c2 c3 c]
        by_cases h : k < 131
        · rw [if_pos h]; exact clH_0 _ h c2 c3
        · rw [if_neg h]
theorem tb_z {x : Int32} (h : x = 0) {q : Nat} (h2 : tb x q = true) : False := by rw [h, tb_0] at h2; cases h2
theorem s0_CE {base : Nat} (hb : 12 ≤ base) (h : base + 35 ≤ 131 ∨ 136 ≤ base) (m : Nat) : CE s0S base 0 0 m := fun p g hp hg => ⟨0, Nat.zero_le _, s0_z (by omega) (by omega) (by omega), fun _ => rfl⟩
theorem s0_SY {base : Nat} (h : (12 ≤ base ∧ base + 7 ≤ 131) ∨ 136 ≤ base) : SY s0S base 0 := fun p q hp ht => (tb_z (s0_z (by omega) (by omega) (by omega)) ht).elim
theorem s0_IL : IL s0S 0 0 := ⟨by omega, by omega, rfl, rfl, ⟨2, by omega, by omega, rfl⟩, ⟨1, by omega, rfl⟩, ⟨0, by omega, rfl⟩, s0_CE (by omega) (by omega) _, s0_CE (by omega) (by omega) _, s0_CE (by omega) (by omega) _, s0_SY (by omega), s0_SY (by omega)⟩
theorem s0_ID : ID s0S 0 0 := ⟨⟨0, by omega, rfl⟩, ⟨1, by omega, rfl⟩, s0_CE (by omega) (by omega) _, s0_CE (by omega) (by omega) _, s0_SY (by omega), fun p hp _ => s0_z (by omega) (by omega) (by omega), fun p q hp hq => ⟨by rw [s0_z (by omega) (by omega) (by omega), s0_z (by omega) (by omega) (by omega)], Or.inr ⟨0, 2, by omega, rfl, s0_z (by omega) (by omega) (by omega), Or.inl (by omega)⟩⟩⟩
theorem s0_new : ∀ k, 131 ≤ k → k < 276 → s0S k = newS (fun _ => 0) (clH (fun _ => 0)) k := by
  intro k h1 h2
  obtain ⟨n1, n2, n3⟩ := new_135 (fun _ => 0) (clH (fun _ => 0))
  by_cases c : k = 135
  · subst c; rw [n1]; rfl
  · rw [s0_z (by omega) (by omega) c]
    by_cases d : k = 133
    · subst d; rw [n2]
    · by_cases d2 : k = 134
      · subst d2; rw [n3]
      · by_cases e1 : k < 136
        · rw [new_z _ _ (by omega) (by omega)]
        · by_cases e2 : k < 143
          · obtain ⟨j, rfl⟩ := Nat.exists_eq_add_of_le (show 136 ≤ k by omega)
            rw [new_c _ _ (by omega), clH_0 _ (by omega) (by omega) (by omega)]
          · by_cases e3 : k < 178
            · obtain ⟨j, rfl⟩ := Nat.exists_eq_add_of_le (show 143 ≤ k by omega)
              rw [new_s _ _ (by omega), clH_0 _ (by omega) (by omega) (by omega)]
            · by_cases e4 : k < 213
              · obtain ⟨j, rfl⟩ := Nat.exists_eq_add_of_le (show 178 ≤ k by omega)
                rw [new_w _ _ (by omega), clH_0 _ (by omega) (by omega) (by omega)]
              · rw [new_z _ _ (by omega) (by omega)]
set_option maxHeartbeats 2000000 in
theorem st_init {N : Nat} (hN : 2000 ≤ N) : ∃ (iC0 : Nat → Int32) (tC0 : Nat → Nat → Int64) (sC0 : Nat → Nat → Int32) (iM0 : Nat → Int32) (sM0 : Nat → Nat → Int32) (sY0 : Nat → Nat → Int32) (tY0 : Nat → Nat → Int64), f_X1_clear N (fun _ => 0) (fun _ _ => 0) (fun _ _ => 0) = some (iC0, tC0, sC0) ∧ f_X4_begin N (fun _ => 0) (fun _ _ => 0) iC0 tC0 sC0 = some (iM0, sM0) ∧ f_X11_initr N (va_up (fun _ => 0) 33 (-1)) (fun _ _ => 0) (fun _ _ => 0) (fun _ => 0) = some (sY0, tY0) ∧ ∀ aU, REL aU (fun _ => 0) (fun _ _ => 0) (fun _ => 0) (fun _ => 0) iC0 tC0 sC0 (fun _ => 0) iC0 tC0 sC0 iM0 sM0 (fun _ => 0) (fun _ _ => 0) (fun _ _ => 0) (fun _ _ _ => 0) (va_up (va_up (va_up (fun _ => 0) 2 (-1)) 3 (-1)) 6 (-1)) (fun _ _ => 0) (fun _ _ => 0) (fun _ => 0) (fun _ _ => 0) (fun _ => 0) (fun _ => 0) (fun _ _ => 0) (fun _ => 0) (fun _ _ => 0) (fun _ => 0) iC0 tC0 sC0 (fun _ => 0) (fun _ _ => 0) (fun _ => 0) (fun _ _ => 0) (fun _ => 0) iC0 tC0 sC0 (fun _ => 0) (fun _ _ => 0) (fun _ => 0) (fun _ _ => 0) (va_up (fun _ => 0) 33 (-1)) sY0 tY0 (fun _ => 0) := by
  have hcl : ∃ iC0 tC0 sC0, f_X1_clear N (fun _ => 0) (fun _ _ => 0) (fun _ _ => 0) = some (iC0, tC0, sC0) ∧ CP s0S iC0 sC0 ∧ (∀ k, tC0 2 k = 0) := by
    unfold f_X1_clear
    simp only [q_nv]
    have z7 : ∀ k : Nat, fl_i 7 (fun _ => 0) 0 k = 0 := fun k => by unfold fl_i; split <;> rfl
    have z35 : ∀ k : Nat, fl_i 35 (fun _ => 0) 0 k = 0 := fun k => by unfold fl_i; split <;> rfl
    refine ⟨_, _, _, rfl, ⟨rfl, rfl, rfl, rfl, rfl, fun k hk => ⟨?_, ?_, ?_⟩, fun k hk => ⟨?_, ?_, ?_⟩⟩, fun k => ?_⟩
    · rw [s0_z (by omega) (by omega) (by omega)]; exact z7 k
    · rw [s0_z (by omega) (by omega) (by omega)]; exact z7 k
    · rw [s0_z (by omega) (by omega) (by omega)]; exact z7 k
    · rw [s0_z (by omega) (by omega) (by omega)]; exact z35 k
    · rw [s0_z (by omega) (by omega) (by omega)]; exact z35 k
    · rw [s0_z (by omega) (by omega) (by omega)]
      show fl_i 35 (fun _ => 0) (-1) k = 0 - 1
      unfold fl_i; rw [if_pos hk]; rfl
    · show fl_l 12 (fun _ => 0) 0 k = 0
      unfold fl_l; split <;> rfl
  obtain ⟨iC0, tC0, sC0, c1, c2, c3⟩ := hcl
  have hch : CP (clH (fun _ => 0)) iC0 sC0 := c2.to (fun k hk => by
    by_cases d2 : k = 2
    · subst d2; rfl
    · by_cases d3 : k = 3
      · subst d3; rfl
      · rw [s0_z d2 d3 (by omega)]; exact clH_0 _ hk d2 d3)
  obtain ⟨iM0, sM0, m1, m2⟩ := x_begin N (iM := fun _ => 0) (sM := fun _ _ => 0) (tC := tC0) (s := fun _ => 0) hch
  have hM : MP s0S iM0 sM0 := m2.to s0_new
  have hy : f_X11_initr N (va_up (fun _ => 0) 33 (-1)) (fun _ _ => 0) (fun _ _ => 0) (fun _ => 0) = some (va_up (va_up (va_up (fun _ _ => 0) 7 (clH (fun _ => 0))) 6 (cpR (fun _ => 0) (clH (fun _ => 0)) 131)) 6 s0S, va_up (fun _ _ => 0) 10 w24) := by
    unfold f_X11_initr
    simp only [q_nv]
    rw [y_clears N _ _ _ _ hN, q_bd, q_jn, y_415 hN]
    rw [show va_up (va_up (fun _ _ => 0) 7 (clH (fun _ => 0))) 6 (cpR (va_up (fun _ _ => 0) 7 (clH (fun _ => 0)) 6) (va_up (fun _ _ => 0) 7 (clH (fun _ => 0)) 7) 131) 6 = cpR (fun _ => 0) (clH (fun _ => 0)) 131 from rfl, s0_cp]
    rfl
  refine ⟨iC0, tC0, sC0, iM0, sM0, _, _, c1, m1, hy, fun aU => ⟨0, 0, 0, 0, c2, hM, s0_IL, s0_ID, ?_, SP_0 rfl rfl rfl, Nat.zero_le _, rfl, rfl, fun _ _ => (show (0 : Int32) = 0 &&& 255 by decide), rfl, rfl, rfl, ⟨Nat.zero_le _, fun j hj => absurd hj (Nat.not_lt_zero _)⟩, Or.inl ⟨rfl, rfl⟩, Or.inl ⟨rfl, rfl⟩, Or.inl ⟨rfl, rfl⟩, ⟨0, Nat.zero_le _, rfl, Or.inr ⟨rfl, rfl⟩, fun k hk => absurd hk (Nat.not_lt_zero _)⟩, ⟨0, Nat.zero_le _, rfl, rfl, fun k hk => absurd hk (Nat.not_lt_zero _)⟩, rfl, fun h => absurd rfl h, w24_ok, ⟨rfl, fun h => absurd rfl h⟩, ⟨rfl, fun h => absurd rfl h⟩⟩⟩
  exact ⟨fun k hk => absurd hk (Nat.not_lt_zero _), fun k _ _ => c3 k, fun k hk => absurd hk (Nat.not_lt_zero _), fun k _ _ => c3 (7 + k), fun i j _ _ _ hne => absurd (c3 i) hne⟩
