/-! PURE: a book's lines -/
def BL (P Q : Nat) (w a b c rw ra rb rc : Int32) : Prop :=
  (w = 12 ∧ rw = 4 ∧ ∃ v, 1 ≤ v ∧ v ≤ 60 ∧ a = nI v ∧ ra = nI v) ∨
  (w = 9 ∧ rw = 0 ∧ ∃ p g q, p < P ∧ g < Q ∧ q < P ∧ a = nI p ∧ ra = nI p ∧ b = nI g ∧ rb = nI g ∧ c = nI q ∧ rc = nI q) ∨
  (w = 10 ∧ rw = 1 ∧ ∃ p q, p < P ∧ q < P ∧ a = nI p ∧ ra = nI p ∧ b = nI q ∧ rb = nI q) ∨
  (w = 7 ∧ rw = 2 ∧ ∃ p, p < P ∧ a = nI p ∧ ra = nI p) ∨
  (w = 11 ∧ rw = 3 ∧ ∃ p q r, p < P ∧ q < P ∧ r < P ∧ a = nI p ∧ ra = nI p ∧ b = nI q ∧ rb = nI q ∧ c = nI r ∧ rc = nI r)
abbrev BX : Type := Option (Int32 × (Nat → Nat → Int32) × (Nat → Int32) × (Nat → Int64))
abbrev BY : Type := Option (Int32 × (Nat → Int32) × (Nat → Nat → Int32) × (Nat → Int64))
def BO (L lim st n P Q : Nat) (iT iY : Nat → Int32) (sB sY : Nat → Nat → Int32) (fx : BX) (fy : BY) : Prop :=
  (∃ sB' iT' jT' iY' sY' jY', fx = some (0, sB', iT', jT') ∧ fy = some (0, iY', sY', jY') ∧ FT iT' iY' ∧ GF iY iY' ∧ ∀ k, k ≠ 8 → sY' k = sY k) ∨
  (∃ sB' iT' jT' iY' sY' jY' st', fx = some (1, sB', iT', jT') ∧ fy = some (1, iY', sY', jY') ∧ n < 40 ∧ BL P Q (sB' 2 n) (sB' 3 n) (sB' 4 n) (sB' 5 n) (sY' 8 (4 * n)) (sY' 8 (4 * n + 1)) (sY' 8 (4 * n + 2)) (sY' 8 (4 * n + 3)) ∧ (∀ j, j < n → sB' 2 j = sB 2 j ∧ sB' 3 j = sB 3 j ∧ sB' 4 j = sB 4 j ∧ sB' 5 j = sB 5 j) ∧ (∀ j, j < 4 * n → sY' 8 j = sY 8 j) ∧ (∀ k, k ≠ 8 → sY' k = sY k) ∧ TR L lim st' iT' jT' iY' jY' ∧ st < st' ∧ iT' 11 = iT 11 ∧ SF iY iY')
section
variable (N : Nat) {sT : Nat → Nat → Int32} {iT : Nat → Int32} {jT : Nat → Int64} {iY : Nat → Int32} {sY : Nat → Nat → Int32} {tY : Nat → Nat → Int64} {jY : Nat → Int64} {iC : Nat → Int32} {tC : Nat → Nat → Int64} {sC : Nat → Nat → Int32} {sB : Nat → Nat → Int32} {iB : Nat → Int32} {L lim st n P Q : Nat}
/-- what comes behind the actor's name; g: the row read, as the reference has it then -/
def tlB (N : Nat) (iY : Nat → Int32) (sY : Nat → Nat → Int32) (tY : Nat → Nat → Int64) (jY : Nat → Int64) (g : Nat → Int32) (q : Int32) (n : Nat) : BY :=
  bd (f_X11_isWord N iY (va_up sY 8 g) tY jY 1651865971) (fun r_15 => jn (fun (z : (Int32)) => match z with | y_20 => (if (0 : Int32) ≤ y_20 then bd (f_X11_next N iY (va_up sY 8 g) tY jY) (fun (iY_22, jY_23) => ck (nI (4 * n)) 160 (nv (upd g (4 * n) y_20) (fun g_26 => ck (nI (4 * n) + 1) 160 (nv (upd g_26 (ix (nI (4 * n) + 1)) q) (fun g_28 => (if y_20 = 2 then some (1, iY_22, (va_up sY 8 g_28), jY_23) else jn (fun (z : (Int32) × (Nat → Int32) × (Nat → Int64)) => match z with | (y_33, iY_34, jY_35) => ck (nI (4 * n) + 2) 160 (nv (upd g_28 (ix (nI (4 * n) + 2)) (iY_34 18)) (fun g_37 => (if y_33 = 0 then zb y_33 (some (y_33, iY_34, (va_up sY 8 g_37), jY_35)) else (if y_20 = 1 then zb y_33 (some (y_33, iY_34, (va_up sY 8 g_37), jY_35)) else bd (f_X11_takesName N iY_34 (va_up sY 8 g_37) tY jY_35 0 ((sY 6) 0)) (fun (r_41, iY_42, jY_43) => ck (nI (4 * n) + 3) 160 (nv (upd g_37 (ix (nI (4 * n) + 3)) (iY_42 18)) (fun g_46 => zb r_41 (some (r_41, iY_42, (va_up sY 8 g_46), jY_43)))))))))) (fun K_30 => (if y_20 = 0 then bd (f_X11_takesName N iY_22 (va_up sY 8 g_28) tY jY_23 7 ((sY 6) 1)) (fun (r_54, iY_55, jY_56) => K_30 (r_54, iY_55, jY_56)) else bd (f_X11_takesName N iY_22 (va_up sY 8 g_28) tY jY_23 0 ((sY 6) 0)) (fun (r_50, iY_51, jY_52) => K_30 (r_50, iY_51, jY_52)))))))))) else bd (f_X11_bad N iY (va_up sY 8 g) tY jY 1) (fun (r_58, iY_59) => zb r_58 (some (r_58, iY_59, (va_up sY 8 g), jY))))) (fun K_17 => (if r_15 = 0 then bd (f_X11_isWord N iY (va_up sY 8 g) tY jY 1852793971) (fun r_63 => (if r_63 = 0 then bd (f_X11_isWord N iY (va_up sY 8 g) tY jY 508507548787) (fun r_66 => (if r_66 = 0 then bd (f_X11_isWord N iY (va_up sY 8 g) tY jY 499917810803) (fun r_69 => (if r_69 = 0 then K_17 (-1) else K_17 3)) else K_17 2)) else K_17 1)) else K_17 0)))
/-- one line's rows written -/
theorem up4 (f : Nat → Int32) (n : Nat) (a b c d : Int32) : upd (upd (upd (upd f (4 * n) a) (4 * n + 1) b) (4 * n + 2) c) (4 * n + 3) d (4 * n) = a ∧ upd (upd (upd (upd f (4 * n) a) (4 * n + 1) b) (4 * n + 2) c) (4 * n + 3) d (4 * n + 1) = b ∧ upd (upd (upd (upd f (4 * n) a) (4 * n + 1) b) (4 * n + 2) c) (4 * n + 3) d (4 * n + 2) = c ∧ upd (upd (upd (upd f (4 * n) a) (4 * n + 1) b) (4 * n + 2) c) (4 * n + 3) d (4 * n + 3) = d := by
  refine ⟨?_, ?_, ?_, pk_us⟩
  · rw [pk_un (by omega), pk_un (by omega), pk_un (by omega), pk_us]
  · rw [pk_un (by omega), pk_un (by omega), pk_us]
  · rw [pk_un (by omega), pk_us]
theorem b_rAct (hN : 2000 ≤ N) (hB : ∀ k, k < 940 → sT 0 k = sY 1 k &&& 255) (hR : ∀ k, k < 24 → tY 10 k = lN (e256 (wds k))) (hL : IL (sY 6) P Q) (hNm : NM (tC 2) (tY 9) 0 P Q) (h : TR L lim st iT jT iY jY) (hn : n < 40) (h6 : iB 6 = nI n) (g : Nat → Int32) {p : Nat} (hp : p < P) :
    BO L lim st n P Q iT iY sB (va_up sY 8 g) (f_X0_readAct N (va_up sB 3 (upd (sB 3) n (nI p))) iB sT iT jT iC tC sC) (tlB N iY sY tY jY g (nI p) n) := by
  have hP := hL.P7
  have hQ := hL.Q5
  unfold f_X0_readAct tlB
  rw [lw9, lw10, lw7, lw11, t_word N h (k := 9) (by omega), t_word N h (k := 10) (by omega), t_word N h (k := 7) (by omega), t_word N h (k := 11) (by omega), h6]
  simp only [q_bd, q_b0, decide_eq_true_eq, q_jn]
  obtain ⟨r1, r2, r3, r4⟩ := y_refuse N (sT := sT) (sY := va_up sY 8 g) (tY := tY) h 1
  have hB8 : ∀ k, k < 940 → sT 0 k = va_up sY 8 g 1 k &&& 255 := hB
  obtain ⟨iT1, jT1, iY1, jY1, st1, a1, a2, a3, a4, a5, a6, a7, a8⟩ := t_next N (sY := va_up sY 8 g) hN hB8 tY h
  have c4 : nI (4 * n) + 1 = nI (4 * n + 1) := nI_1 _
  have c5 : nI (4 * n) + 2 = nI (4 * n + 2) := by rw [L2, nI_add]
  have c6 : nI (4 * n) + 3 = nI (4 * n + 3) := by rw [L3, nI_add]
  by_cases w9 : iT 7 = nI 9
  · have e7 : iT 7 = 9 := w9
    rw [if_pos e7]
    rw [if_pos w9, if_pos (show (0 : Int32) ≤ 0 by decide), q_ck hn (by omega), q_nv, a1, q_bd, a2, q_bd, show ix (nI n) = n from q_ix (by omega)]
    dsimp only
    rw [q_ck (show 4 * n < 160 by omega) (by omega), q_nv, c4, q_ck (show 4 * n + 1 < 160 by omega) (by omega), q_nv, show ix (nI (4 * n + 1)) = 4 * n + 1 from q_ix (by omega)]
    rw [if_neg (show ¬ iT 7 = 7 by rw [e7]; decide), if_pos e7, if_neg (show ¬ (0 : Int32) = 2 by decide), if_pos trivial, hL.s1]
    rcases b_goodP N (iC := iC) (sC := sC) (sY := va_up sY 8 (upd (upd g (4 * n) 0) (4 * n + 1) (nI p))) (base := 0) hN hB hR hP hQ (by omega) hNm a3 with ⟨iT2, iY2, d1, d2, d3, d4⟩ | ⟨u, iT2, jT2, iY2, jY2, st2, hu, d1, d2, d3, d4, d5, d6, d7⟩
    · rw [d1, show f_X11_takesName N iY1 (va_up sY 8 (upd (upd g (4 * n) 0) (4 * n + 1) (nI p))) tY jY1 7 (nI Q) = _ from d2, q_bd, q_bd]
      dsimp only
      rw [q_ck hn (by omega), q_nv, q_ck hn (by omega), pk_us, if_pos rfl, c5, q_ck (show 4 * n + 2 < 160 by omega) (by omega), q_nv, if_pos rfl]
      exact Or.inl ⟨_, _, _, _, _, _, rfl, rfl, d3, a7.gf.tr d4, fun k hk => (q_vn _ _ hk).trans (q_vn _ _ hk).symm⟩
    · rw [d1, show f_X11_takesName N iY1 (va_up sY 8 (upd (upd g (4 * n) 0) (4 * n + 1) (nI p))) tY jY1 7 (nI Q) = _ from d2, q_bd, q_bd]
      dsimp only
      rw [q_ck hn (by omega), q_nv, q_ck hn (by omega), pk_us, if_neg (nI_m1 (by omega)), c5, q_ck (show 4 * n + 2 < 160 by omega) (by omega), q_nv, if_neg (show ¬ (1 : Int32) = 0 by decide), d3, show ix (nI (4 * n + 2)) = 4 * n + 2 from q_ix (by omega)]
      have s2 := a5 (t_w7 h (c := 9) (by omega) w9)
      rw [if_neg (show ¬ iT 7 = 10 by rw [e7]; decide), if_neg (show ¬ (0 : Int32) = 1 by decide), hL.s0]
      rcases b_perP N (iC := iC) (sC := sC) (sY := va_up sY 8 (upd (upd (upd g (4 * n) 0) (4 * n + 1) (nI p)) (4 * n + 2) (nI u))) (base := 0) hN hB hR hP hQ (by omega) hNm d4 with ⟨iT3, iY3, f1, f2, f3, f4⟩ | ⟨x, iT3, jT3, iY3, jY3, st3, hx, f1, f2, f3, f4, f5, f6, f7⟩
      · rw [f1, show f_X11_takesName N iY2 (va_up sY 8 (upd (upd (upd g (4 * n) 0) (4 * n + 1) (nI p)) (4 * n + 2) (nI u))) tY jY2 0 (nI P) = _ from f2, q_bd, q_bd]
        dsimp only
        rw [q_ck hn (by omega), q_nv, q_ck hn (by omega), pk_us, if_pos rfl, c6, q_ck (show 4 * n + 3 < 160 by omega) (by omega), q_nv, q_z0]
        exact Or.inl ⟨_, _, _, _, _, _, rfl, rfl, f3, a7.gf.tr (d7.gf.tr f4), fun k hk => (q_vn _ _ hk).trans (q_vn _ _ hk).symm⟩
      · rw [f1, show f_X11_takesName N iY2 (va_up sY 8 (upd (upd (upd g (4 * n) 0) (4 * n + 1) (nI p)) (4 * n + 2) (nI u))) tY jY2 0 (nI P) = _ from f2, q_bd, q_bd]
        dsimp only
        rw [q_ck hn (by omega), q_nv, q_ck hn (by omega), pk_us, if_neg (nI_m1 (by omega)), c6, q_ck (show 4 * n + 3 < 160 by omega) (by omega), q_nv, q_z1, f3, show ix (nI (4 * n + 3)) = 4 * n + 3 from q_ix (by omega)]
        obtain ⟨u1, u2, u3, u4⟩ := up4 g n 0 (nI p) (nI u) (nI x)
        refine Or.inr ⟨_, _, _, _, _, _, st3, rfl, rfl, hn, Or.inr (Or.inl ⟨?_, u1, p, u, x, hp, hu, hx, ?_, u2, ?_, u3, ?_, u4⟩), fun j hj => ⟨?_, ?_, ?_, ?_⟩, fun j hj => ?_, fun k hk => ?_, f4, by omega, f6.trans (d6.trans a6), (a7.tr d7).tr f7⟩
        · show upd _ n (iT 7) n = 9
          rw [pk_us]; exact e7
        · show upd _ n (nI p) n = nI p
          rw [pk_us]
        · show upd _ n (nI u) n = nI u
          rw [pk_us]
        · show upd _ n (nI x) n = nI x
          rw [pk_us]
        · show upd _ n (iT 7) j = sB 2 j
          rw [pk_un (by omega)]; rfl
        · show upd _ n (nI p) j = sB 3 j
          rw [pk_un (by omega)]
        · show upd _ n (nI u) j = sB 4 j
          rw [pk_un (by omega)]; rfl
        · show upd _ n (nI x) j = sB 5 j
          rw [pk_un (by omega)]; rfl
        · show upd (upd (upd (upd g (4 * n) 0) (4 * n + 1) (nI p)) (4 * n + 2) (nI u)) (4 * n + 3) (nI x) j = g j
          rw [pk_un (by omega), pk_un (by omega), pk_un (by omega), pk_un (by omega)]
        · show va_up sY 8 _ k = va_up sY 8 g k
          rw [q_vn _ _ hk, q_vn _ _ hk]
  by_cases w10 : iT 7 = nI 10
  · have e7 : iT 7 = 10 := w10
    rw [if_neg (show ¬ iT 7 = 9 from w9), if_pos e7]
    rw [if_neg w9, if_pos w10, if_pos (show (0 : Int32) ≤ 1 by decide), q_ck hn (by omega), q_nv, a1, q_bd, a2, q_bd, show ix (nI n) = n from q_ix (by omega)]
    dsimp only
    rw [q_ck (show 4 * n < 160 by omega) (by omega), q_nv, c4, q_ck (show 4 * n + 1 < 160 by omega) (by omega), q_nv, show ix (nI (4 * n + 1)) = 4 * n + 1 from q_ix (by omega)]
    rw [if_neg (show ¬ iT 7 = 7 by rw [e7]; decide), if_neg (show ¬ iT 7 = 9 by rw [e7]; decide), if_neg (show ¬ (1 : Int32) = 2 by decide), if_neg (show ¬ (1 : Int32) = 0 by decide), hL.s0]
    rcases b_perP N (iC := iC) (sC := sC) (sY := va_up sY 8 (upd (upd g (4 * n) 1) (4 * n + 1) (nI p))) (base := 0) hN hB hR hP hQ (by omega) hNm a3 with ⟨iT2, iY2, d1, d2, d3, d4⟩ | ⟨u, iT2, jT2, iY2, jY2, st2, hu, d1, d2, d3, d4, d5, d6, d7⟩
    · rw [d1, show f_X11_takesName N iY1 (va_up sY 8 (upd (upd g (4 * n) 1) (4 * n + 1) (nI p))) tY jY1 0 (nI P) = _ from d2, q_bd, q_bd]
      dsimp only
      rw [q_ck hn (by omega), q_nv, q_ck hn (by omega), pk_us, if_pos rfl, c5, q_ck (show 4 * n + 2 < 160 by omega) (by omega), q_nv, if_pos rfl]
      exact Or.inl ⟨_, _, _, _, _, _, rfl, rfl, d3, a7.gf.tr d4, fun k hk => (q_vn _ _ hk).trans (q_vn _ _ hk).symm⟩
    · rw [d1, show f_X11_takesName N iY1 (va_up sY 8 (upd (upd g (4 * n) 1) (4 * n + 1) (nI p))) tY jY1 0 (nI P) = _ from d2, q_bd, q_bd]
      dsimp only
      rw [q_ck hn (by omega), q_nv, q_ck hn (by omega), pk_us, if_neg (nI_m1 (by omega)), c5, q_ck (show 4 * n + 2 < 160 by omega) (by omega), q_nv, if_neg (show ¬ (1 : Int32) = 0 by decide), d3, show ix (nI (4 * n + 2)) = 4 * n + 2 from q_ix (by omega)]
      have s2 := a5 (t_w7 h (c := 10) (by omega) w10)
      rw [if_pos e7, if_pos trivial, q_z1]
      refine Or.inr ⟨_, _, _, _, _, _, st2, rfl, rfl, hn, Or.inr (Or.inr (Or.inl ⟨?_, ?_, p, u, hp, hu, ?_, ?_, ?_, ?_⟩)), fun j hj => ⟨?_, ?_, ?_, rfl⟩, fun j hj => ?_, fun k hk => ?_, d4, by omega, d6.trans a6, a7.tr d7⟩
      · show upd _ n (iT 7) n = 10
        rw [pk_us]; exact e7
      · show upd (upd (upd g (4 * n) 1) (4 * n + 1) (nI p)) (4 * n + 2) (nI u) (4 * n) = 1
        rw [pk_un (by omega), pk_un (by omega), pk_us]
      · show upd _ n (nI p) n = nI p
        rw [pk_us]
      · show upd (upd (upd g (4 * n) 1) (4 * n + 1) (nI p)) (4 * n + 2) (nI u) (4 * n + 1) = nI p
        rw [pk_un (by omega), pk_us]
      · show upd _ n (nI u) n = nI u
        rw [pk_us]
      · show upd (upd (upd g (4 * n) 1) (4 * n + 1) (nI p)) (4 * n + 2) (nI u) (4 * n + 2) = nI u
        rw [pk_us]
      · show upd _ n (iT 7) j = sB 2 j
        rw [pk_un (by omega)]; rfl
      · show upd _ n (nI p) j = sB 3 j
        rw [pk_un (by omega)]
      · show upd _ n (nI u) j = sB 4 j
        rw [pk_un (by omega)]; rfl
      · show upd (upd (upd g (4 * n) 1) (4 * n + 1) (nI p)) (4 * n + 2) (nI u) j = g j
        rw [pk_un (by omega), pk_un (by omega), pk_un (by omega)]
      · show va_up sY 8 _ k = va_up sY 8 g k
        rw [q_vn _ _ hk, q_vn _ _ hk]
  by_cases w7 : iT 7 = nI 7
  · have e7 : iT 7 = 7 := w7
    rw [if_neg (show ¬ iT 7 = 9 from w9), if_neg (show ¬ iT 7 = 10 from w10), if_pos e7]
    rw [if_neg w9, if_neg w10, if_pos w7, if_pos (show (0 : Int32) ≤ 2 by decide), q_ck hn (by omega), q_nv, a1, q_bd, a2, q_bd, show ix (nI n) = n from q_ix (by omega)]
    dsimp only
    rw [q_ck (show 4 * n < 160 by omega) (by omega), q_nv, c4, q_ck (show 4 * n + 1 < 160 by omega) (by omega), q_nv, show ix (nI (4 * n + 1)) = 4 * n + 1 from q_ix (by omega)]
    rw [if_pos e7, if_pos trivial]
    refine Or.inr ⟨_, _, _, _, _, _, st1, rfl, rfl, hn, Or.inr (Or.inr (Or.inr (Or.inl ⟨?_, ?_, p, hp, ?_, ?_⟩))), fun j hj => ⟨?_, ?_, rfl, rfl⟩, fun j hj => ?_, fun k hk => ?_, a3, a5 (t_w7 h (c := 7) (by omega) w7), a6, a7⟩
    · show upd _ n (iT 7) n = 7
      rw [pk_us]; exact e7
    · show upd (upd g (4 * n) 2) (4 * n + 1) (nI p) (4 * n) = 2
      rw [pk_un (by omega), pk_us]
    · show upd _ n (nI p) n = nI p
      rw [pk_us]
    · show upd (upd g (4 * n) 2) (4 * n + 1) (nI p) (4 * n + 1) = nI p
      rw [pk_us]
    · show upd _ n (iT 7) j = sB 2 j
      rw [pk_un (by omega)]; rfl
    · show upd _ n (nI p) j = sB 3 j
      rw [pk_un (by omega)]
    · show upd (upd g (4 * n) 2) (4 * n + 1) (nI p) j = g j
      rw [pk_un (by omega), pk_un (by omega)]
    · show va_up sY 8 _ k = va_up sY 8 g k
      rw [q_vn _ _ hk, q_vn _ _ hk]
  by_cases w11 : iT 7 = nI 11
  · have e7 : iT 7 = 11 := w11
    rw [if_neg (show ¬ iT 7 = 9 from w9), if_neg (show ¬ iT 7 = 10 from w10), if_neg (show ¬ iT 7 = 7 from w7), if_pos e7]
    rw [if_neg w9, if_neg w10, if_neg w7, if_pos w11, if_pos (show (0 : Int32) ≤ 3 by decide), q_ck hn (by omega), q_nv, a1, q_bd, a2, q_bd, show ix (nI n) = n from q_ix (by omega)]
    dsimp only
    rw [q_ck (show 4 * n < 160 by omega) (by omega), q_nv, c4, q_ck (show 4 * n + 1 < 160 by omega) (by omega), q_nv, show ix (nI (4 * n + 1)) = 4 * n + 1 from q_ix (by omega)]
    rw [if_neg (show ¬ iT 7 = 7 by rw [e7]; decide), if_neg (show ¬ iT 7 = 9 by rw [e7]; decide), if_neg (show ¬ (3 : Int32) = 2 by decide), if_neg (show ¬ (3 : Int32) = 0 by decide), hL.s0]
    rcases b_perP N (iC := iC) (sC := sC) (sY := va_up sY 8 (upd (upd g (4 * n) 3) (4 * n + 1) (nI p))) (base := 0) hN hB hR hP hQ (by omega) hNm a3 with ⟨iT2, iY2, d1, d2, d3, d4⟩ | ⟨u, iT2, jT2, iY2, jY2, st2, hu, d1, d2, d3, d4, d5, d6, d7⟩
    · rw [d1, show f_X11_takesName N iY1 (va_up sY 8 (upd (upd g (4 * n) 3) (4 * n + 1) (nI p))) tY jY1 0 (nI P) = _ from d2, q_bd, q_bd]
      dsimp only
      rw [q_ck hn (by omega), q_nv, q_ck hn (by omega), pk_us, if_pos rfl, c5, q_ck (show 4 * n + 2 < 160 by omega) (by omega), q_nv, if_pos rfl]
      exact Or.inl ⟨_, _, _, _, _, _, rfl, rfl, d3, a7.gf.tr d4, fun k hk => (q_vn _ _ hk).trans (q_vn _ _ hk).symm⟩
    · rw [d1, show f_X11_takesName N iY1 (va_up sY 8 (upd (upd g (4 * n) 3) (4 * n + 1) (nI p))) tY jY1 0 (nI P) = _ from d2, q_bd, q_bd]
      dsimp only
      rw [q_ck hn (by omega), q_nv, q_ck hn (by omega), pk_us, if_neg (nI_m1 (by omega)), c5, q_ck (show 4 * n + 2 < 160 by omega) (by omega), q_nv, if_neg (show ¬ (1 : Int32) = 0 by decide), d3, show ix (nI (4 * n + 2)) = 4 * n + 2 from q_ix (by omega)]
      have s2 := a5 (t_w7 h (c := 11) (by omega) w11)
      rw [if_neg (show ¬ iT 7 = 10 by rw [e7]; decide), if_neg (show ¬ (3 : Int32) = 1 by decide)]
      rcases b_perP N (iC := iC) (sC := sC) (sY := va_up sY 8 (upd (upd (upd g (4 * n) 3) (4 * n + 1) (nI p)) (4 * n + 2) (nI u))) (base := 0) hN hB hR hP hQ (by omega) hNm d4 with ⟨iT3, iY3, f1, f2, f3, f4⟩ | ⟨x, iT3, jT3, iY3, jY3, st3, hx, f1, f2, f3, f4, f5, f6, f7⟩
      · rw [f1, show f_X11_takesName N iY2 (va_up sY 8 (upd (upd (upd g (4 * n) 3) (4 * n + 1) (nI p)) (4 * n + 2) (nI u))) tY jY2 0 (nI P) = _ from f2, q_bd, q_bd]
        dsimp only
        rw [q_ck hn (by omega), q_nv, q_ck hn (by omega), pk_us, if_pos rfl, c6, q_ck (show 4 * n + 3 < 160 by omega) (by omega), q_nv, q_z0]
        exact Or.inl ⟨_, _, _, _, _, _, rfl, rfl, f3, a7.gf.tr (d7.gf.tr f4), fun k hk => (q_vn _ _ hk).trans (q_vn _ _ hk).symm⟩
      · rw [f1, show f_X11_takesName N iY2 (va_up sY 8 (upd (upd (upd g (4 * n) 3) (4 * n + 1) (nI p)) (4 * n + 2) (nI u))) tY jY2 0 (nI P) = _ from f2, q_bd, q_bd]
        dsimp only
        rw [q_ck hn (by omega), q_nv, q_ck hn (by omega), pk_us, if_neg (nI_m1 (by omega)), c6, q_ck (show 4 * n + 3 < 160 by omega) (by omega), q_nv, q_z1, f3, show ix (nI (4 * n + 3)) = 4 * n + 3 from q_ix (by omega)]
        obtain ⟨u1, u2, u3, u4⟩ := up4 g n 3 (nI p) (nI u) (nI x)
        refine Or.inr ⟨_, _, _, _, _, _, st3, rfl, rfl, hn, Or.inr (Or.inr (Or.inr (Or.inr ⟨?_, u1, p, u, x, hp, hu, hx, ?_, u2, ?_, u3, ?_, u4⟩))), fun j hj => ⟨?_, ?_, ?_, ?_⟩, fun j hj => ?_, fun k hk => ?_, f4, by omega, f6.trans (d6.trans a6), (a7.tr d7).tr f7⟩
        · show upd _ n (iT 7) n = 11
          rw [pk_us]; exact e7
        · show upd _ n (nI p) n = nI p
          rw [pk_us]
        · show upd _ n (nI u) n = nI u
          rw [pk_us]
        · show upd _ n (nI x) n = nI x
          rw [pk_us]
        · show upd _ n (iT 7) j = sB 2 j
          rw [pk_un (by omega)]; rfl
        · show upd _ n (nI p) j = sB 3 j
          rw [pk_un (by omega)]
        · show upd _ n (nI u) j = sB 4 j
          rw [pk_un (by omega)]; rfl
        · show upd _ n (nI x) j = sB 5 j
          rw [pk_un (by omega)]; rfl
        · show upd (upd (upd (upd g (4 * n) 3) (4 * n + 1) (nI p)) (4 * n + 2) (nI u)) (4 * n + 3) (nI x) j = g j
          rw [pk_un (by omega), pk_un (by omega), pk_un (by omega), pk_un (by omega)]
        · show va_up sY 8 _ k = va_up sY 8 g k
          rw [q_vn _ _ hk, q_vn _ _ hk]
  rw [if_neg (show ¬ iT 7 = 9 from w9), if_neg (show ¬ iT 7 = 10 from w10), if_neg (show ¬ iT 7 = 7 from w7), if_neg (show ¬ iT 7 = 11 from w11)]
  rw [if_neg w9, if_neg w10, if_neg w7, if_neg w11, if_neg (show ¬ (0 : Int32) ≤ -1 by decide), r1, r2, q_bd, q_bd]
  exact Or.inl ⟨_, _, _, _, _, _, rfl, rfl, r3, r4, fun _ _ => rfl⟩
theorem b_bLine (hN : 2000 ≤ N) (hB : ∀ k, k < 940 → sT 0 k = sY 1 k &&& 255) (hR : ∀ k, k < 24 → tY 10 k = lN (e256 (wds k))) (hL : IL (sY 6) P Q) (hNm : NM (tC 2) (tY 9) 0 P Q) (h : TR L lim st iT jT iY jY) (hn : n ≤ 40) (h6 : iB 6 = nI n) (h39 : iY 39 = nI n) :
    BO L lim st n P Q iT iY sB sY (f_X0_readLine N sB iB sT iT jT iC tC sC) (f_X11_bookLine N iY sY tY jY) := by
  have hP := hL.P7
  have hQ := hL.Q5
  unfold f_X0_readLine f_X11_bookLine
  rw [q_nv, lw12, t_word N h (k := 12) (by omega), h39, show (4 : Int32) * nI n = nI (4 * n) from by rw [L4, pk_mul]]
  simp only [q_bd, q_b0, decide_eq_true_eq, q_jn]
  have one0 : ((1 : Int32) = 0) = False := eq_false (by decide)
  by_cases w12 : iT 7 = nI 12
  · have e7 : iT 7 = 12 := w12
    have hs := t_w7 h (c := 12) (by omega) w12
    rw [if_pos e7, if_pos w12]
    simp only [one0, if_false, if_true, w12]
    rw [h6, h39]
    rcases Nat.lt_or_ge n 40 with h40 | h40
    · obtain ⟨iT1, jT1, iY1, jY1, st1, a1, a2, a3, a4, a5, a6, a7, a8⟩ := t_next N hN hB tY h
      have h15 := a5 hs
      rw [if_pos (show nI n < 40 from (nI_ltI (b := 40) (by omega) (by omega)).mpr h40), if_neg (show ¬ nI n = 40 from nI_nb (b := 40) (by omega) (by omega) (by omega)), a1, a2, q_bd, q_bd]
      dsimp only
      rw [q_ck h40 (by omega), q_nv, q_ck (show 4 * n < 160 by omega) (by omega), q_nv, show ix (nI n) = n from q_ix (by omega), show ix (nI (4 * n)) = 4 * n from q_ix (by omega)]
      have hB8 : ∀ k, k < 940 → sT 0 k = va_up sY 8 (upd (sY 8) (4 * n) 4) 1 k &&& 255 := hB
      rcases b_num N (sY := va_up sY 8 (upd (sY 8) (4 * n) 4)) (tY := tY) hN hB8 a3 (lo := 1) (hi := 60) (by omega) (by omega) with ⟨iT2, iY2, d1, d2, d3, d4⟩ | ⟨v, iT2, jT2, iY2, jY2, st2, v1, v2, d1, d2, d3, d4, d5, d6, d7⟩
      · rw [show f_X8_passNumber N sT iT1 jT1 1 60 = _ from d1, show f_X11_takes N iY1 (va_up sY 8 (upd (sY 8) (4 * n) 4)) tY jY1 1 60 = _ from d2, q_bd, q_bd]
        dsimp only
        rw [q_ck h40 (by omega), q_nv, q_ck h40 (by omega), pk_us, if_pos rfl, if_pos rfl]
        exact Or.inl ⟨_, _, _, _, _, _, rfl, rfl, d3, a7.gf.tr d4, fun k hk => q_vn _ _ hk⟩
      · rw [show f_X8_passNumber N sT iT1 jT1 1 60 = _ from d1, show f_X11_takes N iY1 (va_up sY 8 (upd (sY 8) (4 * n) 4)) tY jY1 1 60 = _ from d2, q_bd, q_bd]
        dsimp only
        rw [q_ck h40 (by omega), q_nv, q_ck h40 (by omega), pk_us, if_neg (nI_m1 (by omega)), if_neg (show ¬ (1 : Int32) = 0 by decide), nI_1, q_ck (show 4 * n + 1 < 160 by omega) (by omega), q_nv, d3, show ix (nI (4 * n + 1)) = 4 * n + 1 from q_ix (by omega)]
        refine Or.inr ⟨_, _, _, _, _, _, st2, rfl, rfl, h40, Or.inl ⟨?_, ?_, v, v1, v2, ?_, ?_⟩, fun j hj => ⟨?_, ?_, rfl, rfl⟩, fun j hj => ?_, fun k hk => ?_, d4, by omega, d6.trans a6, a7.tr d7⟩
        · show upd _ n 12 n = 12
          rw [pk_us]
        · show upd (upd (sY 8) (4 * n) 4) (4 * n + 1) (nI v) (4 * n) = 4
          rw [pk_un (by omega), pk_us]
        · show upd _ n (nI v) n = nI v
          rw [pk_us]
        · show upd (upd (sY 8) (4 * n) 4) (4 * n + 1) (nI v) (4 * n + 1) = nI v
          rw [pk_us]
        · show upd _ n 12 j = sB 2 j
          rw [pk_un (by omega)]
        · show upd _ n (nI v) j = sB 3 j
          rw [pk_un (by omega)]
        · show upd (upd (sY 8) (4 * n) 4) (4 * n + 1) (nI v) j = sY 8 j
          rw [pk_un (by omega), pk_un (by omega)]
        · show va_up sY 8 _ k = sY k
          rw [q_vn _ _ hk]
    · have : n = 40 := by omega
      subst this
      obtain ⟨r1, r2, r3, r4⟩ := y_refuse N (sT := sT) (sY := sY) (tY := tY) h 4
      rw [if_neg (by decide), if_pos (by decide), r1, r2, q_bd, q_bd]
      exact Or.inl ⟨_, _, _, _, _, _, rfl, rfl, r3, r4, fun _ _ => rfl⟩
  · have e7 : ¬ iT 7 = 12 := w12
    rw [if_neg e7, if_neg w12]
    simp only [if_false, if_true, w12]
    rw [h6, hL.s0]
    rcases b_perH N (sT := sT) (iC := iC) (sC := sC) (sY := sY) (base := 0) hN hR hP hQ (by omega) hNm h with ⟨iT2, iY2, d1, d2, d3, d4⟩ | ⟨p, hp, d1, d2, d3⟩
    · rw [d1, show f_X11_looksAt N iY sY tY jY 0 (nI P) = _ from d2, q_bd, q_bd]
      exact Or.inl ⟨_, _, _, _, _, _, rfl, rfl, d3, d4, fun _ _ => rfl⟩
    · rw [d1, show f_X11_looksAt N iY sY tY jY 0 (nI P) = _ from d2, q_bd, q_bd]
      dsimp only
      rw [if_neg (nI_m1 (by omega)), if_neg (show ¬ (1 : Int32) = 0 by decide)]
      simp only [show va_up iY 18 (nI p) 39 = nI n from h39]
      rcases Nat.lt_or_ge n 40 with h40 | h40
      · obtain ⟨iT1, jT1, iY1, jY1, st1, a1, a2, a3, a4, a5, a6, a7, a8⟩ := t_next N hN hB tY (t_got h (nI p))
        have h15 := a5 d3
        rw [if_pos (show nI n < 40 from (nI_ltI (b := 40) (by omega) (by omega)).mpr h40), if_neg (show ¬ nI n = 40 from nI_nb (b := 40) (by omega) (by omega) (by omega)), a1, a2, q_bd, q_bd]
        dsimp only
        rw [q_ck h40 (by omega), q_nv, q_ck (show 4 * n < 160 by omega) (by omega), q_nv, show ix (nI n) = n from q_ix (by omega), show ix (nI (4 * n)) = 4 * n from q_ix (by omega)]
        have key := b_rAct N (sT := sT) (sY := sY) (tY := tY) (iC := iC) (tC := tC) (sC := sC) (sB := sB) (iB := iB) hN hB hR hL hNm a3 h40 h6 (upd (sY 8) (4 * n) 4) hp
        have sf : SF iY iY1 := fun k k1 k2 k3 k4 k5 k6 => by rw [a7 k k1 k2 k3 k4 k5 k6, q_vn _ _ k6]
        rcases key with ⟨sB', iT', jT', iY', sY', jY', f1, f2, f3, f4, f5⟩ | ⟨sB', iT', jT', iY', sY', jY', st', f1, f2, f3, f4, f5, f6, f7, f8, f9, f10, f11⟩
        · rw [f1, q_bd]
          refine Or.inl ⟨sB', iT', jT', iY', sY', jY', rfl, ?_, f3, sf.gf.tr f4, fun k hk => (f5 k hk).trans (q_vn _ _ hk)⟩
          rw [← f2]
          unfold tlB
          simp only [q_jn, q_ve, hL.s0, if_true]
        · rw [f1, q_bd]
          refine Or.inr ⟨sB', iT', jT', iY', sY', jY', st', rfl, ?_, f3, f4, f5, fun j hj => ?_, fun k hk => (f7 k hk).trans (q_vn _ _ hk), f8, by omega, f10.trans a6, sf.tr f11⟩
          · rw [← f2]
            unfold tlB
            simp only [q_jn, q_ve, hL.s0, if_true]
          · rw [f6 j hj, q_ve, pk_un (by omega)]
      · have : n = 40 := by omega
        subst this
        obtain ⟨r1, r2, r3, r4⟩ := y_refuse N (sT := sT) (sY := sY) (tY := tY) (t_got h (nI p)) 4
        rw [if_neg (by decide), if_pos (by decide), r1, r2, q_bd, q_bd]
        exact Or.inl ⟨_, _, _, _, _, _, rfl, rfl, r3, ((GF.rf iY).up rfl _).tr r4, fun _ _ => rfl⟩
end
