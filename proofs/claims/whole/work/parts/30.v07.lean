def f_X11_draws_29 (N : Nat) (tY : Nat → Nat → Int64) (jY : Nat → Int64) (v1 : Int32) (v3 : Int32) (K_7 : ((Nat → Int32) × (Nat → Nat → Int32)) → Option (Int32 × (Nat → Int32) × (Nat → Nat → Int32))) : Nat → (Nat → Int32) → (Nat → Nat → Int32) → (Int32) → Option (Int32 × (Nat → Int32) × (Nat → Nat → Int32))
  | 0, _, _, _ => none
  | k + 1, iY, sY, v4 => (if ((sY 6) 0) ≤ v4 then K_7 (iY, sY) else bd (f_X11_drawPerson N iY sY tY jY v4) (fun (iY_23, sY_24) => f_X11_draws_29 N tY jY v1 v3 K_7 k iY_23 sY_24 (v4 + 1)))
def f_X11_draws_7 (N : Nat) (tY : Nat → Nat → Int64) (jY : Nat → Int64) (v1 : Int32) : Nat → (Nat → Int32) → (Nat → Nat → Int32) → (Int32) → Option (Int32 × (Nat → Int32) × (Nat → Nat → Int32))
  | 0, _, _, _ => none
  | k + 1, iY, sY, v3 => (if v1 ≤ v3 then some (v3, iY, sY) else (if (400 : Int32) ≤ ((sY 6) 131) then some (v3, iY, sY) else jn (fun (z : (Nat → Int32) × (Nat → Nat → Int32)) => match z with | (iY_31, sY_32) => bd (f_X11_day N iY_31 sY_32 tY jY) (fun sY_33 => f_X11_draws_7 N tY jY v1 k iY_31 sY_33 (v3 + 1))) (fun K_28 => f_X11_draws_29 N tY jY v1 v3 K_28 N iY sY 0)))
def f_X11_draws (N : Nat) (iY : Nat → Int32) (sY : Nat → Nat → Int32) (tY : Nat → Nat → Int64) (jY : Nat → Int64) (p1 : Int32) (p2 : Int32) : Option (Int32 × (Nat → Int32) × (Nat → Nat → Int32)) :=
  f_X11_draws_7 N tY jY p1 N (va_up iY 38 p2) sY 0
set_option maxHeartbeats 4000000 in
set_option maxRecDepth 100000 in
theorem c_X11_draws (l : Launch) (G : GT) (N : Nat) (uY : Nat → Nat) (iY : Nat → Int32) (sY : Nat → Nat → Int32) (tY : Nat → Nat → Int64) (jY : Nat → Int64) (p1 : Int32) (p2 : Int32) {r : Int32} {iY' : Nat → Int32} {sY' : Nat → Nat → Int32} (hf : f_X11_draws N iY sY tY jY p1 p2 = some (r, iY', sY')) : CI l G yX11_draws cX11_draws 5 .int 5 [.ref (uY 0), .int p1, .int p2] (gY G uY iY sY tY jY) r (gY G uY iY' sY' tY jY) := by
  refine CI.of (by decide) (Nat.le_of_ble_eq_true rfl) ?_
  intro p e s m args below meth c A X hA hP hD hS ls hl
  have hl : lv_has ls 5 [(0, .ref (uY 0)), (1, .int p1), (2, .int p2)] := hl
  generalize hQ : MQ below (QI G A r (gY G uY iY' sY' tY jY)) args s 0 0 A = QQ
  unfold f_X11_draws at hf
  refine lv_aload_n X.hx X.hb dX11_draws_0 rfl (lv_at hl 0 rfl) ?_
  refine lv_iload_n X.hx X.hb dX11_draws_1 rfl (lv_at hl 2 rfl) ?_
  refine pf_X11_399 X hP hD hS 0 rfl rfl rfl (Nat.le_of_ble_eq_true rfl) (wo := (gY G uY (va_up iY 38 p2) sY tY jY)) rfl dX11_draws_2 (fun H locs hP hD hS => ?_)
  refine lv_iconst (v := 0) X.hx X.hb dX11_draws_5 (by decide) ?_
  refine lv_istore_n (lv' := [(3, .int 0), (0, .ref (uY 0)), (1, .int p1), (2, .int p2)]) X.hx X.hb dX11_draws_6 rfl hl (by decide) rfl (fun ls hl => ?_)
  have hlo_1 : ∀ (k : Nat) (iY_2 : Nat → Int32) (sY_3 : Nat → Nat → Int32) (v3_4 : Int32) (H : Heap) (locs : List Loc) (ls : Array Slot), f_X11_draws_7 N tY jY p1 k iY_2 sY_3 v3_4 = some (r, iY', sY') → va_P G.1 vwCl (gY G uY iY_2 sY_3 tY jY) H → va_D A (gY G uY iY_2 sY_3 tY jY) → va_S A s.heap H locs → lv_has ls 5 [(0, .ref (uY 0)), (1, .int p1), (3, .int v3_4)] → W p l e (RM 5) s m args below meth c H locs 0 0 QQ (F0 m 7 ls []) := by
    intro k
    induction k with
    | zero => intro iY_2 sY_3 v3_4 H locs ls hf; exact absurd hf (by intro q; cases q)
    | succ k ih =>
      intro iY_2 sY_3 v3_4 H locs ls hf hP hD hS hl
      unfold f_X11_draws_7 at hf
      refine lv_iload_n X.hx X.hb dX11_draws_7 rfl (lv_at hl 2 rfl) ?_
      refine lv_iload_n X.hx X.hb dX11_draws_8 rfl (lv_at hl 1 rfl) ?_
      refine lv_icmp_ge (tgt := 62) X.hx X.hb dX11_draws_9 (by decide) (fun hc_5 => ?_) (fun hc_5 => ?_)
      · replace hf := if_t hf hc_5
        refine lv_iload_n X.hx X.hb dX11_draws_62 rfl (lv_at hl 2 rfl) ?_
        cases hf
        subst hQ
        exact r_iret X hP hD hS dX11_draws_63
      · replace hf := if_f hf hc_5
        refine lv_aload_n X.hx X.hb dX11_draws_12 rfl (lv_at hl 0 rfl) ?_
        refine gf_X11_33 X hP 0 rfl (v := .ref (uY 7)) rfl dX11_draws_13 ?_
        refine lv_sipush (v := 131) X.hx X.hb dX11_draws_16 (by decide) ?_
        refine r_iald X hP 2 (f := (sY_3 6)) rfl (vp_c rfl) dX11_draws_19 ?_
        refine W.eq (g2 := F0 m 20 ls [.int ((sY_3 6) 131)]) rfl ?_
        refine lv_sipush (v := 400) X.hx X.hb dX11_draws_20 (by decide) ?_
        refine lv_icmp_ge (tgt := 62) X.hx X.hb dX11_draws_23 (by decide) (fun hc_6 => ?_) (fun hc_6 => ?_)
        · replace hf := if_t hf hc_6
          refine lv_iload_n X.hx X.hb dX11_draws_62 rfl (lv_at hl 2 rfl) ?_
          cases hf
          subst hQ
          exact r_iret X hP hD hS dX11_draws_63
        · replace hf := if_f hf hc_6
          refine lv_iconst (v := 0) X.hx X.hb dX11_draws_26 (by decide) ?_
          refine lv_istore (lv' := [(4, .int 0), (0, .ref (uY 0)), (1, .int p1), (3, .int v3_4)]) X.hx X.hb dX11_draws_27 hl (by decide) rfl (fun ls hl => ?_)
          obtain ⟨K_7, eK_9, hf⟩ := jn_i hf
          have hj_8 : ∀ (iY_10 : Nat → Int32) (sY_11 : Nat → Nat → Int32) (H : Heap) (locs : List Loc) (ls : Array Slot), K_7 (iY_10, sY_11) = some (r, iY', sY') → va_P G.1 vwCl (gY G uY iY_10 sY_11 tY jY) H → va_D A (gY G uY iY_10 sY_11 tY jY) → va_S A s.heap H locs → lv_has ls 5 [(0, .ref (uY 0)), (1, .int p1), (3, .int v3_4)] → W p l e (RM 5) s m args below meth c H locs 0 0 QQ (F0 m 52 ls []) := by
            intro iY_10 sY_11 H locs ls hf hP hD hS hl
            rw [eK_9] at hf
            try dsimp only at hf
            refine lv_aload_n X.hx X.hb dX11_draws_52 rfl (lv_at hl 0 rfl) ?_
            obtain ⟨sY_12, hc_13, hf⟩ := bd_i hf
            refine r_cvv (As := []) (rest := []) X sm_X11_303 (c_X11_day l G N uY iY_10 sY_11 tY jY hc_13) hP hD hS hA 0 rfl rfl [0, 1, 2, 3, 4, 5, 6, 7, 8, 9, 10, 11, 12, 13, 14, 15, 16, 17, 18, 19, 20] rfl rfl rfl (wo := (gY G uY iY_10 sY_12 tY jY)) rfl rfl hl.1 (lv_room (Nat.le_of_ble_eq_true rfl)) ⟨Nat.le_of_ble_eq_true rfl, Nat.le_of_ble_eq_true rfl⟩ ⟨Nat.zero_le _, Nat.zero_le _⟩ dX11_draws_53 (fun H locs hP hD hS => ?_)
            refine lv_iinc (v := (v3_4 + 1)) (lv' := [(3, .int (v3_4 + 1)), (0, .ref (uY 0)), (1, .int p1)]) X.hx X.hb dX11_draws_56 hl (k := 2) rfl rfl (by decide) rfl (fun ls hl => ?_)
            refine lv_goto (tgt := 7) X.hx X.hb dX11_draws_59 (by decide) ?_
            exact ih _ _ _ _ _ _ hf hP hD hS (lv_sub hl [1, 2, 0] rfl)
          have hlo_14 : ∀ (k : Nat) (iY_15 : Nat → Int32) (sY_16 : Nat → Nat → Int32) (v4_17 : Int32) (H : Heap) (locs : List Loc) (ls : Array Slot), f_X11_draws_29 N tY jY p1 v3_4 K_7 k iY_15 sY_16 v4_17 = some (r, iY', sY') → va_P G.1 vwCl (gY G uY iY_15 sY_16 tY jY) H → va_D A (gY G uY iY_15 sY_16 tY jY) → va_S A s.heap H locs → lv_has ls 5 [(0, .ref (uY 0)), (1, .int p1), (3, .int v3_4), (4, .int v4_17)] → W p l e (RM 5) s m args below meth c H locs 0 0 QQ (F0 m 29 ls []) := by
            intro k
            induction k with
            | zero => intro iY_15 sY_16 v4_17 H locs ls hf; exact absurd hf (by intro q; cases q)
            | succ k ih =>
              intro iY_15 sY_16 v4_17 H locs ls hf hP hD hS hl
              unfold f_X11_draws_29 at hf
              refine lv_iload X.hx X.hb dX11_draws_29 (lv_at hl 3 rfl) ?_
              refine lv_aload_n X.hx X.hb dX11_draws_31 rfl (lv_at hl 0 rfl) ?_
              refine gf_X11_33 X hP 0 rfl (v := .ref (uY 7)) rfl dX11_draws_32 ?_
              refine lv_iconst (v := 0) X.hx X.hb dX11_draws_35 (by decide) ?_
              refine r_iald X hP 2 (f := (sY_16 6)) rfl (vp_c rfl) dX11_draws_36 ?_
              refine W.eq (g2 := F0 m 37 ls [.int ((sY_16 6) 0), .int v4_17]) rfl ?_
              refine lv_icmp_ge (tgt := 52) X.hx X.hb dX11_draws_37 (by decide) (fun hc_18 => ?_) (fun hc_18 => ?_)
              · replace hf := if_t hf hc_18
                exact hj_8 _ _ _ _ _ hf hP hD hS (lv_sub hl [0, 1, 2] rfl)
              · replace hf := if_f hf hc_18
                refine lv_aload_n X.hx X.hb dX11_draws_40 rfl (lv_at hl 0 rfl) ?_
                refine lv_iload X.hx X.hb dX11_draws_41 (lv_at hl 3 rfl) ?_
                obtain ⟨⟨iY_19, sY_20⟩, hc_21, hf⟩ := bd_i hf
                refine r_cvv (As := [.int v4_17]) (rest := []) X sm_X11_406 (c_X11_drawPerson l G N uY iY_15 sY_16 tY jY v4_17 hc_21) hP hD hS hA 0 rfl rfl [0, 1, 2, 3, 4, 5, 6, 7, 8, 9, 10, 11, 12, 13, 14, 15, 16, 17, 18, 19, 20] rfl rfl rfl (wo := (gY G uY iY_19 sY_20 tY jY)) rfl rfl hl.1 (lv_room (Nat.le_of_ble_eq_true rfl)) ⟨Nat.le_of_ble_eq_true rfl, Nat.le_of_ble_eq_true rfl⟩ ⟨Nat.zero_le _, Nat.zero_le _⟩ dX11_draws_43 (fun H locs hP hD hS => ?_)
                refine lv_iinc (v := (v4_17 + 1)) (lv' := [(4, .int (v4_17 + 1)), (0, .ref (uY 0)), (1, .int p1), (3, .int v3_4)]) X.hx X.hb dX11_draws_46 hl (k := 3) rfl rfl (by decide) rfl (fun ls hl => ?_)
                refine lv_goto (tgt := 29) X.hx X.hb dX11_draws_49 (by decide) ?_
                exact ih _ _ _ _ _ _ hf hP hD hS (lv_sub hl [1, 2, 3, 0] rfl)
          exact hlo_14 N _ _ _ _ _ _ hf hP hD hS (lv_sub hl [1, 2, 3, 0] rfl)
  exact hlo_1 N _ _ _ _ _ _ hf hP hD hS (lv_sub hl [1, 2, 0] rfl)

def f_X11_drawn (N : Nat) (iY : Nat → Int32) (sY : Nat → Nat → Int32) (tY : Nat → Nat → Int64) (jY : Nat → Int64) (p1 : Int32) (p2 : Int32) : Option (Int32 × (Nat → Int32) × (Nat → Nat → Int32)) :=
  bd (f_X11_isIn N p1 1 60) (fun r_1 => (if r_1 = 0 then some ((-1), (va_up iY 0 0), sY) else jn (fun (z : (Nat → Int32) × (Nat → Nat → Int32)) => match z with | (iY_7, sY_8) => bd (f_X11_draws N iY_7 sY_8 tY jY p1 p2) (fun (r_9, iY_10, sY_11) => some (r_9, iY_10, sY_11))) (fun K_4 => (if (400 : Int32) ≤ ((sY 6) 131) then K_4 ((va_up iY 0 0), sY) else bd (f_X11_keep N (va_up iY 0 0) sY tY jY) (fun (iY_14, sY_15) => K_4 (iY_14, sY_15))))))
set_option maxHeartbeats 4000000 in
set_option maxRecDepth 100000 in
theorem c_X11_drawn (l : Launch) (G : GT) (N : Nat) (uY : Nat → Nat) (iY : Nat → Int32) (sY : Nat → Nat → Int32) (tY : Nat → Nat → Int64) (jY : Nat → Int64) (p1 : Int32) (p2 : Int32) {r : Int32} {iY' : Nat → Int32} {sY' : Nat → Nat → Int32} (hf : f_X11_drawn N iY sY tY jY p1 p2 = some (r, iY', sY')) : CI l G yX11_drawn cX11_drawn 3 .int 6 [.ref (uY 0), .int p1, .int p2] (gY G uY iY sY tY jY) r (gY G uY iY' sY' tY jY) := by
  refine CI.of (by decide) (Nat.le_of_ble_eq_true rfl) ?_
  intro p e s m args below meth c A X hA hP hD hS ls hl
  have hl : lv_has ls 3 [(0, .ref (uY 0)), (1, .int p1), (2, .int p2)] := hl
  generalize hQ : MQ below (QI G A r (gY G uY iY' sY' tY jY)) args s 0 0 A = QQ
  unfold f_X11_drawn at hf
  refine lv_aload_n X.hx X.hb dX11_drawn_0 rfl (lv_at hl 0 rfl) ?_
  refine lv_iconst (v := 0) X.hx X.hb dX11_drawn_1 (by decide) ?_
  refine pf_X11_1 X hP hD hS 0 rfl rfl rfl (Nat.le_of_ble_eq_true rfl) (wo := (gY G uY (va_up iY 0 0) sY tY jY)) rfl dX11_drawn_2 (fun H locs hP hD hS => ?_)
  refine lv_iload_n X.hx X.hb dX11_drawn_5 rfl (lv_at hl 1 rfl) ?_
  refine lv_iconst (v := 1) X.hx X.hb dX11_drawn_6 (by decide) ?_
  refine lv_bipush (v := 60) X.hx X.hb dX11_drawn_7 (by decide) ?_
  obtain ⟨r_1, hc_2, hf⟩ := bd_i hf
  refine r_cs0 (As := [.int p1, .int 1, .int 60]) (rest := []) X sm_X11_189 (c_X11_isIn l G N p1 1 60 hc_2) hP hD hS hA rfl hl.1 (lv_room (Nat.le_of_ble_eq_true rfl)) ⟨Nat.le_of_ble_eq_true rfl, Nat.le_of_ble_eq_true rfl⟩ ⟨Nat.zero_le _, Nat.zero_le _⟩ dX11_drawn_9 (fun H locs hP hD hS => ?_)
  refine lv_if_ne (tgt := 17) X.hx X.hb dX11_drawn_12 (by decide) (fun hc_3 => ?_) (fun hc_3 => ?_)
  · replace hf := if_f hf hc_3
    refine lv_aload_n X.hx X.hb dX11_drawn_17 rfl (lv_at hl 0 rfl) ?_
    refine gf_X11_33 X hP 0 rfl (v := .ref (uY 7)) rfl dX11_drawn_18 ?_
    refine lv_sipush (v := 131) X.hx X.hb dX11_drawn_21 (by decide) ?_
    refine r_iald X hP 2 (f := (sY 6)) rfl (vp_c rfl) dX11_drawn_24 ?_
    refine W.eq (g2 := F0 m 25 ls [.int ((sY 6) 131)]) rfl ?_
    refine lv_sipush (v := 400) X.hx X.hb dX11_drawn_25 (by decide) ?_
    obtain ⟨K_4, eK_6, hf⟩ := jn_i hf
    have hj_5 : ∀ (iY_7 : Nat → Int32) (sY_8 : Nat → Nat → Int32) (H : Heap) (locs : List Loc) (ls : Array Slot), K_4 (iY_7, sY_8) = some (r, iY', sY') → va_P G.1 vwCl (gY G uY iY_7 sY_8 tY jY) H → va_D A (gY G uY iY_7 sY_8 tY jY) → va_S A s.heap H locs → lv_has ls 3 [(0, .ref (uY 0)), (1, .int p1), (2, .int p2)] → W p l e (RM 6) s m args below meth c H locs 0 0 QQ (F0 m 35 ls []) := by
      intro iY_7 sY_8 H locs ls hf hP hD hS hl
      rw [eK_6] at hf
      try dsimp only at hf
      refine lv_aload_n X.hx X.hb dX11_drawn_35 rfl (lv_at hl 0 rfl) ?_
      refine lv_iload_n X.hx X.hb dX11_drawn_36 rfl (lv_at hl 1 rfl) ?_
      refine lv_iload_n X.hx X.hb dX11_drawn_37 rfl (lv_at hl 2 rfl) ?_
      obtain ⟨⟨r_9, iY_10, sY_11⟩, hc_12, hf⟩ := bd_i hf
      refine r_cvi (As := [.int p1, .int p2]) (rest := []) X sm_X11_409 (c_X11_draws l G N uY iY_7 sY_8 tY jY p1 p2 hc_12) hP hD hS hA 0 rfl rfl [0, 1, 2, 3, 4, 5, 6, 7, 8, 9, 10, 11, 12, 13, 14, 15, 16, 17, 18, 19, 20] rfl rfl rfl (wo := (gY G uY iY_10 sY_11 tY jY)) rfl rfl hl.1 (lv_room (Nat.le_of_ble_eq_true rfl)) ⟨Nat.le_of_ble_eq_true rfl, Nat.le_of_ble_eq_true rfl⟩ ⟨Nat.zero_le _, Nat.zero_le _⟩ dX11_drawn_38 (fun H locs hP hD hS => ?_)
      cases hf
      subst hQ
      exact r_iret X hP hD hS dX11_drawn_41
    refine lv_icmp_ge (tgt := 35) X.hx X.hb dX11_drawn_28 (by decide) (fun hc_13 => ?_) (fun hc_13 => ?_)
    · replace hf := if_t hf hc_13
      exact hj_5 _ _ _ _ _ hf hP hD hS (lv_sub hl [0, 1, 2] rfl)
    · replace hf := if_f hf hc_13
      refine lv_aload_n X.hx X.hb dX11_drawn_31 rfl (lv_at hl 0 rfl) ?_
      obtain ⟨⟨iY_14, sY_15⟩, hc_16, hf⟩ := bd_i hf
      refine r_cvv (As := []) (rest := []) X sm_X11_310 (c_X11_keep l G N uY (va_up iY 0 0) sY tY jY hc_16) hP hD hS hA 0 rfl rfl [0, 1, 2, 3, 4, 5, 6, 7, 8, 9, 10, 11, 12, 13, 14, 15, 16, 17, 18, 19, 20] rfl rfl rfl (wo := (gY G uY iY_14 sY_15 tY jY)) rfl rfl hl.1 (lv_room (Nat.le_of_ble_eq_true rfl)) ⟨Nat.le_of_ble_eq_true rfl, Nat.le_of_ble_eq_true rfl⟩ ⟨Nat.zero_le _, Nat.zero_le _⟩ dX11_drawn_32 (fun H locs hP hD hS => ?_)
      exact hj_5 _ _ _ _ _ hf hP hD hS (lv_sub hl [0, 1, 2] rfl)
  · replace hf := if_t hf hc_3
    refine lv_iconst (v := (-1)) X.hx X.hb dX11_drawn_15 (by decide) ?_
    cases hf
    subst hQ
    exact r_iret X hP hD hS dX11_drawn_16

def f_X11_odds_47 (N : Nat) (tY : Nat → Nat → Int64) (jY : Nat → Int64) (v1 : Int32) (v2 : Int32) (v3 : Int32) (v4 : Int32) : Nat → (Nat → Int32) → (Nat → Nat → Int32) → (Int32) → (Int32) → Option (Int32 × (Nat → Int32) × (Nat → Nat → Int32))
  | 0, _, _, _, _ => none
  | k + 1, iY, sY, v5, v6 => (if v2 ≤ v6 then some (v5, iY, sY) else bd (f_X11_draws N iY sY tY jY 10 (v3 + v6)) (fun (r_30, iY_31, sY_32) => ck ((136 : Int32) + v1) 457 (jn (fun (z : (Int32)) => match z with | y_38 => bd (f_X11_back N iY_31 sY_32 tY jY) (fun sY_39 => f_X11_odds_47 N tY jY v1 v2 v3 v4 k iY_31 sY_39 (v5 + y_38) (v6 + 1))) (fun K_35 => (if ((sY_32 6) (ix ((136 : Int32) + v1))) ≤ v4 then K_35 0 else K_35 1)))))
def f_X11_odds (N : Nat) (iY : Nat → Int32) (sY : Nat → Nat → Int32) (tY : Nat → Nat → Int64) (jY : Nat → Int64) (p1 : Int32) (p2 : Int32) (p3 : Int32) : Option (Int32 × (Nat → Int32) × (Nat → Nat → Int32)) :=
  bd (f_X11_isPerson N (va_up iY 0 0) sY tY jY p1) (fun r_1 => (if r_1 = 0 then some ((-1), (va_up iY 0 0), sY) else bd (f_X11_isIn N p2 1 30) (fun r_4 => (if r_4 = 0 then some ((-1), (va_up iY 0 0), sY) else bd (f_X11_tries N (va_up iY 0 0) sY tY jY) (fun sY_7 => ck ((136 : Int32) + p1) 457 (nv ((sY_7 6) (ix ((136 : Int32) + p1))) (fun n_10 => f_X11_odds_47 N tY jY p1 p2 p3 n_10 N (va_up iY 0 0) sY_7 0 0)))))))
set_option maxHeartbeats 4000000 in
set_option maxRecDepth 100000 in
theorem c_X11_odds (l : Launch) (G : GT) (N : Nat) (uY : Nat → Nat) (iY : Nat → Int32) (sY : Nat → Nat → Int32) (tY : Nat → Nat → Int64) (jY : Nat → Int64) (p1 : Int32) (p2 : Int32) (p3 : Int32) {r : Int32} {iY' : Nat → Int32} {sY' : Nat → Nat → Int32} (hf : f_X11_odds N iY sY tY jY p1 p2 p3 = some (r, iY', sY')) : CI l G yX11_odds cX11_odds 7 .int 6 [.ref (uY 0), .int p1, .int p2, .int p3] (gY G uY iY sY tY jY) r (gY G uY iY' sY' tY jY) := by
  refine CI.of (by decide) (Nat.le_of_ble_eq_true rfl) ?_
  intro p e s m args below meth c A X hA hP hD hS ls hl
  have hl : lv_has ls 7 [(0, .ref (uY 0)), (1, .int p1), (2, .int p2), (3, .int p3)] := hl
  generalize hQ : MQ below (QI G A r (gY G uY iY' sY' tY jY)) args s 0 0 A = QQ
  unfold f_X11_odds at hf
  refine lv_aload_n X.hx X.hb dX11_odds_0 rfl (lv_at hl 0 rfl) ?_
  refine lv_iconst (v := 0) X.hx X.hb dX11_odds_1 (by decide) ?_
  refine pf_X11_1 X hP hD hS 0 rfl rfl rfl (Nat.le_of_ble_eq_true rfl) (wo := (gY G uY (va_up iY 0 0) sY tY jY)) rfl dX11_odds_2 (fun H locs hP hD hS => ?_)
  refine lv_aload_n X.hx X.hb dX11_odds_5 rfl (lv_at hl 0 rfl) ?_
  refine lv_iload_n X.hx X.hb dX11_odds_6 rfl (lv_at hl 1 rfl) ?_
  obtain ⟨r_1, hc_2, hf⟩ := bd_i hf
  refine r_cvi (As := [.int p1]) (rest := []) X sm_X11_272 (c_X11_isPerson l G N uY (va_up iY 0 0) sY tY jY p1 hc_2) hP hD hS hA 0 rfl rfl [0, 1, 2, 3, 4, 5, 6, 7, 8, 9, 10, 11, 12, 13, 14, 15, 16, 17, 18, 19, 20] rfl rfl rfl (wo := (gY G uY (va_up iY 0 0) sY tY jY)) rfl rfl hl.1 (lv_room (Nat.le_of_ble_eq_true rfl)) ⟨Nat.le_of_ble_eq_true rfl, Nat.le_of_ble_eq_true rfl⟩ ⟨Nat.zero_le _, Nat.zero_le _⟩ dX11_odds_7 (fun H locs hP hD hS => ?_)
  refine lv_if_eq (tgt := 23) X.hx X.hb dX11_odds_10 (by decide) (fun hc_3 => ?_) (fun hc_3 => ?_)
  · replace hf := if_t hf hc_3
    refine lv_iconst (v := (-1)) X.hx X.hb dX11_odds_23 (by decide) ?_
    cases hf
    subst hQ
    exact r_iret X hP hD hS dX11_odds_24
  · replace hf := if_f hf hc_3
    refine lv_iload_n X.hx X.hb dX11_odds_13 rfl (lv_at hl 2 rfl) ?_
    refine lv_iconst (v := 1) X.hx X.hb dX11_odds_14 (by decide) ?_
    refine lv_bipush (v := 30) X.hx X.hb dX11_odds_15 (by decide) ?_
    obtain ⟨r_4, hc_5, hf⟩ := bd_i hf
    refine r_cs0 (As := [.int p2, .int 1, .int 30]) (rest := []) X sm_X11_189 (c_X11_isIn l G N p2 1 30 hc_5) hP hD hS hA rfl hl.1 (lv_room (Nat.le_of_ble_eq_true rfl)) ⟨Nat.le_of_ble_eq_true rfl, Nat.le_of_ble_eq_true rfl⟩ ⟨Nat.zero_le _, Nat.zero_le _⟩ dX11_odds_17 (fun H locs hP hD hS => ?_)
    refine lv_if_ne (tgt := 25) X.hx X.hb dX11_odds_20 (by decide) (fun hc_6 => ?_) (fun hc_6 => ?_)
    · replace hf := if_f hf hc_6
      refine lv_aload_n X.hx X.hb dX11_odds_25 rfl (lv_at hl 0 rfl) ?_
      obtain ⟨sY_7, hc_8, hf⟩ := bd_i hf
      refine r_cvv (As := []) (rest := []) X sm_X11_412 (c_X11_tries l G N uY (va_up iY 0 0) sY tY jY hc_8) hP hD hS hA 0 rfl rfl [0, 1, 2, 3, 4, 5, 6, 7, 8, 9, 10, 11, 12, 13, 14, 15, 16, 17, 18, 19, 20] rfl rfl rfl (wo := (gY G uY (va_up iY 0 0) sY_7 tY jY)) rfl rfl hl.1 (lv_room (Nat.le_of_ble_eq_true rfl)) ⟨Nat.le_of_ble_eq_true rfl, Nat.le_of_ble_eq_true rfl⟩ ⟨Nat.zero_le _, Nat.zero_le _⟩ dX11_odds_26 (fun H locs hP hD hS => ?_)
      refine lv_aload_n X.hx X.hb dX11_odds_29 rfl (lv_at hl 0 rfl) ?_
      refine gf_X11_33 X hP 0 rfl (v := .ref (uY 7)) rfl dX11_odds_30 ?_
      refine lv_sipush (v := 136) X.hx X.hb dX11_odds_33 (by decide) ?_
      refine lv_iload_n X.hx X.hb dX11_odds_36 rfl (lv_at hl 1 rfl) ?_
      refine lv_iadd X.hx X.hb dX11_odds_37 ?_
      obtain ⟨hi_9, hf⟩ := ck_i hf
      refine r_iald X hP 2 (f := (sY_7 6)) rfl hi_9 dX11_odds_38 ?_
      obtain ⟨n_10, en_10, hf⟩ := nv_i hf
      refine r_nm en_10 ?_
      refine lv_istore (lv' := [(4, .int n_10), (0, .ref (uY 0)), (1, .int p1), (2, .int p2), (3, .int p3)]) X.hx X.hb dX11_odds_39 hl (by decide) rfl (fun ls hl => ?_)
      refine lv_iconst (v := 0) X.hx X.hb dX11_odds_41 (by decide) ?_
      refine lv_istore (lv' := [(5, .int 0), (4, .int n_10), (0, .ref (uY 0)), (1, .int p1), (2, .int p2), (3, .int p3)]) X.hx X.hb dX11_odds_42 hl (by decide) rfl (fun ls hl => ?_)
      refine lv_iconst (v := 0) X.hx X.hb dX11_odds_44 (by decide) ?_
      refine lv_istore (lv' := [(6, .int 0), (5, .int 0), (4, .int n_10), (0, .ref (uY 0)), (1, .int p1), (2, .int p2), (3, .int p3)]) X.hx X.hb dX11_odds_45 hl (by decide) rfl (fun ls hl => ?_)
      have hlo_11 : ∀ (k : Nat) (iY_12 : Nat → Int32) (sY_13 : Nat → Nat → Int32) (v5_14 : Int32) (v6_15 : Int32) (H : Heap) (locs : List Loc) (ls : Array Slot), f_X11_odds_47 N tY jY p1 p2 p3 n_10 k iY_12 sY_13 v5_14 v6_15 = some (r, iY', sY') → va_P G.1 vwCl (gY G uY iY_12 sY_13 tY jY) H → va_D A (gY G uY iY_12 sY_13 tY jY) → va_S A s.heap H locs → lv_has ls 7 [(0, .ref (uY 0)), (1, .int p1), (2, .int p2), (3, .int p3), (4, .int n_10), (5, .int v5_14), (6, .int v6_15)] → W p l e (RM 6) s m args below meth c H locs 0 0 QQ (F0 m 47 ls []) := by
        intro k
        induction k with
        | zero => intro iY_12 sY_13 v5_14 v6_15 H locs ls hf; exact absurd hf (by intro q; cases q)
        | succ k ih =>
          intro iY_12 sY_13 v5_14 v6_15 H locs ls hf hP hD hS hl
          unfold f_X11_odds_47 at hf
          refine lv_iload X.hx X.hb dX11_odds_47 (lv_at hl 6 rfl) ?_
          refine lv_iload_n X.hx X.hb dX11_odds_49 rfl (lv_at hl 2 rfl) ?_
          refine lv_icmp_ge (tgt := 99) X.hx X.hb dX11_odds_50 (by decide) (fun hc_16 => ?_) (fun hc_16 => ?_)
          · replace hf := if_t hf hc_16
            refine lv_iload X.hx X.hb dX11_odds_99 (lv_at hl 5 rfl) ?_
            cases hf
            subst hQ
            exact r_iret X hP hD hS dX11_odds_101
          · replace hf := if_f hf hc_16
            refine lv_aload_n X.hx X.hb dX11_odds_53 rfl (lv_at hl 0 rfl) ?_
            refine lv_bipush (v := 10) X.hx X.hb dX11_odds_54 (by decide) ?_
            refine lv_iload_n X.hx X.hb dX11_odds_56 rfl (lv_at hl 3 rfl) ?_
            refine lv_iload X.hx X.hb dX11_odds_57 (lv_at hl 6 rfl) ?_
            refine lv_iadd X.hx X.hb dX11_odds_59 ?_
            obtain ⟨⟨r_17, iY_18, sY_19⟩, hc_20, hf⟩ := bd_i hf
            refine r_cvi (As := [.int 10, .int (p3 + v6_15)]) (rest := []) X sm_X11_409 (c_X11_draws l G N uY iY_12 sY_13 tY jY 10 (p3 + v6_15) hc_20) hP hD hS hA 0 rfl rfl [0, 1, 2, 3, 4, 5, 6, 7, 8, 9, 10, 11, 12, 13, 14, 15, 16, 17, 18, 19, 20] rfl rfl rfl (wo := (gY G uY iY_18 sY_19 tY jY)) rfl rfl hl.1 (lv_room (Nat.le_of_ble_eq_true rfl)) ⟨Nat.le_of_ble_eq_true rfl, Nat.le_of_ble_eq_true rfl⟩ ⟨Nat.zero_le _, Nat.zero_le _⟩ dX11_odds_60 (fun H locs hP hD hS => ?_)
            refine lv_pop X.hx X.hb dX11_odds_63 rfl ?_
            refine lv_iload X.hx X.hb dX11_odds_64 (lv_at hl 5 rfl) ?_
            refine lv_aload_n X.hx X.hb dX11_odds_66 rfl (lv_at hl 0 rfl) ?_
            refine gf_X11_33 X hP 0 rfl (v := .ref (uY 7)) rfl dX11_odds_67 ?_
            refine lv_sipush (v := 136) X.hx X.hb dX11_odds_70 (by decide) ?_
            refine lv_iload_n X.hx X.hb dX11_odds_73 rfl (lv_at hl 1 rfl) ?_
            refine lv_iadd X.hx X.hb dX11_odds_74 ?_
            obtain ⟨hi_21, hf⟩ := ck_i hf
            refine r_iald X hP 2 (f := (sY_19 6)) rfl hi_21 dX11_odds_75 ?_
            refine lv_iload X.hx X.hb dX11_odds_76 (lv_at hl 4 rfl) ?_
            obtain ⟨K_22, eK_24, hf⟩ := jn_i hf
            have hj_23 : ∀ (y_25 : Int32) (H : Heap) (locs : List Loc) (ls : Array Slot), K_22 y_25 = some (r, iY', sY') → va_P G.1 vwCl (gY G uY iY_18 sY_19 tY jY) H → va_D A (gY G uY iY_18 sY_19 tY jY) → va_S A s.heap H locs → lv_has ls 7 [(0, .ref (uY 0)), (1, .int p1), (2, .int p2), (3, .int p3), (4, .int n_10), (6, .int v6_15)] → W p l e (RM 6) s m args below meth c H locs 0 0 QQ (F0 m 86 ls [.int y_25, .int v5_14]) := by
              intro y_25 H locs ls hf hP hD hS hl
              rw [eK_24] at hf
              try dsimp only at hf
              refine lv_iadd X.hx X.hb dX11_odds_86 ?_
              refine lv_istore (lv' := [(5, .int (v5_14 + y_25)), (0, .ref (uY 0)), (1, .int p1), (2, .int p2), (3, .int p3), (4, .int n_10), (6, .int v6_15)]) X.hx X.hb dX11_odds_87 hl (by decide) rfl (fun ls hl => ?_)
              refine lv_aload_n X.hx X.hb dX11_odds_89 rfl (lv_at hl 1 rfl) ?_
              obtain ⟨sY_26, hc_27, hf⟩ := bd_i hf
              refine r_cvv (As := []) (rest := []) X sm_X11_415 (c_X11_back l G N uY iY_18 sY_19 tY jY hc_27) hP hD hS hA 0 rfl rfl [0, 1, 2, 3, 4, 5, 6, 7, 8, 9, 10, 11, 12, 13, 14, 15, 16, 17, 18, 19, 20] rfl rfl rfl (wo := (gY G uY iY_18 sY_26 tY jY)) rfl rfl hl.1 (lv_room (Nat.le_of_ble_eq_true rfl)) ⟨Nat.le_of_ble_eq_true rfl, Nat.le_of_ble_eq_true rfl⟩ ⟨Nat.zero_le _, Nat.zero_le _⟩ dX11_odds_90 (fun H locs hP hD hS => ?_)
              refine lv_iinc (v := (v6_15 + 1)) (lv' := [(6, .int (v6_15 + 1)), (5, .int (v5_14 + y_25)), (0, .ref (uY 0)), (1, .int p1), (2, .int p2), (3, .int p3), (4, .int n_10)]) X.hx X.hb dX11_odds_93 hl (k := 6) rfl rfl (by decide) rfl (fun ls hl => ?_)
              refine lv_goto (tgt := 47) X.hx X.hb dX11_odds_96 (by decide) ?_
              exact ih _ _ _ _ _ _ _ hf hP hD hS (lv_sub hl [2, 3, 4, 5, 6, 1, 0] rfl)
            refine lv_icmp_le (tgt := 85) X.hx X.hb dX11_odds_78 (by decide) (fun hc_28 => ?_) (fun hc_28 => ?_)
            · replace hf := if_t hf hc_28
              refine lv_iconst (v := 0) X.hx X.hb dX11_odds_85 (by decide) ?_
              exact hj_23 _ _ _ _ hf hP hD hS (lv_sub hl [0, 1, 2, 3, 4, 6] rfl)
            · replace hf := if_f hf hc_28
              refine lv_iconst (v := 1) X.hx X.hb dX11_odds_81 (by decide) ?_
              refine lv_goto (tgt := 86) X.hx X.hb dX11_odds_82 (by decide) ?_
              exact hj_23 _ _ _ _ hf hP hD hS (lv_sub hl [0, 1, 2, 3, 4, 6] rfl)
      exact hlo_11 N _ _ _ _ _ _ _ hf hP hD hS (lv_sub hl [3, 4, 5, 6, 2, 1, 0] rfl)
    · replace hf := if_t hf hc_6
      refine lv_iconst (v := (-1)) X.hx X.hb dX11_odds_23 (by decide) ?_
      cases hf
      subst hQ
      exact r_iret X hP hD hS dX11_odds_24

def f_X11_bookLine (N : Nat) (iY : Nat → Int32) (sY : Nat → Nat → Int32) (tY : Nat → Nat → Int64) (jY : Nat → Int64) : Option (Int32 × (Nat → Int32) × (Nat → Nat → Int32) × (Nat → Int64)) :=
  nv ((4 : Int32) * (iY 39)) (fun n_1 => bd (f_X11_isWord N iY sY tY jY 6578553) (fun r_2 => jn (fun (z : (Nat → Int32)) => match z with | iY_7 => (if (iY_7 39) = 40 then bd (f_X11_bad N iY_7 sY tY jY 4) (fun (r_79, iY_80) => zb r_79 (some (r_79, iY_80, sY, jY))) else bd (f_X11_next N iY_7 sY tY jY) (fun (iY_9, jY_10) => ck n_1 160 (nv (upd (sY 8) (ix n_1) 4) (fun g_13 => (if r_2 = 0 then bd (f_X11_isWord N iY_9 (va_up sY 8 g_13) tY jY_10 1651865971) (fun r_15 => jn (fun (z : (Int32)) => match z with | y_20 => (if (0 : Int32) ≤ y_20 then bd (f_X11_next N iY_9 (va_up sY 8 g_13) tY jY_10) (fun (iY_22, jY_23) => ck n_1 160 (nv (upd g_13 (ix n_1) y_20) (fun g_26 => ck (n_1 + 1) 160 (nv (upd g_26 (ix (n_1 + 1)) (iY_7 18)) (fun g_28 => (if y_20 = 2 then some (1, iY_22, (va_up sY 8 g_28), jY_23) else jn (fun (z : (Int32) × (Nat → Int32) × (Nat → Int64)) => match z with | (y_33, iY_34, jY_35) => ck (n_1 + 2) 160 (nv (upd g_28 (ix (n_1 + 2)) (iY_34 18)) (fun g_37 => (if y_33 = 0 then zb y_33 (some (y_33, iY_34, (va_up sY 8 g_37), jY_35)) else (if y_20 = 1 then zb y_33 (some (y_33, iY_34, (va_up sY 8 g_37), jY_35)) else bd (f_X11_takesName N iY_34 (va_up sY 8 g_37) tY jY_35 0 ((sY 6) 0)) (fun (r_41, iY_42, jY_43) => ck (n_1 + 3) 160 (nv (upd g_37 (ix (n_1 + 3)) (iY_42 18)) (fun g_46 => zb r_41 (some (r_41, iY_42, (va_up sY 8 g_46), jY_43)))))))))) (fun K_30 => (if y_20 = 0 then bd (f_X11_takesName N iY_22 (va_up sY 8 g_28) tY jY_23 7 ((sY 6) 1)) (fun (r_54, iY_55, jY_56) => K_30 (r_54, iY_55, jY_56)) else bd (f_X11_takesName N iY_22 (va_up sY 8 g_28) tY jY_23 0 ((sY 6) 0)) (fun (r_50, iY_51, jY_52) => K_30 (r_50, iY_51, jY_52)))))))))) else bd (f_X11_bad N iY_9 (va_up sY 8 g_13) tY jY_10 1) (fun (r_58, iY_59) => zb r_58 (some (r_58, iY_59, (va_up sY 8 g_13), jY_10))))) (fun K_17 => (if r_15 = 0 then bd (f_X11_isWord N iY_9 (va_up sY 8 g_13) tY jY_10 1852793971) (fun r_63 => (if r_63 = 0 then bd (f_X11_isWord N iY_9 (va_up sY 8 g_13) tY jY_10 508507548787) (fun r_66 => (if r_66 = 0 then bd (f_X11_isWord N iY_9 (va_up sY 8 g_13) tY jY_10 499917810803) (fun r_69 => (if r_69 = 0 then K_17 (-1) else K_17 3)) else K_17 2)) else K_17 1)) else K_17 0))) else bd (f_X11_takes N iY_9 (va_up sY 8 g_13) tY jY_10 1 60) (fun (r_72, iY_73, jY_74) => (if r_72 = 0 then some (0, iY_73, (va_up sY 8 g_13), jY_74) else ck (n_1 + 1) 160 (nv (upd g_13 (ix (n_1 + 1)) (iY_73 18)) (fun g_78 => some (1, iY_73, (va_up sY 8 g_78), jY_74))))))))))) (fun K_4 => (if r_2 = 0 then bd (f_X11_looksAt N iY sY tY jY 0 ((sY 6) 0)) (fun (r_84, iY_85) => (if r_84 = 0 then some (0, iY_85, sY, jY) else K_4 iY_85)) else K_4 iY))))
set_option maxHeartbeats 4000000 in
set_option maxRecDepth 100000 in
theorem c_X11_bookLine (l : Launch) (G : GT) (N : Nat) (uY : Nat → Nat) (iY : Nat → Int32) (sY : Nat → Nat → Int32) (tY : Nat → Nat → Int64) (jY : Nat → Int64) {r : Int32} {iY' : Nat → Int32} {sY' : Nat → Nat → Int32} {jY' : Nat → Int64} (hf : f_X11_bookLine N iY sY tY jY = some (r, iY', sY', jY')) : CI l G yX11_bookLine cX11_bookLine 6 .boolean 4 [.ref (uY 0)] (gY G uY iY sY tY jY) r (gY G uY iY' sY' tY jY') := by
  refine CI.of (by decide) (Nat.le_of_ble_eq_true rfl) ?_
  intro p e s m args below meth c A X hA hP hD hS ls hl
  have hl : lv_has ls 6 [(0, .ref (uY 0))] := hl
  generalize hQ : MQ below (QI G A r (gY G uY iY' sY' tY jY')) args s 0 0 A = QQ
  unfold f_X11_bookLine at hf
  refine lv_iconst (v := 4) X.hx X.hb dX11_bookLine_0 (by decide) ?_
  refine lv_aload_n X.hx X.hb dX11_bookLine_1 rfl (lv_at hl 0 rfl) ?_
  refine gf_X11_418 X hP 0 rfl (v := .int (iY 39)) rfl dX11_bookLine_2 ?_
  refine lv_imul X.hx X.hb dX11_bookLine_5 ?_
  obtain ⟨n_1, en_1, hf⟩ := nv_i hf
  refine r_nm en_1 ?_
  refine lv_istore_n (lv' := [(1, .int n_1), (0, .ref (uY 0))]) X.hx X.hb dX11_bookLine_6 rfl hl (by decide) rfl (fun ls hl => ?_)
  refine lv_aload_n X.hx X.hb dX11_bookLine_7 rfl (lv_at hl 1 rfl) ?_
  refine lv_ldc2 (v := 6578553) X.hx X.hb X.hown (X.hts _ tw_1298) dX11_bookLine_8 ?_
  obtain ⟨r_2, hc_3, hf⟩ := bd_i hf
  refine r_cvi (As := [.long 6578553]) (rest := []) X sm_X11_220 (c_X11_isWord l G N uY iY sY tY jY 6578553 hc_3) hP hD hS hA 0 rfl rfl [0, 1, 2, 3, 4, 5, 6, 7, 8, 9, 10, 11, 12, 13, 14, 15, 16, 17, 18, 19, 20] rfl rfl rfl (wo := (gY G uY iY sY tY jY)) rfl rfl hl.1 (lv_room (Nat.le_of_ble_eq_true rfl)) ⟨Nat.le_of_ble_eq_true rfl, Nat.le_of_ble_eq_true rfl⟩ ⟨Nat.zero_le _, Nat.zero_le _⟩ dX11_bookLine_11 (fun H locs hP hD hS => ?_)
  refine lv_istore_n (lv' := [(2, .int r_2), (1, .int n_1), (0, .ref (uY 0))]) X.hx X.hb dX11_bookLine_14 rfl hl (by decide) rfl (fun ls hl => ?_)
  refine lv_iload_n X.hx X.hb dX11_bookLine_15 rfl (lv_at hl 0 rfl) ?_
  obtain ⟨K_4, eK_6, hf⟩ := jn_i hf
  have hj_5 : ∀ (iY_7 : Nat → Int32) (H : Heap) (locs : List Loc) (ls : Array Slot), K_4 iY_7 = some (r, iY', sY', jY') → va_P G.1 vwCl (gY G uY iY_7 sY tY jY) H → va_D A (gY G uY iY_7 sY tY jY) → va_S A s.heap H locs → lv_has ls 6 [(0, .ref (uY 0)), (1, .int n_1), (2, .int r_2)] → W p l e (RM 4) s m args below meth c H locs 0 0 QQ (F0 m 35 ls []) := by
    intro iY_7 H locs ls hf hP hD hS hl
    rw [eK_6] at hf
    try dsimp only at hf
    refine lv_aload_n X.hx X.hb dX11_bookLine_35 rfl (lv_at hl 0 rfl) ?_
    refine gf_X11_418 X hP 0 rfl (v := .int (iY_7 39)) rfl dX11_bookLine_36 ?_
    refine lv_bipush (v := 40) X.hx X.hb dX11_bookLine_39 (by decide) ?_
    refine lv_icmp_ne (tgt := 50) X.hx X.hb dX11_bookLine_41 (by decide) (fun hc_8 => ?_) (fun hc_8 => ?_)
    · replace hf := if_f hf hc_8
      refine lv_aload_n X.hx X.hb dX11_bookLine_50 rfl (lv_at hl 0 rfl) ?_
      refine gf_X11_193 X hP 0 rfl (v := .int (iY_7 18)) rfl dX11_bookLine_51 ?_
      refine lv_istore_n (lv' := [(3, .int (iY_7 18)), (0, .ref (uY 0)), (1, .int n_1), (2, .int r_2)]) X.hx X.hb dX11_bookLine_54 rfl hl (by decide) rfl (fun ls hl => ?_)
      refine lv_aload_n X.hx X.hb dX11_bookLine_55 rfl (lv_at hl 1 rfl) ?_
      obtain ⟨⟨iY_9, jY_10⟩, hc_11, hf⟩ := bd_i hf
      refine r_cvv (As := []) (rest := []) X sm_X11_186 (c_X11_next l G N uY iY_7 sY tY jY hc_11) hP hD hS hA 0 rfl rfl [0, 1, 2, 3, 4, 5, 6, 7, 8, 9, 10, 11, 12, 13, 14, 15, 16, 17, 18, 19, 20] rfl rfl rfl (wo := (gY G uY iY_9 sY tY jY_10)) rfl rfl hl.1 (lv_room (Nat.le_of_ble_eq_true rfl)) ⟨Nat.le_of_ble_eq_true rfl, Nat.le_of_ble_eq_true rfl⟩ ⟨Nat.zero_le _, Nat.zero_le _⟩ dX11_bookLine_56 (fun H locs hP hD hS => ?_)
      refine lv_aload_n X.hx X.hb dX11_bookLine_59 rfl (lv_at hl 1 rfl) ?_
      refine gf_X11_40 X hP 0 rfl (v := .ref (uY 9)) rfl dX11_bookLine_60 ?_
      refine lv_iload_n X.hx X.hb dX11_bookLine_63 rfl (lv_at hl 2 rfl) ?_
      refine lv_iconst (v := 4) X.hx X.hb dX11_bookLine_64 (by decide) ?_
      obtain ⟨hi_12, hf⟩ := ck_i hf
      obtain ⟨g_13, eg_13, hf⟩ := nv_i hf
      refine r_iast X hP hD hS 4 (f := (sY 8)) rfl hi_12 (wo := (gY G uY iY_9 (va_up sY 8 g_13) tY jY_10)) (by subst eg_13; rfl) dX11_bookLine_65 (fun H locs hP hD hS => ?_)
      refine lv_iload_n X.hx X.hb dX11_bookLine_66 rfl (lv_at hl 3 rfl) ?_
      refine lv_if_eq (tgt := 96) X.hx X.hb dX11_bookLine_67 (by decide) (fun hc_14 => ?_) (fun hc_14 => ?_)
      · replace hf := if_t hf hc_14
        refine lv_aload_n X.hx X.hb dX11_bookLine_96 rfl (lv_at hl 1 rfl) ?_
        refine lv_ldc2 (v := 1651865971) X.hx X.hb X.hown (X.hts _ tw_1295) dX11_bookLine_97 ?_
        obtain ⟨r_15, hc_16, hf⟩ := bd_i hf
        refine r_cvi (As := [.long 1651865971]) (rest := []) X sm_X11_220 (c_X11_isWord l G N uY iY_9 (va_up sY 8 g_13) tY jY_10 1651865971 hc_16) hP hD hS hA 0 rfl rfl [0, 1, 2, 3, 4, 5, 6, 7, 8, 9, 10, 11, 12, 13, 14, 15, 16, 17, 18, 19, 20] rfl rfl rfl (wo := (gY G uY iY_9 (va_up sY 8 g_13) tY jY_10)) rfl rfl hl.1 (lv_room (Nat.le_of_ble_eq_true rfl)) ⟨Nat.le_of_ble_eq_true rfl, Nat.le_of_ble_eq_true rfl⟩ ⟨Nat.zero_le _, Nat.zero_le _⟩ dX11_bookLine_100 (fun H locs hP hD hS => ?_)
        obtain ⟨K_17, eK_19, hf⟩ := jn_i hf
        have hj_18 : ∀ (y_20 : Int32) (H : Heap) (locs : List Loc) (ls : Array Slot), K_17 y_20 = some (r, iY', sY', jY') → va_P G.1 vwCl (gY G uY iY_9 (va_up sY 8 g_13) tY jY_10) H → va_D A (gY G uY iY_9 (va_up sY 8 g_13) tY jY_10) → va_S A s.heap H locs → lv_has ls 6 [(0, .ref (uY 0)), (1, .int n_1), (3, .int (iY_7 18))] → W p l e (RM 4) s m args below meth c H locs 0 0 QQ (F0 m 153 ls [.int y_20]) := by
          intro y_20 H locs ls hf hP hD hS hl
          rw [eK_19] at hf
          try dsimp only at hf
          refine lv_istore (lv' := [(4, .int y_20), (0, .ref (uY 0)), (1, .int n_1), (3, .int (iY_7 18))]) X.hx X.hb dX11_bookLine_153 hl (by decide) rfl (fun ls hl => ?_)
          refine lv_iload X.hx X.hb dX11_bookLine_155 (lv_at hl 0 rfl) ?_
          refine lv_if_ge (tgt := 166) X.hx X.hb dX11_bookLine_157 (by decide) (fun hc_21 => ?_) (fun hc_21 => ?_)
          · replace hf := if_t hf hc_21
            refine lv_aload_n X.hx X.hb dX11_bookLine_166 rfl (lv_at hl 1 rfl) ?_
            obtain ⟨⟨iY_22, jY_23⟩, hc_24, hf⟩ := bd_i hf
            refine r_cvv (As := []) (rest := []) X sm_X11_186 (c_X11_next l G N uY iY_9 (va_up sY 8 g_13) tY jY_10 hc_24) hP hD hS hA 0 rfl rfl [0, 1, 2, 3, 4, 5, 6, 7, 8, 9, 10, 11, 12, 13, 14, 15, 16, 17, 18, 19, 20] rfl rfl rfl (wo := (gY G uY iY_22 (va_up sY 8 g_13) tY jY_23)) rfl rfl hl.1 (lv_room (Nat.le_of_ble_eq_true rfl)) ⟨Nat.le_of_ble_eq_true rfl, Nat.le_of_ble_eq_true rfl⟩ ⟨Nat.zero_le _, Nat.zero_le _⟩ dX11_bookLine_167 (fun H locs hP hD hS => ?_)
            refine lv_aload_n X.hx X.hb dX11_bookLine_170 rfl (lv_at hl 1 rfl) ?_
            refine gf_X11_40 X hP 0 rfl (v := .ref (uY 9)) rfl dX11_bookLine_171 ?_
            refine lv_iload_n X.hx X.hb dX11_bookLine_174 rfl (lv_at hl 2 rfl) ?_
            refine lv_iload X.hx X.hb dX11_bookLine_175 (lv_at hl 0 rfl) ?_
            obtain ⟨hi_25, hf⟩ := ck_i hf
            obtain ⟨g_26, eg_26, hf⟩ := nv_i hf
            refine r_iast X hP hD hS 4 (f := g_13) rfl hi_25 (wo := (gY G uY iY_22 (va_up sY 8 g_26) tY jY_23)) (by subst eg_26; rfl) dX11_bookLine_177 (fun H locs hP hD hS => ?_)
            refine lv_aload_n X.hx X.hb dX11_bookLine_178 rfl (lv_at hl 1 rfl) ?_
            refine gf_X11_40 X hP 0 rfl (v := .ref (uY 9)) rfl dX11_bookLine_179 ?_
            refine lv_iload_n X.hx X.hb dX11_bookLine_182 rfl (lv_at hl 2 rfl) ?_
            refine lv_iconst (v := 1) X.hx X.hb dX11_bookLine_183 (by decide) ?_
            refine lv_iadd X.hx X.hb dX11_bookLine_184 ?_
            refine lv_iload_n X.hx X.hb dX11_bookLine_185 rfl (lv_at hl 3 rfl) ?_
            obtain ⟨hi_27, hf⟩ := ck_i hf
            obtain ⟨g_28, eg_28, hf⟩ := nv_i hf
            refine r_iast X hP hD hS 4 (f := g_26) rfl hi_27 (wo := (gY G uY iY_22 (va_up sY 8 g_28) tY jY_23)) (by subst eg_28; rfl) dX11_bookLine_186 (fun H locs hP hD hS => ?_)
            refine lv_iload X.hx X.hb dX11_bookLine_187 (lv_at hl 0 rfl) ?_
            refine lv_iconst (v := 2) X.hx X.hb dX11_bookLine_189 (by decide) ?_
            refine lv_icmp_ne (tgt := 195) X.hx X.hb dX11_bookLine_190 (by decide) (fun hc_29 => ?_) (fun hc_29 => ?_)
            · replace hf := if_f hf hc_29
              refine lv_iload X.hx X.hb dX11_bookLine_195 (lv_at hl 0 rfl) ?_
              obtain ⟨K_30, eK_32, hf⟩ := jn_i hf
              have hj_31 : ∀ (y_33 : Int32) (iY_34 : Nat → Int32) (jY_35 : Nat → Int64) (H : Heap) (locs : List Loc) (ls : Array Slot), K_30 (y_33, iY_34, jY_35) = some (r, iY', sY', jY') → va_P G.1 vwCl (gY G uY iY_34 (va_up sY 8 g_28) tY jY_35) H → va_D A (gY G uY iY_34 (va_up sY 8 g_28) tY jY_35) → va_S A s.heap H locs → lv_has ls 6 [(0, .ref (uY 0)), (1, .int n_1), (4, .int y_20)] → W p l e (RM 4) s m args below meth c H locs 0 0 QQ (F0 m 226 ls [.int y_33]) := by
                intro y_33 iY_34 jY_35 H locs ls hf hP hD hS hl
                rw [eK_32] at hf
                try dsimp only at hf
                refine lv_istore (lv' := [(5, .int y_33), (0, .ref (uY 0)), (1, .int n_1), (4, .int y_20)]) X.hx X.hb dX11_bookLine_226 hl (by decide) rfl (fun ls hl => ?_)
                refine lv_aload_n X.hx X.hb dX11_bookLine_228 rfl (lv_at hl 1 rfl) ?_
                refine gf_X11_40 X hP 0 rfl (v := .ref (uY 9)) rfl dX11_bookLine_229 ?_
                refine lv_iload_n X.hx X.hb dX11_bookLine_232 rfl (lv_at hl 2 rfl) ?_
                refine lv_iconst (v := 2) X.hx X.hb dX11_bookLine_233 (by decide) ?_
                refine lv_iadd X.hx X.hb dX11_bookLine_234 ?_
                refine lv_aload_n X.hx X.hb dX11_bookLine_235 rfl (lv_at hl 1 rfl) ?_
                refine gf_X11_193 X hP 0 rfl (v := .int (iY_34 18)) rfl dX11_bookLine_236 ?_
                obtain ⟨hi_36, hf⟩ := ck_i hf
                obtain ⟨g_37, eg_37, hf⟩ := nv_i hf
                refine r_iast X hP hD hS 4 (f := g_28) rfl hi_36 (wo := (gY G uY iY_34 (va_up sY 8 g_37) tY jY_35)) (by subst eg_37; rfl) dX11_bookLine_239 (fun H locs hP hD hS => ?_)
                refine lv_iload X.hx X.hb dX11_bookLine_240 (lv_at hl 0 rfl) ?_
                refine lv_if_eq (tgt := 251) X.hx X.hb dX11_bookLine_242 (by decide) (fun hc_38 => ?_) (fun hc_38 => ?_)
                · replace hf := if_t hf hc_38
                  refine lv_iload X.hx X.hb dX11_bookLine_251 (lv_at hl 0 rfl) ?_
                  obtain ⟨hb_39, hf⟩ := zb_i hf
                  cases hf
                  subst hQ
                  exact r_zret X hP hD hS hb_39 dX11_bookLine_253
                · replace hf := if_f hf hc_38
                  refine lv_iload X.hx X.hb dX11_bookLine_245 (lv_at hl 3 rfl) ?_
                  refine lv_iconst (v := 1) X.hx X.hb dX11_bookLine_247 (by decide) ?_
                  refine lv_icmp_ne (tgt := 254) X.hx X.hb dX11_bookLine_248 (by decide) (fun hc_40 => ?_) (fun hc_40 => ?_)
                  · replace hf := if_f hf hc_40
                    refine lv_aload_n X.hx X.hb dX11_bookLine_254 rfl (lv_at hl 1 rfl) ?_
                    refine lv_iconst (v := 0) X.hx X.hb dX11_bookLine_255 (by decide) ?_
                    refine lv_aload_n X.hx X.hb dX11_bookLine_256 rfl (lv_at hl 1 rfl) ?_
                    refine gf_X11_33 X hP 0 rfl (v := .ref (uY 7)) rfl dX11_bookLine_257 ?_
                    refine lv_iconst (v := 0) X.hx X.hb dX11_bookLine_260 (by decide) ?_
                    refine r_iald X hP 2 (f := (sY 6)) rfl (vp_c rfl) dX11_bookLine_261 ?_
                    refine W.eq (g2 := F0 m 262 ls [.int ((sY 6) 0), .int 0, .ref (uY 0)]) rfl ?_
                    obtain ⟨⟨r_41, iY_42, jY_43⟩, hc_44, hf⟩ := bd_i hf
                    refine r_cvi (As := [.int 0, .int ((sY 6) 0)]) (rest := []) X sm_X11_244 (c_X11_takesName l G N uY iY_34 (va_up sY 8 g_37) tY jY_35 0 ((sY 6) 0) hc_44) hP hD hS hA 0 rfl rfl [0, 1, 2, 3, 4, 5, 6, 7, 8, 9, 10, 11, 12, 13, 14, 15, 16, 17, 18, 19, 20] rfl rfl rfl (wo := (gY G uY iY_42 (va_up sY 8 g_37) tY jY_43)) rfl rfl hl.1 (lv_room (Nat.le_of_ble_eq_true rfl)) ⟨Nat.le_of_ble_eq_true rfl, Nat.le_of_ble_eq_true rfl⟩ ⟨Nat.zero_le _, Nat.zero_le _⟩ dX11_bookLine_262 (fun H locs hP hD hS => ?_)
                    refine lv_istore (lv' := [(5, .int r_41), (0, .ref (uY 0)), (1, .int n_1), (4, .int y_20)]) X.hx X.hb dX11_bookLine_265 hl (by decide) rfl (fun ls hl => ?_)
                    refine lv_aload_n X.hx X.hb dX11_bookLine_267 rfl (lv_at hl 1 rfl) ?_
                    refine gf_X11_40 X hP 0 rfl (v := .ref (uY 9)) rfl dX11_bookLine_268 ?_
                    refine lv_iload_n X.hx X.hb dX11_bookLine_271 rfl (lv_at hl 2 rfl) ?_
                    refine lv_iconst (v := 3) X.hx X.hb dX11_bookLine_272 (by decide) ?_
                    refine lv_iadd X.hx X.hb dX11_bookLine_273 ?_
                    refine lv_aload_n X.hx X.hb dX11_bookLine_274 rfl (lv_at hl 1 rfl) ?_
                    refine gf_X11_193 X hP 0 rfl (v := .int (iY_42 18)) rfl dX11_bookLine_275 ?_
                    obtain ⟨hi_45, hf⟩ := ck_i hf
                    obtain ⟨g_46, eg_46, hf⟩ := nv_i hf
                    refine r_iast X hP hD hS 4 (f := g_37) rfl hi_45 (wo := (gY G uY iY_42 (va_up sY 8 g_46) tY jY_43)) (by subst eg_46; rfl) dX11_bookLine_278 (fun H locs hP hD hS => ?_)
                    refine lv_iload X.hx X.hb dX11_bookLine_279 (lv_at hl 0 rfl) ?_
                    obtain ⟨hb_47, hf⟩ := zb_i hf
                    cases hf
                    subst hQ
                    exact r_zret X hP hD hS hb_47 dX11_bookLine_281
                  · replace hf := if_t hf hc_40
                    refine lv_iload X.hx X.hb dX11_bookLine_251 (lv_at hl 0 rfl) ?_
                    obtain ⟨hb_48, hf⟩ := zb_i hf
                    cases hf
                    subst hQ
                    exact r_zret X hP hD hS hb_48 dX11_bookLine_253
              refine lv_if_ne (tgt := 215) X.hx X.hb dX11_bookLine_197 (by decide) (fun hc_49 => ?_) (fun hc_49 => ?_)
              · replace hf := if_f hf hc_49
                refine lv_aload_n X.hx X.hb dX11_bookLine_215 rfl (lv_at hl 1 rfl) ?_
                refine lv_iconst (v := 0) X.hx X.hb dX11_bookLine_216 (by decide) ?_
                refine lv_aload_n X.hx X.hb dX11_bookLine_217 rfl (lv_at hl 1 rfl) ?_
                refine gf_X11_33 X hP 0 rfl (v := .ref (uY 7)) rfl dX11_bookLine_218 ?_
                refine lv_iconst (v := 0) X.hx X.hb dX11_bookLine_221 (by decide) ?_
                refine r_iald X hP 2 (f := (sY 6)) rfl (vp_c rfl) dX11_bookLine_222 ?_
                refine W.eq (g2 := F0 m 223 ls [.int ((sY 6) 0), .int 0, .ref (uY 0)]) rfl ?_
                obtain ⟨⟨r_50, iY_51, jY_52⟩, hc_53, hf⟩ := bd_i hf
                refine r_cvi (As := [.int 0, .int ((sY 6) 0)]) (rest := []) X sm_X11_244 (c_X11_takesName l G N uY iY_22 (va_up sY 8 g_28) tY jY_23 0 ((sY 6) 0) hc_53) hP hD hS hA 0 rfl rfl [0, 1, 2, 3, 4, 5, 6, 7, 8, 9, 10, 11, 12, 13, 14, 15, 16, 17, 18, 19, 20] rfl rfl rfl (wo := (gY G uY iY_51 (va_up sY 8 g_28) tY jY_52)) rfl rfl hl.1 (lv_room (Nat.le_of_ble_eq_true rfl)) ⟨Nat.le_of_ble_eq_true rfl, Nat.le_of_ble_eq_true rfl⟩ ⟨Nat.zero_le _, Nat.zero_le _⟩ dX11_bookLine_223 (fun H locs hP hD hS => ?_)
                exact hj_31 _ _ _ _ _ _ hf hP hD hS (lv_sub hl [1, 2, 0] rfl)
              · replace hf := if_t hf hc_49
                refine lv_aload_n X.hx X.hb dX11_bookLine_200 rfl (lv_at hl 1 rfl) ?_
                refine lv_bipush (v := 7) X.hx X.hb dX11_bookLine_201 (by decide) ?_
                refine lv_aload_n X.hx X.hb dX11_bookLine_203 rfl (lv_at hl 1 rfl) ?_
                refine gf_X11_33 X hP 0 rfl (v := .ref (uY 7)) rfl dX11_bookLine_204 ?_
                refine lv_iconst (v := 1) X.hx X.hb dX11_bookLine_207 (by decide) ?_
                refine r_iald X hP 2 (f := (sY 6)) rfl (vp_c rfl) dX11_bookLine_208 ?_
                refine W.eq (g2 := F0 m 209 ls [.int ((sY 6) 1), .int 7, .ref (uY 0)]) rfl ?_
                obtain ⟨⟨r_54, iY_55, jY_56⟩, hc_57, hf⟩ := bd_i hf
                refine r_cvi (As := [.int 7, .int ((sY 6) 1)]) (rest := []) X sm_X11_244 (c_X11_takesName l G N uY iY_22 (va_up sY 8 g_28) tY jY_23 7 ((sY 6) 1) hc_57) hP hD hS hA 0 rfl rfl [0, 1, 2, 3, 4, 5, 6, 7, 8, 9, 10, 11, 12, 13, 14, 15, 16, 17, 18, 19, 20] rfl rfl rfl (wo := (gY G uY iY_55 (va_up sY 8 g_28) tY jY_56)) rfl rfl hl.1 (lv_room (Nat.le_of_ble_eq_true rfl)) ⟨Nat.le_of_ble_eq_true rfl, Nat.le_of_ble_eq_true rfl⟩ ⟨Nat.zero_le _, Nat.zero_le _⟩ dX11_bookLine_209 (fun H locs hP hD hS => ?_)
                refine lv_goto (tgt := 226) X.hx X.hb dX11_bookLine_212 (by decide) ?_
                exact hj_31 _ _ _ _ _ _ hf hP hD hS (lv_sub hl [1, 2, 0] rfl)
            · replace hf := if_t hf hc_29
              refine lv_iconst (v := 1) X.hx X.hb dX11_bookLine_193 (by decide) ?_
              cases hf
              subst hQ
              exact r_zret X hP hD hS (by decide) dX11_bookLine_194
          · replace hf := if_f hf hc_21
            refine lv_aload_n X.hx X.hb dX11_bookLine_160 rfl (lv_at hl 1 rfl) ?_
            refine lv_iconst (v := 1) X.hx X.hb dX11_bookLine_161 (by decide) ?_
            obtain ⟨⟨r_58, iY_59⟩, hc_60, hf⟩ := bd_i hf
            refine r_cvi (As := [.int 1]) (rest := []) X sm_X11_183 (c_X11_bad l G N uY iY_9 (va_up sY 8 g_13) tY jY_10 1 hc_60) hP hD hS hA 0 rfl rfl [0, 1, 2, 3, 4, 5, 6, 7, 8, 9, 10, 11, 12, 13, 14, 15, 16, 17, 18, 19, 20] rfl rfl rfl (wo := (gY G uY iY_59 (va_up sY 8 g_13) tY jY_10)) rfl rfl hl.1 (lv_room (Nat.le_of_ble_eq_true rfl)) ⟨Nat.le_of_ble_eq_true rfl, Nat.le_of_ble_eq_true rfl⟩ ⟨Nat.zero_le _, Nat.zero_le _⟩ dX11_bookLine_162 (fun H locs hP hD hS => ?_)
            obtain ⟨hb_61, hf⟩ := zb_i hf
            cases hf
            subst hQ
            exact r_zret X hP hD hS hb_61 dX11_bookLine_165
        refine lv_if_eq (tgt := 110) X.hx X.hb dX11_bookLine_103 (by decide) (fun hc_62 => ?_) (fun hc_62 => ?_)
        · replace hf := if_t hf hc_62
          refine lv_aload_n X.hx X.hb dX11_bookLine_110 rfl (lv_at hl 1 rfl) ?_
          refine lv_ldc2 (v := 1852793971) X.hx X.hb X.hown (X.hts _ tw_1296) dX11_bookLine_111 ?_
          obtain ⟨r_63, hc_64, hf⟩ := bd_i hf
          refine r_cvi (As := [.long 1852793971]) (rest := []) X sm_X11_220 (c_X11_isWord l G N uY iY_9 (va_up sY 8 g_13) tY jY_10 1852793971 hc_64) hP hD hS hA 0 rfl rfl [0, 1, 2, 3, 4, 5, 6, 7, 8, 9, 10, 11, 12, 13, 14, 15, 16, 17, 18, 19, 20] rfl rfl rfl (wo := (gY G uY iY_9 (va_up sY 8 g_13) tY jY_10)) rfl rfl hl.1 (lv_room (Nat.le_of_ble_eq_true rfl)) ⟨Nat.le_of_ble_eq_true rfl, Nat.le_of_ble_eq_true rfl⟩ ⟨Nat.zero_le _, Nat.zero_le _⟩ dX11_bookLine_114 (fun H locs hP hD hS => ?_)
          refine lv_if_eq (tgt := 124) X.hx X.hb dX11_bookLine_117 (by decide) (fun hc_65 => ?_) (fun hc_65 => ?_)
          · replace hf := if_t hf hc_65
            refine lv_aload_n X.hx X.hb dX11_bookLine_124 rfl (lv_at hl 1 rfl) ?_
            refine lv_ldc2 (v := 508507548787) X.hx X.hb X.hown (X.hts _ tw_1293) dX11_bookLine_125 ?_
            obtain ⟨r_66, hc_67, hf⟩ := bd_i hf
            refine r_cvi (As := [.long 508507548787]) (rest := []) X sm_X11_220 (c_X11_isWord l G N uY iY_9 (va_up sY 8 g_13) tY jY_10 508507548787 hc_67) hP hD hS hA 0 rfl rfl [0, 1, 2, 3, 4, 5, 6, 7, 8, 9, 10, 11, 12, 13, 14, 15, 16, 17, 18, 19, 20] rfl rfl rfl (wo := (gY G uY iY_9 (va_up sY 8 g_13) tY jY_10)) rfl rfl hl.1 (lv_room (Nat.le_of_ble_eq_true rfl)) ⟨Nat.le_of_ble_eq_true rfl, Nat.le_of_ble_eq_true rfl⟩ ⟨Nat.zero_le _, Nat.zero_le _⟩ dX11_bookLine_128 (fun H locs hP hD hS => ?_)
            refine lv_if_eq (tgt := 138) X.hx X.hb dX11_bookLine_131 (by decide) (fun hc_68 => ?_) (fun hc_68 => ?_)
            · replace hf := if_t hf hc_68
              refine lv_aload_n X.hx X.hb dX11_bookLine_138 rfl (lv_at hl 1 rfl) ?_
              refine lv_ldc2 (v := 499917810803) X.hx X.hb X.hown (X.hts _ tw_1297) dX11_bookLine_139 ?_
              obtain ⟨r_69, hc_70, hf⟩ := bd_i hf
              refine r_cvi (As := [.long 499917810803]) (rest := []) X sm_X11_220 (c_X11_isWord l G N uY iY_9 (va_up sY 8 g_13) tY jY_10 499917810803 hc_70) hP hD hS hA 0 rfl rfl [0, 1, 2, 3, 4, 5, 6, 7, 8, 9, 10, 11, 12, 13, 14, 15, 16, 17, 18, 19, 20] rfl rfl rfl (wo := (gY G uY iY_9 (va_up sY 8 g_13) tY jY_10)) rfl rfl hl.1 (lv_room (Nat.le_of_ble_eq_true rfl)) ⟨Nat.le_of_ble_eq_true rfl, Nat.le_of_ble_eq_true rfl⟩ ⟨Nat.zero_le _, Nat.zero_le _⟩ dX11_bookLine_142 (fun H locs hP hD hS => ?_)
              refine lv_if_eq (tgt := 152) X.hx X.hb dX11_bookLine_145 (by decide) (fun hc_71 => ?_) (fun hc_71 => ?_)
              · replace hf := if_t hf hc_71
                refine lv_iconst (v := (-1)) X.hx X.hb dX11_bookLine_152 (by decide) ?_
                exact hj_18 _ _ _ _ hf hP hD hS (lv_sub hl [1, 2, 0] rfl)
              · replace hf := if_f hf hc_71
                refine lv_iconst (v := 3) X.hx X.hb dX11_bookLine_148 (by decide) ?_
                refine lv_goto (tgt := 153) X.hx X.hb dX11_bookLine_149 (by decide) ?_
                exact hj_18 _ _ _ _ hf hP hD hS (lv_sub hl [1, 2, 0] rfl)
            · replace hf := if_f hf hc_68
              refine lv_iconst (v := 2) X.hx X.hb dX11_bookLine_134 (by decide) ?_
              refine lv_goto (tgt := 153) X.hx X.hb dX11_bookLine_135 (by decide) ?_
              exact hj_18 _ _ _ _ hf hP hD hS (lv_sub hl [1, 2, 0] rfl)
          · replace hf := if_f hf hc_65
            refine lv_iconst (v := 1) X.hx X.hb dX11_bookLine_120 (by decide) ?_
            refine lv_goto (tgt := 153) X.hx X.hb dX11_bookLine_121 (by decide) ?_
            exact hj_18 _ _ _ _ hf hP hD hS (lv_sub hl [1, 2, 0] rfl)
        · replace hf := if_f hf hc_62
          refine lv_iconst (v := 0) X.hx X.hb dX11_bookLine_106 (by decide) ?_
          refine lv_goto (tgt := 153) X.hx X.hb dX11_bookLine_107 (by decide) ?_
          exact hj_18 _ _ _ _ hf hP hD hS (lv_sub hl [1, 2, 0] rfl)
      · replace hf := if_f hf hc_14
        refine lv_aload_n X.hx X.hb dX11_bookLine_70 rfl (lv_at hl 1 rfl) ?_
        refine lv_iconst (v := 1) X.hx X.hb dX11_bookLine_71 (by decide) ?_
        refine lv_bipush (v := 60) X.hx X.hb dX11_bookLine_72 (by decide) ?_
        obtain ⟨⟨r_72, iY_73, jY_74⟩, hc_75, hf⟩ := bd_i hf
        refine r_cvi (As := [.int 1, .int 60]) (rest := []) X sm_X11_196 (c_X11_takes l G N uY iY_9 (va_up sY 8 g_13) tY jY_10 1 60 hc_75) hP hD hS hA 0 rfl rfl [0, 1, 2, 3, 4, 5, 6, 7, 8, 9, 10, 11, 12, 13, 14, 15, 16, 17, 18, 19, 20] rfl rfl rfl (wo := (gY G uY iY_73 (va_up sY 8 g_13) tY jY_74)) rfl rfl hl.1 (lv_room (Nat.le_of_ble_eq_true rfl)) ⟨Nat.le_of_ble_eq_true rfl, Nat.le_of_ble_eq_true rfl⟩ ⟨Nat.zero_le _, Nat.zero_le _⟩ dX11_bookLine_74 (fun H locs hP hD hS => ?_)
        refine lv_if_ne (tgt := 82) X.hx X.hb dX11_bookLine_77 (by decide) (fun hc_76 => ?_) (fun hc_76 => ?_)
        · replace hf := if_f hf hc_76
          refine lv_aload_n X.hx X.hb dX11_bookLine_82 rfl (lv_at hl 1 rfl) ?_
          refine gf_X11_40 X hP 0 rfl (v := .ref (uY 9)) rfl dX11_bookLine_83 ?_
          refine lv_iload_n X.hx X.hb dX11_bookLine_86 rfl (lv_at hl 2 rfl) ?_
          refine lv_iconst (v := 1) X.hx X.hb dX11_bookLine_87 (by decide) ?_
          refine lv_iadd X.hx X.hb dX11_bookLine_88 ?_
          refine lv_aload_n X.hx X.hb dX11_bookLine_89 rfl (lv_at hl 1 rfl) ?_
          refine gf_X11_193 X hP 0 rfl (v := .int (iY_73 18)) rfl dX11_bookLine_90 ?_
          obtain ⟨hi_77, hf⟩ := ck_i hf
          obtain ⟨g_78, eg_78, hf⟩ := nv_i hf
          refine r_iast X hP hD hS 4 (f := g_13) rfl hi_77 (wo := (gY G uY iY_73 (va_up sY 8 g_78) tY jY_74)) (by subst eg_78; rfl) dX11_bookLine_93 (fun H locs hP hD hS => ?_)
          refine lv_iconst (v := 1) X.hx X.hb dX11_bookLine_94 (by decide) ?_
          cases hf
          subst hQ
          exact r_zret X hP hD hS (by decide) dX11_bookLine_95
        · replace hf := if_t hf hc_76
          refine lv_iconst (v := 0) X.hx X.hb dX11_bookLine_80 (by decide) ?_
          cases hf
          subst hQ
          exact r_zret X hP hD hS (by decide) dX11_bookLine_81
    · replace hf := if_t hf hc_8
      refine lv_aload_n X.hx X.hb dX11_bookLine_44 rfl (lv_at hl 0 rfl) ?_
      refine lv_iconst (v := 4) X.hx X.hb dX11_bookLine_45 (by decide) ?_
      obtain ⟨⟨r_79, iY_80⟩, hc_81, hf⟩ := bd_i hf
      refine r_cvi (As := [.int 4]) (rest := []) X sm_X11_183 (c_X11_bad l G N uY iY_7 sY tY jY 4 hc_81) hP hD hS hA 0 rfl rfl [0, 1, 2, 3, 4, 5, 6, 7, 8, 9, 10, 11, 12, 13, 14, 15, 16, 17, 18, 19, 20] rfl rfl rfl (wo := (gY G uY iY_80 sY tY jY)) rfl rfl hl.1 (lv_room (Nat.le_of_ble_eq_true rfl)) ⟨Nat.le_of_ble_eq_true rfl, Nat.le_of_ble_eq_true rfl⟩ ⟨Nat.zero_le _, Nat.zero_le _⟩ dX11_bookLine_46 (fun H locs hP hD hS => ?_)
      obtain ⟨hb_82, hf⟩ := zb_i hf
      cases hf
      subst hQ
      exact r_zret X hP hD hS hb_82 dX11_bookLine_49
  refine lv_if_ne (tgt := 35) X.hx X.hb dX11_bookLine_16 (by decide) (fun hc_83 => ?_) (fun hc_83 => ?_)
  · replace hf := if_f hf hc_83
    exact hj_5 _ _ _ _ hf hP hD hS (lv_sub hl [2, 1, 0] rfl)
  · replace hf := if_t hf hc_83
    refine lv_aload_n X.hx X.hb dX11_bookLine_19 rfl (lv_at hl 2 rfl) ?_
    refine lv_iconst (v := 0) X.hx X.hb dX11_bookLine_20 (by decide) ?_
    refine lv_aload_n X.hx X.hb dX11_bookLine_21 rfl (lv_at hl 2 rfl) ?_
    refine gf_X11_33 X hP 0 rfl (v := .ref (uY 7)) rfl dX11_bookLine_22 ?_
    refine lv_iconst (v := 0) X.hx X.hb dX11_bookLine_25 (by decide) ?_
    refine r_iald X hP 2 (f := (sY 6)) rfl (vp_c rfl) dX11_bookLine_26 ?_
    refine W.eq (g2 := F0 m 27 ls [.int ((sY 6) 0), .int 0, .ref (uY 0)]) rfl ?_
    obtain ⟨⟨r_84, iY_85⟩, hc_86, hf⟩ := bd_i hf
    refine r_cvi (As := [.int 0, .int ((sY 6) 0)]) (rest := []) X sm_X11_208 (c_X11_looksAt l G N uY iY sY tY jY 0 ((sY 6) 0) hc_86) hP hD hS hA 0 rfl rfl [0, 1, 2, 3, 4, 5, 6, 7, 8, 9, 10, 11, 12, 13, 14, 15, 16, 17, 18, 19, 20] rfl rfl rfl (wo := (gY G uY iY_85 sY tY jY)) rfl rfl hl.1 (lv_room (Nat.le_of_ble_eq_true rfl)) ⟨Nat.le_of_ble_eq_true rfl, Nat.le_of_ble_eq_true rfl⟩ ⟨Nat.zero_le _, Nat.zero_le _⟩ dX11_bookLine_27 (fun H locs hP hD hS => ?_)
    refine lv_if_ne (tgt := 35) X.hx X.hb dX11_bookLine_30 (by decide) (fun hc_87 => ?_) (fun hc_87 => ?_)
    · replace hf := if_f hf hc_87
      exact hj_5 _ _ _ _ hf hP hD hS (lv_sub hl [2, 1, 0] rfl)
    · replace hf := if_t hf hc_87
      refine lv_iconst (v := 0) X.hx X.hb dX11_bookLine_33 (by decide) ?_
      cases hf
      subst hQ
      exact r_zret X hP hD hS (by decide) dX11_bookLine_34

def f_X11_does (N : Nat) (iY : Nat → Int32) (sY : Nat → Nat → Int32) (tY : Nat → Nat → Int64) (jY : Nat → Int64) (p1 : Int32) (p2 : Int32) (p3 : Int32) (p4 : Int32) : Option (Int32 × (Nat → Nat → Int32)) :=
  jn (fun (z : (Int32) × (Nat → Nat → Int32)) => match z with | (x5_4, sY_5) => (if x5_4 ≤ 0 then some (0, sY_5) else some ((((10 : Int32) * p1) + x5_4), sY_5))) (fun K_1 => (if p1 = 0 then bd (f_X11_whyBuy N iY sY tY jY p2 p3 p4) (fun r_8 => (if r_8 = 0 then bd (f_X11_buys N iY sY tY jY p2 p3 p4) (fun sY_11 => K_1 (r_8, sY_11)) else K_1 (r_8, sY))) else (if p1 = 1 then bd (f_X11_whyNod N iY sY tY jY p2 p3) (fun r_14 => (if r_14 = 0 then bd (f_X11_nods N iY sY tY jY p2 p3) (fun sY_17 => K_1 (r_14, sY_17)) else K_1 (r_14, sY))) else (if p1 = 2 then bd (f_X11_whyVeil N iY sY tY jY p2) (fun r_20 => (if r_20 = 0 then bd (f_X11_veils N iY sY tY jY p2) (fun sY_23 => K_1 (r_20, sY_23)) else K_1 (r_20, sY))) else (if p1 = 3 then bd (f_X11_whyTell N iY sY tY jY p2 p3 p4) (fun r_26 => (if r_26 = 0 then bd (f_X11_meets N iY sY tY jY p3 p4) (fun sY_29 => K_1 (r_26, sY_29)) else K_1 (r_26, sY))) else (if (((sY 6) 131) + p2) ≤ 400 then bd (f_X11_goesOn N iY sY tY jY p2) (fun (r_32, sY_33) => K_1 (0, sY_33)) else some (41, sY)))))))
set_option maxHeartbeats 4000000 in
set_option maxRecDepth 100000 in
theorem c_X11_does (l : Launch) (G : GT) (N : Nat) (uY : Nat → Nat) (iY : Nat → Int32) (sY : Nat → Nat → Int32) (tY : Nat → Nat → Int64) (jY : Nat → Int64) (p1 : Int32) (p2 : Int32) (p3 : Int32) (p4 : Int32) {r : Int32} {sY' : Nat → Nat → Int32} (hf : f_X11_does N iY sY tY jY p1 p2 p3 p4 = some (r, sY')) : CI l G yX11_does cX11_does 6 .int 4 [.ref (uY 0), .int p1, .int p2, .int p3, .int p4] (gY G uY iY sY tY jY) r (gY G uY iY sY' tY jY) := by
  refine CI.of (by decide) (Nat.le_of_ble_eq_true rfl) ?_
  intro p e s m args below meth c A X hA hP hD hS ls hl
  have hl : lv_has ls 6 [(0, .ref (uY 0)), (1, .int p1), (2, .int p2), (3, .int p3), (4, .int p4)] := hl
  generalize hQ : MQ below (QI G A r (gY G uY iY sY' tY jY)) args s 0 0 A = QQ
  unfold f_X11_does at hf
  refine lv_iconst (v := 0) X.hx X.hb dX11_does_0 (by decide) ?_
  refine lv_istore (lv' := [(5, .int 0), (0, .ref (uY 0)), (1, .int p1), (2, .int p2), (3, .int p3), (4, .int p4)]) X.hx X.hb dX11_does_1 hl (by decide) rfl (fun ls hl => ?_)
  refine lv_iload_n X.hx X.hb dX11_does_3 rfl (lv_at hl 2 rfl) ?_
  obtain ⟨K_1, eK_3, hf⟩ := jn_i hf
  have hj_2 : ∀ (x5_4 : Int32) (sY_5 : Nat → Nat → Int32) (H : Heap) (locs : List Loc) (ls : Array Slot), K_1 (x5_4, sY_5) = some (r, sY') → va_P G.1 vwCl (gY G uY iY sY_5 tY jY) H → va_D A (gY G uY iY sY_5 tY jY) → va_S A s.heap H locs → lv_has ls 6 [(1, .int p1), (5, .int x5_4)] → W p l e (RM 4) s m args below meth c H locs 0 0 QQ (F0 m 154 ls []) := by
    intro x5_4 sY_5 H locs ls hf hP hD hS hl
    rw [eK_3] at hf
    try dsimp only at hf
    refine lv_iload X.hx X.hb dX11_does_154 (lv_at hl 1 rfl) ?_
    refine lv_if_le (tgt := 169) X.hx X.hb dX11_does_156 (by decide) (fun hc_6 => ?_) (fun hc_6 => ?_)
    · replace hf := if_t hf hc_6
      refine lv_iconst (v := 0) X.hx X.hb dX11_does_169 (by decide) ?_
      cases hf
      subst hQ
      exact r_iret X hP hD hS dX11_does_170
    · replace hf := if_f hf hc_6
      refine lv_bipush (v := 10) X.hx X.hb dX11_does_159 (by decide) ?_
      refine lv_iload_n X.hx X.hb dX11_does_161 rfl (lv_at hl 0 rfl) ?_
      refine lv_imul X.hx X.hb dX11_does_162 ?_
      refine lv_iload X.hx X.hb dX11_does_163 (lv_at hl 1 rfl) ?_
      refine lv_iadd X.hx X.hb dX11_does_165 ?_
      refine lv_goto (tgt := 170) X.hx X.hb dX11_does_166 (by decide) ?_
      cases hf
      subst hQ
      exact r_iret X hP hD hS dX11_does_170
  by_cases hc_7 : p1 = 0
  · replace hf := if_t hf hc_7
    refine lv_tableIn (tgt := 36) X.hx X.hb dX11_does_4 (by rw [hc_7]; decide) (by rw [hc_7]; decide) (by rw [hc_7]; rfl) (by decide) ?_
    refine lv_aload_n X.hx X.hb dX11_does_36 rfl (lv_at hl 1 rfl) ?_
    refine lv_iload_n X.hx X.hb dX11_does_37 rfl (lv_at hl 3 rfl) ?_
    refine lv_iload_n X.hx X.hb dX11_does_38 rfl (lv_at hl 4 rfl) ?_
    refine lv_iload X.hx X.hb dX11_does_39 (lv_at hl 5 rfl) ?_
    obtain ⟨r_8, hc_9, hf⟩ := bd_i hf
    refine r_cvi (As := [.int p2, .int p3, .int p4]) (rest := []) X sm_X11_306 (c_X11_whyBuy l G N uY iY sY tY jY p2 p3 p4 hc_9) hP hD hS hA 0 rfl rfl [0, 1, 2, 3, 4, 5, 6, 7, 8, 9, 10, 11, 12, 13, 14, 15, 16, 17, 18, 19, 20] rfl rfl rfl (wo := (gY G uY iY sY tY jY)) rfl rfl hl.1 (lv_room (Nat.le_of_ble_eq_true rfl)) ⟨Nat.le_of_ble_eq_true rfl, Nat.le_of_ble_eq_true rfl⟩ ⟨Nat.zero_le _, Nat.zero_le _⟩ dX11_does_41 (fun H locs hP hD hS => ?_)
    refine lv_istore (lv' := [(5, .int r_8), (0, .ref (uY 0)), (1, .int p1), (2, .int p2), (3, .int p3), (4, .int p4)]) X.hx X.hb dX11_does_44 hl (by decide) rfl (fun ls hl => ?_)
    refine lv_iload X.hx X.hb dX11_does_46 (lv_at hl 0 rfl) ?_
    refine lv_if_ne (tgt := 154) X.hx X.hb dX11_does_48 (by decide) (fun hc_10 => ?_) (fun hc_10 => ?_)
    · replace hf := if_f hf hc_10
      exact hj_2 _ _ _ _ _ hf hP hD hS (lv_sub hl [2, 0] rfl)
    · replace hf := if_t hf hc_10
      refine lv_aload_n X.hx X.hb dX11_does_51 rfl (lv_at hl 1 rfl) ?_
      refine lv_iload_n X.hx X.hb dX11_does_52 rfl (lv_at hl 3 rfl) ?_
      refine lv_iload_n X.hx X.hb dX11_does_53 rfl (lv_at hl 4 rfl) ?_
      refine lv_iload X.hx X.hb dX11_does_54 (lv_at hl 5 rfl) ?_
      obtain ⟨sY_11, hc_12, hf⟩ := bd_i hf
      refine r_cvv (As := [.int p2, .int p3, .int p4]) (rest := []) X sm_X11_313 (c_X11_buys l G N uY iY sY tY jY p2 p3 p4 hc_12) hP hD hS hA 0 rfl rfl [0, 1, 2, 3, 4, 5, 6, 7, 8, 9, 10, 11, 12, 13, 14, 15, 16, 17, 18, 19, 20] rfl rfl rfl (wo := (gY G uY iY sY_11 tY jY)) rfl rfl hl.1 (lv_room (Nat.le_of_ble_eq_true rfl)) ⟨Nat.le_of_ble_eq_true rfl, Nat.le_of_ble_eq_true rfl⟩ ⟨Nat.zero_le _, Nat.zero_le _⟩ dX11_does_56 (fun H locs hP hD hS => ?_)
      refine lv_goto (tgt := 154) X.hx X.hb dX11_does_59 (by decide) ?_
      exact hj_2 _ _ _ _ _ hf hP hD hS (lv_sub hl [2, 0] rfl)
  replace hf := if_f hf hc_7
  by_cases hc_13 : p1 = 1
  · replace hf := if_t hf hc_13
    refine lv_tableIn (tgt := 62) X.hx X.hb dX11_does_4 (by rw [hc_13]; decide) (by rw [hc_13]; decide) (by rw [hc_13]; rfl) (by decide) ?_
    refine lv_aload_n X.hx X.hb dX11_does_62 rfl (lv_at hl 1 rfl) ?_
    refine lv_iload_n X.hx X.hb dX11_does_63 rfl (lv_at hl 3 rfl) ?_
    refine lv_iload_n X.hx X.hb dX11_does_64 rfl (lv_at hl 4 rfl) ?_
    obtain ⟨r_14, hc_15, hf⟩ := bd_i hf
    refine r_cvi (As := [.int p2, .int p3]) (rest := []) X sm_X11_317 (c_X11_whyNod l G N uY iY sY tY jY p2 p3 hc_15) hP hD hS hA 0 rfl rfl [0, 1, 2, 3, 4, 5, 6, 7, 8, 9, 10, 11, 12, 13, 14, 15, 16, 17, 18, 19, 20] rfl rfl rfl (wo := (gY G uY iY sY tY jY)) rfl rfl hl.1 (lv_room (Nat.le_of_ble_eq_true rfl)) ⟨Nat.le_of_ble_eq_true rfl, Nat.le_of_ble_eq_true rfl⟩ ⟨Nat.zero_le _, Nat.zero_le _⟩ dX11_does_65 (fun H locs hP hD hS => ?_)
    refine lv_istore (lv' := [(5, .int r_14), (0, .ref (uY 0)), (1, .int p1), (2, .int p2), (3, .int p3), (4, .int p4)]) X.hx X.hb dX11_does_68 hl (by decide) rfl (fun ls hl => ?_)
    refine lv_iload X.hx X.hb dX11_does_70 (lv_at hl 0 rfl) ?_
    refine lv_if_ne (tgt := 154) X.hx X.hb dX11_does_72 (by decide) (fun hc_16 => ?_) (fun hc_16 => ?_)
    · replace hf := if_f hf hc_16
      exact hj_2 _ _ _ _ _ hf hP hD hS (lv_sub hl [2, 0] rfl)
    · replace hf := if_t hf hc_16
      refine lv_aload_n X.hx X.hb dX11_does_75 rfl (lv_at hl 1 rfl) ?_
      refine lv_iload_n X.hx X.hb dX11_does_76 rfl (lv_at hl 3 rfl) ?_
      refine lv_iload_n X.hx X.hb dX11_does_77 rfl (lv_at hl 4 rfl) ?_
      obtain ⟨sY_17, hc_18, hf⟩ := bd_i hf
      refine r_cvv (As := [.int p2, .int p3]) (rest := []) X sm_X11_320 (c_X11_nods l G N uY iY sY tY jY p2 p3 hc_18) hP hD hS hA 0 rfl rfl [0, 1, 2, 3, 4, 5, 6, 7, 8, 9, 10, 11, 12, 13, 14, 15, 16, 17, 18, 19, 20] rfl rfl rfl (wo := (gY G uY iY sY_17 tY jY)) rfl rfl hl.1 (lv_room (Nat.le_of_ble_eq_true rfl)) ⟨Nat.le_of_ble_eq_true rfl, Nat.le_of_ble_eq_true rfl⟩ ⟨Nat.zero_le _, Nat.zero_le _⟩ dX11_does_78 (fun H locs hP hD hS => ?_)
      refine lv_goto (tgt := 154) X.hx X.hb dX11_does_81 (by decide) ?_
      exact hj_2 _ _ _ _ _ hf hP hD hS (lv_sub hl [2, 0] rfl)
  replace hf := if_f hf hc_13
  by_cases hc_19 : p1 = 2
  · replace hf := if_t hf hc_19
    refine lv_tableIn (tgt := 84) X.hx X.hb dX11_does_4 (by rw [hc_19]; decide) (by rw [hc_19]; decide) (by rw [hc_19]; rfl) (by decide) ?_
    refine lv_aload_n X.hx X.hb dX11_does_84 rfl (lv_at hl 1 rfl) ?_
    refine lv_iload_n X.hx X.hb dX11_does_85 rfl (lv_at hl 3 rfl) ?_
    obtain ⟨r_20, hc_21, hf⟩ := bd_i hf
    refine r_cvi (As := [.int p2]) (rest := []) X sm_X11_323 (c_X11_whyVeil l G N uY iY sY tY jY p2 hc_21) hP hD hS hA 0 rfl rfl [0, 1, 2, 3, 4, 5, 6, 7, 8, 9, 10, 11, 12, 13, 14, 15, 16, 17, 18, 19, 20] rfl rfl rfl (wo := (gY G uY iY sY tY jY)) rfl rfl hl.1 (lv_room (Nat.le_of_ble_eq_true rfl)) ⟨Nat.le_of_ble_eq_true rfl, Nat.le_of_ble_eq_true rfl⟩ ⟨Nat.zero_le _, Nat.zero_le _⟩ dX11_does_86 (fun H locs hP hD hS => ?_)
    refine lv_istore (lv' := [(5, .int r_20), (0, .ref (uY 0)), (1, .int p1), (2, .int p2), (3, .int p3), (4, .int p4)]) X.hx X.hb dX11_does_89 hl (by decide) rfl (fun ls hl => ?_)
    refine lv_iload X.hx X.hb dX11_does_91 (lv_at hl 0 rfl) ?_
    refine lv_if_ne (tgt := 154) X.hx X.hb dX11_does_93 (by decide) (fun hc_22 => ?_) (fun hc_22 => ?_)
    · replace hf := if_f hf hc_22
      exact hj_2 _ _ _ _ _ hf hP hD hS (lv_sub hl [2, 0] rfl)
    · replace hf := if_t hf hc_22
      refine lv_aload_n X.hx X.hb dX11_does_96 rfl (lv_at hl 1 rfl) ?_
      refine lv_iload_n X.hx X.hb dX11_does_97 rfl (lv_at hl 3 rfl) ?_
      obtain ⟨sY_23, hc_24, hf⟩ := bd_i hf
      refine r_cvv (As := [.int p2]) (rest := []) X sm_X11_326 (c_X11_veils l G N uY iY sY tY jY p2 hc_24) hP hD hS hA 0 rfl rfl [0, 1, 2, 3, 4, 5, 6, 7, 8, 9, 10, 11, 12, 13, 14, 15, 16, 17, 18, 19, 20] rfl rfl rfl (wo := (gY G uY iY sY_23 tY jY)) rfl rfl hl.1 (lv_room (Nat.le_of_ble_eq_true rfl)) ⟨Nat.le_of_ble_eq_true rfl, Nat.le_of_ble_eq_true rfl⟩ ⟨Nat.zero_le _, Nat.zero_le _⟩ dX11_does_98 (fun H locs hP hD hS => ?_)
      refine lv_goto (tgt := 154) X.hx X.hb dX11_does_101 (by decide) ?_
      exact hj_2 _ _ _ _ _ hf hP hD hS (lv_sub hl [2, 0] rfl)
  replace hf := if_f hf hc_19
  by_cases hc_25 : p1 = 3
  · replace hf := if_t hf hc_25
    refine lv_tableIn (tgt := 104) X.hx X.hb dX11_does_4 (by rw [hc_25]; decide) (by rw [hc_25]; decide) (by rw [hc_25]; rfl) (by decide) ?_
    refine lv_aload_n X.hx X.hb dX11_does_104 rfl (lv_at hl 1 rfl) ?_
    refine lv_iload_n X.hx X.hb dX11_does_105 rfl (lv_at hl 3 rfl) ?_
    refine lv_iload_n X.hx X.hb dX11_does_106 rfl (lv_at hl 4 rfl) ?_
    refine lv_iload X.hx X.hb dX11_does_107 (lv_at hl 5 rfl) ?_
    obtain ⟨r_26, hc_27, hf⟩ := bd_i hf
    refine r_cvi (As := [.int p2, .int p3, .int p4]) (rest := []) X sm_X11_329 (c_X11_whyTell l G N uY iY sY tY jY p2 p3 p4 hc_27) hP hD hS hA 0 rfl rfl [0, 1, 2, 3, 4, 5, 6, 7, 8, 9, 10, 11, 12, 13, 14, 15, 16, 17, 18, 19, 20] rfl rfl rfl (wo := (gY G uY iY sY tY jY)) rfl rfl hl.1 (lv_room (Nat.le_of_ble_eq_true rfl)) ⟨Nat.le_of_ble_eq_true rfl, Nat.le_of_ble_eq_true rfl⟩ ⟨Nat.zero_le _, Nat.zero_le _⟩ dX11_does_109 (fun H locs hP hD hS => ?_)
    refine lv_istore (lv' := [(5, .int r_26), (0, .ref (uY 0)), (1, .int p1), (2, .int p2), (3, .int p3), (4, .int p4)]) X.hx X.hb dX11_does_112 hl (by decide) rfl (fun ls hl => ?_)
    refine lv_iload X.hx X.hb dX11_does_114 (lv_at hl 0 rfl) ?_
    refine lv_if_ne (tgt := 154) X.hx X.hb dX11_does_116 (by decide) (fun hc_28 => ?_) (fun hc_28 => ?_)
    · replace hf := if_f hf hc_28
      exact hj_2 _ _ _ _ _ hf hP hD hS (lv_sub hl [2, 0] rfl)
    · replace hf := if_t hf hc_28
      refine lv_aload_n X.hx X.hb dX11_does_119 rfl (lv_at hl 1 rfl) ?_
      refine lv_iload_n X.hx X.hb dX11_does_120 rfl (lv_at hl 4 rfl) ?_
      refine lv_iload X.hx X.hb dX11_does_121 (lv_at hl 5 rfl) ?_
      obtain ⟨sY_29, hc_30, hf⟩ := bd_i hf
      refine r_cvv (As := [.int p3, .int p4]) (rest := []) X sm_X11_296 (c_X11_meets l G N uY iY sY tY jY p3 p4 hc_30) hP hD hS hA 0 rfl rfl [0, 1, 2, 3, 4, 5, 6, 7, 8, 9, 10, 11, 12, 13, 14, 15, 16, 17, 18, 19, 20] rfl rfl rfl (wo := (gY G uY iY sY_29 tY jY)) rfl rfl hl.1 (lv_room (Nat.le_of_ble_eq_true rfl)) ⟨Nat.le_of_ble_eq_true rfl, Nat.le_of_ble_eq_true rfl⟩ ⟨Nat.zero_le _, Nat.zero_le _⟩ dX11_does_123 (fun H locs hP hD hS => ?_)
      refine lv_goto (tgt := 154) X.hx X.hb dX11_does_126 (by decide) ?_
      exact hj_2 _ _ _ _ _ hf hP hD hS (lv_sub hl [2, 0] rfl)
  replace hf := if_f hf hc_25
  refine r_tbd (tgt := 129) X.hx X.hb dX11_does_4 [0, 1, 2, 3] (by decide) (List.forall_mem_cons.mpr ⟨lv_neT hc_7 rfl, List.forall_mem_cons.mpr ⟨lv_neT hc_13 rfl, List.forall_mem_cons.mpr ⟨lv_neT hc_19 rfl, List.forall_mem_cons.mpr ⟨lv_neT hc_25 rfl, fun _ h => absurd h List.not_mem_nil⟩⟩⟩⟩) (by decide) ?_
  refine lv_aload_n X.hx X.hb dX11_does_129 rfl (lv_at hl 1 rfl) ?_
  refine gf_X11_33 X hP 0 rfl (v := .ref (uY 7)) rfl dX11_does_130 ?_
  refine lv_sipush (v := 131) X.hx X.hb dX11_does_133 (by decide) ?_
  refine r_iald X hP 2 (f := (sY 6)) rfl (vp_c rfl) dX11_does_136 ?_
  refine W.eq (g2 := F0 m 137 ls [.int ((sY 6) 131)]) rfl ?_
  refine lv_iload_n X.hx X.hb dX11_does_137 rfl (lv_at hl 3 rfl) ?_
  refine lv_iadd X.hx X.hb dX11_does_138 ?_
  refine lv_sipush (v := 400) X.hx X.hb dX11_does_139 (by decide) ?_
  refine lv_icmp_le (tgt := 148) X.hx X.hb dX11_does_142 (by decide) (fun hc_31 => ?_) (fun hc_31 => ?_)
  · replace hf := if_t hf hc_31
    refine lv_aload_n X.hx X.hb dX11_does_148 rfl (lv_at hl 1 rfl) ?_
    refine lv_iload_n X.hx X.hb dX11_does_149 rfl (lv_at hl 3 rfl) ?_
    obtain ⟨⟨r_32, sY_33⟩, hc_34, hf⟩ := bd_i hf
    refine r_cvi (As := [.int p2]) (rest := []) X sm_X11_332 (c_X11_goesOn l G N uY iY sY tY jY p2 hc_34) hP hD hS hA 0 rfl rfl [0, 1, 2, 3, 4, 5, 6, 7, 8, 9, 10, 11, 12, 13, 14, 15, 16, 17, 18, 19, 20] rfl rfl rfl (wo := (gY G uY iY sY_33 tY jY)) rfl rfl hl.1 (lv_room (Nat.le_of_ble_eq_true rfl)) ⟨Nat.le_of_ble_eq_true rfl, Nat.le_of_ble_eq_true rfl⟩ ⟨Nat.zero_le _, Nat.zero_le _⟩ dX11_does_150 (fun H locs hP hD hS => ?_)
    refine lv_pop X.hx X.hb dX11_does_153 rfl ?_
    exact hj_2 _ _ _ _ _ hf hP hD hS (lv_sub hl [2, 0] rfl)
  · replace hf := if_f hf hc_31
    refine lv_bipush (v := 41) X.hx X.hb dX11_does_145 (by decide) ?_
    cases hf
    subst hQ
    exact r_iret X hP hD hS dX11_does_147

def f_X11_book_250 (N : Nat) (iY : Nat → Int32) (tY : Nat → Nat → Int64) (jY : Nat → Int64) (v1 : Int32) (v2 : Int32) (K_30 : ((Nat → Int32) × (Nat → Nat → Int32)) → Option (Int32 × (Nat → Int32) × (Nat → Nat → Int32) × (Nat → Int64))) : Nat → (Nat → Nat → Int32) → (Int32) → Option (Int32 × (Nat → Int32) × (Nat → Nat → Int32) × (Nat → Int64))
  | 0, _, _ => none
  | k + 1, sY, v3 => (if (145 : Int32) ≤ v3 then K_30 (iY, sY) else ck v3 145 (ck (((145 : Int32) * ((iY 23) - 1)) + v3) 1160 (nv (upd (sY 21) (ix (((145 : Int32) * ((iY 23) - 1)) + v3)) ((sY 22) (ix v3))) (fun g_53 => f_X11_book_250 N iY tY jY v1 v2 K_30 k (va_up sY 21 g_53) (v3 + 1)))))
def f_X11_book_111 (N : Nat) (iY : Nat → Int32) (tY : Nat → Nat → Int64) (jY : Nat → Int64) (v1 : Int32) (K_21 : ((Int32) × (Nat → Nat → Int32)) → Option (Int32 × (Nat → Int32) × (Nat → Nat → Int32) × (Nat → Int64))) : Nat → (Nat → Nat → Int32) → (Int32) → (Int32) → Option (Int32 × (Nat → Int32) × (Nat → Nat → Int32) × (Nat → Int64))
  | 0, _, _, _ => none
  | k + 1, sY, v2, v3 => (if (iY 39) ≤ v3 then K_21 (v2, sY) else (if (0 : Int32) ≤ v2 then K_21 (v2, sY) else ck ((4 : Int32) * v3) 160 (ck (((4 : Int32) * v3) + 1) 160 (ck (((4 : Int32) * v3) + 2) 160 (ck (((4 : Int32) * v3) + 3) 160 (bd (f_X11_does N iY sY tY jY ((sY 8) (ix ((4 : Int32) * v3))) ((sY 8) (ix (((4 : Int32) * v3) + 1))) ((sY 8) (ix (((4 : Int32) * v3) + 2))) ((sY 8) (ix (((4 : Int32) * v3) + 3)))) (fun (r_81, sY_82) => nv (upd (sY_82 40) 0 r_81) (fun g_84 => jn (fun (z : (Int32) × (Nat → Nat → Int32)) => match z with | (x2_88, sY_89) => f_X11_book_111 N iY tY jY v1 K_21 k sY_89 x2_88 (v3 + 1)) (fun K_85 => (if (g_84 0) ≤ 0 then nv (upd g_84 1 ((g_84 1) + 1)) (fun g_91 => K_85 (v2, (va_up sY_82 40 g_91))) else K_85 (v3, (va_up sY_82 40 g_84))))))))))))
def f_X11_book_89 (N : Nat) (iY : Nat → Int32) (tY : Nat → Nat → Int64) (jY : Nat → Int64) (v1 : Int32) (K_17 : ((Nat → Nat → Int32)) → Option (Int32 × (Nat → Int32) × (Nat → Nat → Int32) × (Nat → Int64))) : Nat → (Nat → Nat → Int32) → (Int32) → Option (Int32 × (Nat → Int32) × (Nat → Nat → Int32) × (Nat → Int64))
  | 0, _, _ => none
  | k + 1, sY, v2 => (if (4 : Int32) ≤ v2 then K_17 sY else ck v2 4 (nv (upd (sY 40) (ix v2) 0) (fun g_100 => f_X11_book_89 N iY tY jY v1 K_17 k (va_up sY 40 g_100) (v2 + 1))))
def f_X11_book_39 (N : Nat) (tY : Nat → Nat → Int64) (v1 : Int32) (K_101 : ((Nat → Int32) × (Nat → Nat → Int32) × (Nat → Int64)) → Option (Int32 × (Nat → Int32) × (Nat → Nat → Int32) × (Nat → Int64))) (K_9 : ((Nat → Int32) × (Nat → Nat → Int32) × (Nat → Int64)) → Option (Int32 × (Nat → Int32) × (Nat → Nat → Int32) × (Nat → Int64))) : Nat → (Nat → Int32) → (Nat → Nat → Int32) → (Nat → Int64) → Option (Int32 × (Nat → Int32) × (Nat → Nat → Int32) × (Nat → Int64))
  | 0, _, _, _ => none
  | k + 1, iY, sY, jY => (if (iY 11) = 0 then K_9 (iY, sY, jY) else bd (f_X11_bookLine N iY sY tY jY) (fun (r_124, iY_125, sY_126, jY_127) => (if r_124 = 0 then K_101 (iY_125, sY_126, jY_127) else bd (f_X11_sign N iY_125 sY_126 tY jY_127 59) (fun (r_130, iY_131, jY_132) => (if r_130 = 0 then K_101 (iY_131, sY_126, jY_132) else f_X11_book_39 N tY v1 K_101 K_9 k (va_up iY_131 39 ((iY_131 39) + 1)) sY_126 jY_132)))))
def f_X11_book (N : Nat) (iY : Nat → Int32) (sY : Nat → Nat → Int32) (tY : Nat → Nat → Int64) (jY : Nat → Int64) (p1 : Int32) : Option (Int32 × (Nat → Int32) × (Nat → Nat → Int32) × (Nat → Int64)) :=
  bd (f_X11_isIn N p1 0 1) (fun r_1 => (if r_1 = 0 then some ((-1000), (va_up iY 0 0), sY, jY) else bd (f_X11_taken N (va_up iY 0 0) sY tY jY 400) (fun iY_4 => bd (f_X11_next N (va_up (va_up iY_4 15 0) 39 0) sY tY jY) (fun (iY_6, jY_7) => jn (fun (z : (Nat → Int32) × (Nat → Nat → Int32) × (Nat → Int64)) => match z with | (iY_12, sY_13, jY_14) => bd (f_X11_tries N iY_12 sY_13 tY jY_14) (fun sY_15 => jn (fun (z : (Nat → Nat → Int32)) => match z with | sY_20 => jn (fun (z : (Int32) × (Nat → Nat → Int32)) => match z with | (x2_24, sY_25) => nv (upd (sY_25 40) 2 ((sY_25 6) 131)) (fun g_26 => bd (f_X11_fed N iY_12 (va_up sY_25 40 g_26) tY jY_14) (fun r_27 => nv (upd g_26 3 r_27) (fun g_29 => jn (fun (z : (Nat → Int32) × (Nat → Nat → Int32)) => match z with | (iY_33, sY_34) => (if p1 = 0 then bd (f_X11_back N iY_33 sY_34 tY jY_14) (fun sY_36 => some (x2_24, iY_33, sY_36, jY_14)) else some (x2_24, iY_33, sY_34, jY_14))) (fun K_30 => (if p1 = 1 then (if (g_29 1) ≤ 0 then K_30 ((va_up iY_12 41 1), (va_up sY_25 40 g_29)) else bd (f_X11_keep N (va_up iY_12 41 1) (va_up sY_25 40 g_29) tY jY_14) (fun (iY_40, sY_41) => f_X11_book_250 N iY_40 tY jY_14 p1 x2_24 K_30 N sY_41 0)) else K_30 ((va_up iY_12 41 1), (va_up sY_25 40 g_29)))))))) (fun K_21 => f_X11_book_111 N iY_12 tY jY_14 p1 K_21 N sY_20 (-1) 0)) (fun K_17 => f_X11_book_89 N iY_12 tY jY_14 p1 K_17 N sY_15 0))) (fun K_9 => jn (fun (z : (Nat → Int32) × (Nat → Nat → Int32) × (Nat → Int64)) => match z with | (iY_104, sY_105, jY_106) => some (((-2 : Int32) - (iY_104 16)), iY_104, sY_105, jY_106)) (fun K_101 => f_X11_book_39 N tY p1 K_101 K_9 N iY_6 sY jY_7))))))
set_option maxHeartbeats 4000000 in
set_option maxRecDepth 100000 in
theorem c_X11_book (l : Launch) (G : GT) (N : Nat) (uY : Nat → Nat) (iY : Nat → Int32) (sY : Nat → Nat → Int32) (tY : Nat → Nat → Int64) (jY : Nat → Int64) (p1 : Int32) {r : Int32} {iY' : Nat → Int32} {sY' : Nat → Nat → Int32} {jY' : Nat → Int64} (hf : f_X11_book N iY sY tY jY p1 = some (r, iY', sY', jY')) : CI l G yX11_book cX11_book 4 .int 5 [.ref (uY 0), .int p1] (gY G uY iY sY tY jY) r (gY G uY iY' sY' tY jY') := by
  refine CI.of (by decide) (Nat.le_of_ble_eq_true rfl) ?_
  intro p e s m args below meth c A X hA hP hD hS ls hl
  have hl : lv_has ls 4 [(0, .ref (uY 0)), (1, .int p1)] := hl
  generalize hQ : MQ below (QI G A r (gY G uY iY' sY' tY jY')) args s 0 0 A = QQ
  unfold f_X11_book at hf
  refine lv_aload_n X.hx X.hb dX11_book_0 rfl (lv_at hl 0 rfl) ?_
  refine lv_iconst (v := 0) X.hx X.hb dX11_book_1 (by decide) ?_
  refine pf_X11_1 X hP hD hS 0 rfl rfl rfl (Nat.le_of_ble_eq_true rfl) (wo := (gY G uY (va_up iY 0 0) sY tY jY)) rfl dX11_book_2 (fun H locs hP hD hS => ?_)
  refine lv_iload_n X.hx X.hb dX11_book_5 rfl (lv_at hl 1 rfl) ?_
  refine lv_iconst (v := 0) X.hx X.hb dX11_book_6 (by decide) ?_
  refine lv_iconst (v := 1) X.hx X.hb dX11_book_7 (by decide) ?_
  obtain ⟨r_1, hc_2, hf⟩ := bd_i hf
  refine r_cs0 (As := [.int p1, .int 0, .int 1]) (rest := []) X sm_X11_189 (c_X11_isIn l G N p1 0 1 hc_2) hP hD hS hA rfl hl.1 (lv_room (Nat.le_of_ble_eq_true rfl)) ⟨Nat.le_of_ble_eq_true rfl, Nat.le_of_ble_eq_true rfl⟩ ⟨Nat.zero_le _, Nat.zero_le _⟩ dX11_book_8 (fun H locs hP hD hS => ?_)
  refine lv_if_ne (tgt := 18) X.hx X.hb dX11_book_11 (by decide) (fun hc_3 => ?_) (fun hc_3 => ?_)
  · replace hf := if_f hf hc_3
    refine lv_aload_n X.hx X.hb dX11_book_18 rfl (lv_at hl 0 rfl) ?_
    refine lv_sipush (v := 400) X.hx X.hb dX11_book_19 (by decide) ?_
    obtain ⟨iY_4, hc_5, hf⟩ := bd_i hf
    refine r_cvv (As := [.int 400]) (rest := []) X sm_X11_247 (c_X11_taken l G N uY (va_up iY 0 0) sY tY jY 400 hc_5) hP hD hS hA 0 rfl rfl [0, 1, 2, 3, 4, 5, 6, 7, 8, 9, 10, 11, 12, 13, 14, 15, 16, 17, 18, 19, 20] rfl rfl rfl (wo := (gY G uY iY_4 sY tY jY)) rfl rfl hl.1 (lv_room (Nat.le_of_ble_eq_true rfl)) ⟨Nat.le_of_ble_eq_true rfl, Nat.le_of_ble_eq_true rfl⟩ ⟨Nat.zero_le _, Nat.zero_le _⟩ dX11_book_22 (fun H locs hP hD hS => ?_)
    refine lv_aload_n X.hx X.hb dX11_book_25 rfl (lv_at hl 0 rfl) ?_
    refine lv_iconst (v := 0) X.hx X.hb dX11_book_26 (by decide) ?_
    refine pf_X11_174 X hP hD hS 0 rfl rfl rfl (Nat.le_of_ble_eq_true rfl) (wo := (gY G uY (va_up iY_4 15 0) sY tY jY)) rfl dX11_book_27 (fun H locs hP hD hS => ?_)
    refine lv_aload_n X.hx X.hb dX11_book_30 rfl (lv_at hl 0 rfl) ?_
    refine lv_iconst (v := 0) X.hx X.hb dX11_book_31 (by decide) ?_
    refine pf_X11_418 X hP hD hS 0 rfl rfl rfl (Nat.le_of_ble_eq_true rfl) (wo := (gY G uY (va_up (va_up iY_4 15 0) 39 0) sY tY jY)) rfl dX11_book_32 (fun H locs hP hD hS => ?_)
    refine lv_aload_n X.hx X.hb dX11_book_35 rfl (lv_at hl 0 rfl) ?_
    obtain ⟨⟨iY_6, jY_7⟩, hc_8, hf⟩ := bd_i hf
    refine r_cvv (As := []) (rest := []) X sm_X11_186 (c_X11_next l G N uY (va_up (va_up iY_4 15 0) 39 0) sY tY jY hc_8) hP hD hS hA 0 rfl rfl [0, 1, 2, 3, 4, 5, 6, 7, 8, 9, 10, 11, 12, 13, 14, 15, 16, 17, 18, 19, 20] rfl rfl rfl (wo := (gY G uY iY_6 sY tY jY_7)) rfl rfl hl.1 (lv_room (Nat.le_of_ble_eq_true rfl)) ⟨Nat.le_of_ble_eq_true rfl, Nat.le_of_ble_eq_true rfl⟩ ⟨Nat.zero_le _, Nat.zero_le _⟩ dX11_book_36 (fun H locs hP hD hS => ?_)
    obtain ⟨K_9, eK_11, hf⟩ := jn_i hf
    have hj_10 : ∀ (iY_12 : Nat → Int32) (sY_13 : Nat → Nat → Int32) (jY_14 : Nat → Int64) (H : Heap) (locs : List Loc) (ls : Array Slot), K_9 (iY_12, sY_13, jY_14) = some (r, iY', sY', jY') → va_P G.1 vwCl (gY G uY iY_12 sY_13 tY jY_14) H → va_D A (gY G uY iY_12 sY_13 tY jY_14) → va_S A s.heap H locs → lv_has ls 4 [(0, .ref (uY 0)), (1, .int p1)] → W p l e (RM 5) s m args below meth c H locs 0 0 QQ (F0 m 83 ls []) := by
      intro iY_12 sY_13 jY_14 H locs ls hf hP hD hS hl
      rw [eK_11] at hf
      try dsimp only at hf
      refine lv_aload_n X.hx X.hb dX11_book_83 rfl (lv_at hl 0 rfl) ?_
      obtain ⟨sY_15, hc_16, hf⟩ := bd_i hf
      refine r_cvv (As := []) (rest := []) X sm_X11_412 (c_X11_tries l G N uY iY_12 sY_13 tY jY_14 hc_16) hP hD hS hA 0 rfl rfl [0, 1, 2, 3, 4, 5, 6, 7, 8, 9, 10, 11, 12, 13, 14, 15, 16, 17, 18, 19, 20] rfl rfl rfl (wo := (gY G uY iY_12 sY_15 tY jY_14)) rfl rfl hl.1 (lv_room (Nat.le_of_ble_eq_true rfl)) ⟨Nat.le_of_ble_eq_true rfl, Nat.le_of_ble_eq_true rfl⟩ ⟨Nat.zero_le _, Nat.zero_le _⟩ dX11_book_84 (fun H locs hP hD hS => ?_)
      refine lv_iconst (v := 0) X.hx X.hb dX11_book_87 (by decide) ?_
      refine lv_istore_n (lv' := [(2, .int 0), (0, .ref (uY 0)), (1, .int p1)]) X.hx X.hb dX11_book_88 rfl hl (by decide) rfl (fun ls hl => ?_)
      obtain ⟨K_17, eK_19, hf⟩ := jn_i hf
      have hj_18 : ∀ (sY_20 : Nat → Nat → Int32) (H : Heap) (locs : List Loc) (ls : Array Slot), K_17 sY_20 = some (r, iY', sY', jY') → va_P G.1 vwCl (gY G uY iY_12 sY_20 tY jY_14) H → va_D A (gY G uY iY_12 sY_20 tY jY_14) → va_S A s.heap H locs → lv_has ls 4 [(0, .ref (uY 0)), (1, .int p1)] → W p l e (RM 5) s m args below meth c H locs 0 0 QQ (F0 m 107 ls []) := by
        intro sY_20 H locs ls hf hP hD hS hl
        rw [eK_19] at hf
        try dsimp only at hf
        refine lv_iconst (v := (-1)) X.hx X.hb dX11_book_107 (by decide) ?_
        refine lv_istore_n (lv' := [(2, .int (-1)), (0, .ref (uY 0)), (1, .int p1)]) X.hx X.hb dX11_book_108 rfl hl (by decide) rfl (fun ls hl => ?_)
        refine lv_iconst (v := 0) X.hx X.hb dX11_book_109 (by decide) ?_
        refine lv_istore_n (lv' := [(3, .int 0), (2, .int (-1)), (0, .ref (uY 0)), (1, .int p1)]) X.hx X.hb dX11_book_110 rfl hl (by decide) rfl (fun ls hl => ?_)
        obtain ⟨K_21, eK_23, hf⟩ := jn_i hf
        have hj_22 : ∀ (x2_24 : Int32) (sY_25 : Nat → Nat → Int32) (H : Heap) (locs : List Loc) (ls : Array Slot), K_21 (x2_24, sY_25) = some (r, iY', sY', jY') → va_P G.1 vwCl (gY G uY iY_12 sY_25 tY jY_14) H → va_D A (gY G uY iY_12 sY_25 tY jY_14) → va_S A s.heap H locs → lv_has ls 4 [(0, .ref (uY 0)), (1, .int p1), (2, .int x2_24)] → W p l e (RM 5) s m args below meth c H locs 0 0 QQ (F0 m 201 ls []) := by
          intro x2_24 sY_25 H locs ls hf hP hD hS hl
          rw [eK_23] at hf
          try dsimp only at hf
          refine lv_aload_n X.hx X.hb dX11_book_201 rfl (lv_at hl 0 rfl) ?_
          refine gf_X11_77 X hP 0 rfl (v := .ref (uY 41)) rfl dX11_book_202 ?_
          refine lv_iconst (v := 2) X.hx X.hb dX11_book_205 (by decide) ?_
          refine lv_aload_n X.hx X.hb dX11_book_206 rfl (lv_at hl 0 rfl) ?_
          refine gf_X11_33 X hP 0 rfl (v := .ref (uY 7)) rfl dX11_book_207 ?_
          refine lv_sipush (v := 131) X.hx X.hb dX11_book_210 (by decide) ?_
          refine r_iald X hP 2 (f := (sY_25 6)) rfl (vp_c rfl) dX11_book_213 ?_
          refine W.eq (g2 := F0 m 214 ls [.int ((sY_25 6) 131), .int 2, .ref (uY 41)]) rfl ?_
          obtain ⟨g_26, eg_26, hf⟩ := nv_i hf
          refine r_iast X hP hD hS 15 (f := (sY_25 40)) rfl (vp_c rfl) (wo := (gY G uY iY_12 (va_up sY_25 40 g_26) tY jY_14)) (by subst eg_26; rfl) dX11_book_214 (fun H locs hP hD hS => ?_)
          refine lv_aload_n X.hx X.hb dX11_book_215 rfl (lv_at hl 0 rfl) ?_
          refine gf_X11_77 X hP 0 rfl (v := .ref (uY 41)) rfl dX11_book_216 ?_
          refine lv_iconst (v := 3) X.hx X.hb dX11_book_219 (by decide) ?_
          refine lv_aload_n X.hx X.hb dX11_book_220 rfl (lv_at hl 0 rfl) ?_
          obtain ⟨r_27, hc_28, hf⟩ := bd_i hf
          refine r_cvi (As := []) (rest := [.int 3, .ref (uY 41)]) X sm_X11_287 (c_X11_fed l G N uY iY_12 (va_up sY_25 40 g_26) tY jY_14 hc_28) hP hD hS hA 0 rfl rfl [0, 1, 2, 3, 4, 5, 6, 7, 8, 9, 10, 11, 12, 13, 14, 15, 16, 17, 18, 19, 20] rfl rfl rfl (wo := (gY G uY iY_12 (va_up sY_25 40 g_26) tY jY_14)) rfl rfl hl.1 (lv_room (Nat.le_of_ble_eq_true rfl)) ⟨Nat.le_of_ble_eq_true rfl, Nat.le_of_ble_eq_true rfl⟩ ⟨Nat.zero_le _, Nat.zero_le _⟩ dX11_book_221 (fun H locs hP hD hS => ?_)
          obtain ⟨g_29, eg_29, hf⟩ := nv_i hf
          refine r_iast X hP hD hS 15 (f := g_26) rfl (vp_c rfl) (wo := (gY G uY iY_12 (va_up sY_25 40 g_29) tY jY_14)) (by subst eg_29; rfl) dX11_book_224 (fun H locs hP hD hS => ?_)
          refine lv_aload_n X.hx X.hb dX11_book_225 rfl (lv_at hl 0 rfl) ?_
          refine lv_iconst (v := 1) X.hx X.hb dX11_book_226 (by decide) ?_
          refine pf_X11_428 X hP hD hS 0 rfl (by decide) (by decide) (Nat.le_of_ble_eq_true rfl) (wo := (gY G uY (va_up iY_12 41 1) (va_up sY_25 40 g_29) tY jY_14)) rfl dX11_book_227 (fun H locs hP hD hS => ?_)
          refine lv_iload_n X.hx X.hb dX11_book_230 rfl (lv_at hl 1 rfl) ?_
          refine lv_iconst (v := 1) X.hx X.hb dX11_book_231 (by decide) ?_
          obtain ⟨K_30, eK_32, hf⟩ := jn_i hf
          have hj_31 : ∀ (iY_33 : Nat → Int32) (sY_34 : Nat → Nat → Int32) (H : Heap) (locs : List Loc) (ls : Array Slot), K_30 (iY_33, sY_34) = some (r, iY', sY', jY') → va_P G.1 vwCl (gY G uY iY_33 sY_34 tY jY_14) H → va_D A (gY G uY iY_33 sY_34 tY jY_14) → va_S A s.heap H locs → lv_has ls 4 [(0, .ref (uY 0)), (1, .int p1), (2, .int x2_24)] → W p l e (RM 5) s m args below meth c H locs 0 0 QQ (F0 m 286 ls []) := by
            intro iY_33 sY_34 H locs ls hf hP hD hS hl
            rw [eK_32] at hf
            try dsimp only at hf
            refine lv_iload_n X.hx X.hb dX11_book_286 rfl (lv_at hl 1 rfl) ?_
            refine lv_if_ne (tgt := 294) X.hx X.hb dX11_book_287 (by decide) (fun hc_35 => ?_) (fun hc_35 => ?_)
            · replace hf := if_f hf hc_35
              refine lv_iload_n X.hx X.hb dX11_book_294 rfl (lv_at hl 2 rfl) ?_
              cases hf
              subst hQ
              exact r_iret X hP hD hS dX11_book_295
            · replace hf := if_t hf hc_35
              refine lv_aload_n X.hx X.hb dX11_book_290 rfl (lv_at hl 0 rfl) ?_
              obtain ⟨sY_36, hc_37, hf⟩ := bd_i hf
              refine r_cvv (As := []) (rest := []) X sm_X11_415 (c_X11_back l G N uY iY_33 sY_34 tY jY_14 hc_37) hP hD hS hA 0 rfl rfl [0, 1, 2, 3, 4, 5, 6, 7, 8, 9, 10, 11, 12, 13, 14, 15, 16, 17, 18, 19, 20] rfl rfl rfl (wo := (gY G uY iY_33 sY_36 tY jY_14)) rfl rfl hl.1 (lv_room (Nat.le_of_ble_eq_true rfl)) ⟨Nat.le_of_ble_eq_true rfl, Nat.le_of_ble_eq_true rfl⟩ ⟨Nat.zero_le _, Nat.zero_le _⟩ dX11_book_291 (fun H locs hP hD hS => ?_)
              refine lv_iload_n X.hx X.hb dX11_book_294 rfl (lv_at hl 2 rfl) ?_
              cases hf
              subst hQ
              exact r_iret X hP hD hS dX11_book_295
          refine lv_icmp_ne (tgt := 286) X.hx X.hb dX11_book_232 (by decide) (fun hc_38 => ?_) (fun hc_38 => ?_)
          · replace hf := if_f hf hc_38
            exact hj_31 _ _ _ _ _ hf hP hD hS (lv_sub hl [0, 1, 2] rfl)
          · replace hf := if_t hf hc_38
            refine lv_aload_n X.hx X.hb dX11_book_235 rfl (lv_at hl 0 rfl) ?_
            refine gf_X11_77 X hP 0 rfl (v := .ref (uY 41)) rfl dX11_book_236 ?_
            refine lv_iconst (v := 1) X.hx X.hb dX11_book_239 (by decide) ?_
            refine r_iald X hP 15 (f := g_29) rfl (vp_c rfl) dX11_book_240 ?_
            refine W.eq (g2 := F0 m 241 ls [.int (g_29 1)]) rfl ?_
            refine lv_if_le (tgt := 286) X.hx X.hb dX11_book_241 (by decide) (fun hc_39 => ?_) (fun hc_39 => ?_)
            · replace hf := if_t hf hc_39
              exact hj_31 _ _ _ _ _ hf hP hD hS (lv_sub hl [0, 1, 2] rfl)
            · replace hf := if_f hf hc_39
              refine lv_aload_n X.hx X.hb dX11_book_244 rfl (lv_at hl 0 rfl) ?_
              obtain ⟨⟨iY_40, sY_41⟩, hc_42, hf⟩ := bd_i hf
              refine r_cvv (As := []) (rest := []) X sm_X11_310 (c_X11_keep l G N uY (va_up iY_12 41 1) (va_up sY_25 40 g_29) tY jY_14 hc_42) hP hD hS hA 0 rfl rfl [0, 1, 2, 3, 4, 5, 6, 7, 8, 9, 10, 11, 12, 13, 14, 15, 16, 17, 18, 19, 20] rfl rfl rfl (wo := (gY G uY iY_40 sY_41 tY jY_14)) rfl rfl hl.1 (lv_room (Nat.le_of_ble_eq_true rfl)) ⟨Nat.le_of_ble_eq_true rfl, Nat.le_of_ble_eq_true rfl⟩ ⟨Nat.zero_le _, Nat.zero_le _⟩ dX11_book_245 (fun H locs hP hD hS => ?_)
              refine lv_iconst (v := 0) X.hx X.hb dX11_book_248 (by decide) ?_
              refine lv_istore_n (lv' := [(3, .int 0), (0, .ref (uY 0)), (1, .int p1), (2, .int x2_24)]) X.hx X.hb dX11_book_249 rfl hl (by decide) rfl (fun ls hl => ?_)
              have hlo_43 : ∀ (k : Nat) (sY_44 : Nat → Nat → Int32) (v3_45 : Int32) (H : Heap) (locs : List Loc) (ls : Array Slot), f_X11_book_250 N iY_40 tY jY_14 p1 x2_24 K_30 k sY_44 v3_45 = some (r, iY', sY', jY') → va_P G.1 vwCl (gY G uY iY_40 sY_44 tY jY_14) H → va_D A (gY G uY iY_40 sY_44 tY jY_14) → va_S A s.heap H locs → lv_has ls 4 [(0, .ref (uY 0)), (1, .int p1), (2, .int x2_24), (3, .int v3_45)] → W p l e (RM 5) s m args below meth c H locs 0 0 QQ (F0 m 250 ls []) := by
                intro k
                induction k with
                | zero => intro sY_44 v3_45 H locs ls hf; exact absurd hf (by intro q; cases q)
                | succ k ih =>
                  intro sY_44 v3_45 H locs ls hf hP hD hS hl
                  unfold f_X11_book_250 at hf
                  refine lv_iload_n X.hx X.hb dX11_book_250 rfl (lv_at hl 3 rfl) ?_
                  refine lv_sipush (v := 145) X.hx X.hb dX11_book_251 (by decide) ?_
                  refine lv_icmp_ge (tgt := 286) X.hx X.hb dX11_book_254 (by decide) (fun hc_46 => ?_) (fun hc_46 => ?_)
                  · replace hf := if_t hf hc_46
                    exact hj_31 _ _ _ _ _ hf hP hD hS (lv_sub hl [0, 1, 2] rfl)
                  · replace hf := if_f hf hc_46
                    refine lv_aload_n X.hx X.hb dX11_book_257 rfl (lv_at hl 0 rfl) ?_
                    refine gf_X11_50 X hP 0 rfl (v := .ref (uY 22)) rfl dX11_book_258 ?_
                    refine lv_sipush (v := 145) X.hx X.hb dX11_book_261 (by decide) ?_
                    refine lv_aload_n X.hx X.hb dX11_book_264 rfl (lv_at hl 0 rfl) ?_
                    refine gf_X11_262 X hP 0 rfl (v := .int (iY_40 23)) rfl dX11_book_265 ?_
                    refine lv_iconst (v := 1) X.hx X.hb dX11_book_268 (by decide) ?_
                    refine lv_isub X.hx X.hb dX11_book_269 ?_
                    refine lv_imul X.hx X.hb dX11_book_270 ?_
                    refine lv_iload_n X.hx X.hb dX11_book_271 rfl (lv_at hl 3 rfl) ?_
                    refine lv_iadd X.hx X.hb dX11_book_272 ?_
                    refine lv_aload_n X.hx X.hb dX11_book_273 rfl (lv_at hl 0 rfl) ?_
                    refine gf_X11_53 X hP 0 rfl (v := .ref (uY 23)) rfl dX11_book_274 ?_
                    refine lv_iload_n X.hx X.hb dX11_book_277 rfl (lv_at hl 3 rfl) ?_
                    obtain ⟨hi_47, hf⟩ := ck_i hf
                    refine r_iald X hP 8 (f := (sY_44 22)) rfl hi_47 dX11_book_278 ?_
                    obtain ⟨hi_48, hf⟩ := ck_i hf
                    obtain ⟨g_49, eg_49, hf⟩ := nv_i hf
                    refine r_iast X hP hD hS 7 (f := (sY_44 21)) rfl hi_48 (wo := (gY G uY iY_40 (va_up sY_44 21 g_49) tY jY_14)) (by subst eg_49; rfl) dX11_book_279 (fun H locs hP hD hS => ?_)
                    refine lv_iinc (v := (v3_45 + 1)) (lv' := [(3, .int (v3_45 + 1)), (0, .ref (uY 0)), (1, .int p1), (2, .int x2_24)]) X.hx X.hb dX11_book_280 hl (k := 3) rfl rfl (by decide) rfl (fun ls hl => ?_)
                    refine lv_goto (tgt := 250) X.hx X.hb dX11_book_283 (by decide) ?_
                    exact ih _ _ _ _ _ hf hP hD hS (lv_sub hl [1, 2, 3, 0] rfl)
              exact hlo_43 N _ _ _ _ _ hf hP hD hS (lv_sub hl [1, 2, 3, 0] rfl)
        have hlo_54 : ∀ (k : Nat) (sY_55 : Nat → Nat → Int32) (v2_56 : Int32) (v3_57 : Int32) (H : Heap) (locs : List Loc) (ls : Array Slot), f_X11_book_111 N iY_12 tY jY_14 p1 K_21 k sY_55 v2_56 v3_57 = some (r, iY', sY', jY') → va_P G.1 vwCl (gY G uY iY_12 sY_55 tY jY_14) H → va_D A (gY G uY iY_12 sY_55 tY jY_14) → va_S A s.heap H locs → lv_has ls 4 [(0, .ref (uY 0)), (1, .int p1), (2, .int v2_56), (3, .int v3_57)] → W p l e (RM 5) s m args below meth c H locs 0 0 QQ (F0 m 111 ls []) := by
          intro k
          induction k with
          | zero => intro sY_55 v2_56 v3_57 H locs ls hf; exact absurd hf (by intro q; cases q)
          | succ k ih =>
            intro sY_55 v2_56 v3_57 H locs ls hf hP hD hS hl
            unfold f_X11_book_111 at hf
            refine lv_iload_n X.hx X.hb dX11_book_111 rfl (lv_at hl 3 rfl) ?_
            refine lv_aload_n X.hx X.hb dX11_book_112 rfl (lv_at hl 0 rfl) ?_
            refine gf_X11_418 X hP 0 rfl (v := .int (iY_12 39)) rfl dX11_book_113 ?_
            refine lv_icmp_ge (tgt := 201) X.hx X.hb dX11_book_116 (by decide) (fun hc_58 => ?_) (fun hc_58 => ?_)
            · replace hf := if_t hf hc_58
              exact hj_22 _ _ _ _ _ hf hP hD hS (lv_sub hl [0, 1, 2] rfl)
            · replace hf := if_f hf hc_58
              refine lv_iload_n X.hx X.hb dX11_book_119 rfl (lv_at hl 2 rfl) ?_
              refine lv_if_ge (tgt := 201) X.hx X.hb dX11_book_120 (by decide) (fun hc_59 => ?_) (fun hc_59 => ?_)
              · replace hf := if_t hf hc_59
                exact hj_22 _ _ _ _ _ hf hP hD hS (lv_sub hl [0, 1, 2] rfl)
              · replace hf := if_f hf hc_59
                refine lv_aload_n X.hx X.hb dX11_book_123 rfl (lv_at hl 0 rfl) ?_
                refine gf_X11_77 X hP 0 rfl (v := .ref (uY 41)) rfl dX11_book_124 ?_
                refine lv_iconst (v := 0) X.hx X.hb dX11_book_127 (by decide) ?_
                refine lv_aload_n X.hx X.hb dX11_book_128 rfl (lv_at hl 0 rfl) ?_
                refine lv_aload_n X.hx X.hb dX11_book_129 rfl (lv_at hl 0 rfl) ?_
                refine gf_X11_40 X hP 0 rfl (v := .ref (uY 9)) rfl dX11_book_130 ?_
                refine lv_iconst (v := 4) X.hx X.hb dX11_book_133 (by decide) ?_
                refine lv_iload_n X.hx X.hb dX11_book_134 rfl (lv_at hl 3 rfl) ?_
                refine lv_imul X.hx X.hb dX11_book_135 ?_
                obtain ⟨hi_60, hf⟩ := ck_i hf
                refine r_iald X hP 4 (f := (sY_55 8)) rfl hi_60 dX11_book_136 ?_
                refine lv_aload_n X.hx X.hb dX11_book_137 rfl (lv_at hl 0 rfl) ?_
                refine gf_X11_40 X hP 0 rfl (v := .ref (uY 9)) rfl dX11_book_138 ?_
                refine lv_iconst (v := 4) X.hx X.hb dX11_book_141 (by decide) ?_
                refine lv_iload_n X.hx X.hb dX11_book_142 rfl (lv_at hl 3 rfl) ?_
                refine lv_imul X.hx X.hb dX11_book_143 ?_
                refine lv_iconst (v := 1) X.hx X.hb dX11_book_144 (by decide) ?_
                refine lv_iadd X.hx X.hb dX11_book_145 ?_
                obtain ⟨hi_61, hf⟩ := ck_i hf
                refine r_iald X hP 4 (f := (sY_55 8)) rfl hi_61 dX11_book_146 ?_
                refine lv_aload_n X.hx X.hb dX11_book_147 rfl (lv_at hl 0 rfl) ?_
                refine gf_X11_40 X hP 0 rfl (v := .ref (uY 9)) rfl dX11_book_148 ?_
                refine lv_iconst (v := 4) X.hx X.hb dX11_book_151 (by decide) ?_
                refine lv_iload_n X.hx X.hb dX11_book_152 rfl (lv_at hl 3 rfl) ?_
                refine lv_imul X.hx X.hb dX11_book_153 ?_
                refine lv_iconst (v := 2) X.hx X.hb dX11_book_154 (by decide) ?_
                refine lv_iadd X.hx X.hb dX11_book_155 ?_
                obtain ⟨hi_62, hf⟩ := ck_i hf
                refine r_iald X hP 4 (f := (sY_55 8)) rfl hi_62 dX11_book_156 ?_
                refine lv_aload_n X.hx X.hb dX11_book_157 rfl (lv_at hl 0 rfl) ?_
                refine gf_X11_40 X hP 0 rfl (v := .ref (uY 9)) rfl dX11_book_158 ?_
                refine lv_iconst (v := 4) X.hx X.hb dX11_book_161 (by decide) ?_
                refine lv_iload_n X.hx X.hb dX11_book_162 rfl (lv_at hl 3 rfl) ?_
                refine lv_imul X.hx X.hb dX11_book_163 ?_
                refine lv_iconst (v := 3) X.hx X.hb dX11_book_164 (by decide) ?_
                refine lv_iadd X.hx X.hb dX11_book_165 ?_
                obtain ⟨hi_63, hf⟩ := ck_i hf
                refine r_iald X hP 4 (f := (sY_55 8)) rfl hi_63 dX11_book_166 ?_
                obtain ⟨⟨r_64, sY_65⟩, hc_66, hf⟩ := bd_i hf
                refine r_cvi (As := [.int ((sY_55 8) (ix ((4 : Int32) * v3_57))), .int ((sY_55 8) (ix (((4 : Int32) * v3_57) + 1))), .int ((sY_55 8) (ix (((4 : Int32) * v3_57) + 2))), .int ((sY_55 8) (ix (((4 : Int32) * v3_57) + 3)))]) (rest := [.int 0, .ref (uY 41)]) X sm_X11_424 (c_X11_does l G N uY iY_12 sY_55 tY jY_14 ((sY_55 8) (ix ((4 : Int32) * v3_57))) ((sY_55 8) (ix (((4 : Int32) * v3_57) + 1))) ((sY_55 8) (ix (((4 : Int32) * v3_57) + 2))) ((sY_55 8) (ix (((4 : Int32) * v3_57) + 3))) hc_66) hP hD hS hA 0 rfl rfl [0, 1, 2, 3, 4, 5, 6, 7, 8, 9, 10, 11, 12, 13, 14, 15, 16, 17, 18, 19, 20] rfl rfl rfl (wo := (gY G uY iY_12 sY_65 tY jY_14)) rfl rfl hl.1 (lv_room (Nat.le_of_ble_eq_true rfl)) ⟨Nat.le_of_ble_eq_true rfl, Nat.le_of_ble_eq_true rfl⟩ ⟨Nat.zero_le _, Nat.zero_le _⟩ dX11_book_167 (fun H locs hP hD hS => ?_)
                obtain ⟨g_67, eg_67, hf⟩ := nv_i hf
                refine r_iast X hP hD hS 15 (f := (sY_65 40)) rfl (vp_c rfl) (wo := (gY G uY iY_12 (va_up sY_65 40 g_67) tY jY_14)) (by subst eg_67; rfl) dX11_book_170 (fun H locs hP hD hS => ?_)
                refine lv_aload_n X.hx X.hb dX11_book_171 rfl (lv_at hl 0 rfl) ?_
                refine gf_X11_77 X hP 0 rfl (v := .ref (uY 41)) rfl dX11_book_172 ?_
                refine lv_iconst (v := 0) X.hx X.hb dX11_book_175 (by decide) ?_
                refine r_iald X hP 15 (f := g_67) rfl (vp_c rfl) dX11_book_176 ?_
                refine W.eq (g2 := F0 m 177 ls [.int (g_67 0)]) rfl ?_
                obtain ⟨K_68, eK_70, hf⟩ := jn_i hf
                have hj_69 : ∀ (x2_71 : Int32) (sY_72 : Nat → Nat → Int32) (H : Heap) (locs : List Loc) (ls : Array Slot), K_68 (x2_71, sY_72) = some (r, iY', sY', jY') → va_P G.1 vwCl (gY G uY iY_12 sY_72 tY jY_14) H → va_D A (gY G uY iY_12 sY_72 tY jY_14) → va_S A s.heap H locs → lv_has ls 4 [(0, .ref (uY 0)), (1, .int p1), (2, .int x2_71), (3, .int v3_57)] → W p l e (RM 5) s m args below meth c H locs 0 0 QQ (F0 m 195 ls []) := by
                  intro x2_71 sY_72 H locs ls hf hP hD hS hl
                  rw [eK_70] at hf
                  try dsimp only at hf
                  refine lv_iinc (v := (v3_57 + 1)) (lv' := [(3, .int (v3_57 + 1)), (0, .ref (uY 0)), (1, .int p1), (2, .int x2_71)]) X.hx X.hb dX11_book_195 hl (k := 3) rfl rfl (by decide) rfl (fun ls hl => ?_)
                  refine lv_goto (tgt := 111) X.hx X.hb dX11_book_198 (by decide) ?_
                  exact ih _ _ _ _ _ _ hf hP hD hS (lv_sub hl [1, 2, 3, 0] rfl)
                refine lv_if_le (tgt := 185) X.hx X.hb dX11_book_177 (by decide) (fun hc_73 => ?_) (fun hc_73 => ?_)
                · replace hf := if_t hf hc_73
                  refine lv_aload_n X.hx X.hb dX11_book_185 rfl (lv_at hl 0 rfl) ?_
                  refine gf_X11_77 X hP 0 rfl (v := .ref (uY 41)) rfl dX11_book_186 ?_
                  refine lv_iconst (v := 1) X.hx X.hb dX11_book_189 (by decide) ?_
                  refine lv_dup2_11 X.hx X.hb dX11_book_190 rfl rfl ?_
                  refine r_iald X hP 15 (f := g_67) rfl (vp_c rfl) dX11_book_191 ?_
                  refine W.eq (g2 := F0 m 192 ls [.int (g_67 1), .int 1, .ref (uY 41)]) rfl ?_
                  refine lv_iconst (v := 1) X.hx X.hb dX11_book_192 (by decide) ?_
                  refine lv_iadd X.hx X.hb dX11_book_193 ?_
                  obtain ⟨g_74, eg_74, hf⟩ := nv_i hf
                  refine r_iast X hP hD hS 15 (f := g_67) rfl (vp_c rfl) (wo := (gY G uY iY_12 (va_up sY_65 40 g_74) tY jY_14)) (by subst eg_74; rfl) dX11_book_194 (fun H locs hP hD hS => ?_)
                  exact hj_69 _ _ _ _ _ hf hP hD hS (lv_sub hl [0, 1, 2, 3] rfl)
                · replace hf := if_f hf hc_73
                  refine lv_iload_n X.hx X.hb dX11_book_180 rfl (lv_at hl 3 rfl) ?_
                  refine lv_istore_n (lv' := [(2, .int v3_57), (0, .ref (uY 0)), (1, .int p1), (3, .int v3_57)]) X.hx X.hb dX11_book_181 rfl hl (by decide) rfl (fun ls hl => ?_)
                  refine lv_goto (tgt := 195) X.hx X.hb dX11_book_182 (by decide) ?_
                  exact hj_69 _ _ _ _ _ hf hP hD hS (lv_sub hl [1, 2, 0, 3] rfl)
        exact hlo_54 N _ _ _ _ _ _ hf hP hD hS (lv_sub hl [2, 3, 1, 0] rfl)
      have hlo_92 : ∀ (k : Nat) (sY_93 : Nat → Nat → Int32) (v2_94 : Int32) (H : Heap) (locs : List Loc) (ls : Array Slot), f_X11_book_89 N iY_12 tY jY_14 p1 K_17 k sY_93 v2_94 = some (r, iY', sY', jY') → va_P G.1 vwCl (gY G uY iY_12 sY_93 tY jY_14) H → va_D A (gY G uY iY_12 sY_93 tY jY_14) → va_S A s.heap H locs → lv_has ls 4 [(0, .ref (uY 0)), (1, .int p1), (2, .int v2_94)] → W p l e (RM 5) s m args below meth c H locs 0 0 QQ (F0 m 89 ls []) := by
        intro k
        induction k with
        | zero => intro sY_93 v2_94 H locs ls hf; exact absurd hf (by intro q; cases q)
        | succ k ih =>
          intro sY_93 v2_94 H locs ls hf hP hD hS hl
          unfold f_X11_book_89 at hf
          refine lv_iload_n X.hx X.hb dX11_book_89 rfl (lv_at hl 2 rfl) ?_
          refine lv_iconst (v := 4) X.hx X.hb dX11_book_90 (by decide) ?_
          refine lv_icmp_ge (tgt := 107) X.hx X.hb dX11_book_91 (by decide) (fun hc_95 => ?_) (fun hc_95 => ?_)
          · replace hf := if_t hf hc_95
            exact hj_18 _ _ _ _ hf hP hD hS (lv_sub hl [0, 1] rfl)
          · replace hf := if_f hf hc_95
            refine lv_aload_n X.hx X.hb dX11_book_94 rfl (lv_at hl 0 rfl) ?_
            refine gf_X11_77 X hP 0 rfl (v := .ref (uY 41)) rfl dX11_book_95 ?_
            refine lv_iload_n X.hx X.hb dX11_book_98 rfl (lv_at hl 2 rfl) ?_
            refine lv_iconst (v := 0) X.hx X.hb dX11_book_99 (by decide) ?_
            obtain ⟨hi_96, hf⟩ := ck_i hf
            obtain ⟨g_97, eg_97, hf⟩ := nv_i hf
            refine r_iast X hP hD hS 15 (f := (sY_93 40)) rfl hi_96 (wo := (gY G uY iY_12 (va_up sY_93 40 g_97) tY jY_14)) (by subst eg_97; rfl) dX11_book_100 (fun H locs hP hD hS => ?_)
            refine lv_iinc (v := (v2_94 + 1)) (lv' := [(2, .int (v2_94 + 1)), (0, .ref (uY 0)), (1, .int p1)]) X.hx X.hb dX11_book_101 hl (k := 2) rfl rfl (by decide) rfl (fun ls hl => ?_)
            refine lv_goto (tgt := 89) X.hx X.hb dX11_book_104 (by decide) ?_
            exact ih _ _ _ _ _ hf hP hD hS (lv_sub hl [1, 2, 0] rfl)
      exact hlo_92 N _ _ _ _ _ hf hP hD hS (lv_sub hl [1, 2, 0] rfl)
    obtain ⟨K_101, eK_103, hf⟩ := jn_i hf
    have hj_102 : ∀ (iY_104 : Nat → Int32) (sY_105 : Nat → Nat → Int32) (jY_106 : Nat → Int64) (H : Heap) (locs : List Loc) (ls : Array Slot), K_101 (iY_104, sY_105, jY_106) = some (r, iY', sY', jY') → va_P G.1 vwCl (gY G uY iY_104 sY_105 tY jY_106) H → va_D A (gY G uY iY_104 sY_105 tY jY_106) → va_S A s.heap H locs → lv_has ls 4 [(0, .ref (uY 0))] → W p l e (RM 5) s m args below meth c H locs 0 0 QQ (F0 m 62 ls []) := by
      intro iY_104 sY_105 jY_106 H locs ls hf hP hD hS hl
      rw [eK_103] at hf
      try dsimp only at hf
      refine lv_bipush (v := (-2)) X.hx X.hb dX11_book_62 (by decide) ?_
      refine lv_aload_n X.hx X.hb dX11_book_64 rfl (lv_at hl 0 rfl) ?_
      refine gf_X11_177 X hP 0 rfl (v := .int (iY_104 16)) rfl dX11_book_65 ?_
      refine lv_isub X.hx X.hb dX11_book_68 ?_
      cases hf
      subst hQ
      exact r_iret X hP hD hS dX11_book_69
    have hlo_107 : ∀ (k : Nat) (iY_108 : Nat → Int32) (sY_109 : Nat → Nat → Int32) (jY_110 : Nat → Int64) (H : Heap) (locs : List Loc) (ls : Array Slot), f_X11_book_39 N tY p1 K_101 K_9 k iY_108 sY_109 jY_110 = some (r, iY', sY', jY') → va_P G.1 vwCl (gY G uY iY_108 sY_109 tY jY_110) H → va_D A (gY G uY iY_108 sY_109 tY jY_110) → va_S A s.heap H locs → lv_has ls 4 [(0, .ref (uY 0)), (1, .int p1)] → W p l e (RM 5) s m args below meth c H locs 0 0 QQ (F0 m 39 ls []) := by
      intro k
      induction k with
      | zero => intro iY_108 sY_109 jY_110 H locs ls hf; exact absurd hf (by intro q; cases q)
      | succ k ih =>
        intro iY_108 sY_109 jY_110 H locs ls hf hP hD hS hl
        unfold f_X11_book_39 at hf
        refine lv_aload_n X.hx X.hb dX11_book_39 rfl (lv_at hl 0 rfl) ?_
        refine gf_X11_157 X hP 0 rfl (v := .int (iY_108 11)) rfl dX11_book_40 ?_
        refine lv_if_eq (tgt := 83) X.hx X.hb dX11_book_43 (by decide) (fun hc_111 => ?_) (fun hc_111 => ?_)
        · replace hf := if_t hf hc_111
          exact hj_10 _ _ _ _ _ _ hf hP hD hS (lv_sub hl [0, 1] rfl)
        · replace hf := if_f hf hc_111
          refine lv_aload_n X.hx X.hb dX11_book_46 rfl (lv_at hl 0 rfl) ?_
          obtain ⟨⟨r_112, iY_113, sY_114, jY_115⟩, hc_116, hf⟩ := bd_i hf
          refine r_cvi (As := []) (rest := []) X sm_X11_421 (c_X11_bookLine l G N uY iY_108 sY_109 tY jY_110 hc_116) hP hD hS hA 0 rfl rfl [0, 1, 2, 3, 4, 5, 6, 7, 8, 9, 10, 11, 12, 13, 14, 15, 16, 17, 18, 19, 20] rfl rfl rfl (wo := (gY G uY iY_113 sY_114 tY jY_115)) rfl rfl hl.1 (lv_room (Nat.le_of_ble_eq_true rfl)) ⟨Nat.le_of_ble_eq_true rfl, Nat.le_of_ble_eq_true rfl⟩ ⟨Nat.zero_le _, Nat.zero_le _⟩ dX11_book_47 (fun H locs hP hD hS => ?_)
          refine lv_if_eq (tgt := 62) X.hx X.hb dX11_book_50 (by decide) (fun hc_117 => ?_) (fun hc_117 => ?_)
          · replace hf := if_t hf hc_117
            exact hj_102 _ _ _ _ _ _ hf hP hD hS (lv_sub hl [0] rfl)
          · replace hf := if_f hf hc_117
            refine lv_aload_n X.hx X.hb dX11_book_53 rfl (lv_at hl 0 rfl) ?_
            refine lv_bipush (v := 59) X.hx X.hb dX11_book_54 (by decide) ?_
            obtain ⟨⟨r_118, iY_119, jY_120⟩, hc_121, hf⟩ := bd_i hf
            refine r_cvi (As := [.int 59]) (rest := []) X sm_X11_256 (c_X11_sign l G N uY iY_113 sY_114 tY jY_115 59 hc_121) hP hD hS hA 0 rfl rfl [0, 1, 2, 3, 4, 5, 6, 7, 8, 9, 10, 11, 12, 13, 14, 15, 16, 17, 18, 19, 20] rfl rfl rfl (wo := (gY G uY iY_119 sY_114 tY jY_120)) rfl rfl hl.1 (lv_room (Nat.le_of_ble_eq_true rfl)) ⟨Nat.le_of_ble_eq_true rfl, Nat.le_of_ble_eq_true rfl⟩ ⟨Nat.zero_le _, Nat.zero_le _⟩ dX11_book_56 (fun H locs hP hD hS => ?_)
            refine lv_if_ne (tgt := 70) X.hx X.hb dX11_book_59 (by decide) (fun hc_122 => ?_) (fun hc_122 => ?_)
            · replace hf := if_f hf hc_122
              refine lv_aload_n X.hx X.hb dX11_book_70 rfl (lv_at hl 0 rfl) ?_
              refine lv_dup X.hx X.hb dX11_book_71 rfl ?_
              refine gf_X11_418 X hP 0 rfl (v := .int (iY_119 39)) rfl dX11_book_72 ?_
              refine lv_iconst (v := 1) X.hx X.hb dX11_book_75 (by decide) ?_
              refine lv_iadd X.hx X.hb dX11_book_76 ?_
              refine pf_X11_418 X hP hD hS 0 rfl rfl rfl (Nat.le_of_ble_eq_true rfl) (wo := (gY G uY (va_up iY_119 39 ((iY_119 39) + 1)) sY_114 tY jY_120)) rfl dX11_book_77 (fun H locs hP hD hS => ?_)
              refine lv_goto (tgt := 39) X.hx X.hb dX11_book_80 (by decide) ?_
              exact ih _ _ _ _ _ _ hf hP hD hS (lv_sub hl [0, 1] rfl)
            · replace hf := if_t hf hc_122
              exact hj_102 _ _ _ _ _ _ hf hP hD hS (lv_sub hl [0] rfl)
    exact hlo_107 N _ _ _ _ _ _ hf hP hD hS (lv_sub hl [0, 1] rfl)
  · replace hf := if_t hf hc_3
    refine lv_sipush (v := (-1000)) X.hx X.hb dX11_book_14 (by decide) ?_
    cases hf
    subst hQ
    exact r_iret X hP hD hS dX11_book_17

