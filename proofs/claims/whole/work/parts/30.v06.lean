def f_X11_tolds_5 (N : Nat) (iY : Nat → Int32) (sY : Nat → Nat → Int32) (tY : Nat → Nat → Int64) (jY : Nat → Int64) (v1 : Int32) (v2 : Int32) (K_1 : ((Int32)) → Option (Int32)) : Nat → (Int32) → (Int32) → Option (Int32)
  | 0, _, _ => none
  | k + 1, v3, v4 => (if ((sY 6) 0) ≤ v4 then K_1 v3 else bd (f_X11_bitOf N v1 v4) (fun r_19 => jn (fun (z : (Int32)) => match z with | y_24 => f_X11_tolds_5 N iY sY tY jY v1 v2 K_1 k (v3 ||| y_24) (v4 + 1)) (fun K_21 => (if r_19 = 0 then K_21 0 else bd (f_X11_knownBy N iY sY tY jY v4) (fun r_26 => K_21 r_26)))))
def f_X11_tolds (N : Nat) (iY : Nat → Int32) (sY : Nat → Nat → Int32) (tY : Nat → Nat → Int64) (jY : Nat → Int64) (p1 : Int32) (p2 : Int32) : Option (Int32) :=
  jn (fun (z : (Int32)) => match z with | x3_4 => some (x3_4 &&& (p2 ^^^ (-1)))) (fun K_1 => f_X11_tolds_5 N iY sY tY jY p1 p2 K_1 N p1 0)
set_option maxHeartbeats 4000000 in
set_option maxRecDepth 100000 in
theorem c_X11_tolds (l : Launch) (G : GT) (N : Nat) (uY : Nat → Nat) (iY : Nat → Int32) (sY : Nat → Nat → Int32) (tY : Nat → Nat → Int64) (jY : Nat → Int64) (p1 : Int32) (p2 : Int32) {r : Int32} (hf : f_X11_tolds N iY sY tY jY p1 p2 = some r) : CI l G yX11_tolds cX11_tolds 5 .int 2 [.ref (uY 0), .int p1, .int p2] (gY G uY iY sY tY jY) r (gY G uY iY sY tY jY) := by
  refine CI.of (by decide) (Nat.le_of_ble_eq_true rfl) ?_
  intro p e s m args below meth c A X hA hP hD hS ls hl
  have hl : lv_has ls 5 [(0, .ref (uY 0)), (1, .int p1), (2, .int p2)] := hl
  generalize hQ : MQ below (QI G A r (gY G uY iY sY tY jY)) args s 0 0 A = QQ
  unfold f_X11_tolds at hf
  refine lv_iload_n X.hx X.hb dX11_tolds_0 rfl (lv_at hl 1 rfl) ?_
  refine lv_istore_n (lv' := [(3, .int p1), (0, .ref (uY 0)), (1, .int p1), (2, .int p2)]) X.hx X.hb dX11_tolds_1 rfl hl (by decide) rfl (fun ls hl => ?_)
  refine lv_iconst (v := 0) X.hx X.hb dX11_tolds_2 (by decide) ?_
  refine lv_istore (lv' := [(4, .int 0), (3, .int p1), (0, .ref (uY 0)), (1, .int p1), (2, .int p2)]) X.hx X.hb dX11_tolds_3 hl (by decide) rfl (fun ls hl => ?_)
  obtain ⟨K_1, eK_3, hf⟩ := jn_i hf
  have hj_2 : ∀ (x3_4 : Int32) (H : Heap) (locs : List Loc) (ls : Array Slot), K_1 x3_4 = some r → va_P G.1 vwCl (gY G uY iY sY tY jY) H → va_D A (gY G uY iY sY tY jY) → va_S A s.heap H locs → lv_has ls 5 [(2, .int p2), (3, .int x3_4)] → W p l e (RM 2) s m args below meth c H locs 0 0 QQ (F0 m 44 ls []) := by
    intro x3_4 H locs ls hf hP hD hS hl
    rw [eK_3] at hf
    try dsimp only at hf
    refine lv_iload_n X.hx X.hb dX11_tolds_44 rfl (lv_at hl 1 rfl) ?_
    refine lv_iload_n X.hx X.hb dX11_tolds_45 rfl (lv_at hl 0 rfl) ?_
    refine lv_iconst (v := (-1)) X.hx X.hb dX11_tolds_46 (by decide) ?_
    refine lv_ixor X.hx X.hb dX11_tolds_47 ?_
    refine lv_iand X.hx X.hb dX11_tolds_48 ?_
    cases hf
    subst hQ
    exact r_iret X hP hD hS dX11_tolds_49
  have hlo_5 : ∀ (k : Nat) (v3_6 : Int32) (v4_7 : Int32) (H : Heap) (locs : List Loc) (ls : Array Slot), f_X11_tolds_5 N iY sY tY jY p1 p2 K_1 k v3_6 v4_7 = some r → va_P G.1 vwCl (gY G uY iY sY tY jY) H → va_D A (gY G uY iY sY tY jY) → va_S A s.heap H locs → lv_has ls 5 [(0, .ref (uY 0)), (1, .int p1), (2, .int p2), (3, .int v3_6), (4, .int v4_7)] → W p l e (RM 2) s m args below meth c H locs 0 0 QQ (F0 m 5 ls []) := by
    intro k
    induction k with
    | zero => intro v3_6 v4_7 H locs ls hf; exact absurd hf (by intro q; cases q)
    | succ k ih =>
      intro v3_6 v4_7 H locs ls hf hP hD hS hl
      unfold f_X11_tolds_5 at hf
      refine lv_iload X.hx X.hb dX11_tolds_5 (lv_at hl 4 rfl) ?_
      refine lv_aload_n X.hx X.hb dX11_tolds_7 rfl (lv_at hl 0 rfl) ?_
      refine gf_X11_33 X hP 0 rfl (v := .ref (uY 7)) rfl dX11_tolds_8 ?_
      refine lv_iconst (v := 0) X.hx X.hb dX11_tolds_11 (by decide) ?_
      refine r_iald X hP 2 (f := (sY 6)) rfl (vp_c rfl) dX11_tolds_12 ?_
      refine W.eq (g2 := F0 m 13 ls [.int ((sY 6) 0), .int v4_7]) rfl ?_
      refine lv_icmp_ge (tgt := 44) X.hx X.hb dX11_tolds_13 (by decide) (fun hc_8 => ?_) (fun hc_8 => ?_)
      · replace hf := if_t hf hc_8
        exact hj_2 _ _ _ _ hf hP hD hS (lv_sub hl [2, 3] rfl)
      · replace hf := if_f hf hc_8
        refine lv_iload_n X.hx X.hb dX11_tolds_16 rfl (lv_at hl 3 rfl) ?_
        refine lv_iload_n X.hx X.hb dX11_tolds_17 rfl (lv_at hl 1 rfl) ?_
        refine lv_iload X.hx X.hb dX11_tolds_18 (lv_at hl 4 rfl) ?_
        obtain ⟨r_9, hc_10, hf⟩ := bd_i hf
        refine r_cs0 (As := [.int p1, .int v4_7]) (rest := [.int v3_6]) X sm_X11_214 (c_X11_bitOf l G N p1 v4_7 hc_10) hP hD hS hA rfl hl.1 (lv_room (Nat.le_of_ble_eq_true rfl)) ⟨Nat.le_of_ble_eq_true rfl, Nat.le_of_ble_eq_true rfl⟩ ⟨Nat.zero_le _, Nat.zero_le _⟩ dX11_tolds_20 (fun H locs hP hD hS => ?_)
        obtain ⟨K_11, eK_13, hf⟩ := jn_i hf
        have hj_12 : ∀ (y_14 : Int32) (H : Heap) (locs : List Loc) (ls : Array Slot), K_11 y_14 = some r → va_P G.1 vwCl (gY G uY iY sY tY jY) H → va_D A (gY G uY iY sY tY jY) → va_S A s.heap H locs → lv_has ls 5 [(0, .ref (uY 0)), (1, .int p1), (2, .int p2), (4, .int v4_7)] → W p l e (RM 2) s m args below meth c H locs 0 0 QQ (F0 m 36 ls [.int y_14, .int v3_6]) := by
          intro y_14 H locs ls hf hP hD hS hl
          rw [eK_13] at hf
          try dsimp only at hf
          refine lv_ior X.hx X.hb dX11_tolds_36 ?_
          refine lv_istore_n (lv' := [(3, .int (v3_6 ||| y_14)), (0, .ref (uY 0)), (1, .int p1), (2, .int p2), (4, .int v4_7)]) X.hx X.hb dX11_tolds_37 rfl hl (by decide) rfl (fun ls hl => ?_)
          refine lv_iinc (v := (v4_7 + 1)) (lv' := [(4, .int (v4_7 + 1)), (3, .int (v3_6 ||| y_14)), (0, .ref (uY 0)), (1, .int p1), (2, .int p2)]) X.hx X.hb dX11_tolds_38 hl (k := 4) rfl rfl (by decide) rfl (fun ls hl => ?_)
          refine lv_goto (tgt := 5) X.hx X.hb dX11_tolds_41 (by decide) ?_
          exact ih _ _ _ _ _ hf hP hD hS (lv_sub hl [2, 3, 4, 1, 0] rfl)
        refine lv_if_eq (tgt := 35) X.hx X.hb dX11_tolds_23 (by decide) (fun hc_15 => ?_) (fun hc_15 => ?_)
        · replace hf := if_t hf hc_15
          refine lv_iconst (v := 0) X.hx X.hb dX11_tolds_35 (by decide) ?_
          exact hj_12 _ _ _ _ hf hP hD hS (lv_sub hl [0, 1, 2, 4] rfl)
        · replace hf := if_f hf hc_15
          refine lv_aload_n X.hx X.hb dX11_tolds_26 rfl (lv_at hl 0 rfl) ?_
          refine lv_iload X.hx X.hb dX11_tolds_27 (lv_at hl 4 rfl) ?_
          obtain ⟨r_16, hc_17, hf⟩ := bd_i hf
          refine r_cvi (As := [.int v4_7]) (rest := [.int v3_6]) X sm_X11_265 (c_X11_knownBy l G N uY iY sY tY jY v4_7 hc_17) hP hD hS hA 0 rfl rfl [0, 1, 2, 3, 4, 5, 6, 7, 8, 9, 10, 11, 12, 13, 14, 15, 16, 17, 18, 19, 20] rfl rfl rfl (wo := (gY G uY iY sY tY jY)) rfl rfl hl.1 (lv_room (Nat.le_of_ble_eq_true rfl)) ⟨Nat.le_of_ble_eq_true rfl, Nat.le_of_ble_eq_true rfl⟩ ⟨Nat.zero_le _, Nat.zero_le _⟩ dX11_tolds_29 (fun H locs hP hD hS => ?_)
          refine lv_goto (tgt := 36) X.hx X.hb dX11_tolds_32 (by decide) ?_
          exact hj_12 _ _ _ _ hf hP hD hS (lv_sub hl [0, 1, 2, 4] rfl)
  exact hlo_5 N _ _ _ _ _ hf hP hD hS (lv_sub hl [2, 3, 4, 1, 0] rfl)

def f_X11_out_33 (N : Nat) (iY : Nat → Int32) (sY : Nat → Nat → Int32) (tY : Nat → Nat → Int64) (jY : Nat → Int64) (v2 : Int32) : Nat → (Int32) → (Int32) → Option (Int32 × (Nat → Int32))
  | 0, _, _ => none
  | k + 1, v3, v4 => (if v3 = v2 then some (v4, iY) else bd (f_X11_tolds N iY sY tY jY v3 0) (fun r_14 => (if r_14 = v3 then some ((-1), iY) else f_X11_out_33 N iY sY tY jY v2 k r_14 (v4 + 1))))
def f_X11_out (N : Nat) (iY : Nat → Int32) (sY : Nat → Nat → Int32) (tY : Nat → Nat → Int64) (jY : Nat → Int64) (p1 : Int32) : Option (Int32 × (Nat → Int32)) :=
  bd (f_X11_isPerson N (va_up iY 0 0) sY tY jY p1) (fun r_1 => (if r_1 = 0 then some ((-1), (va_up iY 0 0)) else nv (((1 : Int32) <<< (((sY 6) 0) &&& 31)) - 1) (fun n_4 => nv ((1 : Int32) <<< (p1 &&& 31)) (fun n_5 => f_X11_out_33 N (va_up iY 0 0) sY tY jY n_4 N n_5 0))))
set_option maxHeartbeats 4000000 in
set_option maxRecDepth 100000 in
theorem c_X11_out (l : Launch) (G : GT) (N : Nat) (uY : Nat → Nat) (iY : Nat → Int32) (sY : Nat → Nat → Int32) (tY : Nat → Nat → Int64) (jY : Nat → Int64) (p1 : Int32) {r : Int32} {iY' : Nat → Int32} (hf : f_X11_out N iY sY tY jY p1 = some (r, iY')) : CI l G yX11_out cX11_out 6 .int 3 [.ref (uY 0), .int p1] (gY G uY iY sY tY jY) r (gY G uY iY' sY tY jY) := by
  refine CI.of (by decide) (Nat.le_of_ble_eq_true rfl) ?_
  intro p e s m args below meth c A X hA hP hD hS ls hl
  have hl : lv_has ls 6 [(0, .ref (uY 0)), (1, .int p1)] := hl
  generalize hQ : MQ below (QI G A r (gY G uY iY' sY tY jY)) args s 0 0 A = QQ
  unfold f_X11_out at hf
  refine lv_aload_n X.hx X.hb dX11_out_0 rfl (lv_at hl 0 rfl) ?_
  refine lv_iconst (v := 0) X.hx X.hb dX11_out_1 (by decide) ?_
  refine pf_X11_1 X hP hD hS 0 rfl rfl rfl (Nat.le_of_ble_eq_true rfl) (wo := (gY G uY (va_up iY 0 0) sY tY jY)) rfl dX11_out_2 (fun H locs hP hD hS => ?_)
  refine lv_aload_n X.hx X.hb dX11_out_5 rfl (lv_at hl 0 rfl) ?_
  refine lv_iload_n X.hx X.hb dX11_out_6 rfl (lv_at hl 1 rfl) ?_
  obtain ⟨r_1, hc_2, hf⟩ := bd_i hf
  refine r_cvi (As := [.int p1]) (rest := []) X sm_X11_272 (c_X11_isPerson l G N uY (va_up iY 0 0) sY tY jY p1 hc_2) hP hD hS hA 0 rfl rfl [0, 1, 2, 3, 4, 5, 6, 7, 8, 9, 10, 11, 12, 13, 14, 15, 16, 17, 18, 19, 20] rfl rfl rfl (wo := (gY G uY (va_up iY 0 0) sY tY jY)) rfl rfl hl.1 (lv_room (Nat.le_of_ble_eq_true rfl)) ⟨Nat.le_of_ble_eq_true rfl, Nat.le_of_ble_eq_true rfl⟩ ⟨Nat.zero_le _, Nat.zero_le _⟩ dX11_out_7 (fun H locs hP hD hS => ?_)
  refine lv_if_ne (tgt := 15) X.hx X.hb dX11_out_10 (by decide) (fun hc_3 => ?_) (fun hc_3 => ?_)
  · replace hf := if_f hf hc_3
    refine lv_iconst (v := 1) X.hx X.hb dX11_out_15 (by decide) ?_
    refine lv_aload_n X.hx X.hb dX11_out_16 rfl (lv_at hl 0 rfl) ?_
    refine gf_X11_33 X hP 0 rfl (v := .ref (uY 7)) rfl dX11_out_17 ?_
    refine lv_iconst (v := 0) X.hx X.hb dX11_out_20 (by decide) ?_
    refine r_iald X hP 2 (f := (sY 6)) rfl (vp_c rfl) dX11_out_21 ?_
    refine W.eq (g2 := F0 m 22 ls [.int ((sY 6) 0), .int 1]) rfl ?_
    refine lv_ishl X.hx X.hb dX11_out_22 ?_
    refine lv_iconst (v := 1) X.hx X.hb dX11_out_23 (by decide) ?_
    refine lv_isub X.hx X.hb dX11_out_24 ?_
    obtain ⟨n_4, en_4, hf⟩ := nv_i hf
    refine r_nm en_4 ?_
    refine lv_istore_n (lv' := [(2, .int n_4), (0, .ref (uY 0)), (1, .int p1)]) X.hx X.hb dX11_out_25 rfl hl (by decide) rfl (fun ls hl => ?_)
    refine lv_iconst (v := 1) X.hx X.hb dX11_out_26 (by decide) ?_
    refine lv_iload_n X.hx X.hb dX11_out_27 rfl (lv_at hl 2 rfl) ?_
    refine lv_ishl X.hx X.hb dX11_out_28 ?_
    obtain ⟨n_5, en_5, hf⟩ := nv_i hf
    refine r_nm en_5 ?_
    refine lv_istore_n (lv' := [(3, .int n_5), (2, .int n_4), (0, .ref (uY 0)), (1, .int p1)]) X.hx X.hb dX11_out_29 rfl hl (by decide) rfl (fun ls hl => ?_)
    refine lv_iconst (v := 0) X.hx X.hb dX11_out_30 (by decide) ?_
    refine lv_istore (lv' := [(4, .int 0), (3, .int n_5), (2, .int n_4), (0, .ref (uY 0)), (1, .int p1)]) X.hx X.hb dX11_out_31 hl (by decide) rfl (fun ls hl => ?_)
    have hlo_6 : ∀ (k : Nat) (v3_7 : Int32) (v4_8 : Int32) (H : Heap) (locs : List Loc) (ls : Array Slot), f_X11_out_33 N (va_up iY 0 0) sY tY jY n_4 k v3_7 v4_8 = some (r, iY') → va_P G.1 vwCl (gY G uY (va_up iY 0 0) sY tY jY) H → va_D A (gY G uY (va_up iY 0 0) sY tY jY) → va_S A s.heap H locs → lv_has ls 6 [(0, .ref (uY 0)), (2, .int n_4), (3, .int v3_7), (4, .int v4_8)] → W p l e (RM 3) s m args below meth c H locs 0 0 QQ (F0 m 33 ls []) := by
      intro k
      induction k with
      | zero => intro v3_7 v4_8 H locs ls hf; exact absurd hf (by intro q; cases q)
      | succ k ih =>
        intro v3_7 v4_8 H locs ls hf hP hD hS hl
        unfold f_X11_out_33 at hf
        refine lv_iload_n X.hx X.hb dX11_out_33 rfl (lv_at hl 2 rfl) ?_
        refine lv_iload_n X.hx X.hb dX11_out_34 rfl (lv_at hl 1 rfl) ?_
        refine lv_icmp_eq (tgt := 63) X.hx X.hb dX11_out_35 (by decide) (fun hc_9 => ?_) (fun hc_9 => ?_)
        · replace hf := if_t hf hc_9
          refine lv_iload X.hx X.hb dX11_out_63 (lv_at hl 3 rfl) ?_
          cases hf
          subst hQ
          exact r_iret X hP hD hS dX11_out_65
        · replace hf := if_f hf hc_9
          refine lv_aload_n X.hx X.hb dX11_out_38 rfl (lv_at hl 0 rfl) ?_
          refine lv_iload_n X.hx X.hb dX11_out_39 rfl (lv_at hl 2 rfl) ?_
          refine lv_iconst (v := 0) X.hx X.hb dX11_out_40 (by decide) ?_
          obtain ⟨r_10, hc_11, hf⟩ := bd_i hf
          refine r_cvi (As := [.int v3_7, .int 0]) (rest := []) X sm_X11_370 (c_X11_tolds l G N uY (va_up iY 0 0) sY tY jY v3_7 0 hc_11) hP hD hS hA 0 rfl rfl [0, 1, 2, 3, 4, 5, 6, 7, 8, 9, 10, 11, 12, 13, 14, 15, 16, 17, 18, 19, 20] rfl rfl rfl (wo := (gY G uY (va_up iY 0 0) sY tY jY)) rfl rfl hl.1 (lv_room (Nat.le_of_ble_eq_true rfl)) ⟨Nat.le_of_ble_eq_true rfl, Nat.le_of_ble_eq_true rfl⟩ ⟨Nat.zero_le _, Nat.zero_le _⟩ dX11_out_41 (fun H locs hP hD hS => ?_)
          refine lv_istore (lv' := [(5, .int r_10), (0, .ref (uY 0)), (2, .int n_4), (3, .int v3_7), (4, .int v4_8)]) X.hx X.hb dX11_out_44 hl (by decide) rfl (fun ls hl => ?_)
          refine lv_iload X.hx X.hb dX11_out_46 (lv_at hl 0 rfl) ?_
          refine lv_iload_n X.hx X.hb dX11_out_48 rfl (lv_at hl 3 rfl) ?_
          refine lv_icmp_ne (tgt := 54) X.hx X.hb dX11_out_49 (by decide) (fun hc_12 => ?_) (fun hc_12 => ?_)
          · replace hf := if_f hf hc_12
            refine lv_iload X.hx X.hb dX11_out_54 (lv_at hl 0 rfl) ?_
            refine lv_istore_n (lv' := [(3, .int r_10), (5, .int r_10), (0, .ref (uY 0)), (2, .int n_4), (4, .int v4_8)]) X.hx X.hb dX11_out_56 rfl hl (by decide) rfl (fun ls hl => ?_)
            refine lv_iinc (v := (v4_8 + 1)) (lv' := [(4, .int (v4_8 + 1)), (3, .int r_10), (5, .int r_10), (0, .ref (uY 0)), (2, .int n_4)]) X.hx X.hb dX11_out_57 hl (k := 4) rfl rfl (by decide) rfl (fun ls hl => ?_)
            refine lv_goto (tgt := 33) X.hx X.hb dX11_out_60 (by decide) ?_
            exact ih _ _ _ _ _ hf hP hD hS (lv_sub hl [3, 4, 1, 0] rfl)
          · replace hf := if_t hf hc_12
            refine lv_iconst (v := (-1)) X.hx X.hb dX11_out_52 (by decide) ?_
            cases hf
            subst hQ
            exact r_iret X hP hD hS dX11_out_53
    exact hlo_6 N _ _ _ _ _ hf hP hD hS (lv_sub hl [3, 2, 1, 0] rfl)
  · replace hf := if_t hf hc_3
    refine lv_iconst (v := (-1)) X.hx X.hb dX11_out_13 (by decide) ?_
    cases hf
    subst hQ
    exact r_iret X hP hD hS dX11_out_14

def f_X11_areApart_8 (N : Nat) (iY : Nat → Int32) (sY : Nat → Nat → Int32) (tY : Nat → Nat → Int64) (jY : Nat → Int64) (v2 : Int32) (v3 : Int32) (K_2 : ((Int32)) → Option (Int32)) : Nat → (Int32) → (Int32) → Option (Int32)
  | 0, _, _ => none
  | k + 1, v4, v5 => (if (7 : Int32) ≤ v5 then K_2 v4 else bd (f_X11_tolds N iY sY tY jY v4 v3) (fun r_16 => f_X11_areApart_8 N iY sY tY jY v2 v3 K_2 k r_16 (v5 + 1)))
def f_X11_areApart (N : Nat) (iY : Nat → Int32) (sY : Nat → Nat → Int32) (tY : Nat → Nat → Int64) (jY : Nat → Int64) (p1 : Int32) (p2 : Int32) (p3 : Int32) : Option (Int32) :=
  nv ((1 : Int32) <<< (p1 &&& 31)) (fun n_1 => jn (fun (z : (Int32)) => match z with | x4_5 => bd (f_X11_bitOf N x4_5 p2) (fun r_6 => (if r_6 = 0 then some 1 else some 0))) (fun K_2 => f_X11_areApart_8 N iY sY tY jY p2 p3 K_2 N n_1 0))
set_option maxHeartbeats 4000000 in
set_option maxRecDepth 100000 in
theorem c_X11_areApart (l : Launch) (G : GT) (N : Nat) (uY : Nat → Nat) (iY : Nat → Int32) (sY : Nat → Nat → Int32) (tY : Nat → Nat → Int64) (jY : Nat → Int64) (p1 : Int32) (p2 : Int32) (p3 : Int32) {r : Int32} (hf : f_X11_areApart N iY sY tY jY p1 p2 p3 = some r) : CI l G yX11_areApart cX11_areApart 6 .boolean 3 [.ref (uY 0), .int p1, .int p2, .int p3] (gY G uY iY sY tY jY) r (gY G uY iY sY tY jY) := by
  refine CI.of (by decide) (Nat.le_of_ble_eq_true rfl) ?_
  intro p e s m args below meth c A X hA hP hD hS ls hl
  have hl : lv_has ls 6 [(0, .ref (uY 0)), (1, .int p1), (2, .int p2), (3, .int p3)] := hl
  generalize hQ : MQ below (QI G A r (gY G uY iY sY tY jY)) args s 0 0 A = QQ
  unfold f_X11_areApart at hf
  refine lv_iconst (v := 1) X.hx X.hb dX11_areApart_0 (by decide) ?_
  refine lv_iload_n X.hx X.hb dX11_areApart_1 rfl (lv_at hl 1 rfl) ?_
  refine lv_ishl X.hx X.hb dX11_areApart_2 ?_
  obtain ⟨n_1, en_1, hf⟩ := nv_i hf
  refine r_nm en_1 ?_
  refine lv_istore (lv' := [(4, .int n_1), (0, .ref (uY 0)), (1, .int p1), (2, .int p2), (3, .int p3)]) X.hx X.hb dX11_areApart_3 hl (by decide) rfl (fun ls hl => ?_)
  refine lv_iconst (v := 0) X.hx X.hb dX11_areApart_5 (by decide) ?_
  refine lv_istore (lv' := [(5, .int 0), (4, .int n_1), (0, .ref (uY 0)), (1, .int p1), (2, .int p2), (3, .int p3)]) X.hx X.hb dX11_areApart_6 hl (by decide) rfl (fun ls hl => ?_)
  obtain ⟨K_2, eK_4, hf⟩ := jn_i hf
  have hj_3 : ∀ (x4_5 : Int32) (H : Heap) (locs : List Loc) (ls : Array Slot), K_2 x4_5 = some r → va_P G.1 vwCl (gY G uY iY sY tY jY) H → va_D A (gY G uY iY sY tY jY) → va_S A s.heap H locs → lv_has ls 6 [(2, .int p2), (4, .int x4_5)] → W p l e (RM 3) s m args below meth c H locs 0 0 QQ (F0 m 30 ls []) := by
    intro x4_5 H locs ls hf hP hD hS hl
    rw [eK_4] at hf
    try dsimp only at hf
    refine lv_iload X.hx X.hb dX11_areApart_30 (lv_at hl 1 rfl) ?_
    refine lv_iload_n X.hx X.hb dX11_areApart_32 rfl (lv_at hl 0 rfl) ?_
    obtain ⟨r_6, hc_7, hf⟩ := bd_i hf
    refine r_cs0 (As := [.int x4_5, .int p2]) (rest := []) X sm_X11_214 (c_X11_bitOf l G N x4_5 p2 hc_7) hP hD hS hA rfl hl.1 (lv_room (Nat.le_of_ble_eq_true rfl)) ⟨Nat.le_of_ble_eq_true rfl, Nat.le_of_ble_eq_true rfl⟩ ⟨Nat.zero_le _, Nat.zero_le _⟩ dX11_areApart_33 (fun H locs hP hD hS => ?_)
    refine lv_if_ne (tgt := 43) X.hx X.hb dX11_areApart_36 (by decide) (fun hc_8 => ?_) (fun hc_8 => ?_)
    · replace hf := if_f hf hc_8
      refine lv_iconst (v := 0) X.hx X.hb dX11_areApart_43 (by decide) ?_
      cases hf
      subst hQ
      exact r_zret X hP hD hS (by decide) dX11_areApart_44
    · replace hf := if_t hf hc_8
      refine lv_iconst (v := 1) X.hx X.hb dX11_areApart_39 (by decide) ?_
      refine lv_goto (tgt := 44) X.hx X.hb dX11_areApart_40 (by decide) ?_
      cases hf
      subst hQ
      exact r_zret X hP hD hS (by decide) dX11_areApart_44
  have hlo_9 : ∀ (k : Nat) (v4_10 : Int32) (v5_11 : Int32) (H : Heap) (locs : List Loc) (ls : Array Slot), f_X11_areApart_8 N iY sY tY jY p2 p3 K_2 k v4_10 v5_11 = some r → va_P G.1 vwCl (gY G uY iY sY tY jY) H → va_D A (gY G uY iY sY tY jY) → va_S A s.heap H locs → lv_has ls 6 [(0, .ref (uY 0)), (2, .int p2), (3, .int p3), (4, .int v4_10), (5, .int v5_11)] → W p l e (RM 3) s m args below meth c H locs 0 0 QQ (F0 m 8 ls []) := by
    intro k
    induction k with
    | zero => intro v4_10 v5_11 H locs ls hf; exact absurd hf (by intro q; cases q)
    | succ k ih =>
      intro v4_10 v5_11 H locs ls hf hP hD hS hl
      unfold f_X11_areApart_8 at hf
      refine lv_iload X.hx X.hb dX11_areApart_8 (lv_at hl 4 rfl) ?_
      refine lv_bipush (v := 7) X.hx X.hb dX11_areApart_10 (by decide) ?_
      refine lv_icmp_ge (tgt := 30) X.hx X.hb dX11_areApart_12 (by decide) (fun hc_12 => ?_) (fun hc_12 => ?_)
      · replace hf := if_t hf hc_12
        exact hj_3 _ _ _ _ hf hP hD hS (lv_sub hl [1, 3] rfl)
      · replace hf := if_f hf hc_12
        refine lv_aload_n X.hx X.hb dX11_areApart_15 rfl (lv_at hl 0 rfl) ?_
        refine lv_iload X.hx X.hb dX11_areApart_16 (lv_at hl 3 rfl) ?_
        refine lv_iload_n X.hx X.hb dX11_areApart_18 rfl (lv_at hl 2 rfl) ?_
        obtain ⟨r_13, hc_14, hf⟩ := bd_i hf
        refine r_cvi (As := [.int v4_10, .int p3]) (rest := []) X sm_X11_370 (c_X11_tolds l G N uY iY sY tY jY v4_10 p3 hc_14) hP hD hS hA 0 rfl rfl [0, 1, 2, 3, 4, 5, 6, 7, 8, 9, 10, 11, 12, 13, 14, 15, 16, 17, 18, 19, 20] rfl rfl rfl (wo := (gY G uY iY sY tY jY)) rfl rfl hl.1 (lv_room (Nat.le_of_ble_eq_true rfl)) ⟨Nat.le_of_ble_eq_true rfl, Nat.le_of_ble_eq_true rfl⟩ ⟨Nat.zero_le _, Nat.zero_le _⟩ dX11_areApart_19 (fun H locs hP hD hS => ?_)
        refine lv_istore (lv' := [(4, .int r_13), (0, .ref (uY 0)), (2, .int p2), (3, .int p3), (5, .int v5_11)]) X.hx X.hb dX11_areApart_22 hl (by decide) rfl (fun ls hl => ?_)
        refine lv_iinc (v := (v5_11 + 1)) (lv' := [(5, .int (v5_11 + 1)), (4, .int r_13), (0, .ref (uY 0)), (2, .int p2), (3, .int p3)]) X.hx X.hb dX11_areApart_24 hl (k := 4) rfl rfl (by decide) rfl (fun ls hl => ?_)
        refine lv_goto (tgt := 8) X.hx X.hb dX11_areApart_27 (by decide) ?_
        exact ih _ _ _ _ _ hf hP hD hS (lv_sub hl [2, 3, 4, 1, 0] rfl)
  exact hlo_9 N _ _ _ _ _ hf hP hD hS (lv_sub hl [2, 4, 5, 1, 0] rfl)

def f_X11_apart_45 (N : Nat) (iY : Nat → Int32) (sY : Nat → Nat → Int32) (tY : Nat → Nat → Int64) (jY : Nat → Int64) (v1 : Int32) (v2 : Int32) (K_13 : ((Int32)) → Option (Int32 × (Nat → Int32))) : Nat → (Int32) → (Int32) → Option (Int32 × (Nat → Int32))
  | 0, _, _ => none
  | k + 1, v3, v4 => (if ((1 : Int32) <<< (((sY 6) 0) &&& 31)) ≤ v4 then K_13 v3 else bd (f_X11_bitOf N v4 v1) (fun r_46 => jn (fun (z : (Int32)) => match z with | x3_51 => f_X11_apart_45 N iY sY tY jY v1 v2 K_13 k x3_51 (v4 + 1)) (fun K_48 => (if r_46 = 0 then bd (f_X11_bitOf N v4 v2) (fun r_53 => (if r_53 = 0 then jn (fun (z : Unit) => match z with | () => bd (f_X11_areApart N iY sY tY jY v1 v2 v4) (fun r_59 => (if r_59 = 0 then K_48 v3 else K_48 v4))) (fun K_56 => (if v3 < 0 then K_56 () else bd (f_X11_bits N v4) (fun r_63 => bd (f_X11_bits N v3) (fun r_65 => (if r_65 ≤ r_63 then K_48 v3 else K_56 ()))))) else K_48 v3)) else K_48 v3))))
def f_X11_apart (N : Nat) (iY : Nat → Int32) (sY : Nat → Nat → Int32) (tY : Nat → Nat → Int64) (jY : Nat → Int64) (p1 : Int32) (p2 : Int32) : Option (Int32 × (Nat → Int32)) :=
  bd (f_X11_isPerson N (va_up iY 0 0) sY tY jY p1) (fun r_1 => (if r_1 = 0 then some ((-1), (va_up iY 0 0)) else bd (f_X11_isPerson N (va_up iY 0 0) sY tY jY p2) (fun r_4 => (if r_4 = 0 then some ((-1), (va_up iY 0 0)) else (if p1 = p2 then some ((-1), (va_up iY 0 0)) else bd (f_X11_knownBy N (va_up iY 0 0) sY tY jY p1) (fun r_8 => bd (f_X11_bitOf N r_8 p2) (fun r_10 => (if r_10 = 0 then jn (fun (z : (Int32)) => match z with | x3_16 => bd (f_X11_bits N x3_16) (fun r_17 => some (r_17, (va_up (va_up (va_up iY 0 0) 35 1) 34 x3_16)))) (fun K_13 => f_X11_apart_45 N (va_up iY 0 0) sY tY jY p1 p2 K_13 N (-1) 0) else some ((-1), (va_up iY 0 0))))))))))
set_option maxHeartbeats 4000000 in
set_option maxRecDepth 100000 in
theorem c_X11_apart (l : Launch) (G : GT) (N : Nat) (uY : Nat → Nat) (iY : Nat → Int32) (sY : Nat → Nat → Int32) (tY : Nat → Nat → Int64) (jY : Nat → Int64) (p1 : Int32) (p2 : Int32) {r : Int32} {iY' : Nat → Int32} (hf : f_X11_apart N iY sY tY jY p1 p2 = some (r, iY')) : CI l G yX11_apart cX11_apart 5 .int 4 [.ref (uY 0), .int p1, .int p2] (gY G uY iY sY tY jY) r (gY G uY iY' sY tY jY) := by
  refine CI.of (by decide) (Nat.le_of_ble_eq_true rfl) ?_
  intro p e s m args below meth c A X hA hP hD hS ls hl
  have hl : lv_has ls 5 [(0, .ref (uY 0)), (1, .int p1), (2, .int p2)] := hl
  generalize hQ : MQ below (QI G A r (gY G uY iY' sY tY jY)) args s 0 0 A = QQ
  unfold f_X11_apart at hf
  refine lv_aload_n X.hx X.hb dX11_apart_0 rfl (lv_at hl 0 rfl) ?_
  refine lv_iconst (v := 0) X.hx X.hb dX11_apart_1 (by decide) ?_
  refine pf_X11_1 X hP hD hS 0 rfl rfl rfl (Nat.le_of_ble_eq_true rfl) (wo := (gY G uY (va_up iY 0 0) sY tY jY)) rfl dX11_apart_2 (fun H locs hP hD hS => ?_)
  refine lv_aload_n X.hx X.hb dX11_apart_5 rfl (lv_at hl 0 rfl) ?_
  refine lv_iload_n X.hx X.hb dX11_apart_6 rfl (lv_at hl 1 rfl) ?_
  obtain ⟨r_1, hc_2, hf⟩ := bd_i hf
  refine r_cvi (As := [.int p1]) (rest := []) X sm_X11_272 (c_X11_isPerson l G N uY (va_up iY 0 0) sY tY jY p1 hc_2) hP hD hS hA 0 rfl rfl [0, 1, 2, 3, 4, 5, 6, 7, 8, 9, 10, 11, 12, 13, 14, 15, 16, 17, 18, 19, 20] rfl rfl rfl (wo := (gY G uY (va_up iY 0 0) sY tY jY)) rfl rfl hl.1 (lv_room (Nat.le_of_ble_eq_true rfl)) ⟨Nat.le_of_ble_eq_true rfl, Nat.le_of_ble_eq_true rfl⟩ ⟨Nat.zero_le _, Nat.zero_le _⟩ dX11_apart_7 (fun H locs hP hD hS => ?_)
  refine lv_if_eq (tgt := 38) X.hx X.hb dX11_apart_10 (by decide) (fun hc_3 => ?_) (fun hc_3 => ?_)
  · replace hf := if_t hf hc_3
    refine lv_iconst (v := (-1)) X.hx X.hb dX11_apart_38 (by decide) ?_
    cases hf
    subst hQ
    exact r_iret X hP hD hS dX11_apart_39
  · replace hf := if_f hf hc_3
    refine lv_aload_n X.hx X.hb dX11_apart_13 rfl (lv_at hl 0 rfl) ?_
    refine lv_iload_n X.hx X.hb dX11_apart_14 rfl (lv_at hl 2 rfl) ?_
    obtain ⟨r_4, hc_5, hf⟩ := bd_i hf
    refine r_cvi (As := [.int p2]) (rest := []) X sm_X11_272 (c_X11_isPerson l G N uY (va_up iY 0 0) sY tY jY p2 hc_5) hP hD hS hA 0 rfl rfl [0, 1, 2, 3, 4, 5, 6, 7, 8, 9, 10, 11, 12, 13, 14, 15, 16, 17, 18, 19, 20] rfl rfl rfl (wo := (gY G uY (va_up iY 0 0) sY tY jY)) rfl rfl hl.1 (lv_room (Nat.le_of_ble_eq_true rfl)) ⟨Nat.le_of_ble_eq_true rfl, Nat.le_of_ble_eq_true rfl⟩ ⟨Nat.zero_le _, Nat.zero_le _⟩ dX11_apart_15 (fun H locs hP hD hS => ?_)
    refine lv_if_eq (tgt := 38) X.hx X.hb dX11_apart_18 (by decide) (fun hc_6 => ?_) (fun hc_6 => ?_)
    · replace hf := if_t hf hc_6
      refine lv_iconst (v := (-1)) X.hx X.hb dX11_apart_38 (by decide) ?_
      cases hf
      subst hQ
      exact r_iret X hP hD hS dX11_apart_39
    · replace hf := if_f hf hc_6
      refine lv_iload_n X.hx X.hb dX11_apart_21 rfl (lv_at hl 1 rfl) ?_
      refine lv_iload_n X.hx X.hb dX11_apart_22 rfl (lv_at hl 2 rfl) ?_
      refine lv_icmp_eq (tgt := 38) X.hx X.hb dX11_apart_23 (by decide) (fun hc_7 => ?_) (fun hc_7 => ?_)
      · replace hf := if_t hf hc_7
        refine lv_iconst (v := (-1)) X.hx X.hb dX11_apart_38 (by decide) ?_
        cases hf
        subst hQ
        exact r_iret X hP hD hS dX11_apart_39
      · replace hf := if_f hf hc_7
        refine lv_aload_n X.hx X.hb dX11_apart_26 rfl (lv_at hl 0 rfl) ?_
        refine lv_iload_n X.hx X.hb dX11_apart_27 rfl (lv_at hl 1 rfl) ?_
        obtain ⟨r_8, hc_9, hf⟩ := bd_i hf
        refine r_cvi (As := [.int p1]) (rest := []) X sm_X11_265 (c_X11_knownBy l G N uY (va_up iY 0 0) sY tY jY p1 hc_9) hP hD hS hA 0 rfl rfl [0, 1, 2, 3, 4, 5, 6, 7, 8, 9, 10, 11, 12, 13, 14, 15, 16, 17, 18, 19, 20] rfl rfl rfl (wo := (gY G uY (va_up iY 0 0) sY tY jY)) rfl rfl hl.1 (lv_room (Nat.le_of_ble_eq_true rfl)) ⟨Nat.le_of_ble_eq_true rfl, Nat.le_of_ble_eq_true rfl⟩ ⟨Nat.zero_le _, Nat.zero_le _⟩ dX11_apart_28 (fun H locs hP hD hS => ?_)
        refine lv_iload_n X.hx X.hb dX11_apart_31 rfl (lv_at hl 2 rfl) ?_
        obtain ⟨r_10, hc_11, hf⟩ := bd_i hf
        refine r_cs0 (As := [.int r_8, .int p2]) (rest := []) X sm_X11_214 (c_X11_bitOf l G N r_8 p2 hc_11) hP hD hS hA rfl hl.1 (lv_room (Nat.le_of_ble_eq_true rfl)) ⟨Nat.le_of_ble_eq_true rfl, Nat.le_of_ble_eq_true rfl⟩ ⟨Nat.zero_le _, Nat.zero_le _⟩ dX11_apart_32 (fun H locs hP hD hS => ?_)
        refine lv_if_eq (tgt := 40) X.hx X.hb dX11_apart_35 (by decide) (fun hc_12 => ?_) (fun hc_12 => ?_)
        · replace hf := if_t hf hc_12
          refine lv_iconst (v := (-1)) X.hx X.hb dX11_apart_40 (by decide) ?_
          refine lv_istore_n (lv' := [(3, .int (-1)), (0, .ref (uY 0)), (1, .int p1), (2, .int p2)]) X.hx X.hb dX11_apart_41 rfl hl (by decide) rfl (fun ls hl => ?_)
          refine lv_iconst (v := 0) X.hx X.hb dX11_apart_42 (by decide) ?_
          refine lv_istore (lv' := [(4, .int 0), (3, .int (-1)), (0, .ref (uY 0)), (1, .int p1), (2, .int p2)]) X.hx X.hb dX11_apart_43 hl (by decide) rfl (fun ls hl => ?_)
          obtain ⟨K_13, eK_15, hf⟩ := jn_i hf
          have hj_14 : ∀ (x3_16 : Int32) (H : Heap) (locs : List Loc) (ls : Array Slot), K_13 x3_16 = some (r, iY') → va_P G.1 vwCl (gY G uY (va_up iY 0 0) sY tY jY) H → va_D A (gY G uY (va_up iY 0 0) sY tY jY) → va_S A s.heap H locs → lv_has ls 5 [(0, .ref (uY 0)), (3, .int x3_16)] → W p l e (RM 4) s m args below meth c H locs 0 0 QQ (F0 m 112 ls []) := by
            intro x3_16 H locs ls hf hP hD hS hl
            rw [eK_15] at hf
            try dsimp only at hf
            refine lv_aload_n X.hx X.hb dX11_apart_112 rfl (lv_at hl 0 rfl) ?_
            refine lv_iconst (v := 1) X.hx X.hb dX11_apart_113 (by decide) ?_
            refine pf_X11_376 X hP hD hS 0 rfl (by decide) (by decide) (Nat.le_of_ble_eq_true rfl) (wo := (gY G uY (va_up (va_up iY 0 0) 35 1) sY tY jY)) rfl dX11_apart_114 (fun H locs hP hD hS => ?_)
            refine lv_aload_n X.hx X.hb dX11_apart_117 rfl (lv_at hl 0 rfl) ?_
            refine lv_iload_n X.hx X.hb dX11_apart_118 rfl (lv_at hl 1 rfl) ?_
            refine pf_X11_379 X hP hD hS 0 rfl rfl rfl (Nat.le_of_ble_eq_true rfl) (wo := (gY G uY (va_up (va_up (va_up iY 0 0) 35 1) 34 x3_16) sY tY jY)) rfl dX11_apart_119 (fun H locs hP hD hS => ?_)
            refine lv_iload_n X.hx X.hb dX11_apart_122 rfl (lv_at hl 1 rfl) ?_
            obtain ⟨r_17, hc_18, hf⟩ := bd_i hf
            refine r_cs0 (As := [.int x3_16]) (rest := []) X sm_X11_284 (c_X11_bits l G N x3_16 hc_18) hP hD hS hA rfl hl.1 (lv_room (Nat.le_of_ble_eq_true rfl)) ⟨Nat.le_of_ble_eq_true rfl, Nat.le_of_ble_eq_true rfl⟩ ⟨Nat.zero_le _, Nat.zero_le _⟩ dX11_apart_123 (fun H locs hP hD hS => ?_)
            cases hf
            subst hQ
            exact r_iret X hP hD hS dX11_apart_126
          have hlo_19 : ∀ (k : Nat) (v3_20 : Int32) (v4_21 : Int32) (H : Heap) (locs : List Loc) (ls : Array Slot), f_X11_apart_45 N (va_up iY 0 0) sY tY jY p1 p2 K_13 k v3_20 v4_21 = some (r, iY') → va_P G.1 vwCl (gY G uY (va_up iY 0 0) sY tY jY) H → va_D A (gY G uY (va_up iY 0 0) sY tY jY) → va_S A s.heap H locs → lv_has ls 5 [(0, .ref (uY 0)), (1, .int p1), (2, .int p2), (3, .int v3_20), (4, .int v4_21)] → W p l e (RM 4) s m args below meth c H locs 0 0 QQ (F0 m 45 ls []) := by
            intro k
            induction k with
            | zero => intro v3_20 v4_21 H locs ls hf; exact absurd hf (by intro q; cases q)
            | succ k ih =>
              intro v3_20 v4_21 H locs ls hf hP hD hS hl
              unfold f_X11_apart_45 at hf
              refine lv_iload X.hx X.hb dX11_apart_45 (lv_at hl 4 rfl) ?_
              refine lv_iconst (v := 1) X.hx X.hb dX11_apart_47 (by decide) ?_
              refine lv_aload_n X.hx X.hb dX11_apart_48 rfl (lv_at hl 0 rfl) ?_
              refine gf_X11_33 X hP 0 rfl (v := .ref (uY 7)) rfl dX11_apart_49 ?_
              refine lv_iconst (v := 0) X.hx X.hb dX11_apart_52 (by decide) ?_
              refine r_iald X hP 2 (f := (sY 6)) rfl (vp_c rfl) dX11_apart_53 ?_
              refine W.eq (g2 := F0 m 54 ls [.int ((sY 6) 0), .int 1, .int v4_21]) rfl ?_
              refine lv_ishl X.hx X.hb dX11_apart_54 ?_
              refine lv_icmp_ge (tgt := 112) X.hx X.hb dX11_apart_55 (by decide) (fun hc_22 => ?_) (fun hc_22 => ?_)
              · replace hf := if_t hf hc_22
                exact hj_14 _ _ _ _ hf hP hD hS (lv_sub hl [0, 3] rfl)
              · replace hf := if_f hf hc_22
                refine lv_iload X.hx X.hb dX11_apart_58 (lv_at hl 4 rfl) ?_
                refine lv_iload_n X.hx X.hb dX11_apart_60 rfl (lv_at hl 1 rfl) ?_
                obtain ⟨r_23, hc_24, hf⟩ := bd_i hf
                refine r_cs0 (As := [.int v4_21, .int p1]) (rest := []) X sm_X11_214 (c_X11_bitOf l G N v4_21 p1 hc_24) hP hD hS hA rfl hl.1 (lv_room (Nat.le_of_ble_eq_true rfl)) ⟨Nat.le_of_ble_eq_true rfl, Nat.le_of_ble_eq_true rfl⟩ ⟨Nat.zero_le _, Nat.zero_le _⟩ dX11_apart_61 (fun H locs hP hD hS => ?_)
                obtain ⟨K_25, eK_27, hf⟩ := jn_i hf
                have hj_26 : ∀ (x3_28 : Int32) (H : Heap) (locs : List Loc) (ls : Array Slot), K_25 x3_28 = some (r, iY') → va_P G.1 vwCl (gY G uY (va_up iY 0 0) sY tY jY) H → va_D A (gY G uY (va_up iY 0 0) sY tY jY) → va_S A s.heap H locs → lv_has ls 5 [(0, .ref (uY 0)), (1, .int p1), (2, .int p2), (3, .int x3_28), (4, .int v4_21)] → W p l e (RM 4) s m args below meth c H locs 0 0 QQ (F0 m 106 ls []) := by
                  intro x3_28 H locs ls hf hP hD hS hl
                  rw [eK_27] at hf
                  try dsimp only at hf
                  refine lv_iinc (v := (v4_21 + 1)) (lv' := [(4, .int (v4_21 + 1)), (0, .ref (uY 0)), (1, .int p1), (2, .int p2), (3, .int x3_28)]) X.hx X.hb dX11_apart_106 hl (k := 4) rfl rfl (by decide) rfl (fun ls hl => ?_)
                  refine lv_goto (tgt := 45) X.hx X.hb dX11_apart_109 (by decide) ?_
                  exact ih _ _ _ _ _ hf hP hD hS (lv_sub hl [1, 2, 3, 4, 0] rfl)
                refine lv_if_ne (tgt := 106) X.hx X.hb dX11_apart_64 (by decide) (fun hc_29 => ?_) (fun hc_29 => ?_)
                · replace hf := if_f hf hc_29
                  exact hj_26 _ _ _ _ hf hP hD hS (lv_sub hl [0, 1, 2, 3, 4] rfl)
                · replace hf := if_t hf hc_29
                  refine lv_iload X.hx X.hb dX11_apart_67 (lv_at hl 4 rfl) ?_
                  refine lv_iload_n X.hx X.hb dX11_apart_69 rfl (lv_at hl 2 rfl) ?_
                  obtain ⟨r_30, hc_31, hf⟩ := bd_i hf
                  refine r_cs0 (As := [.int v4_21, .int p2]) (rest := []) X sm_X11_214 (c_X11_bitOf l G N v4_21 p2 hc_31) hP hD hS hA rfl hl.1 (lv_room (Nat.le_of_ble_eq_true rfl)) ⟨Nat.le_of_ble_eq_true rfl, Nat.le_of_ble_eq_true rfl⟩ ⟨Nat.zero_le _, Nat.zero_le _⟩ dX11_apart_70 (fun H locs hP hD hS => ?_)
                  refine lv_if_ne (tgt := 106) X.hx X.hb dX11_apart_73 (by decide) (fun hc_32 => ?_) (fun hc_32 => ?_)
                  · replace hf := if_f hf hc_32
                    exact hj_26 _ _ _ _ hf hP hD hS (lv_sub hl [0, 1, 2, 3, 4] rfl)
                  · replace hf := if_t hf hc_32
                    refine lv_iload_n X.hx X.hb dX11_apart_76 rfl (lv_at hl 3 rfl) ?_
                    obtain ⟨K_33, eK_35, hf⟩ := jn_i hf
                    have hj_34 : ∀ (H : Heap) (locs : List Loc) (ls : Array Slot), K_33 () = some (r, iY') → va_P G.1 vwCl (gY G uY (va_up iY 0 0) sY tY jY) H → va_D A (gY G uY (va_up iY 0 0) sY tY jY) → va_S A s.heap H locs → lv_has ls 5 [(0, .ref (uY 0)), (1, .int p1), (2, .int p2), (3, .int v3_20), (4, .int v4_21)] → W p l e (RM 4) s m args below meth c H locs 0 0 QQ (F0 m 92 ls []) := by
                      intro  H locs ls hf hP hD hS hl
                      rw [eK_35] at hf
                      try dsimp only at hf
                      refine lv_aload_n X.hx X.hb dX11_apart_92 rfl (lv_at hl 0 rfl) ?_
                      refine lv_iload_n X.hx X.hb dX11_apart_93 rfl (lv_at hl 1 rfl) ?_
                      refine lv_iload_n X.hx X.hb dX11_apart_94 rfl (lv_at hl 2 rfl) ?_
                      refine lv_iload X.hx X.hb dX11_apart_95 (lv_at hl 4 rfl) ?_
                      obtain ⟨r_36, hc_37, hf⟩ := bd_i hf
                      refine r_cvi (As := [.int p1, .int p2, .int v4_21]) (rest := []) X sm_X11_373 (c_X11_areApart l G N uY (va_up iY 0 0) sY tY jY p1 p2 v4_21 hc_37) hP hD hS hA 0 rfl rfl [0, 1, 2, 3, 4, 5, 6, 7, 8, 9, 10, 11, 12, 13, 14, 15, 16, 17, 18, 19, 20] rfl rfl rfl (wo := (gY G uY (va_up iY 0 0) sY tY jY)) rfl rfl hl.1 (lv_room (Nat.le_of_ble_eq_true rfl)) ⟨Nat.le_of_ble_eq_true rfl, Nat.le_of_ble_eq_true rfl⟩ ⟨Nat.zero_le _, Nat.zero_le _⟩ dX11_apart_97 (fun H locs hP hD hS => ?_)
                      refine lv_if_eq (tgt := 106) X.hx X.hb dX11_apart_100 (by decide) (fun hc_38 => ?_) (fun hc_38 => ?_)
                      · replace hf := if_t hf hc_38
                        exact hj_26 _ _ _ _ hf hP hD hS (lv_sub hl [0, 1, 2, 3, 4] rfl)
                      · replace hf := if_f hf hc_38
                        refine lv_iload X.hx X.hb dX11_apart_103 (lv_at hl 4 rfl) ?_
                        refine lv_istore_n (lv' := [(3, .int v4_21), (0, .ref (uY 0)), (1, .int p1), (2, .int p2), (4, .int v4_21)]) X.hx X.hb dX11_apart_105 rfl hl (by decide) rfl (fun ls hl => ?_)
                        exact hj_26 _ _ _ _ hf hP hD hS (lv_sub hl [1, 2, 3, 0, 4] rfl)
                    refine lv_if_lt (tgt := 92) X.hx X.hb dX11_apart_77 (by decide) (fun hc_39 => ?_) (fun hc_39 => ?_)
                    · replace hf := if_t hf hc_39
                      exact hj_34 _ _ _ hf hP hD hS (lv_sub hl [0, 1, 2, 3, 4] rfl)
                    · replace hf := if_f hf hc_39
                      refine lv_iload X.hx X.hb dX11_apart_80 (lv_at hl 4 rfl) ?_
                      obtain ⟨r_40, hc_41, hf⟩ := bd_i hf
                      refine r_cs0 (As := [.int v4_21]) (rest := []) X sm_X11_284 (c_X11_bits l G N v4_21 hc_41) hP hD hS hA rfl hl.1 (lv_room (Nat.le_of_ble_eq_true rfl)) ⟨Nat.le_of_ble_eq_true rfl, Nat.le_of_ble_eq_true rfl⟩ ⟨Nat.zero_le _, Nat.zero_le _⟩ dX11_apart_82 (fun H locs hP hD hS => ?_)
                      refine lv_iload_n X.hx X.hb dX11_apart_85 rfl (lv_at hl 3 rfl) ?_
                      obtain ⟨r_42, hc_43, hf⟩ := bd_i hf
                      refine r_cs0 (As := [.int v3_20]) (rest := [.int r_40]) X sm_X11_284 (c_X11_bits l G N v3_20 hc_43) hP hD hS hA rfl hl.1 (lv_room (Nat.le_of_ble_eq_true rfl)) ⟨Nat.le_of_ble_eq_true rfl, Nat.le_of_ble_eq_true rfl⟩ ⟨Nat.zero_le _, Nat.zero_le _⟩ dX11_apart_86 (fun H locs hP hD hS => ?_)
                      refine lv_icmp_ge (tgt := 106) X.hx X.hb dX11_apart_89 (by decide) (fun hc_44 => ?_) (fun hc_44 => ?_)
                      · replace hf := if_t hf hc_44
                        exact hj_26 _ _ _ _ hf hP hD hS (lv_sub hl [0, 1, 2, 3, 4] rfl)
                      · replace hf := if_f hf hc_44
                        exact hj_34 _ _ _ hf hP hD hS (lv_sub hl [0, 1, 2, 3, 4] rfl)
          exact hlo_19 N _ _ _ _ _ hf hP hD hS (lv_sub hl [2, 3, 4, 1, 0] rfl)
        · replace hf := if_f hf hc_12
          refine lv_iconst (v := (-1)) X.hx X.hb dX11_apart_38 (by decide) ?_
          cases hf
          subst hQ
          exact r_iret X hP hD hS dX11_apart_39

def f_X11_parting (N : Nat) (iY : Nat → Int32) (sY : Nat → Nat → Int32) (tY : Nat → Nat → Int64) (jY : Nat → Int64) : Option (Int32 × (Nat → Int32)) :=
  (if (iY 35) = 0 then some ((-1), (va_up iY 0 0)) else some ((iY 34), (va_up iY 0 0)))
set_option maxHeartbeats 4000000 in
set_option maxRecDepth 100000 in
theorem c_X11_parting (l : Launch) (G : GT) (N : Nat) (uY : Nat → Nat) (iY : Nat → Int32) (sY : Nat → Nat → Int32) (tY : Nat → Nat → Int64) (jY : Nat → Int64) {r : Int32} {iY' : Nat → Int32} (hf : f_X11_parting N iY sY tY jY = some (r, iY')) : CI l G yX11_parting cX11_parting 1 .int 1 [.ref (uY 0)] (gY G uY iY sY tY jY) r (gY G uY iY' sY tY jY) := by
  refine CI.of (by decide) (Nat.le_of_ble_eq_true rfl) ?_
  intro p e s m args below meth c A X hA hP hD hS ls hl
  have hl : lv_has ls 1 [(0, .ref (uY 0))] := hl
  generalize hQ : MQ below (QI G A r (gY G uY iY' sY tY jY)) args s 0 0 A = QQ
  unfold f_X11_parting at hf
  refine lv_aload_n X.hx X.hb dX11_parting_0 rfl (lv_at hl 0 rfl) ?_
  refine lv_iconst (v := 0) X.hx X.hb dX11_parting_1 (by decide) ?_
  refine pf_X11_1 X hP hD hS 0 rfl rfl rfl (Nat.le_of_ble_eq_true rfl) (wo := (gY G uY (va_up iY 0 0) sY tY jY)) rfl dX11_parting_2 (fun H locs hP hD hS => ?_)
  refine lv_aload_n X.hx X.hb dX11_parting_5 rfl (lv_at hl 0 rfl) ?_
  refine gf_X11_376 X hP 0 rfl (v := .int (iY 35)) rfl dX11_parting_6 ?_
  refine lv_if_eq (tgt := 19) X.hx X.hb dX11_parting_9 (by decide) (fun hc_1 => ?_) (fun hc_1 => ?_)
  · replace hf := if_t hf hc_1
    refine lv_iconst (v := (-1)) X.hx X.hb dX11_parting_19 (by decide) ?_
    cases hf
    subst hQ
    exact r_iret X hP hD hS dX11_parting_20
  · replace hf := if_f hf hc_1
    refine lv_aload_n X.hx X.hb dX11_parting_12 rfl (lv_at hl 0 rfl) ?_
    refine gf_X11_379 X hP 0 rfl (v := .int (iY 34)) rfl dX11_parting_13 ?_
    refine lv_goto (tgt := 20) X.hx X.hb dX11_parting_16 (by decide) ?_
    cases hf
    subst hQ
    exact r_iret X hP hD hS dX11_parting_20

def f_X11_recluse_9 (N : Nat) (iY : Nat → Int32) (sY : Nat → Nat → Int32) (tY : Nat → Nat → Int64) (jY : Nat → Int64) : Nat → (Int32) → (Int32) → Option (Int32 × (Nat → Int32))
  | 0, _, _ => none
  | k + 1, v1, v2 => (if ((sY 6) 0) ≤ v2 then some (v1, iY) else jn (fun (z : (Int32)) => match z with | x1_26 => f_X11_recluse_9 N iY sY tY jY k x1_26 (v2 + 1)) (fun K_23 => jn (fun (z : Unit) => match z with | () => K_23 v2) (fun K_27 => (if v1 < 0 then K_27 () else bd (f_X11_knownBy N iY sY tY jY v2) (fun r_31 => bd (f_X11_bits N r_31) (fun r_33 => bd (f_X11_knownBy N iY sY tY jY v1) (fun r_35 => bd (f_X11_bits N r_35) (fun r_37 => (if r_37 ≤ r_33 then K_23 v1 else K_27 ())))))))))
def f_X11_recluse (N : Nat) (iY : Nat → Int32) (sY : Nat → Nat → Int32) (tY : Nat → Nat → Int64) (jY : Nat → Int64) : Option (Int32 × (Nat → Int32)) :=
  f_X11_recluse_9 N (va_up iY 0 0) sY tY jY N (-1) 0
set_option maxHeartbeats 4000000 in
set_option maxRecDepth 100000 in
theorem c_X11_recluse (l : Launch) (G : GT) (N : Nat) (uY : Nat → Nat) (iY : Nat → Int32) (sY : Nat → Nat → Int32) (tY : Nat → Nat → Int64) (jY : Nat → Int64) {r : Int32} {iY' : Nat → Int32} (hf : f_X11_recluse N iY sY tY jY = some (r, iY')) : CI l G yX11_recluse cX11_recluse 3 .int 2 [.ref (uY 0)] (gY G uY iY sY tY jY) r (gY G uY iY' sY tY jY) := by
  refine CI.of (by decide) (Nat.le_of_ble_eq_true rfl) ?_
  intro p e s m args below meth c A X hA hP hD hS ls hl
  have hl : lv_has ls 3 [(0, .ref (uY 0))] := hl
  generalize hQ : MQ below (QI G A r (gY G uY iY' sY tY jY)) args s 0 0 A = QQ
  unfold f_X11_recluse at hf
  refine lv_aload_n X.hx X.hb dX11_recluse_0 rfl (lv_at hl 0 rfl) ?_
  refine lv_iconst (v := 0) X.hx X.hb dX11_recluse_1 (by decide) ?_
  refine pf_X11_1 X hP hD hS 0 rfl rfl rfl (Nat.le_of_ble_eq_true rfl) (wo := (gY G uY (va_up iY 0 0) sY tY jY)) rfl dX11_recluse_2 (fun H locs hP hD hS => ?_)
  refine lv_iconst (v := (-1)) X.hx X.hb dX11_recluse_5 (by decide) ?_
  refine lv_istore_n (lv' := [(1, .int (-1)), (0, .ref (uY 0))]) X.hx X.hb dX11_recluse_6 rfl hl (by decide) rfl (fun ls hl => ?_)
  refine lv_iconst (v := 0) X.hx X.hb dX11_recluse_7 (by decide) ?_
  refine lv_istore_n (lv' := [(2, .int 0), (1, .int (-1)), (0, .ref (uY 0))]) X.hx X.hb dX11_recluse_8 rfl hl (by decide) rfl (fun ls hl => ?_)
  have hlo_1 : ∀ (k : Nat) (v1_2 : Int32) (v2_3 : Int32) (H : Heap) (locs : List Loc) (ls : Array Slot), f_X11_recluse_9 N (va_up iY 0 0) sY tY jY k v1_2 v2_3 = some (r, iY') → va_P G.1 vwCl (gY G uY (va_up iY 0 0) sY tY jY) H → va_D A (gY G uY (va_up iY 0 0) sY tY jY) → va_S A s.heap H locs → lv_has ls 3 [(0, .ref (uY 0)), (1, .int v1_2), (2, .int v2_3)] → W p l e (RM 2) s m args below meth c H locs 0 0 QQ (F0 m 9 ls []) := by
    intro k
    induction k with
    | zero => intro v1_2 v2_3 H locs ls hf; exact absurd hf (by intro q; cases q)
    | succ k ih =>
      intro v1_2 v2_3 H locs ls hf hP hD hS hl
      unfold f_X11_recluse_9 at hf
      refine lv_iload_n X.hx X.hb dX11_recluse_9 rfl (lv_at hl 2 rfl) ?_
      refine lv_aload_n X.hx X.hb dX11_recluse_10 rfl (lv_at hl 0 rfl) ?_
      refine gf_X11_33 X hP 0 rfl (v := .ref (uY 7)) rfl dX11_recluse_11 ?_
      refine lv_iconst (v := 0) X.hx X.hb dX11_recluse_14 (by decide) ?_
      refine r_iald X hP 2 (f := (sY 6)) rfl (vp_c rfl) dX11_recluse_15 ?_
      refine W.eq (g2 := F0 m 16 ls [.int ((sY 6) 0), .int v2_3]) rfl ?_
      refine lv_icmp_ge (tgt := 50) X.hx X.hb dX11_recluse_16 (by decide) (fun hc_4 => ?_) (fun hc_4 => ?_)
      · replace hf := if_t hf hc_4
        refine lv_iload_n X.hx X.hb dX11_recluse_50 rfl (lv_at hl 1 rfl) ?_
        cases hf
        subst hQ
        exact r_iret X hP hD hS dX11_recluse_51
      · replace hf := if_f hf hc_4
        refine lv_iload_n X.hx X.hb dX11_recluse_19 rfl (lv_at hl 1 rfl) ?_
        obtain ⟨K_5, eK_7, hf⟩ := jn_i hf
        have hj_6 : ∀ (x1_8 : Int32) (H : Heap) (locs : List Loc) (ls : Array Slot), K_5 x1_8 = some (r, iY') → va_P G.1 vwCl (gY G uY (va_up iY 0 0) sY tY jY) H → va_D A (gY G uY (va_up iY 0 0) sY tY jY) → va_S A s.heap H locs → lv_has ls 3 [(0, .ref (uY 0)), (1, .int x1_8), (2, .int v2_3)] → W p l e (RM 2) s m args below meth c H locs 0 0 QQ (F0 m 44 ls []) := by
          intro x1_8 H locs ls hf hP hD hS hl
          rw [eK_7] at hf
          try dsimp only at hf
          refine lv_iinc (v := (v2_3 + 1)) (lv' := [(2, .int (v2_3 + 1)), (0, .ref (uY 0)), (1, .int x1_8)]) X.hx X.hb dX11_recluse_44 hl (k := 2) rfl rfl (by decide) rfl (fun ls hl => ?_)
          refine lv_goto (tgt := 9) X.hx X.hb dX11_recluse_47 (by decide) ?_
          exact ih _ _ _ _ _ hf hP hD hS (lv_sub hl [1, 2, 0] rfl)
        obtain ⟨K_9, eK_11, hf⟩ := jn_i hf
        have hj_10 : ∀ (H : Heap) (locs : List Loc) (ls : Array Slot), K_9 () = some (r, iY') → va_P G.1 vwCl (gY G uY (va_up iY 0 0) sY tY jY) H → va_D A (gY G uY (va_up iY 0 0) sY tY jY) → va_S A s.heap H locs → lv_has ls 3 [(0, .ref (uY 0)), (2, .int v2_3)] → W p l e (RM 2) s m args below meth c H locs 0 0 QQ (F0 m 42 ls []) := by
          intro  H locs ls hf hP hD hS hl
          rw [eK_11] at hf
          try dsimp only at hf
          refine lv_iload_n X.hx X.hb dX11_recluse_42 rfl (lv_at hl 1 rfl) ?_
          refine lv_istore_n (lv' := [(1, .int v2_3), (0, .ref (uY 0)), (2, .int v2_3)]) X.hx X.hb dX11_recluse_43 rfl hl (by decide) rfl (fun ls hl => ?_)
          exact hj_6 _ _ _ _ hf hP hD hS (lv_sub hl [1, 0, 2] rfl)
        refine lv_if_lt (tgt := 42) X.hx X.hb dX11_recluse_20 (by decide) (fun hc_12 => ?_) (fun hc_12 => ?_)
        · replace hf := if_t hf hc_12
          exact hj_10 _ _ _ hf hP hD hS (lv_sub hl [0, 2] rfl)
        · replace hf := if_f hf hc_12
          refine lv_aload_n X.hx X.hb dX11_recluse_23 rfl (lv_at hl 0 rfl) ?_
          refine lv_iload_n X.hx X.hb dX11_recluse_24 rfl (lv_at hl 2 rfl) ?_
          obtain ⟨r_13, hc_14, hf⟩ := bd_i hf
          refine r_cvi (As := [.int v2_3]) (rest := []) X sm_X11_265 (c_X11_knownBy l G N uY (va_up iY 0 0) sY tY jY v2_3 hc_14) hP hD hS hA 0 rfl rfl [0, 1, 2, 3, 4, 5, 6, 7, 8, 9, 10, 11, 12, 13, 14, 15, 16, 17, 18, 19, 20] rfl rfl rfl (wo := (gY G uY (va_up iY 0 0) sY tY jY)) rfl rfl hl.1 (lv_room (Nat.le_of_ble_eq_true rfl)) ⟨Nat.le_of_ble_eq_true rfl, Nat.le_of_ble_eq_true rfl⟩ ⟨Nat.zero_le _, Nat.zero_le _⟩ dX11_recluse_25 (fun H locs hP hD hS => ?_)
          obtain ⟨r_15, hc_16, hf⟩ := bd_i hf
          refine r_cs0 (As := [.int r_13]) (rest := []) X sm_X11_284 (c_X11_bits l G N r_13 hc_16) hP hD hS hA rfl hl.1 (lv_room (Nat.le_of_ble_eq_true rfl)) ⟨Nat.le_of_ble_eq_true rfl, Nat.le_of_ble_eq_true rfl⟩ ⟨Nat.zero_le _, Nat.zero_le _⟩ dX11_recluse_28 (fun H locs hP hD hS => ?_)
          refine lv_aload_n X.hx X.hb dX11_recluse_31 rfl (lv_at hl 0 rfl) ?_
          refine lv_iload_n X.hx X.hb dX11_recluse_32 rfl (lv_at hl 1 rfl) ?_
          obtain ⟨r_17, hc_18, hf⟩ := bd_i hf
          refine r_cvi (As := [.int v1_2]) (rest := [.int r_15]) X sm_X11_265 (c_X11_knownBy l G N uY (va_up iY 0 0) sY tY jY v1_2 hc_18) hP hD hS hA 0 rfl rfl [0, 1, 2, 3, 4, 5, 6, 7, 8, 9, 10, 11, 12, 13, 14, 15, 16, 17, 18, 19, 20] rfl rfl rfl (wo := (gY G uY (va_up iY 0 0) sY tY jY)) rfl rfl hl.1 (lv_room (Nat.le_of_ble_eq_true rfl)) ⟨Nat.le_of_ble_eq_true rfl, Nat.le_of_ble_eq_true rfl⟩ ⟨Nat.zero_le _, Nat.zero_le _⟩ dX11_recluse_33 (fun H locs hP hD hS => ?_)
          obtain ⟨r_19, hc_20, hf⟩ := bd_i hf
          refine r_cs0 (As := [.int r_17]) (rest := [.int r_15]) X sm_X11_284 (c_X11_bits l G N r_17 hc_20) hP hD hS hA rfl hl.1 (lv_room (Nat.le_of_ble_eq_true rfl)) ⟨Nat.le_of_ble_eq_true rfl, Nat.le_of_ble_eq_true rfl⟩ ⟨Nat.zero_le _, Nat.zero_le _⟩ dX11_recluse_36 (fun H locs hP hD hS => ?_)
          refine lv_icmp_ge (tgt := 44) X.hx X.hb dX11_recluse_39 (by decide) (fun hc_21 => ?_) (fun hc_21 => ?_)
          · replace hf := if_t hf hc_21
            exact hj_6 _ _ _ _ hf hP hD hS (lv_sub hl [0, 1, 2] rfl)
          · replace hf := if_f hf hc_21
            exact hj_10 _ _ _ hf hP hD hS (lv_sub hl [0, 2] rfl)
  exact hlo_1 N _ _ _ _ _ hf hP hD hS (lv_sub hl [2, 1, 0] rfl)

def f_X11_lays (N : Nat) (iY : Nat → Int32) (sY : Nat → Nat → Int32) (tY : Nat → Nat → Int64) (jY : Nat → Int64) (p1 : Int32) : Option ((Nat → Int32) × (Nat → Nat → Int32)) :=
  ck (iY 37) 80 (nv (upd (sY 36) (ix (iY 37)) (vp_nar .byte (p1.toInt8.toInt32))) (fun g_2 => some ((va_up iY 37 ((iY 37) + 1)), (va_up sY 36 g_2))))
set_option maxHeartbeats 4000000 in
set_option maxRecDepth 100000 in
theorem c_X11_lays (l : Launch) (G : GT) (N : Nat) (uY : Nat → Nat) (iY : Nat → Int32) (sY : Nat → Nat → Int32) (tY : Nat → Nat → Int64) (jY : Nat → Int64) (p1 : Int32) {iY' : Nat → Int32} {sY' : Nat → Nat → Int32} (hf : f_X11_lays N iY sY tY jY p1 = some (iY', sY')) : CV l G yX11_lays cX11_lays 2 1 [.ref (uY 0), .int p1] (gY G uY iY sY tY jY) (gY G uY iY' sY' tY jY) := by
  refine CV.of (by decide) (Nat.le_of_ble_eq_true rfl) ?_
  intro p e s m args below meth c A X hA hP hD hS ls hl
  have hl : lv_has ls 2 [(0, .ref (uY 0)), (1, .int p1)] := hl
  generalize hQ : MQ below (QV G A (gY G uY iY' sY' tY jY)) args s 0 0 A = QQ
  unfold f_X11_lays at hf
  refine lv_aload_n X.hx X.hb dX11_lays_0 rfl (lv_at hl 0 rfl) ?_
  refine gf_X11_74 X hP 0 rfl (v := .ref (uY 37)) rfl dX11_lays_1 ?_
  refine lv_aload_n X.hx X.hb dX11_lays_4 rfl (lv_at hl 0 rfl) ?_
  refine gf_X11_382 X hP 0 rfl (v := .int (iY 37)) rfl dX11_lays_5 ?_
  refine lv_iload_n X.hx X.hb dX11_lays_8 rfl (lv_at hl 1 rfl) ?_
  refine lv_i2b (v := (p1.toInt8.toInt32)) X.hx X.hb dX11_lays_9 rfl ?_
  obtain ⟨hi_1, hf⟩ := ck_i hf
  obtain ⟨g_2, eg_2, hf⟩ := nv_i hf
  refine r_bast X hP hD hS 14 (f := (sY 36)) rfl hi_1 (wo := (gY G uY iY (va_up sY 36 g_2) tY jY)) (by subst eg_2; rfl) dX11_lays_10 (fun H locs hP hD hS => ?_)
  refine lv_aload_n X.hx X.hb dX11_lays_11 rfl (lv_at hl 0 rfl) ?_
  refine lv_dup X.hx X.hb dX11_lays_12 rfl ?_
  refine gf_X11_382 X hP 0 rfl (v := .int (iY 37)) rfl dX11_lays_13 ?_
  refine lv_iconst (v := 1) X.hx X.hb dX11_lays_16 (by decide) ?_
  refine lv_iadd X.hx X.hb dX11_lays_17 ?_
  refine pf_X11_382 X hP hD hS 0 rfl rfl rfl (Nat.le_of_ble_eq_true rfl) (wo := (gY G uY (va_up iY 37 ((iY 37) + 1)) (va_up sY 36 g_2) tY jY)) rfl dX11_lays_18 (fun H locs hP hD hS => ?_)
  cases hf
  subst hQ
  exact r_vret X hP hD hS dX11_lays_21

def f_X11_spells_3 (N : Nat) (tY : Nat → Nat → Int64) (jY : Nat → Int64) (v1 : Int64) : Nat → (Nat → Int32) → (Nat → Nat → Int32) → (Int32) → Option ((Nat → Int32) × (Nat → Nat → Int32))
  | 0, _, _, _ => none
  | k + 1, iY, sY, v3 => (if v3 < 0 then some (iY, sY) else jn (fun (z : (Nat → Int32) × (Nat → Nat → Int32)) => match z with | (iY_19, sY_20) => f_X11_spells_3 N tY jY v1 k iY_19 sY_20 (v3 + (-8))) (fun K_16 => (if (lg_cmp ((srl v1 v3) &&& 255) 0) = 0 then K_16 (iY, sY) else bd (f_X11_lays N iY sY tY jY (((srl v1 v3) &&& 255).toInt32)) (fun (iY_22, sY_23) => K_16 (iY_22, sY_23)))))
def f_X11_spells (N : Nat) (iY : Nat → Int32) (sY : Nat → Nat → Int32) (tY : Nat → Nat → Int64) (jY : Nat → Int64) (p1 : Int64) : Option ((Nat → Int32) × (Nat → Nat → Int32)) :=
  f_X11_spells_3 N tY jY p1 N iY sY 56
set_option maxHeartbeats 4000000 in
set_option maxRecDepth 100000 in
theorem c_X11_spells (l : Launch) (G : GT) (N : Nat) (uY : Nat → Nat) (iY : Nat → Int32) (sY : Nat → Nat → Int32) (tY : Nat → Nat → Int64) (jY : Nat → Int64) (p1 : Int64) {iY' : Nat → Int32} {sY' : Nat → Nat → Int32} (hf : f_X11_spells N iY sY tY jY p1 = some (iY', sY')) : CV l G yX11_spells cX11_spells 4 2 [.ref (uY 0), .long p1] (gY G uY iY sY tY jY) (gY G uY iY' sY' tY jY) := by
  refine CV.of (by decide) (Nat.le_of_ble_eq_true rfl) ?_
  intro p e s m args below meth c A X hA hP hD hS ls hl
  have hl : lv_has ls 4 [(0, .ref (uY 0)), (1, .long p1)] := hl
  generalize hQ : MQ below (QV G A (gY G uY iY' sY' tY jY)) args s 0 0 A = QQ
  unfold f_X11_spells at hf
  refine lv_bipush (v := 56) X.hx X.hb dX11_spells_0 (by decide) ?_
  refine lv_istore_n (lv' := [(3, .int 56), (0, .ref (uY 0)), (1, .long p1)]) X.hx X.hb dX11_spells_2 rfl hl (by decide) rfl (fun ls hl => ?_)
  have hlo_1 : ∀ (k : Nat) (iY_2 : Nat → Int32) (sY_3 : Nat → Nat → Int32) (v3_4 : Int32) (H : Heap) (locs : List Loc) (ls : Array Slot), f_X11_spells_3 N tY jY p1 k iY_2 sY_3 v3_4 = some (iY', sY') → va_P G.1 vwCl (gY G uY iY_2 sY_3 tY jY) H → va_D A (gY G uY iY_2 sY_3 tY jY) → va_S A s.heap H locs → lv_has ls 4 [(0, .ref (uY 0)), (1, .long p1), (3, .int v3_4)] → W p l e (RM 2) s m args below meth c H locs 0 0 QQ (F0 m 3 ls []) := by
    intro k
    induction k with
    | zero => intro iY_2 sY_3 v3_4 H locs ls hf; exact absurd hf (by intro q; cases q)
    | succ k ih =>
      intro iY_2 sY_3 v3_4 H locs ls hf hP hD hS hl
      unfold f_X11_spells_3 at hf
      refine lv_iload_n X.hx X.hb dX11_spells_3 rfl (lv_at hl 2 rfl) ?_
      refine lv_if_lt (tgt := 37) X.hx X.hb dX11_spells_4 (by decide) (fun hc_5 => ?_) (fun hc_5 => ?_)
      · replace hf := if_t hf hc_5
        cases hf
        subst hQ
        exact r_vret X hP hD hS dX11_spells_37
      · replace hf := if_f hf hc_5
        refine lv_lload_n X.hx X.hb dX11_spells_7 rfl (lv_at hl 1 rfl) ?_
        refine lv_iload_n X.hx X.hb dX11_spells_8 rfl (lv_at hl 2 rfl) ?_
        refine lv_lshr (v := (srl p1 v3_4)) X.hx X.hb dX11_spells_9 rfl ?_
        refine lv_ldc2 (v := 255) X.hx X.hb X.hown (X.hts _ tw_1790) dX11_spells_10 ?_
        refine lv_land X.hx X.hb dX11_spells_13 ?_
        refine lv_lconst (v := 0) X.hx X.hb dX11_spells_14 rfl ?_
        refine W.lcmp X.hx X.hb dX11_spells_15 ?_
        obtain ⟨K_6, eK_8, hf⟩ := jn_i hf
        have hj_7 : ∀ (iY_9 : Nat → Int32) (sY_10 : Nat → Nat → Int32) (H : Heap) (locs : List Loc) (ls : Array Slot), K_6 (iY_9, sY_10) = some (iY', sY') → va_P G.1 vwCl (gY G uY iY_9 sY_10 tY jY) H → va_D A (gY G uY iY_9 sY_10 tY jY) → va_S A s.heap H locs → lv_has ls 4 [(0, .ref (uY 0)), (1, .long p1), (3, .int v3_4)] → W p l e (RM 2) s m args below meth c H locs 0 0 QQ (F0 m 31 ls []) := by
          intro iY_9 sY_10 H locs ls hf hP hD hS hl
          rw [eK_8] at hf
          try dsimp only at hf
          refine lv_iinc (v := (v3_4 + (-8))) (lv' := [(3, .int (v3_4 + (-8))), (0, .ref (uY 0)), (1, .long p1)]) X.hx X.hb dX11_spells_31 hl (k := 2) rfl rfl (by decide) rfl (fun ls hl => ?_)
          refine lv_goto (tgt := 3) X.hx X.hb dX11_spells_34 (by decide) ?_
          exact ih _ _ _ _ _ _ hf hP hD hS (lv_sub hl [1, 2, 0] rfl)
        refine lv_if_eq (tgt := 31) X.hx X.hb dX11_spells_16 (by decide) (fun hc_11 => ?_) (fun hc_11 => ?_)
        · replace hf := if_t hf hc_11
          exact hj_7 _ _ _ _ _ hf hP hD hS (lv_sub hl [0, 1, 2] rfl)
        · replace hf := if_f hf hc_11
          refine lv_aload_n X.hx X.hb dX11_spells_19 rfl (lv_at hl 0 rfl) ?_
          refine lv_lload_n X.hx X.hb dX11_spells_20 rfl (lv_at hl 1 rfl) ?_
          refine lv_iload_n X.hx X.hb dX11_spells_21 rfl (lv_at hl 2 rfl) ?_
          refine lv_lshr (v := (srl p1 v3_4)) X.hx X.hb dX11_spells_22 rfl ?_
          refine lv_ldc2 (v := 255) X.hx X.hb X.hown (X.hts _ tw_1790) dX11_spells_23 ?_
          refine lv_land X.hx X.hb dX11_spells_26 ?_
          refine lv_l2i (v := (((srl p1 v3_4) &&& 255).toInt32)) X.hx X.hb dX11_spells_27 rfl ?_
          obtain ⟨⟨iY_12, sY_13⟩, hc_14, hf⟩ := bd_i hf
          refine r_cvv (As := [.int (((srl p1 v3_4) &&& 255).toInt32)]) (rest := []) X sm_X11_387 (c_X11_lays l G N uY iY_2 sY_3 tY jY (((srl p1 v3_4) &&& 255).toInt32) hc_14) hP hD hS hA 0 rfl rfl [0, 1, 2, 3, 4, 5, 6, 7, 8, 9, 10, 11, 12, 13, 14, 15, 16, 17, 18, 19, 20] rfl rfl rfl (wo := (gY G uY iY_12 sY_13 tY jY)) rfl rfl hl.1 (lv_room (Nat.le_of_ble_eq_true rfl)) ⟨Nat.le_of_ble_eq_true rfl, Nat.le_of_ble_eq_true rfl⟩ ⟨Nat.zero_le _, Nat.zero_le _⟩ dX11_spells_28 (fun H locs hP hD hS => ?_)
          exact hj_7 _ _ _ _ _ hf hP hD hS (lv_sub hl [0, 1, 2] rfl)
  exact hlo_1 N _ _ _ _ _ _ hf hP hD hS (lv_sub hl [1, 2, 0] rfl)

def f_X11_says (N : Nat) (iY : Nat → Int32) (sY : Nat → Nat → Int32) (tY : Nat → Nat → Int64) (jY : Nat → Int64) (p1 : Int64) : Option ((Nat → Int32) × (Nat → Nat → Int32)) :=
  bd (f_X11_lays N iY sY tY jY 32) (fun (iY_1, sY_2) => bd (f_X11_spells N iY_1 sY_2 tY jY p1) (fun (iY_4, sY_5) => some (iY_4, sY_5)))
set_option maxHeartbeats 4000000 in
set_option maxRecDepth 100000 in
theorem c_X11_says (l : Launch) (G : GT) (N : Nat) (uY : Nat → Nat) (iY : Nat → Int32) (sY : Nat → Nat → Int32) (tY : Nat → Nat → Int64) (jY : Nat → Int64) (p1 : Int64) {iY' : Nat → Int32} {sY' : Nat → Nat → Int32} (hf : f_X11_says N iY sY tY jY p1 = some (iY', sY')) : CV l G yX11_says cX11_says 3 3 [.ref (uY 0), .long p1] (gY G uY iY sY tY jY) (gY G uY iY' sY' tY jY) := by
  refine CV.of (by decide) (Nat.le_of_ble_eq_true rfl) ?_
  intro p e s m args below meth c A X hA hP hD hS ls hl
  have hl : lv_has ls 3 [(0, .ref (uY 0)), (1, .long p1)] := hl
  generalize hQ : MQ below (QV G A (gY G uY iY' sY' tY jY)) args s 0 0 A = QQ
  unfold f_X11_says at hf
  refine lv_aload_n X.hx X.hb dX11_says_0 rfl (lv_at hl 0 rfl) ?_
  refine lv_bipush (v := 32) X.hx X.hb dX11_says_1 (by decide) ?_
  obtain ⟨⟨iY_1, sY_2⟩, hc_3, hf⟩ := bd_i hf
  refine r_cvv (As := [.int 32]) (rest := []) X sm_X11_387 (c_X11_lays l G N uY iY sY tY jY 32 hc_3) hP hD hS hA 0 rfl rfl [0, 1, 2, 3, 4, 5, 6, 7, 8, 9, 10, 11, 12, 13, 14, 15, 16, 17, 18, 19, 20] rfl rfl rfl (wo := (gY G uY iY_1 sY_2 tY jY)) rfl rfl hl.1 (lv_room (Nat.le_of_ble_eq_true rfl)) ⟨Nat.le_of_ble_eq_true rfl, Nat.le_of_ble_eq_true rfl⟩ ⟨Nat.zero_le _, Nat.zero_le _⟩ dX11_says_3 (fun H locs hP hD hS => ?_)
  refine lv_aload_n X.hx X.hb dX11_says_6 rfl (lv_at hl 0 rfl) ?_
  refine lv_lload_n X.hx X.hb dX11_says_7 rfl (lv_at hl 1 rfl) ?_
  obtain ⟨⟨iY_4, sY_5⟩, hc_6, hf⟩ := bd_i hf
  refine r_cvv (As := [.long p1]) (rest := []) X sm_X11_390 (c_X11_spells l G N uY iY_1 sY_2 tY jY p1 hc_6) hP hD hS hA 0 rfl rfl [0, 1, 2, 3, 4, 5, 6, 7, 8, 9, 10, 11, 12, 13, 14, 15, 16, 17, 18, 19, 20] rfl rfl rfl (wo := (gY G uY iY_4 sY_5 tY jY)) rfl rfl hl.1 (lv_room (Nat.le_of_ble_eq_true rfl)) ⟨Nat.le_of_ble_eq_true rfl, Nat.le_of_ble_eq_true rfl⟩ ⟨Nat.zero_le _, Nat.zero_le _⟩ dX11_says_8 (fun H locs hP hD hS => ?_)
  cases hf
  subst hQ
  exact r_vret X hP hD hS dX11_says_11

def f_X11_face_54 (N : Nat) (tY : Nat → Nat → Int64) (jY : Nat → Int64) (v1 : Int32) (K_18 : ((Nat → Int32) × (Nat → Nat → Int32)) → Option (Int32 × (Nat → Int32) × (Nat → Nat → Int32))) : Nat → (Nat → Int32) → (Nat → Nat → Int32) → (Int32) → Option (Int32 × (Nat → Int32) × (Nat → Nat → Int32))
  | 0, _, _, _ => none
  | k + 1, iY, sY, v2 => (if ((sY 6) 0) ≤ v2 then K_18 (iY, sY) else bd (f_X11_knownBy N iY sY tY jY v1) (fun r_60 => bd (f_X11_bitOf N r_60 v2) (fun r_62 => jn (fun (z : (Nat → Int32) × (Nat → Nat → Int32)) => match z with | (iY_67, sY_68) => f_X11_face_54 N tY jY v1 K_18 k iY_67 sY_68 (v2 + 1)) (fun K_64 => (if r_62 = 0 then K_64 (iY, sY) else ck v2 24 (bd (f_X11_says N iY sY tY jY ((tY 9) (ix v2))) (fun (iY_71, sY_72) => K_64 (iY_71, sY_72))))))))
def f_X11_face (N : Nat) (iY : Nat → Int32) (sY : Nat → Nat → Int32) (tY : Nat → Nat → Int64) (jY : Nat → Int64) (p1 : Int32) : Option (Int32 × (Nat → Int32) × (Nat → Nat → Int32)) :=
  bd (f_X11_isPerson N (va_up iY 0 0) sY tY jY p1) (fun r_1 => (if r_1 = 0 then some ((-1), (va_up iY 0 0), sY) else ck p1 24 (bd (f_X11_spells N (va_up (va_up iY 0 0) 37 0) sY tY jY ((tY 9) (ix p1))) (fun (iY_5, sY_6) => bd (f_X11_says N iY_5 sY_6 tY jY 461414299507) (fun (iY_8, sY_9) => bd (f_X11_knownBy N iY_8 sY_9 tY jY p1) (fun r_11 => jn (fun (z : (Nat → Int32) × (Nat → Nat → Int32)) => match z with | (iY_16, sY_17) => jn (fun (z : (Nat → Int32) × (Nat → Nat → Int32)) => match z with | (iY_21, sY_22) => bd (f_X11_isVeiled N iY_21 sY_22 tY jY p1) (fun r_23 => jn (fun (z : (Nat → Int32) × (Nat → Nat → Int32)) => match z with | (iY_28, sY_29) => bd (f_X11_isHome N iY_28 sY_29 tY jY p1) (fun r_30 => (if r_30 = 0 then some ((iY_28 37), iY_28, sY_29) else bd (f_X11_says N iY_28 sY_29 tY jY 1752132965) (fun (iY_33, sY_34) => some ((iY_33 37), iY_33, sY_34))))) (fun K_25 => (if r_23 = 0 then K_25 (iY_21, sY_22) else bd (f_X11_says N iY_21 sY_22 tY jY 130177932485988) (fun (iY_37, sY_38) => K_25 (iY_37, sY_38)))))) (fun K_18 => f_X11_face_54 N tY jY p1 K_18 N iY_16 sY_17 0)) (fun K_13 => (if r_11 = 0 then bd (f_X11_says N iY_8 sY_9 tY jY 121424671892601) (fun (iY_75, sY_76) => K_13 (iY_75, sY_76)) else K_13 (iY_8, sY_9)))))))))
set_option maxHeartbeats 4000000 in
set_option maxRecDepth 100000 in
theorem c_X11_face (l : Launch) (G : GT) (N : Nat) (uY : Nat → Nat) (iY : Nat → Int32) (sY : Nat → Nat → Int32) (tY : Nat → Nat → Int64) (jY : Nat → Int64) (p1 : Int32) {r : Int32} {iY' : Nat → Int32} {sY' : Nat → Nat → Int32} (hf : f_X11_face N iY sY tY jY p1 = some (r, iY', sY')) : CI l G yX11_face cX11_face 3 .int 4 [.ref (uY 0), .int p1] (gY G uY iY sY tY jY) r (gY G uY iY' sY' tY jY) := by
  refine CI.of (by decide) (Nat.le_of_ble_eq_true rfl) ?_
  intro p e s m args below meth c A X hA hP hD hS ls hl
  have hl : lv_has ls 3 [(0, .ref (uY 0)), (1, .int p1)] := hl
  generalize hQ : MQ below (QI G A r (gY G uY iY' sY' tY jY)) args s 0 0 A = QQ
  unfold f_X11_face at hf
  refine lv_aload_n X.hx X.hb dX11_face_0 rfl (lv_at hl 0 rfl) ?_
  refine lv_iconst (v := 0) X.hx X.hb dX11_face_1 (by decide) ?_
  refine pf_X11_1 X hP hD hS 0 rfl rfl rfl (Nat.le_of_ble_eq_true rfl) (wo := (gY G uY (va_up iY 0 0) sY tY jY)) rfl dX11_face_2 (fun H locs hP hD hS => ?_)
  refine lv_aload_n X.hx X.hb dX11_face_5 rfl (lv_at hl 0 rfl) ?_
  refine lv_iload_n X.hx X.hb dX11_face_6 rfl (lv_at hl 1 rfl) ?_
  obtain ⟨r_1, hc_2, hf⟩ := bd_i hf
  refine r_cvi (As := [.int p1]) (rest := []) X sm_X11_272 (c_X11_isPerson l G N uY (va_up iY 0 0) sY tY jY p1 hc_2) hP hD hS hA 0 rfl rfl [0, 1, 2, 3, 4, 5, 6, 7, 8, 9, 10, 11, 12, 13, 14, 15, 16, 17, 18, 19, 20] rfl rfl rfl (wo := (gY G uY (va_up iY 0 0) sY tY jY)) rfl rfl hl.1 (lv_room (Nat.le_of_ble_eq_true rfl)) ⟨Nat.le_of_ble_eq_true rfl, Nat.le_of_ble_eq_true rfl⟩ ⟨Nat.zero_le _, Nat.zero_le _⟩ dX11_face_7 (fun H locs hP hD hS => ?_)
  refine lv_if_ne (tgt := 15) X.hx X.hb dX11_face_10 (by decide) (fun hc_3 => ?_) (fun hc_3 => ?_)
  · replace hf := if_f hf hc_3
    refine lv_aload_n X.hx X.hb dX11_face_15 rfl (lv_at hl 0 rfl) ?_
    refine lv_iconst (v := 0) X.hx X.hb dX11_face_16 (by decide) ?_
    refine pf_X11_382 X hP hD hS 0 rfl rfl rfl (Nat.le_of_ble_eq_true rfl) (wo := (gY G uY (va_up (va_up iY 0 0) 37 0) sY tY jY)) rfl dX11_face_17 (fun H locs hP hD hS => ?_)
    refine lv_aload_n X.hx X.hb dX11_face_20 rfl (lv_at hl 0 rfl) ?_
    refine lv_aload_n X.hx X.hb dX11_face_21 rfl (lv_at hl 0 rfl) ?_
    refine gf_X11_43 X hP 0 rfl (v := .ref (uY 10)) rfl dX11_face_22 ?_
    refine lv_iload_n X.hx X.hb dX11_face_25 rfl (lv_at hl 1 rfl) ?_
    obtain ⟨hi_4, hf⟩ := ck_i hf
    refine r_lald X hP 5 (f := (tY 9)) rfl hi_4 dX11_face_26 ?_
    obtain ⟨⟨iY_5, sY_6⟩, hc_7, hf⟩ := bd_i hf
    refine r_cvv (As := [.long ((tY 9) (ix p1))]) (rest := []) X sm_X11_390 (c_X11_spells l G N uY (va_up (va_up iY 0 0) 37 0) sY tY jY ((tY 9) (ix p1)) hc_7) hP hD hS hA 0 rfl rfl [0, 1, 2, 3, 4, 5, 6, 7, 8, 9, 10, 11, 12, 13, 14, 15, 16, 17, 18, 19, 20] rfl rfl rfl (wo := (gY G uY iY_5 sY_6 tY jY)) rfl rfl hl.1 (lv_room (Nat.le_of_ble_eq_true rfl)) ⟨Nat.le_of_ble_eq_true rfl, Nat.le_of_ble_eq_true rfl⟩ ⟨Nat.zero_le _, Nat.zero_le _⟩ dX11_face_27 (fun H locs hP hD hS => ?_)
    refine lv_aload_n X.hx X.hb dX11_face_30 rfl (lv_at hl 0 rfl) ?_
    refine lv_ldc2 (v := 461414299507) X.hx X.hb X.hown (X.hts _ tw_1290) dX11_face_31 ?_
    obtain ⟨⟨iY_8, sY_9⟩, hc_10, hf⟩ := bd_i hf
    refine r_cvv (As := [.long 461414299507]) (rest := []) X sm_X11_394 (c_X11_says l G N uY iY_5 sY_6 tY jY 461414299507 hc_10) hP hD hS hA 0 rfl rfl [0, 1, 2, 3, 4, 5, 6, 7, 8, 9, 10, 11, 12, 13, 14, 15, 16, 17, 18, 19, 20] rfl rfl rfl (wo := (gY G uY iY_8 sY_9 tY jY)) rfl rfl hl.1 (lv_room (Nat.le_of_ble_eq_true rfl)) ⟨Nat.le_of_ble_eq_true rfl, Nat.le_of_ble_eq_true rfl⟩ ⟨Nat.zero_le _, Nat.zero_le _⟩ dX11_face_34 (fun H locs hP hD hS => ?_)
    refine lv_aload_n X.hx X.hb dX11_face_37 rfl (lv_at hl 0 rfl) ?_
    refine lv_iload_n X.hx X.hb dX11_face_38 rfl (lv_at hl 1 rfl) ?_
    obtain ⟨r_11, hc_12, hf⟩ := bd_i hf
    refine r_cvi (As := [.int p1]) (rest := []) X sm_X11_265 (c_X11_knownBy l G N uY iY_8 sY_9 tY jY p1 hc_12) hP hD hS hA 0 rfl rfl [0, 1, 2, 3, 4, 5, 6, 7, 8, 9, 10, 11, 12, 13, 14, 15, 16, 17, 18, 19, 20] rfl rfl rfl (wo := (gY G uY iY_8 sY_9 tY jY)) rfl rfl hl.1 (lv_room (Nat.le_of_ble_eq_true rfl)) ⟨Nat.le_of_ble_eq_true rfl, Nat.le_of_ble_eq_true rfl⟩ ⟨Nat.zero_le _, Nat.zero_le _⟩ dX11_face_39 (fun H locs hP hD hS => ?_)
    obtain ⟨K_13, eK_15, hf⟩ := jn_i hf
    have hj_14 : ∀ (iY_16 : Nat → Int32) (sY_17 : Nat → Nat → Int32) (H : Heap) (locs : List Loc) (ls : Array Slot), K_13 (iY_16, sY_17) = some (r, iY', sY') → va_P G.1 vwCl (gY G uY iY_16 sY_17 tY jY) H → va_D A (gY G uY iY_16 sY_17 tY jY) → va_S A s.heap H locs → lv_has ls 3 [(0, .ref (uY 0)), (1, .int p1)] → W p l e (RM 4) s m args below meth c H locs 0 0 QQ (F0 m 52 ls []) := by
      intro iY_16 sY_17 H locs ls hf hP hD hS hl
      rw [eK_15] at hf
      try dsimp only at hf
      refine lv_iconst (v := 0) X.hx X.hb dX11_face_52 (by decide) ?_
      refine lv_istore_n (lv' := [(2, .int 0), (0, .ref (uY 0)), (1, .int p1)]) X.hx X.hb dX11_face_53 rfl hl (by decide) rfl (fun ls hl => ?_)
      obtain ⟨K_18, eK_20, hf⟩ := jn_i hf
      have hj_19 : ∀ (iY_21 : Nat → Int32) (sY_22 : Nat → Nat → Int32) (H : Heap) (locs : List Loc) (ls : Array Slot), K_18 (iY_21, sY_22) = some (r, iY', sY') → va_P G.1 vwCl (gY G uY iY_21 sY_22 tY jY) H → va_D A (gY G uY iY_21 sY_22 tY jY) → va_S A s.heap H locs → lv_has ls 3 [(0, .ref (uY 0)), (1, .int p1)] → W p l e (RM 4) s m args below meth c H locs 0 0 QQ (F0 m 92 ls []) := by
        intro iY_21 sY_22 H locs ls hf hP hD hS hl
        rw [eK_20] at hf
        try dsimp only at hf
        refine lv_aload_n X.hx X.hb dX11_face_92 rfl (lv_at hl 0 rfl) ?_
        refine lv_iload_n X.hx X.hb dX11_face_93 rfl (lv_at hl 1 rfl) ?_
        obtain ⟨r_23, hc_24, hf⟩ := bd_i hf
        refine r_cvi (As := [.int p1]) (rest := []) X sm_X11_293 (c_X11_isVeiled l G N uY iY_21 sY_22 tY jY p1 hc_24) hP hD hS hA 0 rfl rfl [0, 1, 2, 3, 4, 5, 6, 7, 8, 9, 10, 11, 12, 13, 14, 15, 16, 17, 18, 19, 20] rfl rfl rfl (wo := (gY G uY iY_21 sY_22 tY jY)) rfl rfl hl.1 (lv_room (Nat.le_of_ble_eq_true rfl)) ⟨Nat.le_of_ble_eq_true rfl, Nat.le_of_ble_eq_true rfl⟩ ⟨Nat.zero_le _, Nat.zero_le _⟩ dX11_face_94 (fun H locs hP hD hS => ?_)
        obtain ⟨K_25, eK_27, hf⟩ := jn_i hf
        have hj_26 : ∀ (iY_28 : Nat → Int32) (sY_29 : Nat → Nat → Int32) (H : Heap) (locs : List Loc) (ls : Array Slot), K_25 (iY_28, sY_29) = some (r, iY', sY') → va_P G.1 vwCl (gY G uY iY_28 sY_29 tY jY) H → va_D A (gY G uY iY_28 sY_29 tY jY) → va_S A s.heap H locs → lv_has ls 3 [(0, .ref (uY 0)), (1, .int p1)] → W p l e (RM 4) s m args below meth c H locs 0 0 QQ (F0 m 107 ls []) := by
          intro iY_28 sY_29 H locs ls hf hP hD hS hl
          rw [eK_27] at hf
          try dsimp only at hf
          refine lv_aload_n X.hx X.hb dX11_face_107 rfl (lv_at hl 0 rfl) ?_
          refine lv_iload_n X.hx X.hb dX11_face_108 rfl (lv_at hl 1 rfl) ?_
          obtain ⟨r_30, hc_31, hf⟩ := bd_i hf
          refine r_cvi (As := [.int p1]) (rest := []) X sm_X11_290 (c_X11_isHome l G N uY iY_28 sY_29 tY jY p1 hc_31) hP hD hS hA 0 rfl rfl [0, 1, 2, 3, 4, 5, 6, 7, 8, 9, 10, 11, 12, 13, 14, 15, 16, 17, 18, 19, 20] rfl rfl rfl (wo := (gY G uY iY_28 sY_29 tY jY)) rfl rfl hl.1 (lv_room (Nat.le_of_ble_eq_true rfl)) ⟨Nat.le_of_ble_eq_true rfl, Nat.le_of_ble_eq_true rfl⟩ ⟨Nat.zero_le _, Nat.zero_le _⟩ dX11_face_109 (fun H locs hP hD hS => ?_)
          refine lv_if_eq (tgt := 122) X.hx X.hb dX11_face_112 (by decide) (fun hc_32 => ?_) (fun hc_32 => ?_)
          · replace hf := if_t hf hc_32
            refine lv_aload_n X.hx X.hb dX11_face_122 rfl (lv_at hl 0 rfl) ?_
            refine gf_X11_382 X hP 0 rfl (v := .int (iY_28 37)) rfl dX11_face_123 ?_
            cases hf
            subst hQ
            exact r_iret X hP hD hS dX11_face_126
          · replace hf := if_f hf hc_32
            refine lv_aload_n X.hx X.hb dX11_face_115 rfl (lv_at hl 0 rfl) ?_
            refine lv_ldc2 (v := 1752132965) X.hx X.hb X.hown (X.hts _ tw_1302) dX11_face_116 ?_
            obtain ⟨⟨iY_33, sY_34⟩, hc_35, hf⟩ := bd_i hf
            refine r_cvv (As := [.long 1752132965]) (rest := []) X sm_X11_394 (c_X11_says l G N uY iY_28 sY_29 tY jY 1752132965 hc_35) hP hD hS hA 0 rfl rfl [0, 1, 2, 3, 4, 5, 6, 7, 8, 9, 10, 11, 12, 13, 14, 15, 16, 17, 18, 19, 20] rfl rfl rfl (wo := (gY G uY iY_33 sY_34 tY jY)) rfl rfl hl.1 (lv_room (Nat.le_of_ble_eq_true rfl)) ⟨Nat.le_of_ble_eq_true rfl, Nat.le_of_ble_eq_true rfl⟩ ⟨Nat.zero_le _, Nat.zero_le _⟩ dX11_face_119 (fun H locs hP hD hS => ?_)
            refine lv_aload_n X.hx X.hb dX11_face_122 rfl (lv_at hl 0 rfl) ?_
            refine gf_X11_382 X hP 0 rfl (v := .int (iY_33 37)) rfl dX11_face_123 ?_
            cases hf
            subst hQ
            exact r_iret X hP hD hS dX11_face_126
        refine lv_if_eq (tgt := 107) X.hx X.hb dX11_face_97 (by decide) (fun hc_36 => ?_) (fun hc_36 => ?_)
        · replace hf := if_t hf hc_36
          exact hj_26 _ _ _ _ _ hf hP hD hS (lv_sub hl [0, 1] rfl)
        · replace hf := if_f hf hc_36
          refine lv_aload_n X.hx X.hb dX11_face_100 rfl (lv_at hl 0 rfl) ?_
          refine lv_ldc2 (v := 130177932485988) X.hx X.hb X.hown (X.hts _ tw_1303) dX11_face_101 ?_
          obtain ⟨⟨iY_37, sY_38⟩, hc_39, hf⟩ := bd_i hf
          refine r_cvv (As := [.long 130177932485988]) (rest := []) X sm_X11_394 (c_X11_says l G N uY iY_21 sY_22 tY jY 130177932485988 hc_39) hP hD hS hA 0 rfl rfl [0, 1, 2, 3, 4, 5, 6, 7, 8, 9, 10, 11, 12, 13, 14, 15, 16, 17, 18, 19, 20] rfl rfl rfl (wo := (gY G uY iY_37 sY_38 tY jY)) rfl rfl hl.1 (lv_room (Nat.le_of_ble_eq_true rfl)) ⟨Nat.le_of_ble_eq_true rfl, Nat.le_of_ble_eq_true rfl⟩ ⟨Nat.zero_le _, Nat.zero_le _⟩ dX11_face_104 (fun H locs hP hD hS => ?_)
          exact hj_26 _ _ _ _ _ hf hP hD hS (lv_sub hl [0, 1] rfl)
      have hlo_40 : ∀ (k : Nat) (iY_41 : Nat → Int32) (sY_42 : Nat → Nat → Int32) (v2_43 : Int32) (H : Heap) (locs : List Loc) (ls : Array Slot), f_X11_face_54 N tY jY p1 K_18 k iY_41 sY_42 v2_43 = some (r, iY', sY') → va_P G.1 vwCl (gY G uY iY_41 sY_42 tY jY) H → va_D A (gY G uY iY_41 sY_42 tY jY) → va_S A s.heap H locs → lv_has ls 3 [(0, .ref (uY 0)), (1, .int p1), (2, .int v2_43)] → W p l e (RM 4) s m args below meth c H locs 0 0 QQ (F0 m 54 ls []) := by
        intro k
        induction k with
        | zero => intro iY_41 sY_42 v2_43 H locs ls hf; exact absurd hf (by intro q; cases q)
        | succ k ih =>
          intro iY_41 sY_42 v2_43 H locs ls hf hP hD hS hl
          unfold f_X11_face_54 at hf
          refine lv_iload_n X.hx X.hb dX11_face_54 rfl (lv_at hl 2 rfl) ?_
          refine lv_aload_n X.hx X.hb dX11_face_55 rfl (lv_at hl 0 rfl) ?_
          refine gf_X11_33 X hP 0 rfl (v := .ref (uY 7)) rfl dX11_face_56 ?_
          refine lv_iconst (v := 0) X.hx X.hb dX11_face_59 (by decide) ?_
          refine r_iald X hP 2 (f := (sY_42 6)) rfl (vp_c rfl) dX11_face_60 ?_
          refine W.eq (g2 := F0 m 61 ls [.int ((sY_42 6) 0), .int v2_43]) rfl ?_
          refine lv_icmp_ge (tgt := 92) X.hx X.hb dX11_face_61 (by decide) (fun hc_44 => ?_) (fun hc_44 => ?_)
          · replace hf := if_t hf hc_44
            exact hj_19 _ _ _ _ _ hf hP hD hS (lv_sub hl [0, 1] rfl)
          · replace hf := if_f hf hc_44
            refine lv_aload_n X.hx X.hb dX11_face_64 rfl (lv_at hl 0 rfl) ?_
            refine lv_iload_n X.hx X.hb dX11_face_65 rfl (lv_at hl 1 rfl) ?_
            obtain ⟨r_45, hc_46, hf⟩ := bd_i hf
            refine r_cvi (As := [.int p1]) (rest := []) X sm_X11_265 (c_X11_knownBy l G N uY iY_41 sY_42 tY jY p1 hc_46) hP hD hS hA 0 rfl rfl [0, 1, 2, 3, 4, 5, 6, 7, 8, 9, 10, 11, 12, 13, 14, 15, 16, 17, 18, 19, 20] rfl rfl rfl (wo := (gY G uY iY_41 sY_42 tY jY)) rfl rfl hl.1 (lv_room (Nat.le_of_ble_eq_true rfl)) ⟨Nat.le_of_ble_eq_true rfl, Nat.le_of_ble_eq_true rfl⟩ ⟨Nat.zero_le _, Nat.zero_le _⟩ dX11_face_66 (fun H locs hP hD hS => ?_)
            refine lv_iload_n X.hx X.hb dX11_face_69 rfl (lv_at hl 2 rfl) ?_
            obtain ⟨r_47, hc_48, hf⟩ := bd_i hf
            refine r_cs0 (As := [.int r_45, .int v2_43]) (rest := []) X sm_X11_214 (c_X11_bitOf l G N r_45 v2_43 hc_48) hP hD hS hA rfl hl.1 (lv_room (Nat.le_of_ble_eq_true rfl)) ⟨Nat.le_of_ble_eq_true rfl, Nat.le_of_ble_eq_true rfl⟩ ⟨Nat.zero_le _, Nat.zero_le _⟩ dX11_face_70 (fun H locs hP hD hS => ?_)
            obtain ⟨K_49, eK_51, hf⟩ := jn_i hf
            have hj_50 : ∀ (iY_52 : Nat → Int32) (sY_53 : Nat → Nat → Int32) (H : Heap) (locs : List Loc) (ls : Array Slot), K_49 (iY_52, sY_53) = some (r, iY', sY') → va_P G.1 vwCl (gY G uY iY_52 sY_53 tY jY) H → va_D A (gY G uY iY_52 sY_53 tY jY) → va_S A s.heap H locs → lv_has ls 3 [(0, .ref (uY 0)), (1, .int p1), (2, .int v2_43)] → W p l e (RM 4) s m args below meth c H locs 0 0 QQ (F0 m 86 ls []) := by
              intro iY_52 sY_53 H locs ls hf hP hD hS hl
              rw [eK_51] at hf
              try dsimp only at hf
              refine lv_iinc (v := (v2_43 + 1)) (lv' := [(2, .int (v2_43 + 1)), (0, .ref (uY 0)), (1, .int p1)]) X.hx X.hb dX11_face_86 hl (k := 2) rfl rfl (by decide) rfl (fun ls hl => ?_)
              refine lv_goto (tgt := 54) X.hx X.hb dX11_face_89 (by decide) ?_
              exact ih _ _ _ _ _ _ hf hP hD hS (lv_sub hl [1, 2, 0] rfl)
            refine lv_if_eq (tgt := 86) X.hx X.hb dX11_face_73 (by decide) (fun hc_54 => ?_) (fun hc_54 => ?_)
            · replace hf := if_t hf hc_54
              exact hj_50 _ _ _ _ _ hf hP hD hS (lv_sub hl [0, 1, 2] rfl)
            · replace hf := if_f hf hc_54
              refine lv_aload_n X.hx X.hb dX11_face_76 rfl (lv_at hl 0 rfl) ?_
              refine lv_aload_n X.hx X.hb dX11_face_77 rfl (lv_at hl 0 rfl) ?_
              refine gf_X11_43 X hP 0 rfl (v := .ref (uY 10)) rfl dX11_face_78 ?_
              refine lv_iload_n X.hx X.hb dX11_face_81 rfl (lv_at hl 2 rfl) ?_
              obtain ⟨hi_55, hf⟩ := ck_i hf
              refine r_lald X hP 5 (f := (tY 9)) rfl hi_55 dX11_face_82 ?_
              obtain ⟨⟨iY_56, sY_57⟩, hc_58, hf⟩ := bd_i hf
              refine r_cvv (As := [.long ((tY 9) (ix v2_43))]) (rest := []) X sm_X11_394 (c_X11_says l G N uY iY_41 sY_42 tY jY ((tY 9) (ix v2_43)) hc_58) hP hD hS hA 0 rfl rfl [0, 1, 2, 3, 4, 5, 6, 7, 8, 9, 10, 11, 12, 13, 14, 15, 16, 17, 18, 19, 20] rfl rfl rfl (wo := (gY G uY iY_56 sY_57 tY jY)) rfl rfl hl.1 (lv_room (Nat.le_of_ble_eq_true rfl)) ⟨Nat.le_of_ble_eq_true rfl, Nat.le_of_ble_eq_true rfl⟩ ⟨Nat.zero_le _, Nat.zero_le _⟩ dX11_face_83 (fun H locs hP hD hS => ?_)
              exact hj_50 _ _ _ _ _ hf hP hD hS (lv_sub hl [0, 1, 2] rfl)
      exact hlo_40 N _ _ _ _ _ _ hf hP hD hS (lv_sub hl [1, 2, 0] rfl)
    refine lv_if_ne (tgt := 52) X.hx X.hb dX11_face_42 (by decide) (fun hc_74 => ?_) (fun hc_74 => ?_)
    · replace hf := if_f hf hc_74
      exact hj_14 _ _ _ _ _ hf hP hD hS (lv_sub hl [0, 1] rfl)
    · replace hf := if_t hf hc_74
      refine lv_aload_n X.hx X.hb dX11_face_45 rfl (lv_at hl 0 rfl) ?_
      refine lv_ldc2 (v := 121424671892601) X.hx X.hb X.hown (X.hts _ tw_1799) dX11_face_46 ?_
      obtain ⟨⟨iY_75, sY_76⟩, hc_77, hf⟩ := bd_i hf
      refine r_cvv (As := [.long 121424671892601]) (rest := []) X sm_X11_394 (c_X11_says l G N uY iY_8 sY_9 tY jY 121424671892601 hc_77) hP hD hS hA 0 rfl rfl [0, 1, 2, 3, 4, 5, 6, 7, 8, 9, 10, 11, 12, 13, 14, 15, 16, 17, 18, 19, 20] rfl rfl rfl (wo := (gY G uY iY_75 sY_76 tY jY)) rfl rfl hl.1 (lv_room (Nat.le_of_ble_eq_true rfl)) ⟨Nat.le_of_ble_eq_true rfl, Nat.le_of_ble_eq_true rfl⟩ ⟨Nat.zero_le _, Nat.zero_le _⟩ dX11_face_49 (fun H locs hP hD hS => ?_)
      exact hj_14 _ _ _ _ _ hf hP hD hS (lv_sub hl [0, 1] rfl)
  · replace hf := if_t hf hc_3
    refine lv_iconst (v := (-1)) X.hx X.hb dX11_face_13 (by decide) ?_
    cases hf
    subst hQ
    exact r_iret X hP hD hS dX11_face_14

def f_X11_byteAt (N : Nat) (iY : Nat → Int32) (sY : Nat → Nat → Int32) (tY : Nat → Nat → Int64) (jY : Nat → Int64) (p1 : Int32) : Option (Int32 × (Nat → Int32)) :=
  bd (f_X11_isIn N p1 0 ((iY 37) - 1)) (fun r_1 => (if r_1 = 0 then some ((-1), (va_up iY 0 0)) else ck p1 80 (some (((sY 36) (ix p1)), (va_up iY 0 0)))))
set_option maxHeartbeats 4000000 in
set_option maxRecDepth 100000 in
theorem c_X11_byteAt (l : Launch) (G : GT) (N : Nat) (uY : Nat → Nat) (iY : Nat → Int32) (sY : Nat → Nat → Int32) (tY : Nat → Nat → Int64) (jY : Nat → Int64) (p1 : Int32) {r : Int32} {iY' : Nat → Int32} (hf : f_X11_byteAt N iY sY tY jY p1 = some (r, iY')) : CI l G yX11_byteAt cX11_byteAt 2 .int 2 [.ref (uY 0), .int p1] (gY G uY iY sY tY jY) r (gY G uY iY' sY tY jY) := by
  refine CI.of (by decide) (Nat.le_of_ble_eq_true rfl) ?_
  intro p e s m args below meth c A X hA hP hD hS ls hl
  have hl : lv_has ls 2 [(0, .ref (uY 0)), (1, .int p1)] := hl
  generalize hQ : MQ below (QI G A r (gY G uY iY' sY tY jY)) args s 0 0 A = QQ
  unfold f_X11_byteAt at hf
  refine lv_aload_n X.hx X.hb dX11_byteAt_0 rfl (lv_at hl 0 rfl) ?_
  refine lv_iconst (v := 0) X.hx X.hb dX11_byteAt_1 (by decide) ?_
  refine pf_X11_1 X hP hD hS 0 rfl rfl rfl (Nat.le_of_ble_eq_true rfl) (wo := (gY G uY (va_up iY 0 0) sY tY jY)) rfl dX11_byteAt_2 (fun H locs hP hD hS => ?_)
  refine lv_iload_n X.hx X.hb dX11_byteAt_5 rfl (lv_at hl 1 rfl) ?_
  refine lv_iconst (v := 0) X.hx X.hb dX11_byteAt_6 (by decide) ?_
  refine lv_aload_n X.hx X.hb dX11_byteAt_7 rfl (lv_at hl 0 rfl) ?_
  refine gf_X11_382 X hP 0 rfl (v := .int (iY 37)) rfl dX11_byteAt_8 ?_
  refine lv_iconst (v := 1) X.hx X.hb dX11_byteAt_11 (by decide) ?_
  refine lv_isub X.hx X.hb dX11_byteAt_12 ?_
  obtain ⟨r_1, hc_2, hf⟩ := bd_i hf
  refine r_cs0 (As := [.int p1, .int 0, .int ((iY 37) - 1)]) (rest := []) X sm_X11_189 (c_X11_isIn l G N p1 0 ((iY 37) - 1) hc_2) hP hD hS hA rfl hl.1 (lv_room (Nat.le_of_ble_eq_true rfl)) ⟨Nat.le_of_ble_eq_true rfl, Nat.le_of_ble_eq_true rfl⟩ ⟨Nat.zero_le _, Nat.zero_le _⟩ dX11_byteAt_13 (fun H locs hP hD hS => ?_)
  refine lv_if_eq (tgt := 28) X.hx X.hb dX11_byteAt_16 (by decide) (fun hc_3 => ?_) (fun hc_3 => ?_)
  · replace hf := if_t hf hc_3
    refine lv_iconst (v := (-1)) X.hx X.hb dX11_byteAt_28 (by decide) ?_
    cases hf
    subst hQ
    exact r_iret X hP hD hS dX11_byteAt_29
  · replace hf := if_f hf hc_3
    refine lv_aload_n X.hx X.hb dX11_byteAt_19 rfl (lv_at hl 0 rfl) ?_
    refine gf_X11_74 X hP 0 rfl (v := .ref (uY 37)) rfl dX11_byteAt_20 ?_
    refine lv_iload_n X.hx X.hb dX11_byteAt_23 rfl (lv_at hl 1 rfl) ?_
    obtain ⟨hi_4, hf⟩ := ck_i hf
    refine r_bald X hP 14 (f := (sY 36)) rfl hi_4 dX11_byteAt_24 ?_
    refine lv_goto (tgt := 29) X.hx X.hb dX11_byteAt_25 (by decide) ?_
    cases hf
    subst hQ
    exact r_iret X hP hD hS dX11_byteAt_29

def f_X11_draw (N : Nat) (iY : Nat → Int32) (sY : Nat → Nat → Int32) (tY : Nat → Nat → Int64) (jY : Nat → Int64) (p1 : Int32) : Option (Int32 × (Nat → Int32)) :=
  nv (((iY 38) * 1103515245) + 12345) (fun n_1 => nz p1 (some (((us n_1 8) - (us n_1 8) / p1 * p1), (va_up iY 38 n_1))))
set_option maxHeartbeats 4000000 in
set_option maxRecDepth 100000 in
theorem c_X11_draw (l : Launch) (G : GT) (N : Nat) (uY : Nat → Nat) (iY : Nat → Int32) (sY : Nat → Nat → Int32) (tY : Nat → Nat → Int64) (jY : Nat → Int64) (p1 : Int32) {r : Int32} {iY' : Nat → Int32} (hf : f_X11_draw N iY sY tY jY p1 = some (r, iY')) : CI l G yX11_draw cX11_draw 2 .int 1 [.ref (uY 0), .int p1] (gY G uY iY sY tY jY) r (gY G uY iY' sY tY jY) := by
  refine CI.of (by decide) (Nat.le_of_ble_eq_true rfl) ?_
  intro p e s m args below meth c A X hA hP hD hS ls hl
  have hl : lv_has ls 2 [(0, .ref (uY 0)), (1, .int p1)] := hl
  generalize hQ : MQ below (QI G A r (gY G uY iY' sY tY jY)) args s 0 0 A = QQ
  unfold f_X11_draw at hf
  refine lv_aload_n X.hx X.hb dX11_draw_0 rfl (lv_at hl 0 rfl) ?_
  refine lv_aload_n X.hx X.hb dX11_draw_1 rfl (lv_at hl 0 rfl) ?_
  refine gf_X11_399 X hP 0 rfl (v := .int (iY 38)) rfl dX11_draw_2 ?_
  refine lv_ldcw (v := 1103515245) X.hx X.hb X.hown (X.hts _ tw_1820) dX11_draw_5 ?_
  refine lv_imul X.hx X.hb dX11_draw_8 ?_
  refine lv_sipush (v := 12345) X.hx X.hb dX11_draw_9 (by decide) ?_
  refine lv_iadd X.hx X.hb dX11_draw_12 ?_
  obtain ⟨n_1, en_1, hf⟩ := nv_i hf
  refine r_nm en_1 ?_
  refine pf_X11_399 X hP hD hS 0 rfl rfl rfl (Nat.le_of_ble_eq_true rfl) (wo := (gY G uY (va_up iY 38 n_1) sY tY jY)) rfl dX11_draw_13 (fun H locs hP hD hS => ?_)
  refine lv_aload_n X.hx X.hb dX11_draw_16 rfl (lv_at hl 0 rfl) ?_
  refine gf_X11_399 X hP 0 rfl (v := .int n_1) rfl dX11_draw_17 ?_
  refine lv_bipush (v := 8) X.hx X.hb dX11_draw_20 (by decide) ?_
  refine lv_iushr (v := (us n_1 8)) X.hx X.hb dX11_draw_22 rfl ?_
  refine lv_iload_n X.hx X.hb dX11_draw_23 rfl (lv_at hl 1 rfl) ?_
  obtain ⟨hz_2, hf⟩ := nz_i hf
  refine lv_irem X.hx X.hb dX11_draw_24 hz_2 ?_
  cases hf
  subst hQ
  exact r_iret X hP hD hS dX11_draw_25

def f_X11_drawPerson (N : Nat) (iY : Nat → Int32) (sY : Nat → Nat → Int32) (tY : Nat → Nat → Int64) (jY : Nat → Int64) (p1 : Int32) : Option ((Nat → Int32) × (Nat → Nat → Int32)) :=
  bd (f_X11_draw N iY sY tY jY 6) (fun (r_1, iY_2) => jn (fun (z : (Nat → Int32) × (Nat → Nat → Int32)) => match z with | (iY_7, sY_8) => jn (fun (z : (Nat → Int32) × (Nat → Nat → Int32)) => match z with | (iY_12, sY_13) => (if r_1 = 4 then bd (f_X11_whyVeil N iY_12 sY_13 tY jY p1) (fun r_15 => (if r_15 = 0 then bd (f_X11_veils N iY_12 sY_13 tY jY p1) (fun sY_18 => some (iY_12, sY_18)) else some (iY_12, sY_13))) else some (iY_12, sY_13))) (fun K_9 => (if r_1 = 3 then bd (f_X11_draw N iY_7 sY_8 tY jY ((sY_8 6) 0)) (fun (r_21, iY_22) => bd (f_X11_whyNod N iY_22 sY_8 tY jY p1 r_21) (fun r_24 => (if r_24 = 0 then bd (f_X11_nods N iY_22 sY_8 tY jY p1 r_21) (fun sY_27 => K_9 (iY_22, sY_27)) else K_9 (iY_22, sY_8)))) else K_9 (iY_7, sY_8)))) (fun K_4 => (if (3 : Int32) ≤ r_1 then K_4 (iY_2, sY) else (if ((sY 6) 1) ≤ 0 then K_4 (iY_2, sY) else bd (f_X11_draw N iY_2 sY tY jY ((sY 6) 1)) (fun (r_31, iY_32) => bd (f_X11_draw N iY_32 sY tY jY ((sY 6) 0)) (fun (r_34, iY_35) => bd (f_X11_whyBuy N iY_35 sY tY jY p1 r_31 r_34) (fun r_37 => (if r_37 = 0 then bd (f_X11_buys N iY_35 sY tY jY p1 r_31 r_34) (fun sY_40 => K_4 (iY_35, sY_40)) else K_4 (iY_35, sY)))))))))
set_option maxHeartbeats 4000000 in
set_option maxRecDepth 100000 in
theorem c_X11_drawPerson (l : Launch) (G : GT) (N : Nat) (uY : Nat → Nat) (iY : Nat → Int32) (sY : Nat → Nat → Int32) (tY : Nat → Nat → Int64) (jY : Nat → Int64) (p1 : Int32) {iY' : Nat → Int32} {sY' : Nat → Nat → Int32} (hf : f_X11_drawPerson N iY sY tY jY p1 = some (iY', sY')) : CV l G yX11_drawPerson cX11_drawPerson 5 4 [.ref (uY 0), .int p1] (gY G uY iY sY tY jY) (gY G uY iY' sY' tY jY) := by
  refine CV.of (by decide) (Nat.le_of_ble_eq_true rfl) ?_
  intro p e s m args below meth c A X hA hP hD hS ls hl
  have hl : lv_has ls 5 [(0, .ref (uY 0)), (1, .int p1)] := hl
  generalize hQ : MQ below (QV G A (gY G uY iY' sY' tY jY)) args s 0 0 A = QQ
  unfold f_X11_drawPerson at hf
  refine lv_aload_n X.hx X.hb dX11_drawPerson_0 rfl (lv_at hl 0 rfl) ?_
  refine lv_bipush (v := 6) X.hx X.hb dX11_drawPerson_1 (by decide) ?_
  obtain ⟨⟨r_1, iY_2⟩, hc_3, hf⟩ := bd_i hf
  refine r_cvi (As := [.int 6]) (rest := []) X sm_X11_403 (c_X11_draw l G N uY iY sY tY jY 6 hc_3) hP hD hS hA 0 rfl rfl [0, 1, 2, 3, 4, 5, 6, 7, 8, 9, 10, 11, 12, 13, 14, 15, 16, 17, 18, 19, 20] rfl rfl rfl (wo := (gY G uY iY_2 sY tY jY)) rfl rfl hl.1 (lv_room (Nat.le_of_ble_eq_true rfl)) ⟨Nat.le_of_ble_eq_true rfl, Nat.le_of_ble_eq_true rfl⟩ ⟨Nat.zero_le _, Nat.zero_le _⟩ dX11_drawPerson_3 (fun H locs hP hD hS => ?_)
  refine lv_istore_n (lv' := [(2, .int r_1), (0, .ref (uY 0)), (1, .int p1)]) X.hx X.hb dX11_drawPerson_6 rfl hl (by decide) rfl (fun ls hl => ?_)
  refine lv_iload_n X.hx X.hb dX11_drawPerson_7 rfl (lv_at hl 0 rfl) ?_
  refine lv_iconst (v := 3) X.hx X.hb dX11_drawPerson_8 (by decide) ?_
  obtain ⟨K_4, eK_6, hf⟩ := jn_i hf
  have hj_5 : ∀ (iY_7 : Nat → Int32) (sY_8 : Nat → Nat → Int32) (H : Heap) (locs : List Loc) (ls : Array Slot), K_4 (iY_7, sY_8) = some (iY', sY') → va_P G.1 vwCl (gY G uY iY_7 sY_8 tY jY) H → va_D A (gY G uY iY_7 sY_8 tY jY) → va_S A s.heap H locs → lv_has ls 5 [(0, .ref (uY 0)), (1, .int p1), (2, .int r_1)] → W p l e (RM 4) s m args below meth c H locs 0 0 QQ (F0 m 63 ls []) := by
    intro iY_7 sY_8 H locs ls hf hP hD hS hl
    rw [eK_6] at hf
    try dsimp only at hf
    refine lv_iload_n X.hx X.hb dX11_drawPerson_63 rfl (lv_at hl 2 rfl) ?_
    refine lv_iconst (v := 3) X.hx X.hb dX11_drawPerson_64 (by decide) ?_
    obtain ⟨K_9, eK_11, hf⟩ := jn_i hf
    have hj_10 : ∀ (iY_12 : Nat → Int32) (sY_13 : Nat → Nat → Int32) (H : Heap) (locs : List Loc) (ls : Array Slot), K_9 (iY_12, sY_13) = some (iY', sY') → va_P G.1 vwCl (gY G uY iY_12 sY_13 tY jY) H → va_D A (gY G uY iY_12 sY_13 tY jY) → va_S A s.heap H locs → lv_has ls 5 [(0, .ref (uY 0)), (1, .int p1), (2, .int r_1)] → W p l e (RM 4) s m args below meth c H locs 0 0 QQ (F0 m 94 ls []) := by
      intro iY_12 sY_13 H locs ls hf hP hD hS hl
      rw [eK_11] at hf
      try dsimp only at hf
      refine lv_iload_n X.hx X.hb dX11_drawPerson_94 rfl (lv_at hl 2 rfl) ?_
      refine lv_iconst (v := 4) X.hx X.hb dX11_drawPerson_95 (by decide) ?_
      refine lv_icmp_ne (tgt := 112) X.hx X.hb dX11_drawPerson_96 (by decide) (fun hc_14 => ?_) (fun hc_14 => ?_)
      · replace hf := if_f hf hc_14
        cases hf
        subst hQ
        exact r_vret X hP hD hS dX11_drawPerson_112
      · replace hf := if_t hf hc_14
        refine lv_aload_n X.hx X.hb dX11_drawPerson_99 rfl (lv_at hl 0 rfl) ?_
        refine lv_iload_n X.hx X.hb dX11_drawPerson_100 rfl (lv_at hl 1 rfl) ?_
        obtain ⟨r_15, hc_16, hf⟩ := bd_i hf
        refine r_cvi (As := [.int p1]) (rest := []) X sm_X11_323 (c_X11_whyVeil l G N uY iY_12 sY_13 tY jY p1 hc_16) hP hD hS hA 0 rfl rfl [0, 1, 2, 3, 4, 5, 6, 7, 8, 9, 10, 11, 12, 13, 14, 15, 16, 17, 18, 19, 20] rfl rfl rfl (wo := (gY G uY iY_12 sY_13 tY jY)) rfl rfl hl.1 (lv_room (Nat.le_of_ble_eq_true rfl)) ⟨Nat.le_of_ble_eq_true rfl, Nat.le_of_ble_eq_true rfl⟩ ⟨Nat.zero_le _, Nat.zero_le _⟩ dX11_drawPerson_101 (fun H locs hP hD hS => ?_)
        refine lv_if_ne (tgt := 112) X.hx X.hb dX11_drawPerson_104 (by decide) (fun hc_17 => ?_) (fun hc_17 => ?_)
        · replace hf := if_f hf hc_17
          cases hf
          subst hQ
          exact r_vret X hP hD hS dX11_drawPerson_112
        · replace hf := if_t hf hc_17
          refine lv_aload_n X.hx X.hb dX11_drawPerson_107 rfl (lv_at hl 0 rfl) ?_
          refine lv_iload_n X.hx X.hb dX11_drawPerson_108 rfl (lv_at hl 1 rfl) ?_
          obtain ⟨sY_18, hc_19, hf⟩ := bd_i hf
          refine r_cvv (As := [.int p1]) (rest := []) X sm_X11_326 (c_X11_veils l G N uY iY_12 sY_13 tY jY p1 hc_19) hP hD hS hA 0 rfl rfl [0, 1, 2, 3, 4, 5, 6, 7, 8, 9, 10, 11, 12, 13, 14, 15, 16, 17, 18, 19, 20] rfl rfl rfl (wo := (gY G uY iY_12 sY_18 tY jY)) rfl rfl hl.1 (lv_room (Nat.le_of_ble_eq_true rfl)) ⟨Nat.le_of_ble_eq_true rfl, Nat.le_of_ble_eq_true rfl⟩ ⟨Nat.zero_le _, Nat.zero_le _⟩ dX11_drawPerson_109 (fun H locs hP hD hS => ?_)
          cases hf
          subst hQ
          exact r_vret X hP hD hS dX11_drawPerson_112
    refine lv_icmp_ne (tgt := 94) X.hx X.hb dX11_drawPerson_65 (by decide) (fun hc_20 => ?_) (fun hc_20 => ?_)
    · replace hf := if_f hf hc_20
      exact hj_10 _ _ _ _ _ hf hP hD hS (lv_sub hl [0, 1, 2] rfl)
    · replace hf := if_t hf hc_20
      refine lv_aload_n X.hx X.hb dX11_drawPerson_68 rfl (lv_at hl 0 rfl) ?_
      refine lv_aload_n X.hx X.hb dX11_drawPerson_69 rfl (lv_at hl 0 rfl) ?_
      refine gf_X11_33 X hP 0 rfl (v := .ref (uY 7)) rfl dX11_drawPerson_70 ?_
      refine lv_iconst (v := 0) X.hx X.hb dX11_drawPerson_73 (by decide) ?_
      refine r_iald X hP 2 (f := (sY_8 6)) rfl (vp_c rfl) dX11_drawPerson_74 ?_
      refine W.eq (g2 := F0 m 75 ls [.int ((sY_8 6) 0), .ref (uY 0)]) rfl ?_
      obtain ⟨⟨r_21, iY_22⟩, hc_23, hf⟩ := bd_i hf
      refine r_cvi (As := [.int ((sY_8 6) 0)]) (rest := []) X sm_X11_403 (c_X11_draw l G N uY iY_7 sY_8 tY jY ((sY_8 6) 0) hc_23) hP hD hS hA 0 rfl rfl [0, 1, 2, 3, 4, 5, 6, 7, 8, 9, 10, 11, 12, 13, 14, 15, 16, 17, 18, 19, 20] rfl rfl rfl (wo := (gY G uY iY_22 sY_8 tY jY)) rfl rfl hl.1 (lv_room (Nat.le_of_ble_eq_true rfl)) ⟨Nat.le_of_ble_eq_true rfl, Nat.le_of_ble_eq_true rfl⟩ ⟨Nat.zero_le _, Nat.zero_le _⟩ dX11_drawPerson_75 (fun H locs hP hD hS => ?_)
      refine lv_istore_n (lv' := [(3, .int r_21), (0, .ref (uY 0)), (1, .int p1), (2, .int r_1)]) X.hx X.hb dX11_drawPerson_78 rfl hl (by decide) rfl (fun ls hl => ?_)
      refine lv_aload_n X.hx X.hb dX11_drawPerson_79 rfl (lv_at hl 1 rfl) ?_
      refine lv_iload_n X.hx X.hb dX11_drawPerson_80 rfl (lv_at hl 2 rfl) ?_
      refine lv_iload_n X.hx X.hb dX11_drawPerson_81 rfl (lv_at hl 0 rfl) ?_
      obtain ⟨r_24, hc_25, hf⟩ := bd_i hf
      refine r_cvi (As := [.int p1, .int r_21]) (rest := []) X sm_X11_317 (c_X11_whyNod l G N uY iY_22 sY_8 tY jY p1 r_21 hc_25) hP hD hS hA 0 rfl rfl [0, 1, 2, 3, 4, 5, 6, 7, 8, 9, 10, 11, 12, 13, 14, 15, 16, 17, 18, 19, 20] rfl rfl rfl (wo := (gY G uY iY_22 sY_8 tY jY)) rfl rfl hl.1 (lv_room (Nat.le_of_ble_eq_true rfl)) ⟨Nat.le_of_ble_eq_true rfl, Nat.le_of_ble_eq_true rfl⟩ ⟨Nat.zero_le _, Nat.zero_le _⟩ dX11_drawPerson_82 (fun H locs hP hD hS => ?_)
      refine lv_if_ne (tgt := 94) X.hx X.hb dX11_drawPerson_85 (by decide) (fun hc_26 => ?_) (fun hc_26 => ?_)
      · replace hf := if_f hf hc_26
        exact hj_10 _ _ _ _ _ hf hP hD hS (lv_sub hl [1, 2, 3] rfl)
      · replace hf := if_t hf hc_26
        refine lv_aload_n X.hx X.hb dX11_drawPerson_88 rfl (lv_at hl 1 rfl) ?_
        refine lv_iload_n X.hx X.hb dX11_drawPerson_89 rfl (lv_at hl 2 rfl) ?_
        refine lv_iload_n X.hx X.hb dX11_drawPerson_90 rfl (lv_at hl 0 rfl) ?_
        obtain ⟨sY_27, hc_28, hf⟩ := bd_i hf
        refine r_cvv (As := [.int p1, .int r_21]) (rest := []) X sm_X11_320 (c_X11_nods l G N uY iY_22 sY_8 tY jY p1 r_21 hc_28) hP hD hS hA 0 rfl rfl [0, 1, 2, 3, 4, 5, 6, 7, 8, 9, 10, 11, 12, 13, 14, 15, 16, 17, 18, 19, 20] rfl rfl rfl (wo := (gY G uY iY_22 sY_27 tY jY)) rfl rfl hl.1 (lv_room (Nat.le_of_ble_eq_true rfl)) ⟨Nat.le_of_ble_eq_true rfl, Nat.le_of_ble_eq_true rfl⟩ ⟨Nat.zero_le _, Nat.zero_le _⟩ dX11_drawPerson_91 (fun H locs hP hD hS => ?_)
        exact hj_10 _ _ _ _ _ hf hP hD hS (lv_sub hl [1, 2, 3] rfl)
  refine lv_icmp_ge (tgt := 63) X.hx X.hb dX11_drawPerson_9 (by decide) (fun hc_29 => ?_) (fun hc_29 => ?_)
  · replace hf := if_t hf hc_29
    exact hj_5 _ _ _ _ _ hf hP hD hS (lv_sub hl [1, 2, 0] rfl)
  · replace hf := if_f hf hc_29
    refine lv_aload_n X.hx X.hb dX11_drawPerson_12 rfl (lv_at hl 1 rfl) ?_
    refine gf_X11_33 X hP 0 rfl (v := .ref (uY 7)) rfl dX11_drawPerson_13 ?_
    refine lv_iconst (v := 1) X.hx X.hb dX11_drawPerson_16 (by decide) ?_
    refine r_iald X hP 2 (f := (sY 6)) rfl (vp_c rfl) dX11_drawPerson_17 ?_
    refine W.eq (g2 := F0 m 18 ls [.int ((sY 6) 1)]) rfl ?_
    refine lv_if_le (tgt := 63) X.hx X.hb dX11_drawPerson_18 (by decide) (fun hc_30 => ?_) (fun hc_30 => ?_)
    · replace hf := if_t hf hc_30
      exact hj_5 _ _ _ _ _ hf hP hD hS (lv_sub hl [1, 2, 0] rfl)
    · replace hf := if_f hf hc_30
      refine lv_aload_n X.hx X.hb dX11_drawPerson_21 rfl (lv_at hl 1 rfl) ?_
      refine lv_aload_n X.hx X.hb dX11_drawPerson_22 rfl (lv_at hl 1 rfl) ?_
      refine gf_X11_33 X hP 0 rfl (v := .ref (uY 7)) rfl dX11_drawPerson_23 ?_
      refine lv_iconst (v := 1) X.hx X.hb dX11_drawPerson_26 (by decide) ?_
      refine r_iald X hP 2 (f := (sY 6)) rfl (vp_c rfl) dX11_drawPerson_27 ?_
      refine W.eq (g2 := F0 m 28 ls [.int ((sY 6) 1), .ref (uY 0)]) rfl ?_
      obtain ⟨⟨r_31, iY_32⟩, hc_33, hf⟩ := bd_i hf
      refine r_cvi (As := [.int ((sY 6) 1)]) (rest := []) X sm_X11_403 (c_X11_draw l G N uY iY_2 sY tY jY ((sY 6) 1) hc_33) hP hD hS hA 0 rfl rfl [0, 1, 2, 3, 4, 5, 6, 7, 8, 9, 10, 11, 12, 13, 14, 15, 16, 17, 18, 19, 20] rfl rfl rfl (wo := (gY G uY iY_32 sY tY jY)) rfl rfl hl.1 (lv_room (Nat.le_of_ble_eq_true rfl)) ⟨Nat.le_of_ble_eq_true rfl, Nat.le_of_ble_eq_true rfl⟩ ⟨Nat.zero_le _, Nat.zero_le _⟩ dX11_drawPerson_28 (fun H locs hP hD hS => ?_)
      refine lv_istore_n (lv' := [(3, .int r_31), (2, .int r_1), (0, .ref (uY 0)), (1, .int p1)]) X.hx X.hb dX11_drawPerson_31 rfl hl (by decide) rfl (fun ls hl => ?_)
      refine lv_aload_n X.hx X.hb dX11_drawPerson_32 rfl (lv_at hl 2 rfl) ?_
      refine lv_aload_n X.hx X.hb dX11_drawPerson_33 rfl (lv_at hl 2 rfl) ?_
      refine gf_X11_33 X hP 0 rfl (v := .ref (uY 7)) rfl dX11_drawPerson_34 ?_
      refine lv_iconst (v := 0) X.hx X.hb dX11_drawPerson_37 (by decide) ?_
      refine r_iald X hP 2 (f := (sY 6)) rfl (vp_c rfl) dX11_drawPerson_38 ?_
      refine W.eq (g2 := F0 m 39 ls [.int ((sY 6) 0), .ref (uY 0)]) rfl ?_
      obtain ⟨⟨r_34, iY_35⟩, hc_36, hf⟩ := bd_i hf
      refine r_cvi (As := [.int ((sY 6) 0)]) (rest := []) X sm_X11_403 (c_X11_draw l G N uY iY_32 sY tY jY ((sY 6) 0) hc_36) hP hD hS hA 0 rfl rfl [0, 1, 2, 3, 4, 5, 6, 7, 8, 9, 10, 11, 12, 13, 14, 15, 16, 17, 18, 19, 20] rfl rfl rfl (wo := (gY G uY iY_35 sY tY jY)) rfl rfl hl.1 (lv_room (Nat.le_of_ble_eq_true rfl)) ⟨Nat.le_of_ble_eq_true rfl, Nat.le_of_ble_eq_true rfl⟩ ⟨Nat.zero_le _, Nat.zero_le _⟩ dX11_drawPerson_39 (fun H locs hP hD hS => ?_)
      refine lv_istore (lv' := [(4, .int r_34), (3, .int r_31), (2, .int r_1), (0, .ref (uY 0)), (1, .int p1)]) X.hx X.hb dX11_drawPerson_42 hl (by decide) rfl (fun ls hl => ?_)
      refine lv_aload_n X.hx X.hb dX11_drawPerson_44 rfl (lv_at hl 3 rfl) ?_
      refine lv_iload_n X.hx X.hb dX11_drawPerson_45 rfl (lv_at hl 4 rfl) ?_
      refine lv_iload_n X.hx X.hb dX11_drawPerson_46 rfl (lv_at hl 1 rfl) ?_
      refine lv_iload X.hx X.hb dX11_drawPerson_47 (lv_at hl 0 rfl) ?_
      obtain ⟨r_37, hc_38, hf⟩ := bd_i hf
      refine r_cvi (As := [.int p1, .int r_31, .int r_34]) (rest := []) X sm_X11_306 (c_X11_whyBuy l G N uY iY_35 sY tY jY p1 r_31 r_34 hc_38) hP hD hS hA 0 rfl rfl [0, 1, 2, 3, 4, 5, 6, 7, 8, 9, 10, 11, 12, 13, 14, 15, 16, 17, 18, 19, 20] rfl rfl rfl (wo := (gY G uY iY_35 sY tY jY)) rfl rfl hl.1 (lv_room (Nat.le_of_ble_eq_true rfl)) ⟨Nat.le_of_ble_eq_true rfl, Nat.le_of_ble_eq_true rfl⟩ ⟨Nat.zero_le _, Nat.zero_le _⟩ dX11_drawPerson_49 (fun H locs hP hD hS => ?_)
      refine lv_if_ne (tgt := 63) X.hx X.hb dX11_drawPerson_52 (by decide) (fun hc_39 => ?_) (fun hc_39 => ?_)
      · replace hf := if_f hf hc_39
        exact hj_5 _ _ _ _ _ hf hP hD hS (lv_sub hl [3, 4, 2] rfl)
      · replace hf := if_t hf hc_39
        refine lv_aload_n X.hx X.hb dX11_drawPerson_55 rfl (lv_at hl 3 rfl) ?_
        refine lv_iload_n X.hx X.hb dX11_drawPerson_56 rfl (lv_at hl 4 rfl) ?_
        refine lv_iload_n X.hx X.hb dX11_drawPerson_57 rfl (lv_at hl 1 rfl) ?_
        refine lv_iload X.hx X.hb dX11_drawPerson_58 (lv_at hl 0 rfl) ?_
        obtain ⟨sY_40, hc_41, hf⟩ := bd_i hf
        refine r_cvv (As := [.int p1, .int r_31, .int r_34]) (rest := []) X sm_X11_313 (c_X11_buys l G N uY iY_35 sY tY jY p1 r_31 r_34 hc_41) hP hD hS hA 0 rfl rfl [0, 1, 2, 3, 4, 5, 6, 7, 8, 9, 10, 11, 12, 13, 14, 15, 16, 17, 18, 19, 20] rfl rfl rfl (wo := (gY G uY iY_35 sY_40 tY jY)) rfl rfl hl.1 (lv_room (Nat.le_of_ble_eq_true rfl)) ⟨Nat.le_of_ble_eq_true rfl, Nat.le_of_ble_eq_true rfl⟩ ⟨Nat.zero_le _, Nat.zero_le _⟩ dX11_drawPerson_60 (fun H locs hP hD hS => ?_)
        exact hj_5 _ _ _ _ _ hf hP hD hS (lv_sub hl [3, 4, 2] rfl)

