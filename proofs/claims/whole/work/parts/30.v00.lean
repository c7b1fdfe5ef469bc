def f_X11_thrown (N : Nat) (iY : Nat → Int32) (sY : Nat → Nat → Int32) (tY : Nat → Nat → Int64) (jY : Nat → Int64) : Option (Int32) :=
  some (iY 0)
set_option maxHeartbeats 4000000 in
set_option maxRecDepth 100000 in
theorem c_X11_thrown (l : Launch) (G : GT) (N : Nat) (uY : Nat → Nat) (iY : Nat → Int32) (sY : Nat → Nat → Int32) (tY : Nat → Nat → Int64) (jY : Nat → Int64) {r : Int32} (hf : f_X11_thrown N iY sY tY jY = some r) : CI l G yX11_thrown cX11_thrown 1 .int 1 [.ref (uY 0)] (gY G uY iY sY tY jY) r (gY G uY iY sY tY jY) := by
  refine CI.of (by decide) (Nat.le_of_ble_eq_true rfl) ?_
  intro p e s m args below meth c A X hA hP hD hS ls hl
  have hl : lv_has ls 1 [(0, .ref (uY 0))] := hl
  generalize hQ : MQ below (QI G A r (gY G uY iY sY tY jY)) args s 0 0 A = QQ
  unfold f_X11_thrown at hf
  refine lv_aload_n X.hx X.hb dX11_thrown_0 rfl (lv_at hl 0 rfl) ?_
  refine gf_X11_1 X hP 0 rfl (v := .int (iY 0)) rfl dX11_thrown_1 ?_
  cases hf
  subst hQ
  exact r_iret X hP hD hS dX11_thrown_4

def f_X11_throwsIf (N : Nat) (iY : Nat → Int32) (sY : Nat → Nat → Int32) (tY : Nat → Nat → Int64) (jY : Nat → Int64) (p1 : Int32) : Option (Int32 × (Nat → Int32)) :=
  jn (fun (z : (Int32)) => match z with | y_4 => zb p1 (some (p1, (va_up iY 0 y_4)))) (fun K_1 => (if p1 = 0 then K_1 0 else K_1 1))
set_option maxHeartbeats 4000000 in
set_option maxRecDepth 100000 in
theorem c_X11_throwsIf (l : Launch) (G : GT) (N : Nat) (uY : Nat → Nat) (iY : Nat → Int32) (sY : Nat → Nat → Int32) (tY : Nat → Nat → Int64) (jY : Nat → Int64) (p1 : Int32) {r : Int32} {iY' : Nat → Int32} (hf : f_X11_throwsIf N iY sY tY jY p1 = some (r, iY')) : CI l G yX11_throwsIf cX11_throwsIf 2 .boolean 1 [.ref (uY 0), .int p1] (gY G uY iY sY tY jY) r (gY G uY iY' sY tY jY) := by
  refine CI.of (by decide) (Nat.le_of_ble_eq_true rfl) ?_
  intro p e s m args below meth c A X hA hP hD hS ls hl
  have hl : lv_has ls 2 [(0, .ref (uY 0)), (1, .int p1)] := hl
  generalize hQ : MQ below (QI G A r (gY G uY iY' sY tY jY)) args s 0 0 A = QQ
  unfold f_X11_throwsIf at hf
  refine lv_aload_n X.hx X.hb dX11_throwsIf_0 rfl (lv_at hl 0 rfl) ?_
  refine lv_iload_n X.hx X.hb dX11_throwsIf_1 rfl (lv_at hl 1 rfl) ?_
  obtain ⟨K_1, eK_3, hf⟩ := jn_i hf
  have hj_2 : ∀ (y_4 : Int32) (H : Heap) (locs : List Loc) (ls : Array Slot), K_1 y_4 = some (r, iY') → va_P G.1 vwCl (gY G uY iY sY tY jY) H → va_D A (gY G uY iY sY tY jY) → va_S A s.heap H locs → lv_has ls 2 [(1, .int p1)] → W p l e (RM 1) s m args below meth c H locs 0 0 QQ (F0 m 10 ls [.int y_4, .ref (uY 0)]) := by
    intro y_4 H locs ls hf hP hD hS hl
    rw [eK_3] at hf
    try dsimp only at hf
    refine pf_X11_1 X hP hD hS 0 rfl rfl rfl (Nat.le_of_ble_eq_true rfl) (wo := (gY G uY (va_up iY 0 y_4) sY tY jY)) rfl dX11_throwsIf_10 (fun H locs hP hD hS => ?_)
    refine lv_iload_n X.hx X.hb dX11_throwsIf_13 rfl (lv_at hl 0 rfl) ?_
    obtain ⟨hb_5, hf⟩ := zb_i hf
    cases hf
    subst hQ
    exact r_zret X hP hD hS hb_5 dX11_throwsIf_14
  refine lv_if_eq (tgt := 9) X.hx X.hb dX11_throwsIf_2 (by decide) (fun hc_6 => ?_) (fun hc_6 => ?_)
  · replace hf := if_t hf hc_6
    refine lv_iconst (v := 0) X.hx X.hb dX11_throwsIf_9 (by decide) ?_
    exact hj_2 _ _ _ _ hf hP hD hS (lv_sub hl [1] rfl)
  · replace hf := if_f hf hc_6
    refine lv_iconst (v := 1) X.hx X.hb dX11_throwsIf_5 (by decide) ?_
    refine lv_goto (tgt := 10) X.hx X.hb dX11_throwsIf_6 (by decide) ?_
    exact hj_2 _ _ _ _ hf hP hD hS (lv_sub hl [1] rfl)

def f_X11_four_3 (N : Nat) (tY : Nat → Nat → Int64) (jY : Nat → Int64) (v1 : Int32) : Nat → (Nat → Int32) → (Nat → Nat → Int32) → (Int32) → Option ((Nat → Int32) × (Nat → Nat → Int32))
  | 0, _, _, _ => none
  | k + 1, iY, sY, v2 => (if v2 < 0 then some (iY, sY) else ck (iY 2) 940 (nv (upd (sY 1) (ix (iY 2)) (vp_nar .byte ((v1 >>> (v2 &&& 31)).toInt8.toInt32))) (fun g_10 => f_X11_four_3 N tY jY v1 k (va_up iY 2 ((iY 2) + 1)) (va_up sY 1 g_10) (v2 + (-8)))))
def f_X11_four (N : Nat) (iY : Nat → Int32) (sY : Nat → Nat → Int32) (tY : Nat → Nat → Int64) (jY : Nat → Int64) (p1 : Int32) : Option ((Nat → Int32) × (Nat → Nat → Int32)) :=
  f_X11_four_3 N tY jY p1 N iY sY 24
set_option maxHeartbeats 4000000 in
set_option maxRecDepth 100000 in
theorem c_X11_four (l : Launch) (G : GT) (N : Nat) (uY : Nat → Nat) (iY : Nat → Int32) (sY : Nat → Nat → Int32) (tY : Nat → Nat → Int64) (jY : Nat → Int64) (p1 : Int32) {iY' : Nat → Int32} {sY' : Nat → Nat → Int32} (hf : f_X11_four N iY sY tY jY p1 = some (iY', sY')) : CV l G yX11_four cX11_four 3 1 [.ref (uY 0), .int p1] (gY G uY iY sY tY jY) (gY G uY iY' sY' tY jY) := by
  refine CV.of (by decide) (Nat.le_of_ble_eq_true rfl) ?_
  intro p e s m args below meth c A X hA hP hD hS ls hl
  have hl : lv_has ls 3 [(0, .ref (uY 0)), (1, .int p1)] := hl
  generalize hQ : MQ below (QV G A (gY G uY iY' sY' tY jY)) args s 0 0 A = QQ
  unfold f_X11_four at hf
  refine lv_bipush (v := 24) X.hx X.hb dX11_four_0 (by decide) ?_
  refine lv_istore_n (lv' := [(2, .int 24), (0, .ref (uY 0)), (1, .int p1)]) X.hx X.hb dX11_four_2 rfl hl (by decide) rfl (fun ls hl => ?_)
  have hlo_1 : ∀ (k : Nat) (iY_2 : Nat → Int32) (sY_3 : Nat → Nat → Int32) (v2_4 : Int32) (H : Heap) (locs : List Loc) (ls : Array Slot), f_X11_four_3 N tY jY p1 k iY_2 sY_3 v2_4 = some (iY', sY') → va_P G.1 vwCl (gY G uY iY_2 sY_3 tY jY) H → va_D A (gY G uY iY_2 sY_3 tY jY) → va_S A s.heap H locs → lv_has ls 3 [(0, .ref (uY 0)), (1, .int p1), (2, .int v2_4)] → W p l e (RM 1) s m args below meth c H locs 0 0 QQ (F0 m 3 ls []) := by
    intro k
    induction k with
    | zero => intro iY_2 sY_3 v2_4 H locs ls hf; exact absurd hf (by intro q; cases q)
    | succ k ih =>
      intro iY_2 sY_3 v2_4 H locs ls hf hP hD hS hl
      unfold f_X11_four_3 at hf
      refine lv_iload_n X.hx X.hb dX11_four_3 rfl (lv_at hl 2 rfl) ?_
      refine lv_if_lt (tgt := 36) X.hx X.hb dX11_four_4 (by decide) (fun hc_5 => ?_) (fun hc_5 => ?_)
      · replace hf := if_t hf hc_5
        cases hf
        subst hQ
        exact r_vret X hP hD hS dX11_four_36
      · replace hf := if_f hf hc_5
        refine lv_aload_n X.hx X.hb dX11_four_7 rfl (lv_at hl 0 rfl) ?_
        refine gf_X11_14 X hP 0 rfl (v := .ref (uY 2)) rfl dX11_four_8 ?_
        refine lv_aload_n X.hx X.hb dX11_four_11 rfl (lv_at hl 0 rfl) ?_
        refine gf_X11_7 X hP 0 rfl (v := .int (iY_2 2)) rfl dX11_four_12 ?_
        refine lv_iload_n X.hx X.hb dX11_four_15 rfl (lv_at hl 1 rfl) ?_
        refine lv_iload_n X.hx X.hb dX11_four_16 rfl (lv_at hl 2 rfl) ?_
        refine lv_ishr X.hx X.hb dX11_four_17 ?_
        refine lv_i2b (v := ((p1 >>> (v2_4 &&& 31)).toInt8.toInt32)) X.hx X.hb dX11_four_18 rfl ?_
        obtain ⟨hi_6, hf⟩ := ck_i hf
        obtain ⟨g_7, eg_7, hf⟩ := nv_i hf
        refine r_bast X hP hD hS 1 (f := (sY_3 1)) rfl hi_6 (wo := (gY G uY iY_2 (va_up sY_3 1 g_7) tY jY)) (by subst eg_7; rfl) dX11_four_19 (fun H locs hP hD hS => ?_)
        refine lv_aload_n X.hx X.hb dX11_four_20 rfl (lv_at hl 0 rfl) ?_
        refine lv_dup X.hx X.hb dX11_four_21 rfl ?_
        refine gf_X11_7 X hP 0 rfl (v := .int (iY_2 2)) rfl dX11_four_22 ?_
        refine lv_iconst (v := 1) X.hx X.hb dX11_four_25 (by decide) ?_
        refine lv_iadd X.hx X.hb dX11_four_26 ?_
        refine pf_X11_7 X hP hD hS 0 rfl rfl rfl (Nat.le_of_ble_eq_true rfl) (wo := (gY G uY (va_up iY_2 2 ((iY_2 2) + 1)) (va_up sY_3 1 g_7) tY jY)) rfl dX11_four_27 (fun H locs hP hD hS => ?_)
        refine lv_iinc (v := (v2_4 + (-8))) (lv' := [(2, .int (v2_4 + (-8))), (0, .ref (uY 0)), (1, .int p1)]) X.hx X.hb dX11_four_30 hl (k := 2) rfl rfl (by decide) rfl (fun ls hl => ?_)
        refine lv_goto (tgt := 3) X.hx X.hb dX11_four_33 (by decide) ?_
        exact ih _ _ _ _ _ _ hf hP hD hS (lv_sub hl [1, 2, 0] rfl)
  exact hlo_1 N _ _ _ _ _ _ hf hP hD hS (lv_sub hl [1, 2, 0] rfl)

def f_X11_feed (N : Nat) (iY : Nat → Int32) (sY : Nat → Nat → Int32) (tY : Nat → Nat → Int64) (jY : Nat → Int64) (p1 : Int32) (p2 : Int32) (p3 : Int32) (p4 : Int32) (p5 : Int32) : Option (Int32 × (Nat → Int32) × (Nat → Nat → Int32)) :=
  (if ((iY 2) + 20) ≤ 940 then bd (f_X11_four N (va_up iY 0 0) sY tY jY p1) (fun (iY_2, sY_3) => bd (f_X11_four N iY_2 sY_3 tY jY p2) (fun (iY_5, sY_6) => bd (f_X11_four N iY_5 sY_6 tY jY p3) (fun (iY_8, sY_9) => bd (f_X11_four N iY_8 sY_9 tY jY p4) (fun (iY_11, sY_12) => bd (f_X11_four N iY_11 sY_12 tY jY p5) (fun (iY_14, sY_15) => some ((iY_14 2), iY_14, sY_15)))))) else some ((-1), (va_up iY 0 0), sY))
set_option maxHeartbeats 4000000 in
set_option maxRecDepth 100000 in
theorem c_X11_feed (l : Launch) (G : GT) (N : Nat) (uY : Nat → Nat) (iY : Nat → Int32) (sY : Nat → Nat → Int32) (tY : Nat → Nat → Int64) (jY : Nat → Int64) (p1 : Int32) (p2 : Int32) (p3 : Int32) (p4 : Int32) (p5 : Int32) {r : Int32} {iY' : Nat → Int32} {sY' : Nat → Nat → Int32} (hf : f_X11_feed N iY sY tY jY p1 p2 p3 p4 p5 = some (r, iY', sY')) : CI l G yX11_feed cX11_feed 6 .int 2 [.ref (uY 0), .int p1, .int p2, .int p3, .int p4, .int p5] (gY G uY iY sY tY jY) r (gY G uY iY' sY' tY jY) := by
  refine CI.of (by decide) (Nat.le_of_ble_eq_true rfl) ?_
  intro p e s m args below meth c A X hA hP hD hS ls hl
  have hl : lv_has ls 6 [(0, .ref (uY 0)), (1, .int p1), (2, .int p2), (3, .int p3), (4, .int p4), (5, .int p5)] := hl
  generalize hQ : MQ below (QI G A r (gY G uY iY' sY' tY jY)) args s 0 0 A = QQ
  unfold f_X11_feed at hf
  refine lv_aload_n X.hx X.hb dX11_feed_0 rfl (lv_at hl 0 rfl) ?_
  refine lv_iconst (v := 0) X.hx X.hb dX11_feed_1 (by decide) ?_
  refine pf_X11_1 X hP hD hS 0 rfl rfl rfl (Nat.le_of_ble_eq_true rfl) (wo := (gY G uY (va_up iY 0 0) sY tY jY)) rfl dX11_feed_2 (fun H locs hP hD hS => ?_)
  refine lv_aload_n X.hx X.hb dX11_feed_5 rfl (lv_at hl 0 rfl) ?_
  refine gf_X11_7 X hP 0 rfl (v := .int (iY 2)) rfl dX11_feed_6 ?_
  refine lv_bipush (v := 20) X.hx X.hb dX11_feed_9 (by decide) ?_
  refine lv_iadd X.hx X.hb dX11_feed_11 ?_
  refine lv_sipush (v := 940) X.hx X.hb dX11_feed_12 (by decide) ?_
  refine lv_icmp_le (tgt := 20) X.hx X.hb dX11_feed_15 (by decide) (fun hc_1 => ?_) (fun hc_1 => ?_)
  · replace hf := if_t hf hc_1
    refine lv_aload_n X.hx X.hb dX11_feed_20 rfl (lv_at hl 0 rfl) ?_
    refine lv_iload_n X.hx X.hb dX11_feed_21 rfl (lv_at hl 1 rfl) ?_
    obtain ⟨⟨iY_2, sY_3⟩, hc_4, hf⟩ := bd_i hf
    refine r_wvv (As := [.int p1]) (rest := []) X sm_X11_10 (c_X11_four l G N uY (va_up iY 0 0) sY tY jY p1 hc_4) hP hD hS hA 0 rfl rfl rfl hl.1 (lv_room (Nat.le_of_ble_eq_true rfl)) ⟨Nat.le_of_ble_eq_true rfl, Nat.le_of_ble_eq_true rfl⟩ ⟨Nat.zero_le _, Nat.zero_le _⟩ dX11_feed_22 (fun H locs hP hD hS => ?_)
    refine lv_aload_n X.hx X.hb dX11_feed_25 rfl (lv_at hl 0 rfl) ?_
    refine lv_iload_n X.hx X.hb dX11_feed_26 rfl (lv_at hl 2 rfl) ?_
    obtain ⟨⟨iY_5, sY_6⟩, hc_7, hf⟩ := bd_i hf
    refine r_wvv (As := [.int p2]) (rest := []) X sm_X11_10 (c_X11_four l G N uY iY_2 sY_3 tY jY p2 hc_7) hP hD hS hA 0 rfl rfl rfl hl.1 (lv_room (Nat.le_of_ble_eq_true rfl)) ⟨Nat.le_of_ble_eq_true rfl, Nat.le_of_ble_eq_true rfl⟩ ⟨Nat.zero_le _, Nat.zero_le _⟩ dX11_feed_27 (fun H locs hP hD hS => ?_)
    refine lv_aload_n X.hx X.hb dX11_feed_30 rfl (lv_at hl 0 rfl) ?_
    refine lv_iload_n X.hx X.hb dX11_feed_31 rfl (lv_at hl 3 rfl) ?_
    obtain ⟨⟨iY_8, sY_9⟩, hc_10, hf⟩ := bd_i hf
    refine r_wvv (As := [.int p3]) (rest := []) X sm_X11_10 (c_X11_four l G N uY iY_5 sY_6 tY jY p3 hc_10) hP hD hS hA 0 rfl rfl rfl hl.1 (lv_room (Nat.le_of_ble_eq_true rfl)) ⟨Nat.le_of_ble_eq_true rfl, Nat.le_of_ble_eq_true rfl⟩ ⟨Nat.zero_le _, Nat.zero_le _⟩ dX11_feed_32 (fun H locs hP hD hS => ?_)
    refine lv_aload_n X.hx X.hb dX11_feed_35 rfl (lv_at hl 0 rfl) ?_
    refine lv_iload X.hx X.hb dX11_feed_36 (lv_at hl 4 rfl) ?_
    obtain ⟨⟨iY_11, sY_12⟩, hc_13, hf⟩ := bd_i hf
    refine r_wvv (As := [.int p4]) (rest := []) X sm_X11_10 (c_X11_four l G N uY iY_8 sY_9 tY jY p4 hc_13) hP hD hS hA 0 rfl rfl rfl hl.1 (lv_room (Nat.le_of_ble_eq_true rfl)) ⟨Nat.le_of_ble_eq_true rfl, Nat.le_of_ble_eq_true rfl⟩ ⟨Nat.zero_le _, Nat.zero_le _⟩ dX11_feed_38 (fun H locs hP hD hS => ?_)
    refine lv_aload_n X.hx X.hb dX11_feed_41 rfl (lv_at hl 0 rfl) ?_
    refine lv_iload X.hx X.hb dX11_feed_42 (lv_at hl 5 rfl) ?_
    obtain ⟨⟨iY_14, sY_15⟩, hc_16, hf⟩ := bd_i hf
    refine r_wvv (As := [.int p5]) (rest := []) X sm_X11_10 (c_X11_four l G N uY iY_11 sY_12 tY jY p5 hc_16) hP hD hS hA 0 rfl rfl rfl hl.1 (lv_room (Nat.le_of_ble_eq_true rfl)) ⟨Nat.le_of_ble_eq_true rfl, Nat.le_of_ble_eq_true rfl⟩ ⟨Nat.zero_le _, Nat.zero_le _⟩ dX11_feed_44 (fun H locs hP hD hS => ?_)
    refine lv_aload_n X.hx X.hb dX11_feed_47 rfl (lv_at hl 0 rfl) ?_
    refine gf_X11_7 X hP 0 rfl (v := .int (iY_14 2)) rfl dX11_feed_48 ?_
    cases hf
    subst hQ
    exact r_iret X hP hD hS dX11_feed_51
  · replace hf := if_f hf hc_1
    refine lv_iconst (v := (-1)) X.hx X.hb dX11_feed_18 (by decide) ?_
    cases hf
    subst hQ
    exact r_iret X hP hD hS dX11_feed_19

def f_X11_end (N : Nat) (iY : Nat → Int32) (sY : Nat → Nat → Int32) (tY : Nat → Nat → Int64) (jY : Nat → Int64) (p1 : Int32) : Option (Int32 × (Nat → Int32)) :=
  (if p1 < 0 then some (0, (va_up iY 0 0)) else (if p1 ≤ (iY 2) then some (1, (va_up (va_up iY 0 0) 2 p1)) else some (0, (va_up iY 0 0))))
set_option maxHeartbeats 4000000 in
set_option maxRecDepth 100000 in
theorem c_X11_end (l : Launch) (G : GT) (N : Nat) (uY : Nat → Nat) (iY : Nat → Int32) (sY : Nat → Nat → Int32) (tY : Nat → Nat → Int64) (jY : Nat → Int64) (p1 : Int32) {r : Int32} {iY' : Nat → Int32} (hf : f_X11_end N iY sY tY jY p1 = some (r, iY')) : CI l G yX11_end cX11_end 2 .boolean 1 [.ref (uY 0), .int p1] (gY G uY iY sY tY jY) r (gY G uY iY' sY tY jY) := by
  refine CI.of (by decide) (Nat.le_of_ble_eq_true rfl) ?_
  intro p e s m args below meth c A X hA hP hD hS ls hl
  have hl : lv_has ls 2 [(0, .ref (uY 0)), (1, .int p1)] := hl
  generalize hQ : MQ below (QI G A r (gY G uY iY' sY tY jY)) args s 0 0 A = QQ
  unfold f_X11_end at hf
  refine lv_aload_n X.hx X.hb dX11_end_0 rfl (lv_at hl 0 rfl) ?_
  refine lv_iconst (v := 0) X.hx X.hb dX11_end_1 (by decide) ?_
  refine pf_X11_1 X hP hD hS 0 rfl rfl rfl (Nat.le_of_ble_eq_true rfl) (wo := (gY G uY (va_up iY 0 0) sY tY jY)) rfl dX11_end_2 (fun H locs hP hD hS => ?_)
  refine lv_iload_n X.hx X.hb dX11_end_5 rfl (lv_at hl 1 rfl) ?_
  refine lv_if_lt (tgt := 17) X.hx X.hb dX11_end_6 (by decide) (fun hc_1 => ?_) (fun hc_1 => ?_)
  · replace hf := if_t hf hc_1
    refine lv_iconst (v := 0) X.hx X.hb dX11_end_17 (by decide) ?_
    cases hf
    subst hQ
    exact r_zret X hP hD hS (by decide) dX11_end_18
  · replace hf := if_f hf hc_1
    refine lv_iload_n X.hx X.hb dX11_end_9 rfl (lv_at hl 1 rfl) ?_
    refine lv_aload_n X.hx X.hb dX11_end_10 rfl (lv_at hl 0 rfl) ?_
    refine gf_X11_7 X hP 0 rfl (v := .int (iY 2)) rfl dX11_end_11 ?_
    refine lv_icmp_le (tgt := 19) X.hx X.hb dX11_end_14 (by decide) (fun hc_2 => ?_) (fun hc_2 => ?_)
    · replace hf := if_t hf hc_2
      refine lv_aload_n X.hx X.hb dX11_end_19 rfl (lv_at hl 0 rfl) ?_
      refine lv_iload_n X.hx X.hb dX11_end_20 rfl (lv_at hl 1 rfl) ?_
      refine pf_X11_7 X hP hD hS 0 rfl rfl rfl (Nat.le_of_ble_eq_true rfl) (wo := (gY G uY (va_up (va_up iY 0 0) 2 p1) sY tY jY)) rfl dX11_end_21 (fun H locs hP hD hS => ?_)
      refine lv_iconst (v := 1) X.hx X.hb dX11_end_24 (by decide) ?_
      cases hf
      subst hQ
      exact r_zret X hP hD hS (by decide) dX11_end_25
    · replace hf := if_f hf hc_2
      refine lv_iconst (v := 0) X.hx X.hb dX11_end_17 (by decide) ?_
      cases hf
      subst hQ
      exact r_zret X hP hD hS (by decide) dX11_end_18

def f_X11_taken (N : Nat) (iY : Nat → Int32) (sY : Nat → Nat → Int32) (tY : Nat → Nat → Int64) (jY : Nat → Int64) (p1 : Int32) : Option ((Nat → Int32)) :=
  some (va_up (va_up (va_up (va_up iY 3 (iY 2)) 2 0) 4 0) 5 p1)
set_option maxHeartbeats 4000000 in
set_option maxRecDepth 100000 in
theorem c_X11_taken (l : Launch) (G : GT) (N : Nat) (uY : Nat → Nat) (iY : Nat → Int32) (sY : Nat → Nat → Int32) (tY : Nat → Nat → Int64) (jY : Nat → Int64) (p1 : Int32) {iY' : Nat → Int32} (hf : f_X11_taken N iY sY tY jY p1 = some iY') : CV l G yX11_taken cX11_taken 2 1 [.ref (uY 0), .int p1] (gY G uY iY sY tY jY) (gY G uY iY' sY tY jY) := by
  refine CV.of (by decide) (Nat.le_of_ble_eq_true rfl) ?_
  intro p e s m args below meth c A X hA hP hD hS ls hl
  have hl : lv_has ls 2 [(0, .ref (uY 0)), (1, .int p1)] := hl
  generalize hQ : MQ below (QV G A (gY G uY iY' sY tY jY)) args s 0 0 A = QQ
  unfold f_X11_taken at hf
  refine lv_aload_n X.hx X.hb dX11_taken_0 rfl (lv_at hl 0 rfl) ?_
  refine lv_aload_n X.hx X.hb dX11_taken_1 rfl (lv_at hl 0 rfl) ?_
  refine gf_X11_7 X hP 0 rfl (v := .int (iY 2)) rfl dX11_taken_2 ?_
  refine pf_X11_18 X hP hD hS 0 rfl rfl rfl (Nat.le_of_ble_eq_true rfl) (wo := (gY G uY (va_up iY 3 (iY 2)) sY tY jY)) rfl dX11_taken_5 (fun H locs hP hD hS => ?_)
  refine lv_aload_n X.hx X.hb dX11_taken_8 rfl (lv_at hl 0 rfl) ?_
  refine lv_iconst (v := 0) X.hx X.hb dX11_taken_9 (by decide) ?_
  refine pf_X11_7 X hP hD hS 0 rfl rfl rfl (Nat.le_of_ble_eq_true rfl) (wo := (gY G uY (va_up (va_up iY 3 (iY 2)) 2 0) sY tY jY)) rfl dX11_taken_10 (fun H locs hP hD hS => ?_)
  refine lv_aload_n X.hx X.hb dX11_taken_13 rfl (lv_at hl 0 rfl) ?_
  refine lv_iconst (v := 0) X.hx X.hb dX11_taken_14 (by decide) ?_
  refine pf_X11_21 X hP hD hS 0 rfl rfl rfl (Nat.le_of_ble_eq_true rfl) (wo := (gY G uY (va_up (va_up (va_up iY 3 (iY 2)) 2 0) 4 0) sY tY jY)) rfl dX11_taken_15 (fun H locs hP hD hS => ?_)
  refine lv_aload_n X.hx X.hb dX11_taken_18 rfl (lv_at hl 0 rfl) ?_
  refine lv_iload_n X.hx X.hb dX11_taken_19 rfl (lv_at hl 1 rfl) ?_
  refine pf_X11_24 X hP hD hS 0 rfl rfl rfl (Nat.le_of_ble_eq_true rfl) (wo := (gY G uY (va_up (va_up (va_up (va_up iY 3 (iY 2)) 2 0) 4 0) 5 p1) sY tY jY)) rfl dX11_taken_20 (fun H locs hP hD hS => ?_)
  cases hf
  subst hQ
  exact r_vret X hP hD hS dX11_taken_23

def f_X11_isIn (N : Nat) (p1 : Int32) (p2 : Int32) (p3 : Int32) : Option (Int32) :=
  (if p1 < p2 then some 0 else (if p3 < p1 then some 0 else some 1))
set_option maxHeartbeats 4000000 in
set_option maxRecDepth 100000 in
theorem c_X11_isIn (l : Launch) (G : GT) (N : Nat) (p1 : Int32) (p2 : Int32) (p3 : Int32) {r : Int32} (hf : f_X11_isIn N p1 p2 p3 = some r) : CI l G yX11_isIn cX11_isIn 3 .boolean 1 [.int p1, .int p2, .int p3] ([] : va_W) r ([] : va_W) := by
  refine CI.of (by decide) (Nat.le_of_ble_eq_true rfl) ?_
  intro p e s m args below meth c A X hA hP hD hS ls hl
  have hl : lv_has ls 3 [(0, .int p1), (1, .int p2), (2, .int p3)] := hl
  generalize hQ : MQ below (QI G A r ([] : va_W)) args s 0 0 A = QQ
  unfold f_X11_isIn at hf
  refine lv_iload_n X.hx X.hb dX11_isIn_0 rfl (lv_at hl 0 rfl) ?_
  refine lv_iload_n X.hx X.hb dX11_isIn_1 rfl (lv_at hl 1 rfl) ?_
  refine lv_icmp_lt (tgt := 14) X.hx X.hb dX11_isIn_2 (by decide) (fun hc_1 => ?_) (fun hc_1 => ?_)
  · replace hf := if_t hf hc_1
    refine lv_iconst (v := 0) X.hx X.hb dX11_isIn_14 (by decide) ?_
    cases hf
    subst hQ
    exact r_zret X hP hD hS (by decide) dX11_isIn_15
  · replace hf := if_f hf hc_1
    refine lv_iload_n X.hx X.hb dX11_isIn_5 rfl (lv_at hl 0 rfl) ?_
    refine lv_iload_n X.hx X.hb dX11_isIn_6 rfl (lv_at hl 2 rfl) ?_
    refine lv_icmp_gt (tgt := 14) X.hx X.hb dX11_isIn_7 (by decide) (fun hc_2 => ?_) (fun hc_2 => ?_)
    · replace hf := if_t hf hc_2
      refine lv_iconst (v := 0) X.hx X.hb dX11_isIn_14 (by decide) ?_
      cases hf
      subst hQ
      exact r_zret X hP hD hS (by decide) dX11_isIn_15
    · replace hf := if_f hf hc_2
      refine lv_iconst (v := 1) X.hx X.hb dX11_isIn_10 (by decide) ?_
      refine lv_goto (tgt := 15) X.hx X.hb dX11_isIn_11 (by decide) ?_
      cases hf
      subst hQ
      exact r_zret X hP hD hS (by decide) dX11_isIn_15

def f_X11_bitOf (N : Nat) (p1 : Int32) (p2 : Int32) : Option (Int32) :=
  (if ((p1 >>> (p2 &&& 31)) &&& 1) = 1 then some 1 else some 0)
set_option maxHeartbeats 4000000 in
set_option maxRecDepth 100000 in
theorem c_X11_bitOf (l : Launch) (G : GT) (N : Nat) (p1 : Int32) (p2 : Int32) {r : Int32} (hf : f_X11_bitOf N p1 p2 = some r) : CI l G yX11_bitOf cX11_bitOf 2 .boolean 1 [.int p1, .int p2] ([] : va_W) r ([] : va_W) := by
  refine CI.of (by decide) (Nat.le_of_ble_eq_true rfl) ?_
  intro p e s m args below meth c A X hA hP hD hS ls hl
  have hl : lv_has ls 2 [(0, .int p1), (1, .int p2)] := hl
  generalize hQ : MQ below (QI G A r ([] : va_W)) args s 0 0 A = QQ
  unfold f_X11_bitOf at hf
  refine lv_iload_n X.hx X.hb dX11_bitOf_0 rfl (lv_at hl 0 rfl) ?_
  refine lv_iload_n X.hx X.hb dX11_bitOf_1 rfl (lv_at hl 1 rfl) ?_
  refine lv_ishr X.hx X.hb dX11_bitOf_2 ?_
  refine lv_iconst (v := 1) X.hx X.hb dX11_bitOf_3 (by decide) ?_
  refine lv_iand X.hx X.hb dX11_bitOf_4 ?_
  refine lv_iconst (v := 1) X.hx X.hb dX11_bitOf_5 (by decide) ?_
  refine lv_icmp_ne (tgt := 13) X.hx X.hb dX11_bitOf_6 (by decide) (fun hc_1 => ?_) (fun hc_1 => ?_)
  · replace hf := if_f hf hc_1
    refine lv_iconst (v := 0) X.hx X.hb dX11_bitOf_13 (by decide) ?_
    cases hf
    subst hQ
    exact r_zret X hP hD hS (by decide) dX11_bitOf_14
  · replace hf := if_t hf hc_1
    refine lv_iconst (v := 1) X.hx X.hb dX11_bitOf_9 (by decide) ?_
    refine lv_goto (tgt := 14) X.hx X.hb dX11_bitOf_10 (by decide) ?_
    cases hf
    subst hQ
    exact r_zret X hP hD hS (by decide) dX11_bitOf_14

def f_X11_lesser (N : Nat) (p1 : Int32) (p2 : Int32) : Option (Int32) :=
  (if p2 ≤ p1 then some p2 else some p1)
set_option maxHeartbeats 4000000 in
set_option maxRecDepth 100000 in
theorem c_X11_lesser (l : Launch) (G : GT) (N : Nat) (p1 : Int32) (p2 : Int32) {r : Int32} (hf : f_X11_lesser N p1 p2 = some r) : CI l G yX11_lesser cX11_lesser 2 .int 1 [.int p1, .int p2] ([] : va_W) r ([] : va_W) := by
  refine CI.of (by decide) (Nat.le_of_ble_eq_true rfl) ?_
  intro p e s m args below meth c A X hA hP hD hS ls hl
  have hl : lv_has ls 2 [(0, .int p1), (1, .int p2)] := hl
  generalize hQ : MQ below (QI G A r ([] : va_W)) args s 0 0 A = QQ
  unfold f_X11_lesser at hf
  refine lv_iload_n X.hx X.hb dX11_lesser_0 rfl (lv_at hl 0 rfl) ?_
  refine lv_iload_n X.hx X.hb dX11_lesser_1 rfl (lv_at hl 1 rfl) ?_
  refine lv_icmp_ge (tgt := 9) X.hx X.hb dX11_lesser_2 (by decide) (fun hc_1 => ?_) (fun hc_1 => ?_)
  · replace hf := if_t hf hc_1
    refine lv_iload_n X.hx X.hb dX11_lesser_9 rfl (lv_at hl 1 rfl) ?_
    cases hf
    subst hQ
    exact r_iret X hP hD hS dX11_lesser_10
  · replace hf := if_f hf hc_1
    refine lv_iload_n X.hx X.hb dX11_lesser_5 rfl (lv_at hl 0 rfl) ?_
    refine lv_goto (tgt := 10) X.hx X.hb dX11_lesser_6 (by decide) ?_
    cases hf
    subst hQ
    exact r_iret X hP hD hS dX11_lesser_10

def f_X11_greater (N : Nat) (p1 : Int32) (p2 : Int32) : Option (Int32) :=
  (if p1 ≤ p2 then some p2 else some p1)
set_option maxHeartbeats 4000000 in
set_option maxRecDepth 100000 in
theorem c_X11_greater (l : Launch) (G : GT) (N : Nat) (p1 : Int32) (p2 : Int32) {r : Int32} (hf : f_X11_greater N p1 p2 = some r) : CI l G yX11_greater cX11_greater 2 .int 1 [.int p1, .int p2] ([] : va_W) r ([] : va_W) := by
  refine CI.of (by decide) (Nat.le_of_ble_eq_true rfl) ?_
  intro p e s m args below meth c A X hA hP hD hS ls hl
  have hl : lv_has ls 2 [(0, .int p1), (1, .int p2)] := hl
  generalize hQ : MQ below (QI G A r ([] : va_W)) args s 0 0 A = QQ
  unfold f_X11_greater at hf
  refine lv_iload_n X.hx X.hb dX11_greater_0 rfl (lv_at hl 0 rfl) ?_
  refine lv_iload_n X.hx X.hb dX11_greater_1 rfl (lv_at hl 1 rfl) ?_
  refine lv_icmp_le (tgt := 9) X.hx X.hb dX11_greater_2 (by decide) (fun hc_1 => ?_) (fun hc_1 => ?_)
  · replace hf := if_t hf hc_1
    refine lv_iload_n X.hx X.hb dX11_greater_9 rfl (lv_at hl 1 rfl) ?_
    cases hf
    subst hQ
    exact r_iret X hP hD hS dX11_greater_10
  · replace hf := if_f hf hc_1
    refine lv_iload_n X.hx X.hb dX11_greater_5 rfl (lv_at hl 0 rfl) ?_
    refine lv_goto (tgt := 10) X.hx X.hb dX11_greater_6 (by decide) ?_
    cases hf
    subst hQ
    exact r_iret X hP hD hS dX11_greater_10

def f_X11_bits_4 (N : Nat) : Nat → (Int32) → (Int32) → Option (Int32)
  | 0, _, _ => none
  | k + 1, v1, v2 => (if v2 = 0 then some v1 else f_X11_bits_4 N k (v1 + 1) (v2 &&& (v2 - 1)))
def f_X11_bits (N : Nat) (p1 : Int32) : Option (Int32) :=
  f_X11_bits_4 N N 0 p1
set_option maxHeartbeats 4000000 in
set_option maxRecDepth 100000 in
theorem c_X11_bits (l : Launch) (G : GT) (N : Nat) (p1 : Int32) {r : Int32} (hf : f_X11_bits N p1 = some r) : CI l G yX11_bits cX11_bits 3 .int 1 [.int p1] ([] : va_W) r ([] : va_W) := by
  refine CI.of (by decide) (Nat.le_of_ble_eq_true rfl) ?_
  intro p e s m args below meth c A X hA hP hD hS ls hl
  have hl : lv_has ls 3 [(0, .int p1)] := hl
  generalize hQ : MQ below (QI G A r ([] : va_W)) args s 0 0 A = QQ
  unfold f_X11_bits at hf
  refine lv_iconst (v := 0) X.hx X.hb dX11_bits_0 (by decide) ?_
  refine lv_istore_n (lv' := [(1, .int 0), (0, .int p1)]) X.hx X.hb dX11_bits_1 rfl hl (by decide) rfl (fun ls hl => ?_)
  refine lv_iload_n X.hx X.hb dX11_bits_2 rfl (lv_at hl 1 rfl) ?_
  refine lv_istore_n (lv' := [(2, .int p1), (1, .int 0), (0, .int p1)]) X.hx X.hb dX11_bits_3 rfl hl (by decide) rfl (fun ls hl => ?_)
  have hlo_1 : ∀ (k : Nat) (v1_2 : Int32) (v2_3 : Int32) (H : Heap) (locs : List Loc) (ls : Array Slot), f_X11_bits_4 N k v1_2 v2_3 = some r → va_P G.1 vwCl ([] : va_W) H → va_D A ([] : va_W) → va_S A s.heap H locs → lv_has ls 3 [(1, .int v1_2), (2, .int v2_3)] → W p l e (RM 1) s m args below meth c H locs 0 0 QQ (F0 m 4 ls []) := by
    intro k
    induction k with
    | zero => intro v1_2 v2_3 H locs ls hf; exact absurd hf (by intro q; cases q)
    | succ k ih =>
      intro v1_2 v2_3 H locs ls hf hP hD hS hl
      unfold f_X11_bits_4 at hf
      refine lv_iload_n X.hx X.hb dX11_bits_4 rfl (lv_at hl 1 rfl) ?_
      refine lv_if_eq (tgt := 20) X.hx X.hb dX11_bits_5 (by decide) (fun hc_4 => ?_) (fun hc_4 => ?_)
      · replace hf := if_t hf hc_4
        refine lv_iload_n X.hx X.hb dX11_bits_20 rfl (lv_at hl 0 rfl) ?_
        cases hf
        subst hQ
        exact r_iret X hP hD hS dX11_bits_21
      · replace hf := if_f hf hc_4
        refine lv_iinc (v := (v1_2 + 1)) (lv' := [(1, .int (v1_2 + 1)), (2, .int v2_3)]) X.hx X.hb dX11_bits_8 hl (k := 0) rfl rfl (by decide) rfl (fun ls hl => ?_)
        refine lv_iload_n X.hx X.hb dX11_bits_11 rfl (lv_at hl 1 rfl) ?_
        refine lv_iload_n X.hx X.hb dX11_bits_12 rfl (lv_at hl 1 rfl) ?_
        refine lv_iconst (v := 1) X.hx X.hb dX11_bits_13 (by decide) ?_
        refine lv_isub X.hx X.hb dX11_bits_14 ?_
        refine lv_iand X.hx X.hb dX11_bits_15 ?_
        obtain ⟨n_5, en_5, hf⟩ := nv_i hf
        refine r_nm en_5 ?_
        refine lv_istore_n (lv' := [(2, .int n_5), (1, .int (v1_2 + 1))]) X.hx X.hb dX11_bits_16 rfl hl (by decide) rfl (fun ls hl => ?_)
        refine lv_goto (tgt := 4) X.hx X.hb dX11_bits_17 (by decide) ?_
        exact ih _ _ _ _ _ hf hP hD hS (lv_sub hl [1, 0] rfl)
  exact hlo_1 N _ _ _ _ _ hf hP hD hS (lv_sub hl [1, 0] rfl)

def f_X11_octet (N : Nat) (iY : Nat → Int32) (sY : Nat → Nat → Int32) (tY : Nat → Nat → Int64) (jY : Nat → Int64) (p1 : Int32) : Option (Int32) :=
  ck p1 940 (some (((sY 1) (ix p1)) &&& 255))
set_option maxHeartbeats 4000000 in
set_option maxRecDepth 100000 in
theorem c_X11_octet (l : Launch) (G : GT) (N : Nat) (uY : Nat → Nat) (iY : Nat → Int32) (sY : Nat → Nat → Int32) (tY : Nat → Nat → Int64) (jY : Nat → Int64) (p1 : Int32) {r : Int32} (hf : f_X11_octet N iY sY tY jY p1 = some r) : CI l G yX11_octet cX11_octet 2 .int 1 [.ref (uY 0), .int p1] (gY G uY iY sY tY jY) r (gY G uY iY sY tY jY) := by
  refine CI.of (by decide) (Nat.le_of_ble_eq_true rfl) ?_
  intro p e s m args below meth c A X hA hP hD hS ls hl
  have hl : lv_has ls 2 [(0, .ref (uY 0)), (1, .int p1)] := hl
  generalize hQ : MQ below (QI G A r (gY G uY iY sY tY jY)) args s 0 0 A = QQ
  unfold f_X11_octet at hf
  refine lv_aload_n X.hx X.hb dX11_octet_0 rfl (lv_at hl 0 rfl) ?_
  refine gf_X11_14 X hP 0 rfl (v := .ref (uY 2)) rfl dX11_octet_1 ?_
  refine lv_iload_n X.hx X.hb dX11_octet_4 rfl (lv_at hl 1 rfl) ?_
  obtain ⟨hi_1, hf⟩ := ck_i hf
  refine r_bald X hP 1 (f := (sY 1)) rfl hi_1 dX11_octet_5 ?_
  refine lv_sipush (v := 255) X.hx X.hb dX11_octet_6 (by decide) ?_
  refine lv_iand X.hx X.hb dX11_octet_9 ?_
  cases hf
  subst hQ
  exact r_iret X hP hD hS dX11_octet_10

def f_X11_clears_2 (N : Nat) (iY : Nat → Int32) (tY : Nat → Nat → Int64) (jY : Nat → Int64) (K_1 : ((Nat → Nat → Int32)) → Option ((Nat → Nat → Int32))) : Nat → (Nat → Nat → Int32) → (Int32) → Option ((Nat → Nat → Int32))
  | 0, _, _ => none
  | k + 1, sY, v1 => (if (131 : Int32) ≤ v1 then K_1 sY else ck v1 131 (nv (upd (sY 7) (ix v1) 0) (fun g_15 => f_X11_clears_2 N iY tY jY K_1 k (va_up sY 7 g_15) (v1 + 1))))
def f_X11_clears (N : Nat) (iY : Nat → Int32) (sY : Nat → Nat → Int32) (tY : Nat → Nat → Int64) (jY : Nat → Int64) : Option ((Nat → Nat → Int32)) :=
  jn (fun (z : (Nat → Nat → Int32)) => match z with | sY_4 => nv (upd (sY_4 7) 2 2) (fun g_5 => nv (upd g_5 3 1) (fun g_6 => some (va_up sY_4 7 g_6)))) (fun K_1 => f_X11_clears_2 N iY tY jY K_1 N sY 0)
set_option maxHeartbeats 4000000 in
set_option maxRecDepth 100000 in
theorem c_X11_clears (l : Launch) (G : GT) (N : Nat) (uY : Nat → Nat) (iY : Nat → Int32) (sY : Nat → Nat → Int32) (tY : Nat → Nat → Int64) (jY : Nat → Int64) {sY' : Nat → Nat → Int32} (hf : f_X11_clears N iY sY tY jY = some sY') : CV l G yX11_clears cX11_clears 2 1 [.ref (uY 0)] (gY G uY iY sY tY jY) (gY G uY iY sY' tY jY) := by
  refine CV.of (by decide) (Nat.le_of_ble_eq_true rfl) ?_
  intro p e s m args below meth c A X hA hP hD hS ls hl
  have hl : lv_has ls 2 [(0, .ref (uY 0))] := hl
  generalize hQ : MQ below (QV G A (gY G uY iY sY' tY jY)) args s 0 0 A = QQ
  unfold f_X11_clears at hf
  refine lv_iconst (v := 0) X.hx X.hb dX11_clears_0 (by decide) ?_
  refine lv_istore_n (lv' := [(1, .int 0), (0, .ref (uY 0))]) X.hx X.hb dX11_clears_1 rfl hl (by decide) rfl (fun ls hl => ?_)
  obtain ⟨K_1, eK_3, hf⟩ := jn_i hf
  have hj_2 : ∀ (sY_4 : Nat → Nat → Int32) (H : Heap) (locs : List Loc) (ls : Array Slot), K_1 sY_4 = some sY' → va_P G.1 vwCl (gY G uY iY sY_4 tY jY) H → va_D A (gY G uY iY sY_4 tY jY) → va_S A s.heap H locs → lv_has ls 2 [(0, .ref (uY 0))] → W p l e (RM 1) s m args below meth c H locs 0 0 QQ (F0 m 22 ls []) := by
    intro sY_4 H locs ls hf hP hD hS hl
    rw [eK_3] at hf
    try dsimp only at hf
    refine lv_aload_n X.hx X.hb dX11_clears_22 rfl (lv_at hl 0 rfl) ?_
    refine gf_X11_37 X hP 0 rfl (v := .ref (uY 8)) rfl dX11_clears_23 ?_
    refine lv_iconst (v := 2) X.hx X.hb dX11_clears_26 (by decide) ?_
    refine lv_iconst (v := 2) X.hx X.hb dX11_clears_27 (by decide) ?_
    obtain ⟨g_5, eg_5, hf⟩ := nv_i hf
    refine r_iast X hP hD hS 3 (f := (sY_4 7)) rfl (vp_c rfl) (wo := (gY G uY iY (va_up sY_4 7 g_5) tY jY)) (by subst eg_5; rfl) dX11_clears_28 (fun H locs hP hD hS => ?_)
    refine lv_aload_n X.hx X.hb dX11_clears_29 rfl (lv_at hl 0 rfl) ?_
    refine gf_X11_37 X hP 0 rfl (v := .ref (uY 8)) rfl dX11_clears_30 ?_
    refine lv_iconst (v := 3) X.hx X.hb dX11_clears_33 (by decide) ?_
    refine lv_iconst (v := 1) X.hx X.hb dX11_clears_34 (by decide) ?_
    obtain ⟨g_6, eg_6, hf⟩ := nv_i hf
    refine r_iast X hP hD hS 3 (f := g_5) rfl (vp_c rfl) (wo := (gY G uY iY (va_up sY_4 7 g_6) tY jY)) (by subst eg_6; rfl) dX11_clears_35 (fun H locs hP hD hS => ?_)
    cases hf
    subst hQ
    exact r_vret X hP hD hS dX11_clears_36
  have hlo_7 : ∀ (k : Nat) (sY_8 : Nat → Nat → Int32) (v1_9 : Int32) (H : Heap) (locs : List Loc) (ls : Array Slot), f_X11_clears_2 N iY tY jY K_1 k sY_8 v1_9 = some sY' → va_P G.1 vwCl (gY G uY iY sY_8 tY jY) H → va_D A (gY G uY iY sY_8 tY jY) → va_S A s.heap H locs → lv_has ls 2 [(0, .ref (uY 0)), (1, .int v1_9)] → W p l e (RM 1) s m args below meth c H locs 0 0 QQ (F0 m 2 ls []) := by
    intro k
    induction k with
    | zero => intro sY_8 v1_9 H locs ls hf; exact absurd hf (by intro q; cases q)
    | succ k ih =>
      intro sY_8 v1_9 H locs ls hf hP hD hS hl
      unfold f_X11_clears_2 at hf
      refine lv_iload_n X.hx X.hb dX11_clears_2 rfl (lv_at hl 1 rfl) ?_
      refine lv_sipush (v := 131) X.hx X.hb dX11_clears_3 (by decide) ?_
      refine lv_icmp_ge (tgt := 22) X.hx X.hb dX11_clears_6 (by decide) (fun hc_10 => ?_) (fun hc_10 => ?_)
      · replace hf := if_t hf hc_10
        exact hj_2 _ _ _ _ hf hP hD hS (lv_sub hl [0] rfl)
      · replace hf := if_f hf hc_10
        refine lv_aload_n X.hx X.hb dX11_clears_9 rfl (lv_at hl 0 rfl) ?_
        refine gf_X11_37 X hP 0 rfl (v := .ref (uY 8)) rfl dX11_clears_10 ?_
        refine lv_iload_n X.hx X.hb dX11_clears_13 rfl (lv_at hl 1 rfl) ?_
        refine lv_iconst (v := 0) X.hx X.hb dX11_clears_14 (by decide) ?_
        obtain ⟨hi_11, hf⟩ := ck_i hf
        obtain ⟨g_12, eg_12, hf⟩ := nv_i hf
        refine r_iast X hP hD hS 3 (f := (sY_8 7)) rfl hi_11 (wo := (gY G uY iY (va_up sY_8 7 g_12) tY jY)) (by subst eg_12; rfl) dX11_clears_15 (fun H locs hP hD hS => ?_)
        refine lv_iinc (v := (v1_9 + 1)) (lv' := [(1, .int (v1_9 + 1)), (0, .ref (uY 0))]) X.hx X.hb dX11_clears_16 hl (k := 1) rfl rfl (by decide) rfl (fun ls hl => ?_)
        refine lv_goto (tgt := 2) X.hx X.hb dX11_clears_19 (by decide) ?_
        exact ih _ _ _ _ _ hf hP hD hS (lv_sub hl [1, 0] rfl)
  exact hlo_7 N _ _ _ _ _ hf hP hD hS (lv_sub hl [1, 0] rfl)

def f_X11_peek (N : Nat) (iY : Nat → Int32) (sY : Nat → Nat → Int32) (tY : Nat → Nat → Int64) (jY : Nat → Int64) : Option (Int32) :=
  (if (iY 3) ≤ (iY 4) then some (-1) else ck (iY 4) 940 (some (((sY 1) (ix (iY 4))) &&& 255)))
set_option maxHeartbeats 4000000 in
set_option maxRecDepth 100000 in
theorem c_X11_peek (l : Launch) (G : GT) (N : Nat) (uY : Nat → Nat) (iY : Nat → Int32) (sY : Nat → Nat → Int32) (tY : Nat → Nat → Int64) (jY : Nat → Int64) {r : Int32} (hf : f_X11_peek N iY sY tY jY = some r) : CI l G yX11_peek cX11_peek 1 .int 1 [.ref (uY 0)] (gY G uY iY sY tY jY) r (gY G uY iY sY tY jY) := by
  refine CI.of (by decide) (Nat.le_of_ble_eq_true rfl) ?_
  intro p e s m args below meth c A X hA hP hD hS ls hl
  have hl : lv_has ls 1 [(0, .ref (uY 0))] := hl
  generalize hQ : MQ below (QI G A r (gY G uY iY sY tY jY)) args s 0 0 A = QQ
  unfold f_X11_peek at hf
  refine lv_aload_n X.hx X.hb dX11_peek_0 rfl (lv_at hl 0 rfl) ?_
  refine gf_X11_21 X hP 0 rfl (v := .int (iY 4)) rfl dX11_peek_1 ?_
  refine lv_aload_n X.hx X.hb dX11_peek_4 rfl (lv_at hl 0 rfl) ?_
  refine gf_X11_18 X hP 0 rfl (v := .int (iY 3)) rfl dX11_peek_5 ?_
  refine lv_icmp_ge (tgt := 27) X.hx X.hb dX11_peek_8 (by decide) (fun hc_1 => ?_) (fun hc_1 => ?_)
  · replace hf := if_t hf hc_1
    refine lv_iconst (v := (-1)) X.hx X.hb dX11_peek_27 (by decide) ?_
    cases hf
    subst hQ
    exact r_iret X hP hD hS dX11_peek_28
  · replace hf := if_f hf hc_1
    refine lv_aload_n X.hx X.hb dX11_peek_11 rfl (lv_at hl 0 rfl) ?_
    refine gf_X11_14 X hP 0 rfl (v := .ref (uY 2)) rfl dX11_peek_12 ?_
    refine lv_aload_n X.hx X.hb dX11_peek_15 rfl (lv_at hl 0 rfl) ?_
    refine gf_X11_21 X hP 0 rfl (v := .int (iY 4)) rfl dX11_peek_16 ?_
    obtain ⟨hi_2, hf⟩ := ck_i hf
    refine r_bald X hP 1 (f := (sY 1)) rfl hi_2 dX11_peek_19 ?_
    refine lv_sipush (v := 255) X.hx X.hb dX11_peek_20 (by decide) ?_
    refine lv_iand X.hx X.hb dX11_peek_23 ?_
    refine lv_goto (tgt := 28) X.hx X.hb dX11_peek_24 (by decide) ?_
    cases hf
    subst hQ
    exact r_iret X hP hD hS dX11_peek_28

def f_X11_isSmall (N : Nat) (p1 : Int32) : Option (Int32) :=
  (if p1 < 97 then some 0 else (if (122 : Int32) < p1 then some 0 else some 1))
set_option maxHeartbeats 4000000 in
set_option maxRecDepth 100000 in
theorem c_X11_isSmall (l : Launch) (G : GT) (N : Nat) (p1 : Int32) {r : Int32} (hf : f_X11_isSmall N p1 = some r) : CI l G yX11_isSmall cX11_isSmall 1 .boolean 1 [.int p1] ([] : va_W) r ([] : va_W) := by
  refine CI.of (by decide) (Nat.le_of_ble_eq_true rfl) ?_
  intro p e s m args below meth c A X hA hP hD hS ls hl
  have hl : lv_has ls 1 [(0, .int p1)] := hl
  generalize hQ : MQ below (QI G A r ([] : va_W)) args s 0 0 A = QQ
  unfold f_X11_isSmall at hf
  refine lv_iload_n X.hx X.hb dX11_isSmall_0 rfl (lv_at hl 0 rfl) ?_
  refine lv_bipush (v := 97) X.hx X.hb dX11_isSmall_1 (by decide) ?_
  refine lv_icmp_lt (tgt := 16) X.hx X.hb dX11_isSmall_3 (by decide) (fun hc_1 => ?_) (fun hc_1 => ?_)
  · replace hf := if_t hf hc_1
    refine lv_iconst (v := 0) X.hx X.hb dX11_isSmall_16 (by decide) ?_
    cases hf
    subst hQ
    exact r_zret X hP hD hS (by decide) dX11_isSmall_17
  · replace hf := if_f hf hc_1
    refine lv_iload_n X.hx X.hb dX11_isSmall_6 rfl (lv_at hl 0 rfl) ?_
    refine lv_bipush (v := 122) X.hx X.hb dX11_isSmall_7 (by decide) ?_
    refine lv_icmp_gt (tgt := 16) X.hx X.hb dX11_isSmall_9 (by decide) (fun hc_2 => ?_) (fun hc_2 => ?_)
    · replace hf := if_t hf hc_2
      refine lv_iconst (v := 0) X.hx X.hb dX11_isSmall_16 (by decide) ?_
      cases hf
      subst hQ
      exact r_zret X hP hD hS (by decide) dX11_isSmall_17
    · replace hf := if_f hf hc_2
      refine lv_iconst (v := 1) X.hx X.hb dX11_isSmall_12 (by decide) ?_
      refine lv_goto (tgt := 17) X.hx X.hb dX11_isSmall_13 (by decide) ?_
      cases hf
      subst hQ
      exact r_zret X hP hD hS (by decide) dX11_isSmall_17

def f_X11_isDigit (N : Nat) (p1 : Int32) : Option (Int32) :=
  (if p1 < 48 then some 0 else (if (57 : Int32) < p1 then some 0 else some 1))
set_option maxHeartbeats 4000000 in
set_option maxRecDepth 100000 in
theorem c_X11_isDigit (l : Launch) (G : GT) (N : Nat) (p1 : Int32) {r : Int32} (hf : f_X11_isDigit N p1 = some r) : CI l G yX11_isDigit cX11_isDigit 1 .boolean 1 [.int p1] ([] : va_W) r ([] : va_W) := by
  refine CI.of (by decide) (Nat.le_of_ble_eq_true rfl) ?_
  intro p e s m args below meth c A X hA hP hD hS ls hl
  have hl : lv_has ls 1 [(0, .int p1)] := hl
  generalize hQ : MQ below (QI G A r ([] : va_W)) args s 0 0 A = QQ
  unfold f_X11_isDigit at hf
  refine lv_iload_n X.hx X.hb dX11_isDigit_0 rfl (lv_at hl 0 rfl) ?_
  refine lv_bipush (v := 48) X.hx X.hb dX11_isDigit_1 (by decide) ?_
  refine lv_icmp_lt (tgt := 16) X.hx X.hb dX11_isDigit_3 (by decide) (fun hc_1 => ?_) (fun hc_1 => ?_)
  · replace hf := if_t hf hc_1
    refine lv_iconst (v := 0) X.hx X.hb dX11_isDigit_16 (by decide) ?_
    cases hf
    subst hQ
    exact r_zret X hP hD hS (by decide) dX11_isDigit_17
  · replace hf := if_f hf hc_1
    refine lv_iload_n X.hx X.hb dX11_isDigit_6 rfl (lv_at hl 0 rfl) ?_
    refine lv_bipush (v := 57) X.hx X.hb dX11_isDigit_7 (by decide) ?_
    refine lv_icmp_gt (tgt := 16) X.hx X.hb dX11_isDigit_9 (by decide) (fun hc_2 => ?_) (fun hc_2 => ?_)
    · replace hf := if_t hf hc_2
      refine lv_iconst (v := 0) X.hx X.hb dX11_isDigit_16 (by decide) ?_
      cases hf
      subst hQ
      exact r_zret X hP hD hS (by decide) dX11_isDigit_17
    · replace hf := if_f hf hc_2
      refine lv_iconst (v := 1) X.hx X.hb dX11_isDigit_12 (by decide) ?_
      refine lv_goto (tgt := 17) X.hx X.hb dX11_isDigit_13 (by decide) ?_
      cases hf
      subst hQ
      exact r_zret X hP hD hS (by decide) dX11_isDigit_17

def f_X11_next_181 (N : Nat) (sY : Nat → Nat → Int32) (tY : Nat → Nat → Int64) (v2 : Int32) (K_18 : ((Int32) × (Nat → Int32) × (Nat → Int64)) → Option ((Nat → Int32) × (Nat → Int64))) : Nat → (Nat → Int32) → (Nat → Int64) → (Int32) → Option ((Nat → Int32) × (Nat → Int64))
  | 0, _, _, _ => none
  | k + 1, iY, jY, v3 => bd (f_X11_peek N iY sY tY jY) (fun r_85 => bd (f_X11_isSmall N r_85) (fun r_87 => jn (fun (z : Unit) => match z with | () => jn (fun (z : (Int32)) => match z with | y_95 => jn (fun (z : (Nat → Int64)) => match z with | jY_99 => jn (fun (z : (Nat → Int32)) => match z with | iY_103 => f_X11_next_181 N sY tY v2 K_18 k (va_up (va_up iY_103 13 ((iY_103 13) + 1)) 4 ((iY_103 4) + 1)) jY_99 y_95) (fun K_100 => (if (3 : Int32) ≤ (iY 13) then K_100 iY else bd (f_X11_peek N iY sY tY jY_99) (fun r_105 => nv ((((10 : Int32) * (iY 14)) + r_105) - 48) (fun n_107 => K_100 (va_up iY 14 n_107)))))) (fun K_96 => (if (7 : Int32) ≤ (iY 13) then K_96 jY else bd (f_X11_peek N iY sY tY jY) (fun r_109 => nv ((sll (jY 17) 8) ||| (r_109.toInt64)) (fun n_111 => K_96 (va_up jY 17 n_111)))))) (fun K_92 => jn (fun (z : Unit) => match z with | () => K_92 0) (fun K_112 => (if v3 = 0 then K_112 () else bd (f_X11_peek N iY sY tY jY) (fun r_116 => bd (f_X11_isSmall N r_116) (fun r_118 => (if r_118 = v2 then K_92 1 else K_112 ()))))))) (fun K_89 => (if r_87 = 0 then bd (f_X11_peek N iY sY tY jY) (fun r_122 => bd (f_X11_isDigit N r_122) (fun r_124 => (if r_124 = 0 then K_18 (v3, iY, jY) else K_89 ()))) else K_89 ()))))
def f_X11_next_0 (N : Nat) (sY : Nat → Nat → Int32) (tY : Nat → Nat → Int64) (jY : Nat → Int64) (K_1 : ((Nat → Int32)) → Option ((Nat → Int32) × (Nat → Int64))) : Nat → (Nat → Int32) → Option ((Nat → Int32) × (Nat → Int64))
  | 0, _ => none
  | k + 1, iY => bd (f_X11_peek N iY sY tY jY) (fun r_159 => jn (fun (z : Unit) => match z with | () => f_X11_next_0 N sY tY jY K_1 k (va_up iY 4 ((iY 4) + 1))) (fun K_161 => (if r_159 = 32 then K_161 () else bd (f_X11_peek N iY sY tY jY) (fun r_165 => (if r_165 = 10 then K_161 () else K_1 iY)))))
def f_X11_next (N : Nat) (iY : Nat → Int32) (sY : Nat → Nat → Int32) (tY : Nat → Nat → Int64) (jY : Nat → Int64) : Option ((Nat → Int32) × (Nat → Int64)) :=
  jn (fun (z : (Nat → Int32)) => match z with | iY_4 => jn (fun (z : Unit) => match z with | () => bd (f_X11_peek N (va_up (va_up iY_4 12 (iY_4 4)) 13 0) sY tY jY) (fun r_8 => (if (0 : Int32) ≤ r_8 then bd (f_X11_isSmall N r_8) (fun r_11 => jn (fun (z : Unit) => match z with | () => bd (f_X11_isSmall N r_8) (fun r_16 => jn (fun (z : (Int32) × (Nat → Int32) × (Nat → Int64)) => match z with | (x3_21, iY_22, jY_23) => jn (fun (z : (Int32)) => match z with | y_27 => some ((va_up iY_22 11 y_27), jY_23)) (fun K_24 => jn (fun (z : Unit) => match z with | () => K_24 4) (fun K_28 => (if x3_21 = 0 then K_28 () else jn (fun (z : (Int32)) => match z with | y_35 => (if (iY_22 13) ≤ y_35 then (if r_16 = 0 then K_24 2 else K_24 1) else K_28 ())) (fun K_32 => (if r_16 = 0 then K_32 3 else K_32 7)))))) (fun K_18 => f_X11_next_181 N sY tY r_16 K_18 N (va_up (va_up (va_up iY_4 12 (iY_4 4)) 13 0) 14 0) (va_up jY 17 0) 1))) (fun K_13 => (if r_11 = 0 then bd (f_X11_isDigit N r_8) (fun r_128 => (if r_128 = 0 then jn (fun (z : (Int32)) => match z with | y_134 => some ((va_up (va_up (va_up (va_up (va_up iY_4 12 (iY_4 4)) 13 0) 11 y_134) 14 r_8) 4 ((iY_4 4) + 1)), jY)) (fun K_131 => jn (fun (z : Unit) => match z with | () => K_131 3) (fun K_135 => (if r_8 = 59 then K_135 () else (if r_8 = 40 then K_135 () else (if r_8 = 41 then K_135 () else jn (fun (z : Unit) => match z with | () => K_131 4) (fun K_141 => (if r_8 < 60 then K_141 () else (if (62 : Int32) < r_8 then K_141 () else K_135 ())))))))) else K_13 ())) else K_13 ()))) else some ((va_up (va_up (va_up iY_4 12 (iY_4 4)) 13 0) 11 0), jY)))) (fun K_5 => (if (iY_4 3) ≤ (iY_4 5) then K_5 () else (if (iY_4 4) < (iY_4 5) then K_5 () else some ((va_up (va_up (va_up iY_4 12 (iY_4 5)) 13 0) 11 4), jY))))) (fun K_1 => f_X11_next_0 N sY tY jY K_1 N iY)
set_option maxHeartbeats 4000000 in
set_option maxRecDepth 100000 in
theorem c_X11_next (l : Launch) (G : GT) (N : Nat) (uY : Nat → Nat) (iY : Nat → Int32) (sY : Nat → Nat → Int32) (tY : Nat → Nat → Int64) (jY : Nat → Int64) {iY' : Nat → Int32} {jY' : Nat → Int64} (hf : f_X11_next N iY sY tY jY = some (iY', jY')) : CV l G yX11_next cX11_next 4 2 [.ref (uY 0)] (gY G uY iY sY tY jY) (gY G uY iY' sY tY jY') := by
  refine CV.of (by decide) (Nat.le_of_ble_eq_true rfl) ?_
  intro p e s m args below meth c A X hA hP hD hS ls hl
  have hl : lv_has ls 4 [(0, .ref (uY 0))] := hl
  generalize hQ : MQ below (QV G A (gY G uY iY' sY tY jY')) args s 0 0 A = QQ
  unfold f_X11_next at hf
  obtain ⟨K_1, eK_3, hf⟩ := jn_i hf
  have hj_2 : ∀ (iY_4 : Nat → Int32) (H : Heap) (locs : List Loc) (ls : Array Slot), K_1 iY_4 = some (iY', jY') → va_P G.1 vwCl (gY G uY iY_4 sY tY jY) H → va_D A (gY G uY iY_4 sY tY jY) → va_S A s.heap H locs → lv_has ls 4 [(0, .ref (uY 0))] → W p l e (RM 2) s m args below meth c H locs 0 0 QQ (F0 m 31 ls []) := by
    intro iY_4 H locs ls hf hP hD hS hl
    rw [eK_3] at hf
    try dsimp only at hf
    refine lv_aload_n X.hx X.hb dX11_next_31 rfl (lv_at hl 0 rfl) ?_
    refine lv_aload_n X.hx X.hb dX11_next_32 rfl (lv_at hl 0 rfl) ?_
    refine gf_X11_21 X hP 0 rfl (v := .int (iY_4 4)) rfl dX11_next_33 ?_
    refine pf_X11_151 X hP hD hS 0 rfl rfl rfl (Nat.le_of_ble_eq_true rfl) (wo := (gY G uY (va_up iY_4 12 (iY_4 4)) sY tY jY)) rfl dX11_next_36 (fun H locs hP hD hS => ?_)
    refine lv_aload_n X.hx X.hb dX11_next_39 rfl (lv_at hl 0 rfl) ?_
    refine lv_iconst (v := 0) X.hx X.hb dX11_next_40 (by decide) ?_
    refine pf_X11_154 X hP hD hS 0 rfl rfl rfl (Nat.le_of_ble_eq_true rfl) (wo := (gY G uY (va_up (va_up iY_4 12 (iY_4 4)) 13 0) sY tY jY)) rfl dX11_next_41 (fun H locs hP hD hS => ?_)
    refine lv_aload_n X.hx X.hb dX11_next_44 rfl (lv_at hl 0 rfl) ?_
    refine gf_X11_18 X hP 0 rfl (v := .int (iY_4 3)) rfl dX11_next_45 ?_
    refine lv_aload_n X.hx X.hb dX11_next_48 rfl (lv_at hl 0 rfl) ?_
    refine gf_X11_24 X hP 0 rfl (v := .int (iY_4 5)) rfl dX11_next_49 ?_
    obtain ⟨K_5, eK_7, hf⟩ := jn_i hf
    have hj_6 : ∀ (H : Heap) (locs : List Loc) (ls : Array Slot), K_5 () = some (iY', jY') → va_P G.1 vwCl (gY G uY (va_up (va_up iY_4 12 (iY_4 4)) 13 0) sY tY jY) H → va_D A (gY G uY (va_up (va_up iY_4 12 (iY_4 4)) 13 0) sY tY jY) → va_S A s.heap H locs → lv_has ls 4 [(0, .ref (uY 0))] → W p l e (RM 2) s m args below meth c H locs 0 0 QQ (F0 m 80 ls []) := by
      intro  H locs ls hf hP hD hS hl
      rw [eK_7] at hf
      try dsimp only at hf
      refine lv_aload_n X.hx X.hb dX11_next_80 rfl (lv_at hl 0 rfl) ?_
      obtain ⟨r_8, hc_9, hf⟩ := bd_i hf
      refine r_wvi (As := []) (rest := []) X sm_X11_147 (c_X11_peek l G N uY (va_up (va_up iY_4 12 (iY_4 4)) 13 0) sY tY jY hc_9) hP hD hS hA 0 rfl rfl rfl hl.1 (lv_room (Nat.le_of_ble_eq_true rfl)) ⟨Nat.le_of_ble_eq_true rfl, Nat.le_of_ble_eq_true rfl⟩ ⟨Nat.zero_le _, Nat.zero_le _⟩ dX11_next_81 (fun H locs hP hD hS => ?_)
      refine lv_istore_n (lv' := [(1, .int r_8), (0, .ref (uY 0))]) X.hx X.hb dX11_next_84 rfl hl (by decide) rfl (fun ls hl => ?_)
      refine lv_iload_n X.hx X.hb dX11_next_85 rfl (lv_at hl 0 rfl) ?_
      refine lv_if_ge (tgt := 95) X.hx X.hb dX11_next_86 (by decide) (fun hc_10 => ?_) (fun hc_10 => ?_)
      · replace hf := if_t hf hc_10
        refine lv_iload_n X.hx X.hb dX11_next_95 rfl (lv_at hl 0 rfl) ?_
        obtain ⟨r_11, hc_12, hf⟩ := bd_i hf
        refine r_cs0 (As := [.int r_8]) (rest := []) X sm_X11_160 (c_X11_isSmall l G N r_8 hc_12) hP hD hS hA rfl hl.1 (lv_room (Nat.le_of_ble_eq_true rfl)) ⟨Nat.le_of_ble_eq_true rfl, Nat.le_of_ble_eq_true rfl⟩ ⟨Nat.zero_le _, Nat.zero_le _⟩ dX11_next_96 (fun H locs hP hD hS => ?_)
        obtain ⟨K_13, eK_15, hf⟩ := jn_i hf
        have hj_14 : ∀ (H : Heap) (locs : List Loc) (ls : Array Slot), K_13 () = some (iY', jY') → va_P G.1 vwCl (gY G uY (va_up (va_up iY_4 12 (iY_4 4)) 13 0) sY tY jY) H → va_D A (gY G uY (va_up (va_up iY_4 12 (iY_4 4)) 13 0) sY tY jY) → va_S A s.heap H locs → lv_has ls 4 [(0, .ref (uY 0)), (1, .int r_8)] → W p l e (RM 2) s m args below meth c H locs 0 0 QQ (F0 m 164 ls []) := by
          intro  H locs ls hf hP hD hS hl
          rw [eK_15] at hf
          try dsimp only at hf
          refine lv_iload_n X.hx X.hb dX11_next_164 rfl (lv_at hl 1 rfl) ?_
          obtain ⟨r_16, hc_17, hf⟩ := bd_i hf
          refine r_cs0 (As := [.int r_8]) (rest := []) X sm_X11_160 (c_X11_isSmall l G N r_8 hc_17) hP hD hS hA rfl hl.1 (lv_room (Nat.le_of_ble_eq_true rfl)) ⟨Nat.le_of_ble_eq_true rfl, Nat.le_of_ble_eq_true rfl⟩ ⟨Nat.zero_le _, Nat.zero_le _⟩ dX11_next_165 (fun H locs hP hD hS => ?_)
          refine lv_istore_n (lv' := [(2, .int r_16), (0, .ref (uY 0)), (1, .int r_8)]) X.hx X.hb dX11_next_168 rfl hl (by decide) rfl (fun ls hl => ?_)
          refine lv_iconst (v := 1) X.hx X.hb dX11_next_169 (by decide) ?_
          refine lv_istore_n (lv' := [(3, .int 1), (2, .int r_16), (0, .ref (uY 0)), (1, .int r_8)]) X.hx X.hb dX11_next_170 rfl hl (by decide) rfl (fun ls hl => ?_)
          refine lv_aload_n X.hx X.hb dX11_next_171 rfl (lv_at hl 2 rfl) ?_
          refine lv_lconst (v := 0) X.hx X.hb dX11_next_172 rfl ?_
          refine pf_X11_170 X hP hD hS 0 rfl rfl rfl (Nat.le_of_ble_eq_true rfl) (wo := (gY G uY (va_up (va_up iY_4 12 (iY_4 4)) 13 0) sY tY (va_up jY 17 0))) rfl dX11_next_173 (fun H locs hP hD hS => ?_)
          refine lv_aload_n X.hx X.hb dX11_next_176 rfl (lv_at hl 2 rfl) ?_
          refine lv_iconst (v := 0) X.hx X.hb dX11_next_177 (by decide) ?_
          refine pf_X11_167 X hP hD hS 0 rfl rfl rfl (Nat.le_of_ble_eq_true rfl) (wo := (gY G uY (va_up (va_up (va_up iY_4 12 (iY_4 4)) 13 0) 14 0) sY tY (va_up jY 17 0))) rfl dX11_next_178 (fun H locs hP hD hS => ?_)
          obtain ⟨K_18, eK_20, hf⟩ := jn_i hf
          have hj_19 : ∀ (x3_21 : Int32) (iY_22 : Nat → Int32) (jY_23 : Nat → Int64) (H : Heap) (locs : List Loc) (ls : Array Slot), K_18 (x3_21, iY_22, jY_23) = some (iY', jY') → va_P G.1 vwCl (gY G uY iY_22 sY tY jY_23) H → va_D A (gY G uY iY_22 sY tY jY_23) → va_S A s.heap H locs → lv_has ls 4 [(0, .ref (uY 0)), (2, .int r_16), (3, .int x3_21)] → W p l e (RM 2) s m args below meth c H locs 0 0 QQ (F0 m 298 ls []) := by
            intro x3_21 iY_22 jY_23 H locs ls hf hP hD hS hl
            rw [eK_20] at hf
            try dsimp only at hf
            refine lv_aload_n X.hx X.hb dX11_next_298 rfl (lv_at hl 0 rfl) ?_
            refine lv_iload_n X.hx X.hb dX11_next_299 rfl (lv_at hl 2 rfl) ?_
            obtain ⟨K_24, eK_26, hf⟩ := jn_i hf
            have hj_25 : ∀ (y_27 : Int32) (H : Heap) (locs : List Loc) (ls : Array Slot), K_24 y_27 = some (iY', jY') → va_P G.1 vwCl (gY G uY iY_22 sY tY jY_23) H → va_D A (gY G uY iY_22 sY tY jY_23) → va_S A s.heap H locs → lv_has ls 4 [] → W p l e (RM 2) s m args below meth c H locs 0 0 QQ (F0 m 333 ls [.int y_27, .ref (uY 0)]) := by
              intro y_27 H locs ls hf hP hD hS hl
              rw [eK_26] at hf
              try dsimp only at hf
              refine pf_X11_157 X hP hD hS 0 rfl rfl rfl (Nat.le_of_ble_eq_true rfl) (wo := (gY G uY (va_up iY_22 11 y_27) sY tY jY_23)) rfl dX11_next_333 (fun H locs hP hD hS => ?_)
              cases hf
              subst hQ
              exact r_vret X hP hD hS dX11_next_336
            obtain ⟨K_28, eK_30, hf⟩ := jn_i hf
            have hj_29 : ∀ (H : Heap) (locs : List Loc) (ls : Array Slot), K_28 () = some (iY', jY') → va_P G.1 vwCl (gY G uY iY_22 sY tY jY_23) H → va_D A (gY G uY iY_22 sY tY jY_23) → va_S A s.heap H locs → lv_has ls 4 [] → W p l e (RM 2) s m args below meth c H locs 0 0 QQ (F0 m 320 ls [.ref (uY 0)]) := by
              intro  H locs ls hf hP hD hS hl
              rw [eK_30] at hf
              try dsimp only at hf
              refine lv_iconst (v := 4) X.hx X.hb dX11_next_320 (by decide) ?_
              refine lv_goto (tgt := 333) X.hx X.hb dX11_next_321 (by decide) ?_
              exact hj_25 _ _ _ _ hf hP hD hS (lv_sub hl [] rfl)
            refine lv_if_eq (tgt := 320) X.hx X.hb dX11_next_300 (by decide) (fun hc_31 => ?_) (fun hc_31 => ?_)
            · replace hf := if_t hf hc_31
              exact hj_29 _ _ _ hf hP hD hS (lv_sub hl [] rfl)
            · replace hf := if_f hf hc_31
              refine lv_aload_n X.hx X.hb dX11_next_303 rfl (lv_at hl 0 rfl) ?_
              refine gf_X11_154 X hP 0 rfl (v := .int (iY_22 13)) rfl dX11_next_304 ?_
              refine lv_iload_n X.hx X.hb dX11_next_307 rfl (lv_at hl 1 rfl) ?_
              obtain ⟨K_32, eK_34, hf⟩ := jn_i hf
              have hj_33 : ∀ (y_35 : Int32) (H : Heap) (locs : List Loc) (ls : Array Slot), K_32 y_35 = some (iY', jY') → va_P G.1 vwCl (gY G uY iY_22 sY tY jY_23) H → va_D A (gY G uY iY_22 sY tY jY_23) → va_S A s.heap H locs → lv_has ls 4 [(2, .int r_16)] → W p l e (RM 2) s m args below meth c H locs 0 0 QQ (F0 m 317 ls [.int y_35, .int (iY_22 13), .ref (uY 0)]) := by
                intro y_35 H locs ls hf hP hD hS hl
                rw [eK_34] at hf
                try dsimp only at hf
                refine lv_icmp_le (tgt := 324) X.hx X.hb dX11_next_317 (by decide) (fun hc_36 => ?_) (fun hc_36 => ?_)
                · replace hf := if_t hf hc_36
                  refine lv_iload_n X.hx X.hb dX11_next_324 rfl (lv_at hl 0 rfl) ?_
                  refine lv_if_eq (tgt := 332) X.hx X.hb dX11_next_325 (by decide) (fun hc_37 => ?_) (fun hc_37 => ?_)
                  · replace hf := if_t hf hc_37
                    refine lv_iconst (v := 2) X.hx X.hb dX11_next_332 (by decide) ?_
                    exact hj_25 _ _ _ _ hf hP hD hS (lv_sub hl [] rfl)
                  · replace hf := if_f hf hc_37
                    refine lv_iconst (v := 1) X.hx X.hb dX11_next_328 (by decide) ?_
                    refine lv_goto (tgt := 333) X.hx X.hb dX11_next_329 (by decide) ?_
                    exact hj_25 _ _ _ _ hf hP hD hS (lv_sub hl [] rfl)
                · replace hf := if_f hf hc_36
                  exact hj_29 _ _ _ hf hP hD hS (lv_sub hl [] rfl)
              refine lv_if_eq (tgt := 316) X.hx X.hb dX11_next_308 (by decide) (fun hc_38 => ?_) (fun hc_38 => ?_)
              · replace hf := if_t hf hc_38
                refine lv_iconst (v := 3) X.hx X.hb dX11_next_316 (by decide) ?_
                exact hj_33 _ _ _ _ hf hP hD hS (lv_sub hl [1] rfl)
              · replace hf := if_f hf hc_38
                refine lv_bipush (v := 7) X.hx X.hb dX11_next_311 (by decide) ?_
                refine lv_goto (tgt := 317) X.hx X.hb dX11_next_313 (by decide) ?_
                exact hj_33 _ _ _ _ hf hP hD hS (lv_sub hl [1] rfl)
          have hlo_39 : ∀ (k : Nat) (iY_40 : Nat → Int32) (jY_41 : Nat → Int64) (v3_42 : Int32) (H : Heap) (locs : List Loc) (ls : Array Slot), f_X11_next_181 N sY tY r_16 K_18 k iY_40 jY_41 v3_42 = some (iY', jY') → va_P G.1 vwCl (gY G uY iY_40 sY tY jY_41) H → va_D A (gY G uY iY_40 sY tY jY_41) → va_S A s.heap H locs → lv_has ls 4 [(0, .ref (uY 0)), (2, .int r_16), (3, .int v3_42)] → W p l e (RM 2) s m args below meth c H locs 0 0 QQ (F0 m 181 ls []) := by
            intro k
            induction k with
            | zero => intro iY_40 jY_41 v3_42 H locs ls hf; exact absurd hf (by intro q; cases q)
            | succ k ih =>
              intro iY_40 jY_41 v3_42 H locs ls hf hP hD hS hl
              unfold f_X11_next_181 at hf
              refine lv_aload_n X.hx X.hb dX11_next_181 rfl (lv_at hl 0 rfl) ?_
              obtain ⟨r_43, hc_44, hf⟩ := bd_i hf
              refine r_wvi (As := []) (rest := []) X sm_X11_147 (c_X11_peek l G N uY iY_40 sY tY jY_41 hc_44) hP hD hS hA 0 rfl rfl rfl hl.1 (lv_room (Nat.le_of_ble_eq_true rfl)) ⟨Nat.le_of_ble_eq_true rfl, Nat.le_of_ble_eq_true rfl⟩ ⟨Nat.zero_le _, Nat.zero_le _⟩ dX11_next_182 (fun H locs hP hD hS => ?_)
              obtain ⟨r_45, hc_46, hf⟩ := bd_i hf
              refine r_cs0 (As := [.int r_43]) (rest := []) X sm_X11_160 (c_X11_isSmall l G N r_43 hc_46) hP hD hS hA rfl hl.1 (lv_room (Nat.le_of_ble_eq_true rfl)) ⟨Nat.le_of_ble_eq_true rfl, Nat.le_of_ble_eq_true rfl⟩ ⟨Nat.zero_le _, Nat.zero_le _⟩ dX11_next_185 (fun H locs hP hD hS => ?_)
              obtain ⟨K_47, eK_49, hf⟩ := jn_i hf
              have hj_48 : ∀ (H : Heap) (locs : List Loc) (ls : Array Slot), K_47 () = some (iY', jY') → va_P G.1 vwCl (gY G uY iY_40 sY tY jY_41) H → va_D A (gY G uY iY_40 sY tY jY_41) → va_S A s.heap H locs → lv_has ls 4 [(0, .ref (uY 0)), (2, .int r_16), (3, .int v3_42)] → W p l e (RM 2) s m args below meth c H locs 0 0 QQ (F0 m 201 ls []) := by
                intro  H locs ls hf hP hD hS hl
                rw [eK_49] at hf
                try dsimp only at hf
                refine lv_iload_n X.hx X.hb dX11_next_201 rfl (lv_at hl 2 rfl) ?_
                obtain ⟨K_50, eK_52, hf⟩ := jn_i hf
                have hj_51 : ∀ (y_53 : Int32) (H : Heap) (locs : List Loc) (ls : Array Slot), K_50 y_53 = some (iY', jY') → va_P G.1 vwCl (gY G uY iY_40 sY tY jY_41) H → va_D A (gY G uY iY_40 sY tY jY_41) → va_S A s.heap H locs → lv_has ls 4 [(0, .ref (uY 0)), (2, .int r_16)] → W p l e (RM 2) s m args below meth c H locs 0 0 QQ (F0 m 221 ls [.int y_53]) := by
                  intro y_53 H locs ls hf hP hD hS hl
                  rw [eK_52] at hf
                  try dsimp only at hf
                  refine lv_istore_n (lv' := [(3, .int y_53), (0, .ref (uY 0)), (2, .int r_16)]) X.hx X.hb dX11_next_221 rfl hl (by decide) rfl (fun ls hl => ?_)
                  refine lv_aload_n X.hx X.hb dX11_next_222 rfl (lv_at hl 1 rfl) ?_
                  refine gf_X11_154 X hP 0 rfl (v := .int (iY_40 13)) rfl dX11_next_223 ?_
                  refine lv_bipush (v := 7) X.hx X.hb dX11_next_226 (by decide) ?_
                  obtain ⟨K_54, eK_56, hf⟩ := jn_i hf
                  have hj_55 : ∀ (jY_57 : Nat → Int64) (H : Heap) (locs : List Loc) (ls : Array Slot), K_54 jY_57 = some (iY', jY') → va_P G.1 vwCl (gY G uY iY_40 sY tY jY_57) H → va_D A (gY G uY iY_40 sY tY jY_57) → va_S A s.heap H locs → lv_has ls 4 [(0, .ref (uY 0)), (2, .int r_16), (3, .int y_53)] → W p l e (RM 2) s m args below meth c H locs 0 0 QQ (F0 m 248 ls []) := by
                    intro jY_57 H locs ls hf hP hD hS hl
                    rw [eK_56] at hf
                    try dsimp only at hf
                    refine lv_aload_n X.hx X.hb dX11_next_248 rfl (lv_at hl 0 rfl) ?_
                    refine gf_X11_154 X hP 0 rfl (v := .int (iY_40 13)) rfl dX11_next_249 ?_
                    refine lv_iconst (v := 3) X.hx X.hb dX11_next_252 (by decide) ?_
                    obtain ⟨K_58, eK_60, hf⟩ := jn_i hf
                    have hj_59 : ∀ (iY_61 : Nat → Int32) (H : Heap) (locs : List Loc) (ls : Array Slot), K_58 iY_61 = some (iY', jY') → va_P G.1 vwCl (gY G uY iY_61 sY tY jY_57) H → va_D A (gY G uY iY_61 sY tY jY_57) → va_S A s.heap H locs → lv_has ls 4 [(0, .ref (uY 0)), (2, .int r_16), (3, .int y_53)] → W p l e (RM 2) s m args below meth c H locs 0 0 QQ (F0 m 275 ls []) := by
                      intro iY_61 H locs ls hf hP hD hS hl
                      rw [eK_60] at hf
                      try dsimp only at hf
                      refine lv_aload_n X.hx X.hb dX11_next_275 rfl (lv_at hl 0 rfl) ?_
                      refine lv_dup X.hx X.hb dX11_next_276 rfl ?_
                      refine gf_X11_154 X hP 0 rfl (v := .int (iY_61 13)) rfl dX11_next_277 ?_
                      refine lv_iconst (v := 1) X.hx X.hb dX11_next_280 (by decide) ?_
                      refine lv_iadd X.hx X.hb dX11_next_281 ?_
                      refine pf_X11_154 X hP hD hS 0 rfl rfl rfl (Nat.le_of_ble_eq_true rfl) (wo := (gY G uY (va_up iY_61 13 ((iY_61 13) + 1)) sY tY jY_57)) rfl dX11_next_282 (fun H locs hP hD hS => ?_)
                      refine lv_aload_n X.hx X.hb dX11_next_285 rfl (lv_at hl 0 rfl) ?_
                      refine lv_dup X.hx X.hb dX11_next_286 rfl ?_
                      refine gf_X11_21 X hP 0 rfl (v := .int (iY_61 4)) rfl dX11_next_287 ?_
                      refine lv_iconst (v := 1) X.hx X.hb dX11_next_290 (by decide) ?_
                      refine lv_iadd X.hx X.hb dX11_next_291 ?_
                      refine pf_X11_21 X hP hD hS 0 rfl rfl rfl (Nat.le_of_ble_eq_true rfl) (wo := (gY G uY (va_up (va_up iY_61 13 ((iY_61 13) + 1)) 4 ((iY_61 4) + 1)) sY tY jY_57)) rfl dX11_next_292 (fun H locs hP hD hS => ?_)
                      refine lv_goto (tgt := 181) X.hx X.hb dX11_next_295 (by decide) ?_
                      exact ih _ _ _ _ _ _ hf hP hD hS (lv_sub hl [0, 1, 2] rfl)
                    refine lv_icmp_ge (tgt := 275) X.hx X.hb dX11_next_253 (by decide) (fun hc_62 => ?_) (fun hc_62 => ?_)
                    · replace hf := if_t hf hc_62
                      exact hj_59 _ _ _ _ hf hP hD hS (lv_sub hl [0, 1, 2] rfl)
                    · replace hf := if_f hf hc_62
                      refine lv_aload_n X.hx X.hb dX11_next_256 rfl (lv_at hl 0 rfl) ?_
                      refine lv_bipush (v := 10) X.hx X.hb dX11_next_257 (by decide) ?_
                      refine lv_aload_n X.hx X.hb dX11_next_259 rfl (lv_at hl 0 rfl) ?_
                      refine gf_X11_167 X hP 0 rfl (v := .int (iY_40 14)) rfl dX11_next_260 ?_
                      refine lv_imul X.hx X.hb dX11_next_263 ?_
                      refine lv_aload_n X.hx X.hb dX11_next_264 rfl (lv_at hl 0 rfl) ?_
                      obtain ⟨r_63, hc_64, hf⟩ := bd_i hf
                      refine r_wvi (As := []) (rest := [.int ((10 : Int32) * (iY_40 14)), .ref (uY 0)]) X sm_X11_147 (c_X11_peek l G N uY iY_40 sY tY jY_57 hc_64) hP hD hS hA 0 rfl rfl rfl hl.1 (lv_room (Nat.le_of_ble_eq_true rfl)) ⟨Nat.le_of_ble_eq_true rfl, Nat.le_of_ble_eq_true rfl⟩ ⟨Nat.zero_le _, Nat.zero_le _⟩ dX11_next_265 (fun H locs hP hD hS => ?_)
                      refine lv_iadd X.hx X.hb dX11_next_268 ?_
                      refine lv_bipush (v := 48) X.hx X.hb dX11_next_269 (by decide) ?_
                      refine lv_isub X.hx X.hb dX11_next_271 ?_
                      obtain ⟨n_65, en_65, hf⟩ := nv_i hf
                      refine r_nm en_65 ?_
                      refine pf_X11_167 X hP hD hS 0 rfl rfl rfl (Nat.le_of_ble_eq_true rfl) (wo := (gY G uY (va_up iY_40 14 n_65) sY tY jY_57)) rfl dX11_next_272 (fun H locs hP hD hS => ?_)
                      exact hj_59 _ _ _ _ hf hP hD hS (lv_sub hl [0, 1, 2] rfl)
                  refine lv_icmp_ge (tgt := 248) X.hx X.hb dX11_next_228 (by decide) (fun hc_66 => ?_) (fun hc_66 => ?_)
                  · replace hf := if_t hf hc_66
                    exact hj_55 _ _ _ _ hf hP hD hS (lv_sub hl [1, 2, 0] rfl)
                  · replace hf := if_f hf hc_66
                    refine lv_aload_n X.hx X.hb dX11_next_231 rfl (lv_at hl 1 rfl) ?_
                    refine lv_aload_n X.hx X.hb dX11_next_232 rfl (lv_at hl 1 rfl) ?_
                    refine gf_X11_170 X hP 0 rfl (v := .long (jY_41 17)) rfl dX11_next_233 ?_
                    refine lv_bipush (v := 8) X.hx X.hb dX11_next_236 (by decide) ?_
                    refine lv_lshl (v := (sll (jY_41 17) 8)) X.hx X.hb dX11_next_238 rfl ?_
                    refine lv_aload_n X.hx X.hb dX11_next_239 rfl (lv_at hl 1 rfl) ?_
                    obtain ⟨r_67, hc_68, hf⟩ := bd_i hf
                    refine r_wvi (As := []) (rest := [.long (sll (jY_41 17) 8), .ref (uY 0)]) X sm_X11_147 (c_X11_peek l G N uY iY_40 sY tY jY_41 hc_68) hP hD hS hA 0 rfl rfl rfl hl.1 (lv_room (Nat.le_of_ble_eq_true rfl)) ⟨Nat.le_of_ble_eq_true rfl, Nat.le_of_ble_eq_true rfl⟩ ⟨Nat.zero_le _, Nat.zero_le _⟩ dX11_next_240 (fun H locs hP hD hS => ?_)
                    refine lv_i2l (v := (r_67.toInt64)) X.hx X.hb dX11_next_243 rfl ?_
                    refine lv_lor X.hx X.hb dX11_next_244 ?_
                    obtain ⟨n_69, en_69, hf⟩ := nv_i hf
                    refine r_nml en_69 ?_
                    refine pf_X11_170 X hP hD hS 0 rfl rfl rfl (Nat.le_of_ble_eq_true rfl) (wo := (gY G uY iY_40 sY tY (va_up jY_41 17 n_69))) rfl dX11_next_245 (fun H locs hP hD hS => ?_)
                    exact hj_55 _ _ _ _ hf hP hD hS (lv_sub hl [1, 2, 0] rfl)
                obtain ⟨K_70, eK_72, hf⟩ := jn_i hf
                have hj_71 : ∀ (H : Heap) (locs : List Loc) (ls : Array Slot), K_70 () = some (iY', jY') → va_P G.1 vwCl (gY G uY iY_40 sY tY jY_41) H → va_D A (gY G uY iY_40 sY tY jY_41) → va_S A s.heap H locs → lv_has ls 4 [(0, .ref (uY 0)), (2, .int r_16)] → W p l e (RM 2) s m args below meth c H locs 0 0 QQ (F0 m 220 ls []) := by
                  intro  H locs ls hf hP hD hS hl
                  rw [eK_72] at hf
                  try dsimp only at hf
                  refine lv_iconst (v := 0) X.hx X.hb dX11_next_220 (by decide) ?_
                  exact hj_51 _ _ _ _ hf hP hD hS (lv_sub hl [0, 1] rfl)
                refine lv_if_eq (tgt := 220) X.hx X.hb dX11_next_202 (by decide) (fun hc_73 => ?_) (fun hc_73 => ?_)
                · replace hf := if_t hf hc_73
                  exact hj_71 _ _ _ hf hP hD hS (lv_sub hl [0, 1] rfl)
                · replace hf := if_f hf hc_73
                  refine lv_aload_n X.hx X.hb dX11_next_205 rfl (lv_at hl 0 rfl) ?_
                  obtain ⟨r_74, hc_75, hf⟩ := bd_i hf
                  refine r_wvi (As := []) (rest := []) X sm_X11_147 (c_X11_peek l G N uY iY_40 sY tY jY_41 hc_75) hP hD hS hA 0 rfl rfl rfl hl.1 (lv_room (Nat.le_of_ble_eq_true rfl)) ⟨Nat.le_of_ble_eq_true rfl, Nat.le_of_ble_eq_true rfl⟩ ⟨Nat.zero_le _, Nat.zero_le _⟩ dX11_next_206 (fun H locs hP hD hS => ?_)
                  obtain ⟨r_76, hc_77, hf⟩ := bd_i hf
                  refine r_cs0 (As := [.int r_74]) (rest := []) X sm_X11_160 (c_X11_isSmall l G N r_74 hc_77) hP hD hS hA rfl hl.1 (lv_room (Nat.le_of_ble_eq_true rfl)) ⟨Nat.le_of_ble_eq_true rfl, Nat.le_of_ble_eq_true rfl⟩ ⟨Nat.zero_le _, Nat.zero_le _⟩ dX11_next_209 (fun H locs hP hD hS => ?_)
                  refine lv_iload_n X.hx X.hb dX11_next_212 rfl (lv_at hl 1 rfl) ?_
                  refine lv_icmp_ne (tgt := 220) X.hx X.hb dX11_next_213 (by decide) (fun hc_78 => ?_) (fun hc_78 => ?_)
                  · replace hf := if_f hf hc_78
                    exact hj_71 _ _ _ hf hP hD hS (lv_sub hl [0, 1] rfl)
                  · replace hf := if_t hf hc_78
                    refine lv_iconst (v := 1) X.hx X.hb dX11_next_216 (by decide) ?_
                    refine lv_goto (tgt := 221) X.hx X.hb dX11_next_217 (by decide) ?_
                    exact hj_51 _ _ _ _ hf hP hD hS (lv_sub hl [0, 1] rfl)
              refine lv_if_ne (tgt := 201) X.hx X.hb dX11_next_188 (by decide) (fun hc_79 => ?_) (fun hc_79 => ?_)
              · replace hf := if_f hf hc_79
                exact hj_48 _ _ _ hf hP hD hS (lv_sub hl [0, 1, 2] rfl)
              · replace hf := if_t hf hc_79
                refine lv_aload_n X.hx X.hb dX11_next_191 rfl (lv_at hl 0 rfl) ?_
                obtain ⟨r_80, hc_81, hf⟩ := bd_i hf
                refine r_wvi (As := []) (rest := []) X sm_X11_147 (c_X11_peek l G N uY iY_40 sY tY jY_41 hc_81) hP hD hS hA 0 rfl rfl rfl hl.1 (lv_room (Nat.le_of_ble_eq_true rfl)) ⟨Nat.le_of_ble_eq_true rfl, Nat.le_of_ble_eq_true rfl⟩ ⟨Nat.zero_le _, Nat.zero_le _⟩ dX11_next_192 (fun H locs hP hD hS => ?_)
                obtain ⟨r_82, hc_83, hf⟩ := bd_i hf
                refine r_cs0 (As := [.int r_80]) (rest := []) X sm_X11_164 (c_X11_isDigit l G N r_80 hc_83) hP hD hS hA rfl hl.1 (lv_room (Nat.le_of_ble_eq_true rfl)) ⟨Nat.le_of_ble_eq_true rfl, Nat.le_of_ble_eq_true rfl⟩ ⟨Nat.zero_le _, Nat.zero_le _⟩ dX11_next_195 (fun H locs hP hD hS => ?_)
                refine lv_if_eq (tgt := 298) X.hx X.hb dX11_next_198 (by decide) (fun hc_84 => ?_) (fun hc_84 => ?_)
                · replace hf := if_t hf hc_84
                  exact hj_19 _ _ _ _ _ _ hf hP hD hS (lv_sub hl [0, 1, 2] rfl)
                · replace hf := if_f hf hc_84
                  exact hj_48 _ _ _ hf hP hD hS (lv_sub hl [0, 1, 2] rfl)
          exact hlo_39 N _ _ _ _ _ _ hf hP hD hS (lv_sub hl [2, 1, 0] rfl)
        refine lv_if_ne (tgt := 164) X.hx X.hb dX11_next_99 (by decide) (fun hc_127 => ?_) (fun hc_127 => ?_)
        · replace hf := if_f hf hc_127
          exact hj_14 _ _ _ hf hP hD hS (lv_sub hl [1, 0] rfl)
        · replace hf := if_t hf hc_127
          refine lv_iload_n X.hx X.hb dX11_next_102 rfl (lv_at hl 0 rfl) ?_
          obtain ⟨r_128, hc_129, hf⟩ := bd_i hf
          refine r_cs0 (As := [.int r_8]) (rest := []) X sm_X11_164 (c_X11_isDigit l G N r_8 hc_129) hP hD hS hA rfl hl.1 (lv_room (Nat.le_of_ble_eq_true rfl)) ⟨Nat.le_of_ble_eq_true rfl, Nat.le_of_ble_eq_true rfl⟩ ⟨Nat.zero_le _, Nat.zero_le _⟩ dX11_next_103 (fun H locs hP hD hS => ?_)
          refine lv_if_ne (tgt := 164) X.hx X.hb dX11_next_106 (by decide) (fun hc_130 => ?_) (fun hc_130 => ?_)
          · replace hf := if_f hf hc_130
            exact hj_14 _ _ _ hf hP hD hS (lv_sub hl [1, 0] rfl)
          · replace hf := if_t hf hc_130
            refine lv_aload_n X.hx X.hb dX11_next_109 rfl (lv_at hl 1 rfl) ?_
            refine lv_iload_n X.hx X.hb dX11_next_110 rfl (lv_at hl 0 rfl) ?_
            refine lv_bipush (v := 59) X.hx X.hb dX11_next_111 (by decide) ?_
            obtain ⟨K_131, eK_133, hf⟩ := jn_i hf
            have hj_132 : ∀ (y_134 : Int32) (H : Heap) (locs : List Loc) (ls : Array Slot), K_131 y_134 = some (iY', jY') → va_P G.1 vwCl (gY G uY (va_up (va_up iY_4 12 (iY_4 4)) 13 0) sY tY jY) H → va_D A (gY G uY (va_up (va_up iY_4 12 (iY_4 4)) 13 0) sY tY jY) → va_S A s.heap H locs → lv_has ls 4 [(0, .ref (uY 0)), (1, .int r_8)] → W p l e (RM 2) s m args below meth c H locs 0 0 QQ (F0 m 145 ls [.int y_134, .ref (uY 0)]) := by
              intro y_134 H locs ls hf hP hD hS hl
              rw [eK_133] at hf
              try dsimp only at hf
              refine pf_X11_157 X hP hD hS 0 rfl rfl rfl (Nat.le_of_ble_eq_true rfl) (wo := (gY G uY (va_up (va_up (va_up iY_4 12 (iY_4 4)) 13 0) 11 y_134) sY tY jY)) rfl dX11_next_145 (fun H locs hP hD hS => ?_)
              refine lv_aload_n X.hx X.hb dX11_next_148 rfl (lv_at hl 0 rfl) ?_
              refine lv_iload_n X.hx X.hb dX11_next_149 rfl (lv_at hl 1 rfl) ?_
              refine pf_X11_167 X hP hD hS 0 rfl rfl rfl (Nat.le_of_ble_eq_true rfl) (wo := (gY G uY (va_up (va_up (va_up (va_up iY_4 12 (iY_4 4)) 13 0) 11 y_134) 14 r_8) sY tY jY)) rfl dX11_next_150 (fun H locs hP hD hS => ?_)
              refine lv_aload_n X.hx X.hb dX11_next_153 rfl (lv_at hl 0 rfl) ?_
              refine lv_dup X.hx X.hb dX11_next_154 rfl ?_
              refine gf_X11_21 X hP 0 rfl (v := .int (iY_4 4)) rfl dX11_next_155 ?_
              refine lv_iconst (v := 1) X.hx X.hb dX11_next_158 (by decide) ?_
              refine lv_iadd X.hx X.hb dX11_next_159 ?_
              refine pf_X11_21 X hP hD hS 0 rfl rfl rfl (Nat.le_of_ble_eq_true rfl) (wo := (gY G uY (va_up (va_up (va_up (va_up (va_up iY_4 12 (iY_4 4)) 13 0) 11 y_134) 14 r_8) 4 ((iY_4 4) + 1)) sY tY jY)) rfl dX11_next_160 (fun H locs hP hD hS => ?_)
              cases hf
              subst hQ
              exact r_vret X hP hD hS dX11_next_163
            obtain ⟨K_135, eK_137, hf⟩ := jn_i hf
            have hj_136 : ∀ (H : Heap) (locs : List Loc) (ls : Array Slot), K_135 () = some (iY', jY') → va_P G.1 vwCl (gY G uY (va_up (va_up iY_4 12 (iY_4 4)) 13 0) sY tY jY) H → va_D A (gY G uY (va_up (va_up iY_4 12 (iY_4 4)) 13 0) sY tY jY) → va_S A s.heap H locs → lv_has ls 4 [(0, .ref (uY 0)), (1, .int r_8)] → W p l e (RM 2) s m args below meth c H locs 0 0 QQ (F0 m 140 ls [.ref (uY 0)]) := by
              intro  H locs ls hf hP hD hS hl
              rw [eK_137] at hf
              try dsimp only at hf
              refine lv_iconst (v := 3) X.hx X.hb dX11_next_140 (by decide) ?_
              refine lv_goto (tgt := 145) X.hx X.hb dX11_next_141 (by decide) ?_
              exact hj_132 _ _ _ _ hf hP hD hS (lv_sub hl [0, 1] rfl)
            refine lv_icmp_eq (tgt := 140) X.hx X.hb dX11_next_113 (by decide) (fun hc_138 => ?_) (fun hc_138 => ?_)
            · replace hf := if_t hf hc_138
              exact hj_136 _ _ _ hf hP hD hS (lv_sub hl [1, 0] rfl)
            · replace hf := if_f hf hc_138
              refine lv_iload_n X.hx X.hb dX11_next_116 rfl (lv_at hl 0 rfl) ?_
              refine lv_bipush (v := 40) X.hx X.hb dX11_next_117 (by decide) ?_
              refine lv_icmp_eq (tgt := 140) X.hx X.hb dX11_next_119 (by decide) (fun hc_139 => ?_) (fun hc_139 => ?_)
              · replace hf := if_t hf hc_139
                exact hj_136 _ _ _ hf hP hD hS (lv_sub hl [1, 0] rfl)
              · replace hf := if_f hf hc_139
                refine lv_iload_n X.hx X.hb dX11_next_122 rfl (lv_at hl 0 rfl) ?_
                refine lv_bipush (v := 41) X.hx X.hb dX11_next_123 (by decide) ?_
                refine lv_icmp_eq (tgt := 140) X.hx X.hb dX11_next_125 (by decide) (fun hc_140 => ?_) (fun hc_140 => ?_)
                · replace hf := if_t hf hc_140
                  exact hj_136 _ _ _ hf hP hD hS (lv_sub hl [1, 0] rfl)
                · replace hf := if_f hf hc_140
                  refine lv_iload_n X.hx X.hb dX11_next_128 rfl (lv_at hl 0 rfl) ?_
                  refine lv_bipush (v := 60) X.hx X.hb dX11_next_129 (by decide) ?_
                  obtain ⟨K_141, eK_143, hf⟩ := jn_i hf
                  have hj_142 : ∀ (H : Heap) (locs : List Loc) (ls : Array Slot), K_141 () = some (iY', jY') → va_P G.1 vwCl (gY G uY (va_up (va_up iY_4 12 (iY_4 4)) 13 0) sY tY jY) H → va_D A (gY G uY (va_up (va_up iY_4 12 (iY_4 4)) 13 0) sY tY jY) → va_S A s.heap H locs → lv_has ls 4 [(0, .ref (uY 0)), (1, .int r_8)] → W p l e (RM 2) s m args below meth c H locs 0 0 QQ (F0 m 144 ls [.ref (uY 0)]) := by
                    intro  H locs ls hf hP hD hS hl
                    rw [eK_143] at hf
                    try dsimp only at hf
                    refine lv_iconst (v := 4) X.hx X.hb dX11_next_144 (by decide) ?_
                    exact hj_132 _ _ _ _ hf hP hD hS (lv_sub hl [0, 1] rfl)
                  refine lv_icmp_lt (tgt := 144) X.hx X.hb dX11_next_131 (by decide) (fun hc_144 => ?_) (fun hc_144 => ?_)
                  · replace hf := if_t hf hc_144
                    exact hj_142 _ _ _ hf hP hD hS (lv_sub hl [1, 0] rfl)
                  · replace hf := if_f hf hc_144
                    refine lv_iload_n X.hx X.hb dX11_next_134 rfl (lv_at hl 0 rfl) ?_
                    refine lv_bipush (v := 62) X.hx X.hb dX11_next_135 (by decide) ?_
                    refine lv_icmp_gt (tgt := 144) X.hx X.hb dX11_next_137 (by decide) (fun hc_145 => ?_) (fun hc_145 => ?_)
                    · replace hf := if_t hf hc_145
                      exact hj_142 _ _ _ hf hP hD hS (lv_sub hl [1, 0] rfl)
                    · replace hf := if_f hf hc_145
                      exact hj_136 _ _ _ hf hP hD hS (lv_sub hl [1, 0] rfl)
      · replace hf := if_f hf hc_10
        refine lv_aload_n X.hx X.hb dX11_next_89 rfl (lv_at hl 1 rfl) ?_
        refine lv_iconst (v := 0) X.hx X.hb dX11_next_90 (by decide) ?_
        refine pf_X11_157 X hP hD hS 0 rfl rfl rfl (Nat.le_of_ble_eq_true rfl) (wo := (gY G uY (va_up (va_up (va_up iY_4 12 (iY_4 4)) 13 0) 11 0) sY tY jY)) rfl dX11_next_91 (fun H locs hP hD hS => ?_)
        cases hf
        subst hQ
        exact r_vret X hP hD hS dX11_next_94
    refine lv_icmp_le (tgt := 80) X.hx X.hb dX11_next_52 (by decide) (fun hc_146 => ?_) (fun hc_146 => ?_)
    · replace hf := if_t hf hc_146
      exact hj_6 _ _ _ hf hP hD hS (lv_sub hl [0] rfl)
    · replace hf := if_f hf hc_146
      refine lv_aload_n X.hx X.hb dX11_next_55 rfl (lv_at hl 0 rfl) ?_
      refine gf_X11_21 X hP 0 rfl (v := .int (iY_4 4)) rfl dX11_next_56 ?_
      refine lv_aload_n X.hx X.hb dX11_next_59 rfl (lv_at hl 0 rfl) ?_
      refine gf_X11_24 X hP 0 rfl (v := .int (iY_4 5)) rfl dX11_next_60 ?_
      refine lv_icmp_lt (tgt := 80) X.hx X.hb dX11_next_63 (by decide) (fun hc_147 => ?_) (fun hc_147 => ?_)
      · replace hf := if_t hf hc_147
        exact hj_6 _ _ _ hf hP hD hS (lv_sub hl [0] rfl)
      · replace hf := if_f hf hc_147
        refine lv_aload_n X.hx X.hb dX11_next_66 rfl (lv_at hl 0 rfl) ?_
        refine lv_aload_n X.hx X.hb dX11_next_67 rfl (lv_at hl 0 rfl) ?_
        refine gf_X11_24 X hP 0 rfl (v := .int (iY_4 5)) rfl dX11_next_68 ?_
        refine pf_X11_151 X hP hD hS 0 rfl rfl rfl (Nat.le_of_ble_eq_true rfl) (wo := (gY G uY (va_up (va_up iY_4 12 (iY_4 5)) 13 0) sY tY jY)) rfl dX11_next_71 (fun H locs hP hD hS => ?_)
        refine lv_aload_n X.hx X.hb dX11_next_74 rfl (lv_at hl 0 rfl) ?_
        refine lv_iconst (v := 4) X.hx X.hb dX11_next_75 (by decide) ?_
        refine pf_X11_157 X hP hD hS 0 rfl rfl rfl (Nat.le_of_ble_eq_true rfl) (wo := (gY G uY (va_up (va_up (va_up iY_4 12 (iY_4 5)) 13 0) 11 4) sY tY jY)) rfl dX11_next_76 (fun H locs hP hD hS => ?_)
        cases hf
        subst hQ
        exact r_vret X hP hD hS dX11_next_79
  have hlo_148 : ∀ (k : Nat) (iY_149 : Nat → Int32) (H : Heap) (locs : List Loc) (ls : Array Slot), f_X11_next_0 N sY tY jY K_1 k iY_149 = some (iY', jY') → va_P G.1 vwCl (gY G uY iY_149 sY tY jY) H → va_D A (gY G uY iY_149 sY tY jY) → va_S A s.heap H locs → lv_has ls 4 [(0, .ref (uY 0))] → W p l e (RM 2) s m args below meth c H locs 0 0 QQ (F0 m 0 ls []) := by
    intro k
    induction k with
    | zero => intro iY_149 H locs ls hf; exact absurd hf (by intro q; cases q)
    | succ k ih =>
      intro iY_149 H locs ls hf hP hD hS hl
      unfold f_X11_next_0 at hf
      refine lv_aload_n X.hx X.hb dX11_next_0 rfl (lv_at hl 0 rfl) ?_
      obtain ⟨r_150, hc_151, hf⟩ := bd_i hf
      refine r_wvi (As := []) (rest := []) X sm_X11_147 (c_X11_peek l G N uY iY_149 sY tY jY hc_151) hP hD hS hA 0 rfl rfl rfl hl.1 (lv_room (Nat.le_of_ble_eq_true rfl)) ⟨Nat.le_of_ble_eq_true rfl, Nat.le_of_ble_eq_true rfl⟩ ⟨Nat.zero_le _, Nat.zero_le _⟩ dX11_next_1 (fun H locs hP hD hS => ?_)
      refine lv_bipush (v := 32) X.hx X.hb dX11_next_4 (by decide) ?_
      obtain ⟨K_152, eK_154, hf⟩ := jn_i hf
      have hj_153 : ∀ (H : Heap) (locs : List Loc) (ls : Array Slot), K_152 () = some (iY', jY') → va_P G.1 vwCl (gY G uY iY_149 sY tY jY) H → va_D A (gY G uY iY_149 sY tY jY) → va_S A s.heap H locs → lv_has ls 4 [(0, .ref (uY 0))] → W p l e (RM 2) s m args below meth c H locs 0 0 QQ (F0 m 18 ls []) := by
        intro  H locs ls hf hP hD hS hl
        rw [eK_154] at hf
        try dsimp only at hf
        refine lv_aload_n X.hx X.hb dX11_next_18 rfl (lv_at hl 0 rfl) ?_
        refine lv_dup X.hx X.hb dX11_next_19 rfl ?_
        refine gf_X11_21 X hP 0 rfl (v := .int (iY_149 4)) rfl dX11_next_20 ?_
        refine lv_iconst (v := 1) X.hx X.hb dX11_next_23 (by decide) ?_
        refine lv_iadd X.hx X.hb dX11_next_24 ?_
        refine pf_X11_21 X hP hD hS 0 rfl rfl rfl (Nat.le_of_ble_eq_true rfl) (wo := (gY G uY (va_up iY_149 4 ((iY_149 4) + 1)) sY tY jY)) rfl dX11_next_25 (fun H locs hP hD hS => ?_)
        refine lv_goto (tgt := 0) X.hx X.hb dX11_next_28 (by decide) ?_
        exact ih _ _ _ _ hf hP hD hS (lv_sub hl [0] rfl)
      refine lv_icmp_eq (tgt := 18) X.hx X.hb dX11_next_6 (by decide) (fun hc_155 => ?_) (fun hc_155 => ?_)
      · replace hf := if_t hf hc_155
        exact hj_153 _ _ _ hf hP hD hS (lv_sub hl [0] rfl)
      · replace hf := if_f hf hc_155
        refine lv_aload_n X.hx X.hb dX11_next_9 rfl (lv_at hl 0 rfl) ?_
        obtain ⟨r_156, hc_157, hf⟩ := bd_i hf
        refine r_wvi (As := []) (rest := []) X sm_X11_147 (c_X11_peek l G N uY iY_149 sY tY jY hc_157) hP hD hS hA 0 rfl rfl rfl hl.1 (lv_room (Nat.le_of_ble_eq_true rfl)) ⟨Nat.le_of_ble_eq_true rfl, Nat.le_of_ble_eq_true rfl⟩ ⟨Nat.zero_le _, Nat.zero_le _⟩ dX11_next_10 (fun H locs hP hD hS => ?_)
        refine lv_bipush (v := 10) X.hx X.hb dX11_next_13 (by decide) ?_
        refine lv_icmp_ne (tgt := 31) X.hx X.hb dX11_next_15 (by decide) (fun hc_158 => ?_) (fun hc_158 => ?_)
        · replace hf := if_f hf hc_158
          exact hj_2 _ _ _ _ hf hP hD hS (lv_sub hl [0] rfl)
        · replace hf := if_t hf hc_158
          exact hj_153 _ _ _ hf hP hD hS (lv_sub hl [0] rfl)
  exact hlo_148 N _ _ _ _ hf hP hD hS (lv_sub hl [0] rfl)

def f_X11_bad (N : Nat) (iY : Nat → Int32) (sY : Nat → Nat → Int32) (tY : Nat → Nat → Int64) (jY : Nat → Int64) (p1 : Int32) : Option (Int32 × (Nat → Int32)) :=
  some (0, (va_up (va_up iY 15 p1) 16 (iY 12)))
set_option maxHeartbeats 4000000 in
set_option maxRecDepth 100000 in
theorem c_X11_bad (l : Launch) (G : GT) (N : Nat) (uY : Nat → Nat) (iY : Nat → Int32) (sY : Nat → Nat → Int32) (tY : Nat → Nat → Int64) (jY : Nat → Int64) (p1 : Int32) {r : Int32} {iY' : Nat → Int32} (hf : f_X11_bad N iY sY tY jY p1 = some (r, iY')) : CI l G yX11_bad cX11_bad 2 .boolean 1 [.ref (uY 0), .int p1] (gY G uY iY sY tY jY) r (gY G uY iY' sY tY jY) := by
  refine CI.of (by decide) (Nat.le_of_ble_eq_true rfl) ?_
  intro p e s m args below meth c A X hA hP hD hS ls hl
  have hl : lv_has ls 2 [(0, .ref (uY 0)), (1, .int p1)] := hl
  generalize hQ : MQ below (QI G A r (gY G uY iY' sY tY jY)) args s 0 0 A = QQ
  unfold f_X11_bad at hf
  refine lv_aload_n X.hx X.hb dX11_bad_0 rfl (lv_at hl 0 rfl) ?_
  refine lv_iload_n X.hx X.hb dX11_bad_1 rfl (lv_at hl 1 rfl) ?_
  refine pf_X11_174 X hP hD hS 0 rfl rfl rfl (Nat.le_of_ble_eq_true rfl) (wo := (gY G uY (va_up iY 15 p1) sY tY jY)) rfl dX11_bad_2 (fun H locs hP hD hS => ?_)
  refine lv_aload_n X.hx X.hb dX11_bad_5 rfl (lv_at hl 0 rfl) ?_
  refine lv_aload_n X.hx X.hb dX11_bad_6 rfl (lv_at hl 0 rfl) ?_
  refine gf_X11_151 X hP 0 rfl (v := .int (iY 12)) rfl dX11_bad_7 ?_
  refine pf_X11_177 X hP hD hS 0 rfl rfl rfl (Nat.le_of_ble_eq_true rfl) (wo := (gY G uY (va_up (va_up iY 15 p1) 16 (iY 12)) sY tY jY)) rfl dX11_bad_10 (fun H locs hP hD hS => ?_)
  refine lv_iconst (v := 0) X.hx X.hb dX11_bad_13 (by decide) ?_
  cases hf
  subst hQ
  exact r_zret X hP hD hS (by decide) dX11_bad_14

def f_X11_isWord (N : Nat) (iY : Nat → Int32) (sY : Nat → Nat → Int32) (tY : Nat → Nat → Int64) (jY : Nat → Int64) (p1 : Int64) : Option (Int32) :=
  (if (iY 11) = 1 then (if (lg_cmp (jY 17) p1) = 0 then some 1 else some 0) else some 0)
set_option maxHeartbeats 4000000 in
set_option maxRecDepth 100000 in
theorem c_X11_isWord (l : Launch) (G : GT) (N : Nat) (uY : Nat → Nat) (iY : Nat → Int32) (sY : Nat → Nat → Int32) (tY : Nat → Nat → Int64) (jY : Nat → Int64) (p1 : Int64) {r : Int32} (hf : f_X11_isWord N iY sY tY jY p1 = some r) : CI l G yX11_isWord cX11_isWord 3 .boolean 1 [.ref (uY 0), .long p1] (gY G uY iY sY tY jY) r (gY G uY iY sY tY jY) := by
  refine CI.of (by decide) (Nat.le_of_ble_eq_true rfl) ?_
  intro p e s m args below meth c A X hA hP hD hS ls hl
  have hl : lv_has ls 3 [(0, .ref (uY 0)), (1, .long p1)] := hl
  generalize hQ : MQ below (QI G A r (gY G uY iY sY tY jY)) args s 0 0 A = QQ
  unfold f_X11_isWord at hf
  refine lv_aload_n X.hx X.hb dX11_isWord_0 rfl (lv_at hl 0 rfl) ?_
  refine gf_X11_157 X hP 0 rfl (v := .int (iY 11)) rfl dX11_isWord_1 ?_
  refine lv_iconst (v := 1) X.hx X.hb dX11_isWord_4 (by decide) ?_
  refine lv_icmp_ne (tgt := 21) X.hx X.hb dX11_isWord_5 (by decide) (fun hc_1 => ?_) (fun hc_1 => ?_)
  · replace hf := if_f hf hc_1
    refine lv_iconst (v := 0) X.hx X.hb dX11_isWord_21 (by decide) ?_
    cases hf
    subst hQ
    exact r_zret X hP hD hS (by decide) dX11_isWord_22
  · replace hf := if_t hf hc_1
    refine lv_aload_n X.hx X.hb dX11_isWord_8 rfl (lv_at hl 0 rfl) ?_
    refine gf_X11_170 X hP 0 rfl (v := .long (jY 17)) rfl dX11_isWord_9 ?_
    refine lv_lload_n X.hx X.hb dX11_isWord_12 rfl (lv_at hl 1 rfl) ?_
    refine W.lcmp X.hx X.hb dX11_isWord_13 ?_
    refine lv_if_ne (tgt := 21) X.hx X.hb dX11_isWord_14 (by decide) (fun hc_2 => ?_) (fun hc_2 => ?_)
    · replace hf := if_f hf hc_2
      refine lv_iconst (v := 0) X.hx X.hb dX11_isWord_21 (by decide) ?_
      cases hf
      subst hQ
      exact r_zret X hP hD hS (by decide) dX11_isWord_22
    · replace hf := if_t hf hc_2
      refine lv_iconst (v := 1) X.hx X.hb dX11_isWord_17 (by decide) ?_
      refine lv_goto (tgt := 22) X.hx X.hb dX11_isWord_18 (by decide) ?_
      cases hf
      subst hQ
      exact r_zret X hP hD hS (by decide) dX11_isWord_22

def f_X11_isSign (N : Nat) (iY : Nat → Int32) (sY : Nat → Nat → Int32) (tY : Nat → Nat → Int64) (jY : Nat → Int64) (p1 : Int32) : Option (Int32) :=
  (if (iY 11) = 3 then (if (iY 14) = p1 then some 1 else some 0) else some 0)
set_option maxHeartbeats 4000000 in
set_option maxRecDepth 100000 in
theorem c_X11_isSign (l : Launch) (G : GT) (N : Nat) (uY : Nat → Nat) (iY : Nat → Int32) (sY : Nat → Nat → Int32) (tY : Nat → Nat → Int64) (jY : Nat → Int64) (p1 : Int32) {r : Int32} (hf : f_X11_isSign N iY sY tY jY p1 = some r) : CI l G yX11_isSign cX11_isSign 2 .boolean 1 [.ref (uY 0), .int p1] (gY G uY iY sY tY jY) r (gY G uY iY sY tY jY) := by
  refine CI.of (by decide) (Nat.le_of_ble_eq_true rfl) ?_
  intro p e s m args below meth c A X hA hP hD hS ls hl
  have hl : lv_has ls 2 [(0, .ref (uY 0)), (1, .int p1)] := hl
  generalize hQ : MQ below (QI G A r (gY G uY iY sY tY jY)) args s 0 0 A = QQ
  unfold f_X11_isSign at hf
  refine lv_aload_n X.hx X.hb dX11_isSign_0 rfl (lv_at hl 0 rfl) ?_
  refine gf_X11_157 X hP 0 rfl (v := .int (iY 11)) rfl dX11_isSign_1 ?_
  refine lv_iconst (v := 3) X.hx X.hb dX11_isSign_4 (by decide) ?_
  refine lv_icmp_ne (tgt := 20) X.hx X.hb dX11_isSign_5 (by decide) (fun hc_1 => ?_) (fun hc_1 => ?_)
  · replace hf := if_f hf hc_1
    refine lv_iconst (v := 0) X.hx X.hb dX11_isSign_20 (by decide) ?_
    cases hf
    subst hQ
    exact r_zret X hP hD hS (by decide) dX11_isSign_21
  · replace hf := if_t hf hc_1
    refine lv_aload_n X.hx X.hb dX11_isSign_8 rfl (lv_at hl 0 rfl) ?_
    refine gf_X11_167 X hP 0 rfl (v := .int (iY 14)) rfl dX11_isSign_9 ?_
    refine lv_iload_n X.hx X.hb dX11_isSign_12 rfl (lv_at hl 1 rfl) ?_
    refine lv_icmp_ne (tgt := 20) X.hx X.hb dX11_isSign_13 (by decide) (fun hc_2 => ?_) (fun hc_2 => ?_)
    · replace hf := if_f hf hc_2
      refine lv_iconst (v := 0) X.hx X.hb dX11_isSign_20 (by decide) ?_
      cases hf
      subst hQ
      exact r_zret X hP hD hS (by decide) dX11_isSign_21
    · replace hf := if_t hf hc_2
      refine lv_iconst (v := 1) X.hx X.hb dX11_isSign_16 (by decide) ?_
      refine lv_goto (tgt := 21) X.hx X.hb dX11_isSign_17 (by decide) ?_
      cases hf
      subst hQ
      exact r_zret X hP hD hS (by decide) dX11_isSign_21

def f_X11_sign (N : Nat) (iY : Nat → Int32) (sY : Nat → Nat → Int32) (tY : Nat → Nat → Int64) (jY : Nat → Int64) (p1 : Int32) : Option (Int32 × (Nat → Int32) × (Nat → Int64)) :=
  bd (f_X11_isSign N iY sY tY jY p1) (fun r_1 => (if r_1 = 0 then bd (f_X11_bad N iY sY tY jY 1) (fun (r_7, iY_8) => zb r_7 (some (r_7, iY_8, jY))) else bd (f_X11_next N iY sY tY jY) (fun (iY_4, jY_5) => some (1, iY_4, jY_5))))
set_option maxHeartbeats 4000000 in
set_option maxRecDepth 100000 in
theorem c_X11_sign (l : Launch) (G : GT) (N : Nat) (uY : Nat → Nat) (iY : Nat → Int32) (sY : Nat → Nat → Int32) (tY : Nat → Nat → Int64) (jY : Nat → Int64) (p1 : Int32) {r : Int32} {iY' : Nat → Int32} {jY' : Nat → Int64} (hf : f_X11_sign N iY sY tY jY p1 = some (r, iY', jY')) : CI l G yX11_sign cX11_sign 2 .boolean 3 [.ref (uY 0), .int p1] (gY G uY iY sY tY jY) r (gY G uY iY' sY tY jY') := by
  refine CI.of (by decide) (Nat.le_of_ble_eq_true rfl) ?_
  intro p e s m args below meth c A X hA hP hD hS ls hl
  have hl : lv_has ls 2 [(0, .ref (uY 0)), (1, .int p1)] := hl
  generalize hQ : MQ below (QI G A r (gY G uY iY' sY tY jY')) args s 0 0 A = QQ
  unfold f_X11_sign at hf
  refine lv_aload_n X.hx X.hb dX11_sign_0 rfl (lv_at hl 0 rfl) ?_
  refine lv_iload_n X.hx X.hb dX11_sign_1 rfl (lv_at hl 1 rfl) ?_
  obtain ⟨r_1, hc_2, hf⟩ := bd_i hf
  refine r_wvi (As := [.int p1]) (rest := []) X sm_X11_180 (c_X11_isSign l G N uY iY sY tY jY p1 hc_2) hP hD hS hA 0 rfl rfl rfl hl.1 (lv_room (Nat.le_of_ble_eq_true rfl)) ⟨Nat.le_of_ble_eq_true rfl, Nat.le_of_ble_eq_true rfl⟩ ⟨Nat.zero_le _, Nat.zero_le _⟩ dX11_sign_2 (fun H locs hP hD hS => ?_)
  refine lv_if_ne (tgt := 14) X.hx X.hb dX11_sign_5 (by decide) (fun hc_3 => ?_) (fun hc_3 => ?_)
  · replace hf := if_f hf hc_3
    refine lv_aload_n X.hx X.hb dX11_sign_14 rfl (lv_at hl 0 rfl) ?_
    obtain ⟨⟨iY_4, jY_5⟩, hc_6, hf⟩ := bd_i hf
    refine r_wvv (As := []) (rest := []) X sm_X11_186 (c_X11_next l G N uY iY sY tY jY hc_6) hP hD hS hA 0 rfl rfl rfl hl.1 (lv_room (Nat.le_of_ble_eq_true rfl)) ⟨Nat.le_of_ble_eq_true rfl, Nat.le_of_ble_eq_true rfl⟩ ⟨Nat.zero_le _, Nat.zero_le _⟩ dX11_sign_15 (fun H locs hP hD hS => ?_)
    refine lv_iconst (v := 1) X.hx X.hb dX11_sign_18 (by decide) ?_
    cases hf
    subst hQ
    exact r_zret X hP hD hS (by decide) dX11_sign_19
  · replace hf := if_t hf hc_3
    refine lv_aload_n X.hx X.hb dX11_sign_8 rfl (lv_at hl 0 rfl) ?_
    refine lv_iconst (v := 1) X.hx X.hb dX11_sign_9 (by decide) ?_
    obtain ⟨⟨r_7, iY_8⟩, hc_9, hf⟩ := bd_i hf
    refine r_wvi (As := [.int 1]) (rest := []) X sm_X11_183 (c_X11_bad l G N uY iY sY tY jY 1 hc_9) hP hD hS hA 0 rfl rfl rfl hl.1 (lv_room (Nat.le_of_ble_eq_true rfl)) ⟨Nat.le_of_ble_eq_true rfl, Nat.le_of_ble_eq_true rfl⟩ ⟨Nat.zero_le _, Nat.zero_le _⟩ dX11_sign_10 (fun H locs hP hD hS => ?_)
    obtain ⟨hb_10, hf⟩ := zb_i hf
    cases hf
    subst hQ
    exact r_zret X hP hD hS hb_10 dX11_sign_13

def f_X11_isName_16 (N : Nat) (iY : Nat → Int32) (sY : Nat → Nat → Int32) (tY : Nat → Nat → Int64) (jY : Nat → Int64) : Nat → (Int32) → (Int32) → Option (Int32)
  | 0, _, _ => none
  | k + 1, v1, v2 => (if (24 : Int32) ≤ v2 then zb v1 (some v1) else jn (fun (z : (Int32)) => match z with | y_25 => f_X11_isName_16 N iY sY tY jY k y_25 (v2 + 1)) (fun K_22 => jn (fun (z : Unit) => match z with | () => K_22 0) (fun K_26 => (if v1 = 0 then K_26 () else ck v2 24 ((if (lg_cmp (jY 17) ((tY 10) (ix v2))) = 0 then K_26 () else K_22 1))))))
def f_X11_isName (N : Nat) (iY : Nat → Int32) (sY : Nat → Nat → Int32) (tY : Nat → Nat → Int64) (jY : Nat → Int64) : Option (Int32) :=
  jn (fun (z : (Int32)) => match z with | y_4 => f_X11_isName_16 N iY sY tY jY N y_4 0) (fun K_1 => (if (iY 11) = 1 then K_1 1 else K_1 0))
set_option maxHeartbeats 4000000 in
set_option maxRecDepth 100000 in
theorem c_X11_isName (l : Launch) (G : GT) (N : Nat) (uY : Nat → Nat) (iY : Nat → Int32) (sY : Nat → Nat → Int32) (tY : Nat → Nat → Int64) (jY : Nat → Int64) {r : Int32} (hf : f_X11_isName N iY sY tY jY = some r) : CI l G yX11_isName cX11_isName 3 .boolean 1 [.ref (uY 0)] (gY G uY iY sY tY jY) r (gY G uY iY sY tY jY) := by
  refine CI.of (by decide) (Nat.le_of_ble_eq_true rfl) ?_
  intro p e s m args below meth c A X hA hP hD hS ls hl
  have hl : lv_has ls 3 [(0, .ref (uY 0))] := hl
  generalize hQ : MQ below (QI G A r (gY G uY iY sY tY jY)) args s 0 0 A = QQ
  unfold f_X11_isName at hf
  refine lv_aload_n X.hx X.hb dX11_isName_0 rfl (lv_at hl 0 rfl) ?_
  refine gf_X11_157 X hP 0 rfl (v := .int (iY 11)) rfl dX11_isName_1 ?_
  refine lv_iconst (v := 1) X.hx X.hb dX11_isName_4 (by decide) ?_
  obtain ⟨K_1, eK_3, hf⟩ := jn_i hf
  have hj_2 : ∀ (y_4 : Int32) (H : Heap) (locs : List Loc) (ls : Array Slot), K_1 y_4 = some r → va_P G.1 vwCl (gY G uY iY sY tY jY) H → va_D A (gY G uY iY sY tY jY) → va_S A s.heap H locs → lv_has ls 3 [(0, .ref (uY 0))] → W p l e (RM 1) s m args below meth c H locs 0 0 QQ (F0 m 13 ls [.int y_4]) := by
    intro y_4 H locs ls hf hP hD hS hl
    rw [eK_3] at hf
    try dsimp only at hf
    refine lv_istore_n (lv' := [(1, .int y_4), (0, .ref (uY 0))]) X.hx X.hb dX11_isName_13 rfl hl (by decide) rfl (fun ls hl => ?_)
    refine lv_iconst (v := 0) X.hx X.hb dX11_isName_14 (by decide) ?_
    refine lv_istore_n (lv' := [(2, .int 0), (1, .int y_4), (0, .ref (uY 0))]) X.hx X.hb dX11_isName_15 rfl hl (by decide) rfl (fun ls hl => ?_)
    have hlo_5 : ∀ (k : Nat) (v1_6 : Int32) (v2_7 : Int32) (H : Heap) (locs : List Loc) (ls : Array Slot), f_X11_isName_16 N iY sY tY jY k v1_6 v2_7 = some r → va_P G.1 vwCl (gY G uY iY sY tY jY) H → va_D A (gY G uY iY sY tY jY) → va_S A s.heap H locs → lv_has ls 3 [(0, .ref (uY 0)), (1, .int v1_6), (2, .int v2_7)] → W p l e (RM 1) s m args below meth c H locs 0 0 QQ (F0 m 16 ls []) := by
      intro k
      induction k with
      | zero => intro v1_6 v2_7 H locs ls hf; exact absurd hf (by intro q; cases q)
      | succ k ih =>
        intro v1_6 v2_7 H locs ls hf hP hD hS hl
        unfold f_X11_isName_16 at hf
        refine lv_iload_n X.hx X.hb dX11_isName_16 rfl (lv_at hl 2 rfl) ?_
        refine lv_bipush (v := 24) X.hx X.hb dX11_isName_17 (by decide) ?_
        refine lv_icmp_ge (tgt := 52) X.hx X.hb dX11_isName_19 (by decide) (fun hc_8 => ?_) (fun hc_8 => ?_)
        · replace hf := if_t hf hc_8
          refine lv_iload_n X.hx X.hb dX11_isName_52 rfl (lv_at hl 1 rfl) ?_
          obtain ⟨hb_9, hf⟩ := zb_i hf
          cases hf
          subst hQ
          exact r_zret X hP hD hS hb_9 dX11_isName_53
        · replace hf := if_f hf hc_8
          refine lv_iload_n X.hx X.hb dX11_isName_22 rfl (lv_at hl 1 rfl) ?_
          obtain ⟨K_10, eK_12, hf⟩ := jn_i hf
          have hj_11 : ∀ (y_13 : Int32) (H : Heap) (locs : List Loc) (ls : Array Slot), K_10 y_13 = some r → va_P G.1 vwCl (gY G uY iY sY tY jY) H → va_D A (gY G uY iY sY tY jY) → va_S A s.heap H locs → lv_has ls 3 [(0, .ref (uY 0)), (2, .int v2_7)] → W p l e (RM 1) s m args below meth c H locs 0 0 QQ (F0 m 45 ls [.int y_13]) := by
            intro y_13 H locs ls hf hP hD hS hl
            rw [eK_12] at hf
            try dsimp only at hf
            refine lv_istore_n (lv' := [(1, .int y_13), (0, .ref (uY 0)), (2, .int v2_7)]) X.hx X.hb dX11_isName_45 rfl hl (by decide) rfl (fun ls hl => ?_)
            refine lv_iinc (v := (v2_7 + 1)) (lv' := [(2, .int (v2_7 + 1)), (1, .int y_13), (0, .ref (uY 0))]) X.hx X.hb dX11_isName_46 hl (k := 2) rfl rfl (by decide) rfl (fun ls hl => ?_)
            refine lv_goto (tgt := 16) X.hx X.hb dX11_isName_49 (by decide) ?_
            exact ih _ _ _ _ _ hf hP hD hS (lv_sub hl [2, 1, 0] rfl)
          obtain ⟨K_14, eK_16, hf⟩ := jn_i hf
          have hj_15 : ∀ (H : Heap) (locs : List Loc) (ls : Array Slot), K_14 () = some r → va_P G.1 vwCl (gY G uY iY sY tY jY) H → va_D A (gY G uY iY sY tY jY) → va_S A s.heap H locs → lv_has ls 3 [(0, .ref (uY 0)), (2, .int v2_7)] → W p l e (RM 1) s m args below meth c H locs 0 0 QQ (F0 m 44 ls []) := by
            intro  H locs ls hf hP hD hS hl
            rw [eK_16] at hf
            try dsimp only at hf
            refine lv_iconst (v := 0) X.hx X.hb dX11_isName_44 (by decide) ?_
            exact hj_11 _ _ _ _ hf hP hD hS (lv_sub hl [0, 1] rfl)
          refine lv_if_eq (tgt := 44) X.hx X.hb dX11_isName_23 (by decide) (fun hc_17 => ?_) (fun hc_17 => ?_)
          · replace hf := if_t hf hc_17
            exact hj_15 _ _ _ hf hP hD hS (lv_sub hl [0, 2] rfl)
          · replace hf := if_f hf hc_17
            refine lv_aload_n X.hx X.hb dX11_isName_26 rfl (lv_at hl 0 rfl) ?_
            refine gf_X11_170 X hP 0 rfl (v := .long (jY 17)) rfl dX11_isName_27 ?_
            refine lv_aload_n X.hx X.hb dX11_isName_30 rfl (lv_at hl 0 rfl) ?_
            refine gf_X11_47 X hP 0 rfl (v := .ref (uY 11)) rfl dX11_isName_31 ?_
            refine lv_iload_n X.hx X.hb dX11_isName_34 rfl (lv_at hl 2 rfl) ?_
            obtain ⟨hi_18, hf⟩ := ck_i hf
            refine r_lald X hP 6 (f := (tY 10)) rfl hi_18 dX11_isName_35 ?_
            refine W.lcmp X.hx X.hb dX11_isName_36 ?_
            refine lv_if_eq (tgt := 44) X.hx X.hb dX11_isName_37 (by decide) (fun hc_19 => ?_) (fun hc_19 => ?_)
            · replace hf := if_t hf hc_19
              exact hj_15 _ _ _ hf hP hD hS (lv_sub hl [0, 2] rfl)
            · replace hf := if_f hf hc_19
              refine lv_iconst (v := 1) X.hx X.hb dX11_isName_40 (by decide) ?_
              refine lv_goto (tgt := 45) X.hx X.hb dX11_isName_41 (by decide) ?_
              exact hj_11 _ _ _ _ hf hP hD hS (lv_sub hl [0, 2] rfl)
    exact hlo_5 N _ _ _ _ _ hf hP hD hS (lv_sub hl [2, 1, 0] rfl)
  refine lv_icmp_ne (tgt := 12) X.hx X.hb dX11_isName_5 (by decide) (fun hc_32 => ?_) (fun hc_32 => ?_)
  · replace hf := if_f hf hc_32
    refine lv_iconst (v := 0) X.hx X.hb dX11_isName_12 (by decide) ?_
    exact hj_2 _ _ _ _ hf hP hD hS (lv_sub hl [0] rfl)
  · replace hf := if_t hf hc_32
    refine lv_iconst (v := 1) X.hx X.hb dX11_isName_8 (by decide) ?_
    refine lv_goto (tgt := 13) X.hx X.hb dX11_isName_9 (by decide) ?_
    exact hj_2 _ _ _ _ hf hP hD hS (lv_sub hl [0] rfl)

