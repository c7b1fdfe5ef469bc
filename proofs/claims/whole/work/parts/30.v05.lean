def f_X11_ask (N : Nat) (iY : Nat → Int32) (sY : Nat → Nat → Int32) (tY : Nat → Nat → Int64) (jY : Nat → Int64) : Option (Int32 × (Nat → Int32)) :=
  (if (iY 28) = 0 then some ((-1), (va_up iY 0 0)) else some ((iY 27), (va_up iY 0 0)))
set_option maxHeartbeats 4000000 in
set_option maxRecDepth 100000 in
theorem c_X11_ask (l : Launch) (G : GT) (N : Nat) (uY : Nat → Nat) (iY : Nat → Int32) (sY : Nat → Nat → Int32) (tY : Nat → Nat → Int64) (jY : Nat → Int64) {r : Int32} {iY' : Nat → Int32} (hf : f_X11_ask N iY sY tY jY = some (r, iY')) : CI l G yX11_ask cX11_ask 1 .int 1 [.ref (uY 0)] (gY G uY iY sY tY jY) r (gY G uY iY' sY tY jY) := by
  refine CI.of (by decide) (Nat.le_of_ble_eq_true rfl) ?_
  intro p e s m args below meth c A X hA hP hD hS ls hl
  have hl : lv_has ls 1 [(0, .ref (uY 0))] := hl
  generalize hQ : MQ below (QI G A r (gY G uY iY' sY tY jY)) args s 0 0 A = QQ
  unfold f_X11_ask at hf
  refine lv_aload_n X.hx X.hb dX11_ask_0 rfl (lv_at hl 0 rfl) ?_
  refine lv_iconst (v := 0) X.hx X.hb dX11_ask_1 (by decide) ?_
  refine pf_X11_1 X hP hD hS 0 rfl rfl rfl (Nat.le_of_ble_eq_true rfl) (wo := (gY G uY (va_up iY 0 0) sY tY jY)) rfl dX11_ask_2 (fun H locs hP hD hS => ?_)
  refine lv_aload_n X.hx X.hb dX11_ask_5 rfl (lv_at hl 0 rfl) ?_
  refine gf_X11_351 X hP 0 rfl (v := .int (iY 28)) rfl dX11_ask_6 ?_
  refine lv_if_eq (tgt := 19) X.hx X.hb dX11_ask_9 (by decide) (fun hc_1 => ?_) (fun hc_1 => ?_)
  · replace hf := if_t hf hc_1
    refine lv_iconst (v := (-1)) X.hx X.hb dX11_ask_19 (by decide) ?_
    cases hf
    subst hQ
    exact r_iret X hP hD hS dX11_ask_20
  · replace hf := if_f hf hc_1
    refine lv_aload_n X.hx X.hb dX11_ask_12 rfl (lv_at hl 0 rfl) ?_
    refine gf_X11_355 X hP 0 rfl (v := .int (iY 27)) rfl dX11_ask_13 ?_
    refine lv_goto (tgt := 20) X.hx X.hb dX11_ask_16 (by decide) ?_
    cases hf
    subst hQ
    exact r_iret X hP hD hS dX11_ask_20

def f_X11_isServed_5 (N : Nat) (iY : Nat → Int32) (sY : Nat → Nat → Int32) (tY : Nat → Nat → Int64) (jY : Nat → Int64) (v1 : Int32) (v2 : Int32) : Nat → (Int32) → (Int32) → Option (Int32)
  | 0, _, _ => none
  | k + 1, v3, v4 => (if ((sY 6) 0) ≤ v4 then zb v3 (some v3) else jn (fun (z : (Int32)) => match z with | y_27 => f_X11_isServed_5 N iY sY tY jY v1 v2 k y_27 (v4 + 1)) (fun K_24 => jn (fun (z : Unit) => match z with | () => K_24 0) (fun K_28 => (if v3 = 0 then K_28 () else ck (((82 : Int32) + ((5 : Int32) * v4)) + v1) 457 (jn (fun (z : Unit) => match z with | () => K_24 1) (fun K_33 => (if ((sY 6) (ix (((82 : Int32) + ((5 : Int32) * v4)) + v1))) = 0 then K_33 () else bd (f_X11_mayBy N iY sY tY jY v4) (fun r_37 => (if (r_37 &&& v2) = 0 then K_28 () else K_33 ())))))))))
def f_X11_isServed (N : Nat) (iY : Nat → Int32) (sY : Nat → Nat → Int32) (tY : Nat → Nat → Int64) (jY : Nat → Int64) (p1 : Int32) (p2 : Int32) : Option (Int32) :=
  f_X11_isServed_5 N iY sY tY jY p1 p2 N 1 0
set_option maxHeartbeats 4000000 in
set_option maxRecDepth 100000 in
theorem c_X11_isServed (l : Launch) (G : GT) (N : Nat) (uY : Nat → Nat) (iY : Nat → Int32) (sY : Nat → Nat → Int32) (tY : Nat → Nat → Int64) (jY : Nat → Int64) (p1 : Int32) (p2 : Int32) {r : Int32} (hf : f_X11_isServed N iY sY tY jY p1 p2 = some r) : CI l G yX11_isServed cX11_isServed 5 .boolean 3 [.ref (uY 0), .int p1, .int p2] (gY G uY iY sY tY jY) r (gY G uY iY sY tY jY) := by
  refine CI.of (by decide) (Nat.le_of_ble_eq_true rfl) ?_
  intro p e s m args below meth c A X hA hP hD hS ls hl
  have hl : lv_has ls 5 [(0, .ref (uY 0)), (1, .int p1), (2, .int p2)] := hl
  generalize hQ : MQ below (QI G A r (gY G uY iY sY tY jY)) args s 0 0 A = QQ
  unfold f_X11_isServed at hf
  refine lv_iconst (v := 1) X.hx X.hb dX11_isServed_0 (by decide) ?_
  refine lv_istore_n (lv' := [(3, .int 1), (0, .ref (uY 0)), (1, .int p1), (2, .int p2)]) X.hx X.hb dX11_isServed_1 rfl hl (by decide) rfl (fun ls hl => ?_)
  refine lv_iconst (v := 0) X.hx X.hb dX11_isServed_2 (by decide) ?_
  refine lv_istore (lv' := [(4, .int 0), (3, .int 1), (0, .ref (uY 0)), (1, .int p1), (2, .int p2)]) X.hx X.hb dX11_isServed_3 hl (by decide) rfl (fun ls hl => ?_)
  have hlo_1 : ∀ (k : Nat) (v3_2 : Int32) (v4_3 : Int32) (H : Heap) (locs : List Loc) (ls : Array Slot), f_X11_isServed_5 N iY sY tY jY p1 p2 k v3_2 v4_3 = some r → va_P G.1 vwCl (gY G uY iY sY tY jY) H → va_D A (gY G uY iY sY tY jY) → va_S A s.heap H locs → lv_has ls 5 [(0, .ref (uY 0)), (1, .int p1), (2, .int p2), (3, .int v3_2), (4, .int v4_3)] → W p l e (RM 3) s m args below meth c H locs 0 0 QQ (F0 m 5 ls []) := by
    intro k
    induction k with
    | zero => intro v3_2 v4_3 H locs ls hf; exact absurd hf (by intro q; cases q)
    | succ k ih =>
      intro v3_2 v4_3 H locs ls hf hP hD hS hl
      unfold f_X11_isServed_5 at hf
      refine lv_iload X.hx X.hb dX11_isServed_5 (lv_at hl 4 rfl) ?_
      refine lv_aload_n X.hx X.hb dX11_isServed_7 rfl (lv_at hl 0 rfl) ?_
      refine gf_X11_33 X hP 0 rfl (v := .ref (uY 7)) rfl dX11_isServed_8 ?_
      refine lv_iconst (v := 0) X.hx X.hb dX11_isServed_11 (by decide) ?_
      refine r_iald X hP 2 (f := (sY 6)) rfl (vp_c rfl) dX11_isServed_12 ?_
      refine W.eq (g2 := F0 m 13 ls [.int ((sY 6) 0), .int v4_3]) rfl ?_
      refine lv_icmp_ge (tgt := 60) X.hx X.hb dX11_isServed_13 (by decide) (fun hc_4 => ?_) (fun hc_4 => ?_)
      · replace hf := if_t hf hc_4
        refine lv_iload_n X.hx X.hb dX11_isServed_60 rfl (lv_at hl 3 rfl) ?_
        obtain ⟨hb_5, hf⟩ := zb_i hf
        cases hf
        subst hQ
        exact r_zret X hP hD hS hb_5 dX11_isServed_61
      · replace hf := if_f hf hc_4
        refine lv_iload_n X.hx X.hb dX11_isServed_16 rfl (lv_at hl 3 rfl) ?_
        obtain ⟨K_6, eK_8, hf⟩ := jn_i hf
        have hj_7 : ∀ (y_9 : Int32) (H : Heap) (locs : List Loc) (ls : Array Slot), K_6 y_9 = some r → va_P G.1 vwCl (gY G uY iY sY tY jY) H → va_D A (gY G uY iY sY tY jY) → va_S A s.heap H locs → lv_has ls 5 [(0, .ref (uY 0)), (1, .int p1), (2, .int p2), (4, .int v4_3)] → W p l e (RM 3) s m args below meth c H locs 0 0 QQ (F0 m 53 ls [.int y_9]) := by
          intro y_9 H locs ls hf hP hD hS hl
          rw [eK_8] at hf
          try dsimp only at hf
          refine lv_istore_n (lv' := [(3, .int y_9), (0, .ref (uY 0)), (1, .int p1), (2, .int p2), (4, .int v4_3)]) X.hx X.hb dX11_isServed_53 rfl hl (by decide) rfl (fun ls hl => ?_)
          refine lv_iinc (v := (v4_3 + 1)) (lv' := [(4, .int (v4_3 + 1)), (3, .int y_9), (0, .ref (uY 0)), (1, .int p1), (2, .int p2)]) X.hx X.hb dX11_isServed_54 hl (k := 4) rfl rfl (by decide) rfl (fun ls hl => ?_)
          refine lv_goto (tgt := 5) X.hx X.hb dX11_isServed_57 (by decide) ?_
          exact ih _ _ _ _ _ hf hP hD hS (lv_sub hl [2, 3, 4, 1, 0] rfl)
        obtain ⟨K_10, eK_12, hf⟩ := jn_i hf
        have hj_11 : ∀ (H : Heap) (locs : List Loc) (ls : Array Slot), K_10 () = some r → va_P G.1 vwCl (gY G uY iY sY tY jY) H → va_D A (gY G uY iY sY tY jY) → va_S A s.heap H locs → lv_has ls 5 [(0, .ref (uY 0)), (1, .int p1), (2, .int p2), (4, .int v4_3)] → W p l e (RM 3) s m args below meth c H locs 0 0 QQ (F0 m 52 ls []) := by
          intro  H locs ls hf hP hD hS hl
          rw [eK_12] at hf
          try dsimp only at hf
          refine lv_iconst (v := 0) X.hx X.hb dX11_isServed_52 (by decide) ?_
          exact hj_7 _ _ _ _ hf hP hD hS (lv_sub hl [0, 1, 2, 3] rfl)
        refine lv_if_eq (tgt := 52) X.hx X.hb dX11_isServed_17 (by decide) (fun hc_13 => ?_) (fun hc_13 => ?_)
        · replace hf := if_t hf hc_13
          exact hj_11 _ _ _ hf hP hD hS (lv_sub hl [0, 1, 2, 4] rfl)
        · replace hf := if_f hf hc_13
          refine lv_aload_n X.hx X.hb dX11_isServed_20 rfl (lv_at hl 0 rfl) ?_
          refine gf_X11_33 X hP 0 rfl (v := .ref (uY 7)) rfl dX11_isServed_21 ?_
          refine lv_bipush (v := 82) X.hx X.hb dX11_isServed_24 (by decide) ?_
          refine lv_iconst (v := 5) X.hx X.hb dX11_isServed_26 (by decide) ?_
          refine lv_iload X.hx X.hb dX11_isServed_27 (lv_at hl 4 rfl) ?_
          refine lv_imul X.hx X.hb dX11_isServed_29 ?_
          refine lv_iadd X.hx X.hb dX11_isServed_30 ?_
          refine lv_iload_n X.hx X.hb dX11_isServed_31 rfl (lv_at hl 1 rfl) ?_
          refine lv_iadd X.hx X.hb dX11_isServed_32 ?_
          obtain ⟨hi_14, hf⟩ := ck_i hf
          refine r_iald X hP 2 (f := (sY 6)) rfl hi_14 dX11_isServed_33 ?_
          obtain ⟨K_15, eK_17, hf⟩ := jn_i hf
          have hj_16 : ∀ (H : Heap) (locs : List Loc) (ls : Array Slot), K_15 () = some r → va_P G.1 vwCl (gY G uY iY sY tY jY) H → va_D A (gY G uY iY sY tY jY) → va_S A s.heap H locs → lv_has ls 5 [(0, .ref (uY 0)), (1, .int p1), (2, .int p2), (4, .int v4_3)] → W p l e (RM 3) s m args below meth c H locs 0 0 QQ (F0 m 48 ls []) := by
            intro  H locs ls hf hP hD hS hl
            rw [eK_17] at hf
            try dsimp only at hf
            refine lv_iconst (v := 1) X.hx X.hb dX11_isServed_48 (by decide) ?_
            refine lv_goto (tgt := 53) X.hx X.hb dX11_isServed_49 (by decide) ?_
            exact hj_7 _ _ _ _ hf hP hD hS (lv_sub hl [0, 1, 2, 3] rfl)
          refine lv_if_eq (tgt := 48) X.hx X.hb dX11_isServed_34 (by decide) (fun hc_18 => ?_) (fun hc_18 => ?_)
          · replace hf := if_t hf hc_18
            exact hj_16 _ _ _ hf hP hD hS (lv_sub hl [0, 1, 2, 4] rfl)
          · replace hf := if_f hf hc_18
            refine lv_aload_n X.hx X.hb dX11_isServed_37 rfl (lv_at hl 0 rfl) ?_
            refine lv_iload X.hx X.hb dX11_isServed_38 (lv_at hl 4 rfl) ?_
            obtain ⟨r_19, hc_20, hf⟩ := bd_i hf
            refine r_wvi (As := [.int v4_3]) (rest := []) X sm_X11_278 (c_X11_mayBy l G N uY iY sY tY jY v4_3 hc_20) hP hD hS hA 0 rfl rfl rfl hl.1 (lv_room (Nat.le_of_ble_eq_true rfl)) ⟨Nat.le_of_ble_eq_true rfl, Nat.le_of_ble_eq_true rfl⟩ ⟨Nat.zero_le _, Nat.zero_le _⟩ dX11_isServed_40 (fun H locs hP hD hS => ?_)
            refine lv_iload_n X.hx X.hb dX11_isServed_43 rfl (lv_at hl 2 rfl) ?_
            refine lv_iand X.hx X.hb dX11_isServed_44 ?_
            refine lv_if_eq (tgt := 52) X.hx X.hb dX11_isServed_45 (by decide) (fun hc_21 => ?_) (fun hc_21 => ?_)
            · replace hf := if_t hf hc_21
              exact hj_11 _ _ _ hf hP hD hS (lv_sub hl [0, 1, 2, 4] rfl)
            · replace hf := if_f hf hc_21
              exact hj_16 _ _ _ hf hP hD hS (lv_sub hl [0, 1, 2, 4] rfl)
  exact hlo_1 N _ _ _ _ _ hf hP hD hS (lv_sub hl [2, 3, 4, 1, 0] rfl)

def f_X11_serve_66 (N : Nat) (iY : Nat → Int32) (sY : Nat → Nat → Int32) (tY : Nat → Nat → Int64) (jY : Nat → Int64) (v1 : Int32) (v2 : Int32) (K_8 : ((Int32)) → Option (Int32 × (Nat → Int32))) : Nat → (Int32) → (Int32) → Option (Int32 × (Nat → Int32))
  | 0, _, _ => none
  | k + 1, v3, v4 => (if v2 < v4 then K_8 v3 else jn (fun (z : (Int32)) => match z with | x3_40 => f_X11_serve_66 N iY sY tY jY v1 v2 K_8 k x3_40 (v4 + 1)) (fun K_37 => (if (v4 &&& (v2 ^^^ (-1))) = 0 then jn (fun (z : Unit) => match z with | () => bd (f_X11_isServed N iY sY tY jY v1 v4) (fun r_45 => (if r_45 = 0 then K_37 v3 else K_37 v4))) (fun K_42 => (if v3 < 0 then K_42 () else bd (f_X11_bits N v4) (fun r_49 => bd (f_X11_bits N v3) (fun r_51 => (if r_51 ≤ r_49 then K_37 v3 else K_42 ()))))) else K_37 v3)))
def f_X11_serve_19 (N : Nat) (iY : Nat → Int32) (sY : Nat → Nat → Int32) (tY : Nat → Nat → Int64) (jY : Nat → Int64) (v1 : Int32) (K_4 : ((Int32)) → Option (Int32 × (Nat → Int32))) : Nat → (Int32) → (Int32) → Option (Int32 × (Nat → Int32))
  | 0, _, _ => none
  | k + 1, v2, v3 => (if ((sY 6) 0) ≤ v3 then K_4 v2 else ck (((47 : Int32) + ((5 : Int32) * v3)) + v1) 457 (jn (fun (z : (Int32)) => match z with | y_69 => f_X11_serve_19 N iY sY tY jY v1 K_4 k (v2 ||| y_69) (v3 + 1)) (fun K_66 => (if ((sY 6) (ix (((47 : Int32) + ((5 : Int32) * v3)) + v1))) ≤ 0 then K_66 0 else K_66 ((1 : Int32) <<< (v3 &&& 31))))))
def f_X11_serve (N : Nat) (iY : Nat → Int32) (sY : Nat → Nat → Int32) (tY : Nat → Nat → Int64) (jY : Nat → Int64) (p1 : Int32) : Option (Int32 × (Nat → Int32)) :=
  bd (f_X11_isGood N (va_up iY 0 0) sY tY jY p1) (fun r_1 => (if r_1 = 0 then some ((-1), (va_up iY 0 0)) else jn (fun (z : (Int32)) => match z with | x2_7 => jn (fun (z : (Int32)) => match z with | x3_11 => (if (0 : Int32) ≤ x3_11 then bd (f_X11_bits N x3_11) (fun r_13 => some (r_13, (va_up (va_up (va_up iY 0 0) 30 1) 29 x3_11))) else some ((-1), (va_up iY 0 0)))) (fun K_8 => f_X11_serve_66 N (va_up iY 0 0) sY tY jY p1 x2_7 K_8 N (-1) 0)) (fun K_4 => f_X11_serve_19 N (va_up iY 0 0) sY tY jY p1 K_4 N 0 0)))
set_option maxHeartbeats 4000000 in
set_option maxRecDepth 100000 in
theorem c_X11_serve (l : Launch) (G : GT) (N : Nat) (uY : Nat → Nat) (iY : Nat → Int32) (sY : Nat → Nat → Int32) (tY : Nat → Nat → Int64) (jY : Nat → Int64) (p1 : Int32) {r : Int32} {iY' : Nat → Int32} (hf : f_X11_serve N iY sY tY jY p1 = some (r, iY')) : CI l G yX11_serve cX11_serve 5 .int 4 [.ref (uY 0), .int p1] (gY G uY iY sY tY jY) r (gY G uY iY' sY tY jY) := by
  refine CI.of (by decide) (Nat.le_of_ble_eq_true rfl) ?_
  intro p e s m args below meth c A X hA hP hD hS ls hl
  have hl : lv_has ls 5 [(0, .ref (uY 0)), (1, .int p1)] := hl
  generalize hQ : MQ below (QI G A r (gY G uY iY' sY tY jY)) args s 0 0 A = QQ
  unfold f_X11_serve at hf
  refine lv_aload_n X.hx X.hb dX11_serve_0 rfl (lv_at hl 0 rfl) ?_
  refine lv_iconst (v := 0) X.hx X.hb dX11_serve_1 (by decide) ?_
  refine pf_X11_1 X hP hD hS 0 rfl rfl rfl (Nat.le_of_ble_eq_true rfl) (wo := (gY G uY (va_up iY 0 0) sY tY jY)) rfl dX11_serve_2 (fun H locs hP hD hS => ?_)
  refine lv_aload_n X.hx X.hb dX11_serve_5 rfl (lv_at hl 0 rfl) ?_
  refine lv_iload_n X.hx X.hb dX11_serve_6 rfl (lv_at hl 1 rfl) ?_
  obtain ⟨r_1, hc_2, hf⟩ := bd_i hf
  refine r_wvi (As := [.int p1]) (rest := []) X sm_X11_281 (c_X11_isGood l G N uY (va_up iY 0 0) sY tY jY p1 hc_2) hP hD hS hA 0 rfl rfl rfl hl.1 (lv_room (Nat.le_of_ble_eq_true rfl)) ⟨Nat.le_of_ble_eq_true rfl, Nat.le_of_ble_eq_true rfl⟩ ⟨Nat.zero_le _, Nat.zero_le _⟩ dX11_serve_7 (fun H locs hP hD hS => ?_)
  refine lv_if_ne (tgt := 15) X.hx X.hb dX11_serve_10 (by decide) (fun hc_3 => ?_) (fun hc_3 => ?_)
  · replace hf := if_f hf hc_3
    refine lv_iconst (v := 0) X.hx X.hb dX11_serve_15 (by decide) ?_
    refine lv_istore_n (lv' := [(2, .int 0), (0, .ref (uY 0)), (1, .int p1)]) X.hx X.hb dX11_serve_16 rfl hl (by decide) rfl (fun ls hl => ?_)
    refine lv_iconst (v := 0) X.hx X.hb dX11_serve_17 (by decide) ?_
    refine lv_istore_n (lv' := [(3, .int 0), (2, .int 0), (0, .ref (uY 0)), (1, .int p1)]) X.hx X.hb dX11_serve_18 rfl hl (by decide) rfl (fun ls hl => ?_)
    obtain ⟨K_4, eK_6, hf⟩ := jn_i hf
    have hj_5 : ∀ (x2_7 : Int32) (H : Heap) (locs : List Loc) (ls : Array Slot), K_4 x2_7 = some (r, iY') → va_P G.1 vwCl (gY G uY (va_up iY 0 0) sY tY jY) H → va_D A (gY G uY (va_up iY 0 0) sY tY jY) → va_S A s.heap H locs → lv_has ls 5 [(0, .ref (uY 0)), (1, .int p1), (2, .int x2_7)] → W p l e (RM 4) s m args below meth c H locs 0 0 QQ (F0 m 61 ls []) := by
      intro x2_7 H locs ls hf hP hD hS hl
      rw [eK_6] at hf
      try dsimp only at hf
      refine lv_iconst (v := (-1)) X.hx X.hb dX11_serve_61 (by decide) ?_
      refine lv_istore_n (lv' := [(3, .int (-1)), (0, .ref (uY 0)), (1, .int p1), (2, .int x2_7)]) X.hx X.hb dX11_serve_62 rfl hl (by decide) rfl (fun ls hl => ?_)
      refine lv_iconst (v := 0) X.hx X.hb dX11_serve_63 (by decide) ?_
      refine lv_istore (lv' := [(4, .int 0), (3, .int (-1)), (0, .ref (uY 0)), (1, .int p1), (2, .int x2_7)]) X.hx X.hb dX11_serve_64 hl (by decide) rfl (fun ls hl => ?_)
      obtain ⟨K_8, eK_10, hf⟩ := jn_i hf
      have hj_9 : ∀ (x3_11 : Int32) (H : Heap) (locs : List Loc) (ls : Array Slot), K_8 x3_11 = some (r, iY') → va_P G.1 vwCl (gY G uY (va_up iY 0 0) sY tY jY) H → va_D A (gY G uY (va_up iY 0 0) sY tY jY) → va_S A s.heap H locs → lv_has ls 5 [(0, .ref (uY 0)), (3, .int x3_11)] → W p l e (RM 4) s m args below meth c H locs 0 0 QQ (F0 m 116 ls []) := by
        intro x3_11 H locs ls hf hP hD hS hl
        rw [eK_10] at hf
        try dsimp only at hf
        refine lv_iload_n X.hx X.hb dX11_serve_116 rfl (lv_at hl 1 rfl) ?_
        refine lv_if_ge (tgt := 122) X.hx X.hb dX11_serve_117 (by decide) (fun hc_12 => ?_) (fun hc_12 => ?_)
        · replace hf := if_t hf hc_12
          refine lv_aload_n X.hx X.hb dX11_serve_122 rfl (lv_at hl 0 rfl) ?_
          refine lv_iconst (v := 1) X.hx X.hb dX11_serve_123 (by decide) ?_
          refine pf_X11_361 X hP hD hS 0 rfl (by decide) (by decide) (Nat.le_of_ble_eq_true rfl) (wo := (gY G uY (va_up (va_up iY 0 0) 30 1) sY tY jY)) rfl dX11_serve_124 (fun H locs hP hD hS => ?_)
          refine lv_aload_n X.hx X.hb dX11_serve_127 rfl (lv_at hl 0 rfl) ?_
          refine lv_iload_n X.hx X.hb dX11_serve_128 rfl (lv_at hl 1 rfl) ?_
          refine pf_X11_364 X hP hD hS 0 rfl rfl rfl (Nat.le_of_ble_eq_true rfl) (wo := (gY G uY (va_up (va_up (va_up iY 0 0) 30 1) 29 x3_11) sY tY jY)) rfl dX11_serve_129 (fun H locs hP hD hS => ?_)
          refine lv_iload_n X.hx X.hb dX11_serve_132 rfl (lv_at hl 1 rfl) ?_
          obtain ⟨r_13, hc_14, hf⟩ := bd_i hf
          refine r_cs0 (As := [.int x3_11]) (rest := []) X sm_X11_284 (c_X11_bits l G N x3_11 hc_14) hP hD hS hA rfl hl.1 (lv_room (Nat.le_of_ble_eq_true rfl)) ⟨Nat.le_of_ble_eq_true rfl, Nat.le_of_ble_eq_true rfl⟩ ⟨Nat.zero_le _, Nat.zero_le _⟩ dX11_serve_133 (fun H locs hP hD hS => ?_)
          cases hf
          subst hQ
          exact r_iret X hP hD hS dX11_serve_136
        · replace hf := if_f hf hc_12
          refine lv_iconst (v := (-1)) X.hx X.hb dX11_serve_120 (by decide) ?_
          cases hf
          subst hQ
          exact r_iret X hP hD hS dX11_serve_121
      have hlo_15 : ∀ (k : Nat) (v3_16 : Int32) (v4_17 : Int32) (H : Heap) (locs : List Loc) (ls : Array Slot), f_X11_serve_66 N (va_up iY 0 0) sY tY jY p1 x2_7 K_8 k v3_16 v4_17 = some (r, iY') → va_P G.1 vwCl (gY G uY (va_up iY 0 0) sY tY jY) H → va_D A (gY G uY (va_up iY 0 0) sY tY jY) → va_S A s.heap H locs → lv_has ls 5 [(0, .ref (uY 0)), (1, .int p1), (2, .int x2_7), (3, .int v3_16), (4, .int v4_17)] → W p l e (RM 4) s m args below meth c H locs 0 0 QQ (F0 m 66 ls []) := by
        intro k
        induction k with
        | zero => intro v3_16 v4_17 H locs ls hf; exact absurd hf (by intro q; cases q)
        | succ k ih =>
          intro v3_16 v4_17 H locs ls hf hP hD hS hl
          unfold f_X11_serve_66 at hf
          refine lv_iload X.hx X.hb dX11_serve_66 (lv_at hl 4 rfl) ?_
          refine lv_iload_n X.hx X.hb dX11_serve_68 rfl (lv_at hl 2 rfl) ?_
          refine lv_icmp_gt (tgt := 116) X.hx X.hb dX11_serve_69 (by decide) (fun hc_18 => ?_) (fun hc_18 => ?_)
          · replace hf := if_t hf hc_18
            exact hj_9 _ _ _ _ hf hP hD hS (lv_sub hl [0, 3] rfl)
          · replace hf := if_f hf hc_18
            refine lv_iload X.hx X.hb dX11_serve_72 (lv_at hl 4 rfl) ?_
            refine lv_iload_n X.hx X.hb dX11_serve_74 rfl (lv_at hl 2 rfl) ?_
            refine lv_iconst (v := (-1)) X.hx X.hb dX11_serve_75 (by decide) ?_
            refine lv_ixor X.hx X.hb dX11_serve_76 ?_
            refine lv_iand X.hx X.hb dX11_serve_77 ?_
            obtain ⟨K_19, eK_21, hf⟩ := jn_i hf
            have hj_20 : ∀ (x3_22 : Int32) (H : Heap) (locs : List Loc) (ls : Array Slot), K_19 x3_22 = some (r, iY') → va_P G.1 vwCl (gY G uY (va_up iY 0 0) sY tY jY) H → va_D A (gY G uY (va_up iY 0 0) sY tY jY) → va_S A s.heap H locs → lv_has ls 5 [(0, .ref (uY 0)), (1, .int p1), (2, .int x2_7), (3, .int x3_22), (4, .int v4_17)] → W p l e (RM 4) s m args below meth c H locs 0 0 QQ (F0 m 110 ls []) := by
              intro x3_22 H locs ls hf hP hD hS hl
              rw [eK_21] at hf
              try dsimp only at hf
              refine lv_iinc (v := (v4_17 + 1)) (lv' := [(4, .int (v4_17 + 1)), (0, .ref (uY 0)), (1, .int p1), (2, .int x2_7), (3, .int x3_22)]) X.hx X.hb dX11_serve_110 hl (k := 4) rfl rfl (by decide) rfl (fun ls hl => ?_)
              refine lv_goto (tgt := 66) X.hx X.hb dX11_serve_113 (by decide) ?_
              exact ih _ _ _ _ _ hf hP hD hS (lv_sub hl [1, 2, 3, 4, 0] rfl)
            refine lv_if_ne (tgt := 110) X.hx X.hb dX11_serve_78 (by decide) (fun hc_23 => ?_) (fun hc_23 => ?_)
            · replace hf := if_f hf hc_23
              exact hj_20 _ _ _ _ hf hP hD hS (lv_sub hl [0, 1, 2, 3, 4] rfl)
            · replace hf := if_t hf hc_23
              refine lv_iload_n X.hx X.hb dX11_serve_81 rfl (lv_at hl 3 rfl) ?_
              obtain ⟨K_24, eK_26, hf⟩ := jn_i hf
              have hj_25 : ∀ (H : Heap) (locs : List Loc) (ls : Array Slot), K_24 () = some (r, iY') → va_P G.1 vwCl (gY G uY (va_up iY 0 0) sY tY jY) H → va_D A (gY G uY (va_up iY 0 0) sY tY jY) → va_S A s.heap H locs → lv_has ls 5 [(0, .ref (uY 0)), (1, .int p1), (2, .int x2_7), (3, .int v3_16), (4, .int v4_17)] → W p l e (RM 4) s m args below meth c H locs 0 0 QQ (F0 m 97 ls []) := by
                intro  H locs ls hf hP hD hS hl
                rw [eK_26] at hf
                try dsimp only at hf
                refine lv_aload_n X.hx X.hb dX11_serve_97 rfl (lv_at hl 0 rfl) ?_
                refine lv_iload_n X.hx X.hb dX11_serve_98 rfl (lv_at hl 1 rfl) ?_
                refine lv_iload X.hx X.hb dX11_serve_99 (lv_at hl 4 rfl) ?_
                obtain ⟨r_27, hc_28, hf⟩ := bd_i hf
                refine r_wvi (As := [.int p1, .int v4_17]) (rest := []) X sm_X11_358 (c_X11_isServed l G N uY (va_up iY 0 0) sY tY jY p1 v4_17 hc_28) hP hD hS hA 0 rfl rfl rfl hl.1 (lv_room (Nat.le_of_ble_eq_true rfl)) ⟨Nat.le_of_ble_eq_true rfl, Nat.le_of_ble_eq_true rfl⟩ ⟨Nat.zero_le _, Nat.zero_le _⟩ dX11_serve_101 (fun H locs hP hD hS => ?_)
                refine lv_if_eq (tgt := 110) X.hx X.hb dX11_serve_104 (by decide) (fun hc_29 => ?_) (fun hc_29 => ?_)
                · replace hf := if_t hf hc_29
                  exact hj_20 _ _ _ _ hf hP hD hS (lv_sub hl [0, 1, 2, 3, 4] rfl)
                · replace hf := if_f hf hc_29
                  refine lv_iload X.hx X.hb dX11_serve_107 (lv_at hl 4 rfl) ?_
                  refine lv_istore_n (lv' := [(3, .int v4_17), (0, .ref (uY 0)), (1, .int p1), (2, .int x2_7), (4, .int v4_17)]) X.hx X.hb dX11_serve_109 rfl hl (by decide) rfl (fun ls hl => ?_)
                  exact hj_20 _ _ _ _ hf hP hD hS (lv_sub hl [1, 2, 3, 0, 4] rfl)
              refine lv_if_lt (tgt := 97) X.hx X.hb dX11_serve_82 (by decide) (fun hc_30 => ?_) (fun hc_30 => ?_)
              · replace hf := if_t hf hc_30
                exact hj_25 _ _ _ hf hP hD hS (lv_sub hl [0, 1, 2, 3, 4] rfl)
              · replace hf := if_f hf hc_30
                refine lv_iload X.hx X.hb dX11_serve_85 (lv_at hl 4 rfl) ?_
                obtain ⟨r_31, hc_32, hf⟩ := bd_i hf
                refine r_cs0 (As := [.int v4_17]) (rest := []) X sm_X11_284 (c_X11_bits l G N v4_17 hc_32) hP hD hS hA rfl hl.1 (lv_room (Nat.le_of_ble_eq_true rfl)) ⟨Nat.le_of_ble_eq_true rfl, Nat.le_of_ble_eq_true rfl⟩ ⟨Nat.zero_le _, Nat.zero_le _⟩ dX11_serve_87 (fun H locs hP hD hS => ?_)
                refine lv_iload_n X.hx X.hb dX11_serve_90 rfl (lv_at hl 3 rfl) ?_
                obtain ⟨r_33, hc_34, hf⟩ := bd_i hf
                refine r_cs0 (As := [.int v3_16]) (rest := [.int r_31]) X sm_X11_284 (c_X11_bits l G N v3_16 hc_34) hP hD hS hA rfl hl.1 (lv_room (Nat.le_of_ble_eq_true rfl)) ⟨Nat.le_of_ble_eq_true rfl, Nat.le_of_ble_eq_true rfl⟩ ⟨Nat.zero_le _, Nat.zero_le _⟩ dX11_serve_91 (fun H locs hP hD hS => ?_)
                refine lv_icmp_ge (tgt := 110) X.hx X.hb dX11_serve_94 (by decide) (fun hc_35 => ?_) (fun hc_35 => ?_)
                · replace hf := if_t hf hc_35
                  exact hj_20 _ _ _ _ hf hP hD hS (lv_sub hl [0, 1, 2, 3, 4] rfl)
                · replace hf := if_f hf hc_35
                  exact hj_25 _ _ _ hf hP hD hS (lv_sub hl [0, 1, 2, 3, 4] rfl)
      exact hlo_15 N _ _ _ _ _ hf hP hD hS (lv_sub hl [2, 3, 4, 1, 0] rfl)
    have hlo_54 : ∀ (k : Nat) (v2_55 : Int32) (v3_56 : Int32) (H : Heap) (locs : List Loc) (ls : Array Slot), f_X11_serve_19 N (va_up iY 0 0) sY tY jY p1 K_4 k v2_55 v3_56 = some (r, iY') → va_P G.1 vwCl (gY G uY (va_up iY 0 0) sY tY jY) H → va_D A (gY G uY (va_up iY 0 0) sY tY jY) → va_S A s.heap H locs → lv_has ls 5 [(0, .ref (uY 0)), (1, .int p1), (2, .int v2_55), (3, .int v3_56)] → W p l e (RM 4) s m args below meth c H locs 0 0 QQ (F0 m 19 ls []) := by
      intro k
      induction k with
      | zero => intro v2_55 v3_56 H locs ls hf; exact absurd hf (by intro q; cases q)
      | succ k ih =>
        intro v2_55 v3_56 H locs ls hf hP hD hS hl
        unfold f_X11_serve_19 at hf
        refine lv_iload_n X.hx X.hb dX11_serve_19 rfl (lv_at hl 3 rfl) ?_
        refine lv_aload_n X.hx X.hb dX11_serve_20 rfl (lv_at hl 0 rfl) ?_
        refine gf_X11_33 X hP 0 rfl (v := .ref (uY 7)) rfl dX11_serve_21 ?_
        refine lv_iconst (v := 0) X.hx X.hb dX11_serve_24 (by decide) ?_
        refine r_iald X hP 2 (f := (sY 6)) rfl (vp_c rfl) dX11_serve_25 ?_
        refine W.eq (g2 := F0 m 26 ls [.int ((sY 6) 0), .int v3_56]) rfl ?_
        refine lv_icmp_ge (tgt := 61) X.hx X.hb dX11_serve_26 (by decide) (fun hc_57 => ?_) (fun hc_57 => ?_)
        · replace hf := if_t hf hc_57
          exact hj_5 _ _ _ _ hf hP hD hS (lv_sub hl [0, 1, 2] rfl)
        · replace hf := if_f hf hc_57
          refine lv_iload_n X.hx X.hb dX11_serve_29 rfl (lv_at hl 2 rfl) ?_
          refine lv_aload_n X.hx X.hb dX11_serve_30 rfl (lv_at hl 0 rfl) ?_
          refine gf_X11_33 X hP 0 rfl (v := .ref (uY 7)) rfl dX11_serve_31 ?_
          refine lv_bipush (v := 47) X.hx X.hb dX11_serve_34 (by decide) ?_
          refine lv_iconst (v := 5) X.hx X.hb dX11_serve_36 (by decide) ?_
          refine lv_iload_n X.hx X.hb dX11_serve_37 rfl (lv_at hl 3 rfl) ?_
          refine lv_imul X.hx X.hb dX11_serve_38 ?_
          refine lv_iadd X.hx X.hb dX11_serve_39 ?_
          refine lv_iload_n X.hx X.hb dX11_serve_40 rfl (lv_at hl 1 rfl) ?_
          refine lv_iadd X.hx X.hb dX11_serve_41 ?_
          obtain ⟨hi_58, hf⟩ := ck_i hf
          refine r_iald X hP 2 (f := (sY 6)) rfl hi_58 dX11_serve_42 ?_
          obtain ⟨K_59, eK_61, hf⟩ := jn_i hf
          have hj_60 : ∀ (y_62 : Int32) (H : Heap) (locs : List Loc) (ls : Array Slot), K_59 y_62 = some (r, iY') → va_P G.1 vwCl (gY G uY (va_up iY 0 0) sY tY jY) H → va_D A (gY G uY (va_up iY 0 0) sY tY jY) → va_S A s.heap H locs → lv_has ls 5 [(0, .ref (uY 0)), (1, .int p1), (3, .int v3_56)] → W p l e (RM 4) s m args below meth c H locs 0 0 QQ (F0 m 53 ls [.int y_62, .int v2_55]) := by
            intro y_62 H locs ls hf hP hD hS hl
            rw [eK_61] at hf
            try dsimp only at hf
            refine lv_ior X.hx X.hb dX11_serve_53 ?_
            refine lv_istore_n (lv' := [(2, .int (v2_55 ||| y_62)), (0, .ref (uY 0)), (1, .int p1), (3, .int v3_56)]) X.hx X.hb dX11_serve_54 rfl hl (by decide) rfl (fun ls hl => ?_)
            refine lv_iinc (v := (v3_56 + 1)) (lv' := [(3, .int (v3_56 + 1)), (2, .int (v2_55 ||| y_62)), (0, .ref (uY 0)), (1, .int p1)]) X.hx X.hb dX11_serve_55 hl (k := 3) rfl rfl (by decide) rfl (fun ls hl => ?_)
            refine lv_goto (tgt := 19) X.hx X.hb dX11_serve_58 (by decide) ?_
            exact ih _ _ _ _ _ hf hP hD hS (lv_sub hl [2, 3, 1, 0] rfl)
          refine lv_if_le (tgt := 52) X.hx X.hb dX11_serve_43 (by decide) (fun hc_63 => ?_) (fun hc_63 => ?_)
          · replace hf := if_t hf hc_63
            refine lv_iconst (v := 0) X.hx X.hb dX11_serve_52 (by decide) ?_
            exact hj_60 _ _ _ _ hf hP hD hS (lv_sub hl [0, 1, 3] rfl)
          · replace hf := if_f hf hc_63
            refine lv_iconst (v := 1) X.hx X.hb dX11_serve_46 (by decide) ?_
            refine lv_iload_n X.hx X.hb dX11_serve_47 rfl (lv_at hl 3 rfl) ?_
            refine lv_ishl X.hx X.hb dX11_serve_48 ?_
            refine lv_goto (tgt := 53) X.hx X.hb dX11_serve_49 (by decide) ?_
            exact hj_60 _ _ _ _ hf hP hD hS (lv_sub hl [0, 1, 3] rfl)
    exact hlo_54 N _ _ _ _ _ hf hP hD hS (lv_sub hl [2, 3, 1, 0] rfl)
  · replace hf := if_t hf hc_3
    refine lv_iconst (v := (-1)) X.hx X.hb dX11_serve_13 (by decide) ?_
    cases hf
    subst hQ
    exact r_iret X hP hD hS dX11_serve_14

def f_X11_serving (N : Nat) (iY : Nat → Int32) (sY : Nat → Nat → Int32) (tY : Nat → Nat → Int64) (jY : Nat → Int64) : Option (Int32 × (Nat → Int32)) :=
  (if (iY 30) = 0 then some ((-1), (va_up iY 0 0)) else some ((iY 29), (va_up iY 0 0)))
set_option maxHeartbeats 4000000 in
set_option maxRecDepth 100000 in
theorem c_X11_serving (l : Launch) (G : GT) (N : Nat) (uY : Nat → Nat) (iY : Nat → Int32) (sY : Nat → Nat → Int32) (tY : Nat → Nat → Int64) (jY : Nat → Int64) {r : Int32} {iY' : Nat → Int32} (hf : f_X11_serving N iY sY tY jY = some (r, iY')) : CI l G yX11_serving cX11_serving 1 .int 1 [.ref (uY 0)] (gY G uY iY sY tY jY) r (gY G uY iY' sY tY jY) := by
  refine CI.of (by decide) (Nat.le_of_ble_eq_true rfl) ?_
  intro p e s m args below meth c A X hA hP hD hS ls hl
  have hl : lv_has ls 1 [(0, .ref (uY 0))] := hl
  generalize hQ : MQ below (QI G A r (gY G uY iY' sY tY jY)) args s 0 0 A = QQ
  unfold f_X11_serving at hf
  refine lv_aload_n X.hx X.hb dX11_serving_0 rfl (lv_at hl 0 rfl) ?_
  refine lv_iconst (v := 0) X.hx X.hb dX11_serving_1 (by decide) ?_
  refine pf_X11_1 X hP hD hS 0 rfl rfl rfl (Nat.le_of_ble_eq_true rfl) (wo := (gY G uY (va_up iY 0 0) sY tY jY)) rfl dX11_serving_2 (fun H locs hP hD hS => ?_)
  refine lv_aload_n X.hx X.hb dX11_serving_5 rfl (lv_at hl 0 rfl) ?_
  refine gf_X11_361 X hP 0 rfl (v := .int (iY 30)) rfl dX11_serving_6 ?_
  refine lv_if_eq (tgt := 19) X.hx X.hb dX11_serving_9 (by decide) (fun hc_1 => ?_) (fun hc_1 => ?_)
  · replace hf := if_t hf hc_1
    refine lv_iconst (v := (-1)) X.hx X.hb dX11_serving_19 (by decide) ?_
    cases hf
    subst hQ
    exact r_iret X hP hD hS dX11_serving_20
  · replace hf := if_f hf hc_1
    refine lv_aload_n X.hx X.hb dX11_serving_12 rfl (lv_at hl 0 rfl) ?_
    refine gf_X11_364 X hP 0 rfl (v := .int (iY 29)) rfl dX11_serving_13 ?_
    refine lv_goto (tgt := 20) X.hx X.hb dX11_serving_16 (by decide) ?_
    cases hf
    subst hQ
    exact r_iret X hP hD hS dX11_serving_20

def f_X11_laysSteps_62 (N : Nat) (iY : Nat → Int32) (tY : Nat → Nat → Int64) (jY : Nat → Int64) (v2 : Int32) (v3 : Int32) (v4 : Int32) (K_19 : ((Nat → Nat → Int32)) → Option ((Nat → Nat → Int32))) (K_9 : ((Nat → Nat → Int32)) → Option ((Nat → Nat → Int32))) : Nat → (Nat → Nat → Int32) → (Int32) → Option ((Nat → Nat → Int32))
  | 0, _, _ => none
  | k + 1, sY, v5 => (if ((sY 6) 0) ≤ v5 then K_19 sY else bd (f_X11_bitOf N v4 v5) (fun r_41 => jn (fun (z : (Nat → Nat → Int32)) => match z with | sY_46 => f_X11_laysSteps_62 N iY tY jY v2 v3 v4 K_19 K_9 k sY_46 (v5 + 1)) (fun K_43 => (if r_41 = 0 then K_43 sY else ck v5 7 (ck v3 7 ((if ((sY 31) (ix v3)) ≤ (((sY 31) (ix v5)) + 1) then K_43 sY else ck v5 7 (ck v3 7 (nv (upd (sY 31) (ix v3) (((sY 31) (ix v5)) + 1)) (fun g_53 => K_43 (va_up sY 31 g_53)))))))))))
def f_X11_laysSteps_42 (N : Nat) (iY : Nat → Int32) (tY : Nat → Nat → Int64) (jY : Nat → Int64) (v2 : Int32) (K_9 : ((Nat → Nat → Int32)) → Option ((Nat → Nat → Int32))) : Nat → (Nat → Nat → Int32) → (Int32) → Option ((Nat → Nat → Int32))
  | 0, _, _ => none
  | k + 1, sY, v3 => (if ((sY 6) 0) ≤ v3 then K_9 sY else bd (f_X11_mayBy N iY sY tY jY v3) (fun r_55 => jn (fun (z : (Nat → Nat → Int32)) => match z with | sY_60 => f_X11_laysSteps_42 N iY tY jY v2 K_9 k sY_60 (v3 + 1)) (fun K_57 => f_X11_laysSteps_62 N iY tY jY v2 v3 r_55 K_57 K_9 N sY 0)))
def f_X11_laysSteps_34 (N : Nat) (iY : Nat → Int32) (tY : Nat → Nat → Int64) (jY : Nat → Int64) : Nat → (Nat → Nat → Int32) → (Int32) → Option ((Nat → Nat → Int32))
  | 0, _, _ => none
  | k + 1, sY, v2 => (if (7 : Int32) ≤ v2 then some sY else jn (fun (z : (Nat → Nat → Int32)) => match z with | sY_96 => f_X11_laysSteps_34 N iY tY jY k sY_96 (v2 + 1)) (fun K_93 => f_X11_laysSteps_42 N iY tY jY v2 K_93 N sY 0))
def f_X11_laysSteps_2 (N : Nat) (iY : Nat → Int32) (tY : Nat → Nat → Int64) (jY : Nat → Int64) (v1 : Int32) (K_1 : ((Nat → Nat → Int32)) → Option ((Nat → Nat → Int32))) : Nat → (Nat → Nat → Int32) → (Int32) → Option ((Nat → Nat → Int32))
  | 0, _, _ => none
  | k + 1, sY, v2 => (if (7 : Int32) ≤ v2 then K_1 sY else jn (fun (z : (Int32)) => match z with | y_191 => ck v2 7 (nv (upd (sY 31) (ix v2) y_191) (fun g_193 => f_X11_laysSteps_2 N iY tY jY v1 K_1 k (va_up sY 31 g_193) (v2 + 1)))) (fun K_188 => (if v2 = v1 then K_188 0 else K_188 1000000)))
def f_X11_laysSteps (N : Nat) (iY : Nat → Int32) (sY : Nat → Nat → Int32) (tY : Nat → Nat → Int64) (jY : Nat → Int64) (p1 : Int32) : Option ((Nat → Nat → Int32)) :=
  jn (fun (z : (Nat → Nat → Int32)) => match z with | sY_4 => f_X11_laysSteps_34 N iY tY jY N sY_4 0) (fun K_1 => f_X11_laysSteps_2 N iY tY jY p1 K_1 N sY 0)
set_option maxHeartbeats 4000000 in
set_option maxRecDepth 100000 in
theorem c_X11_laysSteps (l : Launch) (G : GT) (N : Nat) (uY : Nat → Nat) (iY : Nat → Int32) (sY : Nat → Nat → Int32) (tY : Nat → Nat → Int64) (jY : Nat → Int64) (p1 : Int32) {sY' : Nat → Nat → Int32} (hf : f_X11_laysSteps N iY sY tY jY p1 = some sY') : CV l G yX11_laysSteps cX11_laysSteps 6 3 [.ref (uY 0), .int p1] (gY G uY iY sY tY jY) (gY G uY iY sY' tY jY) := by
  refine CV.of (by decide) (Nat.le_of_ble_eq_true rfl) ?_
  intro p e s m args below meth c A X hA hP hD hS ls hl
  have hl : lv_has ls 6 [(0, .ref (uY 0)), (1, .int p1)] := hl
  generalize hQ : MQ below (QV G A (gY G uY iY sY' tY jY)) args s 0 0 A = QQ
  unfold f_X11_laysSteps at hf
  refine lv_iconst (v := 0) X.hx X.hb dX11_laysSteps_0 (by decide) ?_
  refine lv_istore_n (lv' := [(2, .int 0), (0, .ref (uY 0)), (1, .int p1)]) X.hx X.hb dX11_laysSteps_1 rfl hl (by decide) rfl (fun ls hl => ?_)
  obtain ⟨K_1, eK_3, hf⟩ := jn_i hf
  have hj_2 : ∀ (sY_4 : Nat → Nat → Int32) (H : Heap) (locs : List Loc) (ls : Array Slot), K_1 sY_4 = some sY' → va_P G.1 vwCl (gY G uY iY sY_4 tY jY) H → va_D A (gY G uY iY sY_4 tY jY) → va_S A s.heap H locs → lv_has ls 6 [(0, .ref (uY 0))] → W p l e (RM 3) s m args below meth c H locs 0 0 QQ (F0 m 32 ls []) := by
    intro sY_4 H locs ls hf hP hD hS hl
    rw [eK_3] at hf
    try dsimp only at hf
    refine lv_iconst (v := 0) X.hx X.hb dX11_laysSteps_32 (by decide) ?_
    refine lv_istore_n (lv' := [(2, .int 0), (0, .ref (uY 0))]) X.hx X.hb dX11_laysSteps_33 rfl hl (by decide) rfl (fun ls hl => ?_)
    have hlo_5 : ∀ (k : Nat) (sY_6 : Nat → Nat → Int32) (v2_7 : Int32) (H : Heap) (locs : List Loc) (ls : Array Slot), f_X11_laysSteps_34 N iY tY jY k sY_6 v2_7 = some sY' → va_P G.1 vwCl (gY G uY iY sY_6 tY jY) H → va_D A (gY G uY iY sY_6 tY jY) → va_S A s.heap H locs → lv_has ls 6 [(0, .ref (uY 0)), (2, .int v2_7)] → W p l e (RM 3) s m args below meth c H locs 0 0 QQ (F0 m 34 ls []) := by
      intro k
      induction k with
      | zero => intro sY_6 v2_7 H locs ls hf; exact absurd hf (by intro q; cases q)
      | succ k ih =>
        intro sY_6 v2_7 H locs ls hf hP hD hS hl
        unfold f_X11_laysSteps_34 at hf
        refine lv_iload_n X.hx X.hb dX11_laysSteps_34 rfl (lv_at hl 1 rfl) ?_
        refine lv_bipush (v := 7) X.hx X.hb dX11_laysSteps_35 (by decide) ?_
        refine lv_icmp_ge (tgt := 134) X.hx X.hb dX11_laysSteps_37 (by decide) (fun hc_8 => ?_) (fun hc_8 => ?_)
        · replace hf := if_t hf hc_8
          cases hf
          subst hQ
          exact r_vret X hP hD hS dX11_laysSteps_134
        · replace hf := if_f hf hc_8
          refine lv_iconst (v := 0) X.hx X.hb dX11_laysSteps_40 (by decide) ?_
          refine lv_istore_n (lv' := [(3, .int 0), (0, .ref (uY 0)), (2, .int v2_7)]) X.hx X.hb dX11_laysSteps_41 rfl hl (by decide) rfl (fun ls hl => ?_)
          obtain ⟨K_9, eK_11, hf⟩ := jn_i hf
          have hj_10 : ∀ (sY_12 : Nat → Nat → Int32) (H : Heap) (locs : List Loc) (ls : Array Slot), K_9 sY_12 = some sY' → va_P G.1 vwCl (gY G uY iY sY_12 tY jY) H → va_D A (gY G uY iY sY_12 tY jY) → va_S A s.heap H locs → lv_has ls 6 [(0, .ref (uY 0)), (2, .int v2_7)] → W p l e (RM 3) s m args below meth c H locs 0 0 QQ (F0 m 128 ls []) := by
            intro sY_12 H locs ls hf hP hD hS hl
            rw [eK_11] at hf
            try dsimp only at hf
            refine lv_iinc (v := (v2_7 + 1)) (lv' := [(2, .int (v2_7 + 1)), (0, .ref (uY 0))]) X.hx X.hb dX11_laysSteps_128 hl (k := 1) rfl rfl (by decide) rfl (fun ls hl => ?_)
            refine lv_goto (tgt := 34) X.hx X.hb dX11_laysSteps_131 (by decide) ?_
            exact ih _ _ _ _ _ hf hP hD hS (lv_sub hl [1, 0] rfl)
          have hlo_13 : ∀ (k : Nat) (sY_14 : Nat → Nat → Int32) (v3_15 : Int32) (H : Heap) (locs : List Loc) (ls : Array Slot), f_X11_laysSteps_42 N iY tY jY v2_7 K_9 k sY_14 v3_15 = some sY' → va_P G.1 vwCl (gY G uY iY sY_14 tY jY) H → va_D A (gY G uY iY sY_14 tY jY) → va_S A s.heap H locs → lv_has ls 6 [(0, .ref (uY 0)), (2, .int v2_7), (3, .int v3_15)] → W p l e (RM 3) s m args below meth c H locs 0 0 QQ (F0 m 42 ls []) := by
            intro k
            induction k with
            | zero => intro sY_14 v3_15 H locs ls hf; exact absurd hf (by intro q; cases q)
            | succ k ih =>
              intro sY_14 v3_15 H locs ls hf hP hD hS hl
              unfold f_X11_laysSteps_42 at hf
              refine lv_iload_n X.hx X.hb dX11_laysSteps_42 rfl (lv_at hl 2 rfl) ?_
              refine lv_aload_n X.hx X.hb dX11_laysSteps_43 rfl (lv_at hl 0 rfl) ?_
              refine gf_X11_33 X hP 0 rfl (v := .ref (uY 7)) rfl dX11_laysSteps_44 ?_
              refine lv_iconst (v := 0) X.hx X.hb dX11_laysSteps_47 (by decide) ?_
              refine r_iald X hP 2 (f := (sY_14 6)) rfl (vp_c rfl) dX11_laysSteps_48 ?_
              refine W.eq (g2 := F0 m 49 ls [.int ((sY_14 6) 0), .int v3_15]) rfl ?_
              refine lv_icmp_ge (tgt := 128) X.hx X.hb dX11_laysSteps_49 (by decide) (fun hc_16 => ?_) (fun hc_16 => ?_)
              · replace hf := if_t hf hc_16
                exact hj_10 _ _ _ _ hf hP hD hS (lv_sub hl [0, 1] rfl)
              · replace hf := if_f hf hc_16
                refine lv_aload_n X.hx X.hb dX11_laysSteps_52 rfl (lv_at hl 0 rfl) ?_
                refine lv_iload_n X.hx X.hb dX11_laysSteps_53 rfl (lv_at hl 2 rfl) ?_
                obtain ⟨r_17, hc_18, hf⟩ := bd_i hf
                refine r_wvi (As := [.int v3_15]) (rest := []) X sm_X11_278 (c_X11_mayBy l G N uY iY sY_14 tY jY v3_15 hc_18) hP hD hS hA 0 rfl rfl rfl hl.1 (lv_room (Nat.le_of_ble_eq_true rfl)) ⟨Nat.le_of_ble_eq_true rfl, Nat.le_of_ble_eq_true rfl⟩ ⟨Nat.zero_le _, Nat.zero_le _⟩ dX11_laysSteps_54 (fun H locs hP hD hS => ?_)
                refine lv_istore (lv' := [(4, .int r_17), (0, .ref (uY 0)), (2, .int v2_7), (3, .int v3_15)]) X.hx X.hb dX11_laysSteps_57 hl (by decide) rfl (fun ls hl => ?_)
                refine lv_iconst (v := 0) X.hx X.hb dX11_laysSteps_59 (by decide) ?_
                refine lv_istore (lv' := [(5, .int 0), (4, .int r_17), (0, .ref (uY 0)), (2, .int v2_7), (3, .int v3_15)]) X.hx X.hb dX11_laysSteps_60 hl (by decide) rfl (fun ls hl => ?_)
                obtain ⟨K_19, eK_21, hf⟩ := jn_i hf
                have hj_20 : ∀ (sY_22 : Nat → Nat → Int32) (H : Heap) (locs : List Loc) (ls : Array Slot), K_19 sY_22 = some sY' → va_P G.1 vwCl (gY G uY iY sY_22 tY jY) H → va_D A (gY G uY iY sY_22 tY jY) → va_S A s.heap H locs → lv_has ls 6 [(0, .ref (uY 0)), (2, .int v2_7), (3, .int v3_15)] → W p l e (RM 3) s m args below meth c H locs 0 0 QQ (F0 m 122 ls []) := by
                  intro sY_22 H locs ls hf hP hD hS hl
                  rw [eK_21] at hf
                  try dsimp only at hf
                  refine lv_iinc (v := (v3_15 + 1)) (lv' := [(3, .int (v3_15 + 1)), (0, .ref (uY 0)), (2, .int v2_7)]) X.hx X.hb dX11_laysSteps_122 hl (k := 2) rfl rfl (by decide) rfl (fun ls hl => ?_)
                  refine lv_goto (tgt := 42) X.hx X.hb dX11_laysSteps_125 (by decide) ?_
                  exact ih _ _ _ _ _ hf hP hD hS (lv_sub hl [1, 2, 0] rfl)
                have hlo_23 : ∀ (k : Nat) (sY_24 : Nat → Nat → Int32) (v5_25 : Int32) (H : Heap) (locs : List Loc) (ls : Array Slot), f_X11_laysSteps_62 N iY tY jY v2_7 v3_15 r_17 K_19 K_9 k sY_24 v5_25 = some sY' → va_P G.1 vwCl (gY G uY iY sY_24 tY jY) H → va_D A (gY G uY iY sY_24 tY jY) → va_S A s.heap H locs → lv_has ls 6 [(0, .ref (uY 0)), (2, .int v2_7), (3, .int v3_15), (4, .int r_17), (5, .int v5_25)] → W p l e (RM 3) s m args below meth c H locs 0 0 QQ (F0 m 62 ls []) := by
                  intro k
                  induction k with
                  | zero => intro sY_24 v5_25 H locs ls hf; exact absurd hf (by intro q; cases q)
                  | succ k ih =>
                    intro sY_24 v5_25 H locs ls hf hP hD hS hl
                    unfold f_X11_laysSteps_62 at hf
                    refine lv_iload X.hx X.hb dX11_laysSteps_62 (lv_at hl 4 rfl) ?_
                    refine lv_aload_n X.hx X.hb dX11_laysSteps_64 rfl (lv_at hl 0 rfl) ?_
                    refine gf_X11_33 X hP 0 rfl (v := .ref (uY 7)) rfl dX11_laysSteps_65 ?_
                    refine lv_iconst (v := 0) X.hx X.hb dX11_laysSteps_68 (by decide) ?_
                    refine r_iald X hP 2 (f := (sY_24 6)) rfl (vp_c rfl) dX11_laysSteps_69 ?_
                    refine W.eq (g2 := F0 m 70 ls [.int ((sY_24 6) 0), .int v5_25]) rfl ?_
                    refine lv_icmp_ge (tgt := 122) X.hx X.hb dX11_laysSteps_70 (by decide) (fun hc_26 => ?_) (fun hc_26 => ?_)
                    · replace hf := if_t hf hc_26
                      exact hj_20 _ _ _ _ hf hP hD hS (lv_sub hl [0, 1, 2] rfl)
                    · replace hf := if_f hf hc_26
                      refine lv_iload X.hx X.hb dX11_laysSteps_73 (lv_at hl 3 rfl) ?_
                      refine lv_iload X.hx X.hb dX11_laysSteps_75 (lv_at hl 4 rfl) ?_
                      obtain ⟨r_27, hc_28, hf⟩ := bd_i hf
                      refine r_cs0 (As := [.int r_17, .int v5_25]) (rest := []) X sm_X11_214 (c_X11_bitOf l G N r_17 v5_25 hc_28) hP hD hS hA rfl hl.1 (lv_room (Nat.le_of_ble_eq_true rfl)) ⟨Nat.le_of_ble_eq_true rfl, Nat.le_of_ble_eq_true rfl⟩ ⟨Nat.zero_le _, Nat.zero_le _⟩ dX11_laysSteps_77 (fun H locs hP hD hS => ?_)
                      obtain ⟨K_29, eK_31, hf⟩ := jn_i hf
                      have hj_30 : ∀ (sY_32 : Nat → Nat → Int32) (H : Heap) (locs : List Loc) (ls : Array Slot), K_29 sY_32 = some sY' → va_P G.1 vwCl (gY G uY iY sY_32 tY jY) H → va_D A (gY G uY iY sY_32 tY jY) → va_S A s.heap H locs → lv_has ls 6 [(0, .ref (uY 0)), (2, .int v2_7), (3, .int v3_15), (4, .int r_17), (5, .int v5_25)] → W p l e (RM 3) s m args below meth c H locs 0 0 QQ (F0 m 116 ls []) := by
                        intro sY_32 H locs ls hf hP hD hS hl
                        rw [eK_31] at hf
                        try dsimp only at hf
                        refine lv_iinc (v := (v5_25 + 1)) (lv' := [(5, .int (v5_25 + 1)), (0, .ref (uY 0)), (2, .int v2_7), (3, .int v3_15), (4, .int r_17)]) X.hx X.hb dX11_laysSteps_116 hl (k := 4) rfl rfl (by decide) rfl (fun ls hl => ?_)
                        refine lv_goto (tgt := 62) X.hx X.hb dX11_laysSteps_119 (by decide) ?_
                        exact ih _ _ _ _ _ hf hP hD hS (lv_sub hl [1, 2, 3, 4, 0] rfl)
                      refine lv_if_eq (tgt := 116) X.hx X.hb dX11_laysSteps_80 (by decide) (fun hc_33 => ?_) (fun hc_33 => ?_)
                      · replace hf := if_t hf hc_33
                        exact hj_30 _ _ _ _ hf hP hD hS (lv_sub hl [0, 1, 2, 3, 4] rfl)
                      · replace hf := if_f hf hc_33
                        refine lv_aload_n X.hx X.hb dX11_laysSteps_83 rfl (lv_at hl 0 rfl) ?_
                        refine gf_X11_65 X hP 0 rfl (v := .ref (uY 32)) rfl dX11_laysSteps_84 ?_
                        refine lv_iload X.hx X.hb dX11_laysSteps_87 (lv_at hl 4 rfl) ?_
                        obtain ⟨hi_34, hf⟩ := ck_i hf
                        refine r_iald X hP 12 (f := (sY_24 31)) rfl hi_34 dX11_laysSteps_89 ?_
                        refine lv_iconst (v := 1) X.hx X.hb dX11_laysSteps_90 (by decide) ?_
                        refine lv_iadd X.hx X.hb dX11_laysSteps_91 ?_
                        refine lv_aload_n X.hx X.hb dX11_laysSteps_92 rfl (lv_at hl 0 rfl) ?_
                        refine gf_X11_65 X hP 0 rfl (v := .ref (uY 32)) rfl dX11_laysSteps_93 ?_
                        refine lv_iload_n X.hx X.hb dX11_laysSteps_96 rfl (lv_at hl 2 rfl) ?_
                        obtain ⟨hi_35, hf⟩ := ck_i hf
                        refine r_iald X hP 12 (f := (sY_24 31)) rfl hi_35 dX11_laysSteps_97 ?_
                        refine lv_icmp_ge (tgt := 116) X.hx X.hb dX11_laysSteps_98 (by decide) (fun hc_36 => ?_) (fun hc_36 => ?_)
                        · replace hf := if_t hf hc_36
                          exact hj_30 _ _ _ _ hf hP hD hS (lv_sub hl [0, 1, 2, 3, 4] rfl)
                        · replace hf := if_f hf hc_36
                          refine lv_aload_n X.hx X.hb dX11_laysSteps_101 rfl (lv_at hl 0 rfl) ?_
                          refine gf_X11_65 X hP 0 rfl (v := .ref (uY 32)) rfl dX11_laysSteps_102 ?_
                          refine lv_iload_n X.hx X.hb dX11_laysSteps_105 rfl (lv_at hl 2 rfl) ?_
                          refine lv_aload_n X.hx X.hb dX11_laysSteps_106 rfl (lv_at hl 0 rfl) ?_
                          refine gf_X11_65 X hP 0 rfl (v := .ref (uY 32)) rfl dX11_laysSteps_107 ?_
                          refine lv_iload X.hx X.hb dX11_laysSteps_110 (lv_at hl 4 rfl) ?_
                          obtain ⟨hi_37, hf⟩ := ck_i hf
                          refine r_iald X hP 12 (f := (sY_24 31)) rfl hi_37 dX11_laysSteps_112 ?_
                          refine lv_iconst (v := 1) X.hx X.hb dX11_laysSteps_113 (by decide) ?_
                          refine lv_iadd X.hx X.hb dX11_laysSteps_114 ?_
                          obtain ⟨hi_38, hf⟩ := ck_i hf
                          obtain ⟨g_39, eg_39, hf⟩ := nv_i hf
                          refine r_iast X hP hD hS 12 (f := (sY_24 31)) rfl hi_38 (wo := (gY G uY iY (va_up sY_24 31 g_39) tY jY)) (by subst eg_39; rfl) dX11_laysSteps_115 (fun H locs hP hD hS => ?_)
                          exact hj_30 _ _ _ _ hf hP hD hS (lv_sub hl [0, 1, 2, 3, 4] rfl)
                exact hlo_23 N _ _ _ _ _ hf hP hD hS (lv_sub hl [2, 3, 4, 1, 0] rfl)
          exact hlo_13 N _ _ _ _ _ hf hP hD hS (lv_sub hl [1, 2, 0] rfl)
    exact hlo_5 N _ _ _ _ _ hf hP hD hS (lv_sub hl [1, 0] rfl)
  have hlo_176 : ∀ (k : Nat) (sY_177 : Nat → Nat → Int32) (v2_178 : Int32) (H : Heap) (locs : List Loc) (ls : Array Slot), f_X11_laysSteps_2 N iY tY jY p1 K_1 k sY_177 v2_178 = some sY' → va_P G.1 vwCl (gY G uY iY sY_177 tY jY) H → va_D A (gY G uY iY sY_177 tY jY) → va_S A s.heap H locs → lv_has ls 6 [(0, .ref (uY 0)), (1, .int p1), (2, .int v2_178)] → W p l e (RM 3) s m args below meth c H locs 0 0 QQ (F0 m 2 ls []) := by
    intro k
    induction k with
    | zero => intro sY_177 v2_178 H locs ls hf; exact absurd hf (by intro q; cases q)
    | succ k ih =>
      intro sY_177 v2_178 H locs ls hf hP hD hS hl
      unfold f_X11_laysSteps_2 at hf
      refine lv_iload_n X.hx X.hb dX11_laysSteps_2 rfl (lv_at hl 2 rfl) ?_
      refine lv_bipush (v := 7) X.hx X.hb dX11_laysSteps_3 (by decide) ?_
      refine lv_icmp_ge (tgt := 32) X.hx X.hb dX11_laysSteps_5 (by decide) (fun hc_179 => ?_) (fun hc_179 => ?_)
      · replace hf := if_t hf hc_179
        exact hj_2 _ _ _ _ hf hP hD hS (lv_sub hl [0] rfl)
      · replace hf := if_f hf hc_179
        refine lv_aload_n X.hx X.hb dX11_laysSteps_8 rfl (lv_at hl 0 rfl) ?_
        refine gf_X11_65 X hP 0 rfl (v := .ref (uY 32)) rfl dX11_laysSteps_9 ?_
        refine lv_iload_n X.hx X.hb dX11_laysSteps_12 rfl (lv_at hl 2 rfl) ?_
        refine lv_iload_n X.hx X.hb dX11_laysSteps_13 rfl (lv_at hl 2 rfl) ?_
        refine lv_iload_n X.hx X.hb dX11_laysSteps_14 rfl (lv_at hl 1 rfl) ?_
        obtain ⟨K_180, eK_182, hf⟩ := jn_i hf
        have hj_181 : ∀ (y_183 : Int32) (H : Heap) (locs : List Loc) (ls : Array Slot), K_180 y_183 = some sY' → va_P G.1 vwCl (gY G uY iY sY_177 tY jY) H → va_D A (gY G uY iY sY_177 tY jY) → va_S A s.heap H locs → lv_has ls 6 [(0, .ref (uY 0)), (1, .int p1), (2, .int v2_178)] → W p l e (RM 3) s m args below meth c H locs 0 0 QQ (F0 m 25 ls [.int y_183, .int v2_178, .ref (uY 32)]) := by
          intro y_183 H locs ls hf hP hD hS hl
          rw [eK_182] at hf
          try dsimp only at hf
          obtain ⟨hi_184, hf⟩ := ck_i hf
          obtain ⟨g_185, eg_185, hf⟩ := nv_i hf
          refine r_iast X hP hD hS 12 (f := (sY_177 31)) rfl hi_184 (wo := (gY G uY iY (va_up sY_177 31 g_185) tY jY)) (by subst eg_185; rfl) dX11_laysSteps_25 (fun H locs hP hD hS => ?_)
          refine lv_iinc (v := (v2_178 + 1)) (lv' := [(2, .int (v2_178 + 1)), (0, .ref (uY 0)), (1, .int p1)]) X.hx X.hb dX11_laysSteps_26 hl (k := 2) rfl rfl (by decide) rfl (fun ls hl => ?_)
          refine lv_goto (tgt := 2) X.hx X.hb dX11_laysSteps_29 (by decide) ?_
          exact ih _ _ _ _ _ hf hP hD hS (lv_sub hl [1, 2, 0] rfl)
        refine lv_icmp_ne (tgt := 22) X.hx X.hb dX11_laysSteps_15 (by decide) (fun hc_186 => ?_) (fun hc_186 => ?_)
        · replace hf := if_f hf hc_186
          refine lv_ldcw (v := 1000000) X.hx X.hb X.hown (X.hts _ tw_1718) dX11_laysSteps_22 ?_
          exact hj_181 _ _ _ _ hf hP hD hS (lv_sub hl [0, 1, 2] rfl)
        · replace hf := if_t hf hc_186
          refine lv_iconst (v := 0) X.hx X.hb dX11_laysSteps_18 (by decide) ?_
          refine lv_goto (tgt := 25) X.hx X.hb dX11_laysSteps_19 (by decide) ?_
          exact hj_181 _ _ _ _ hf hP hD hS (lv_sub hl [0, 1, 2] rfl)
  exact hlo_176 N _ _ _ _ _ hf hP hD hS (lv_sub hl [1, 2, 0] rfl)

def f_X11_chain_76 (N : Nat) (iY : Nat → Int32) (sY : Nat → Nat → Int32) (tY : Nat → Nat → Int64) (jY : Nat → Int64) (v3 : Int32) (v4 : Int32) (K_19 : ((Int32)) → Option (Int32 × (Nat → Int32) × (Nat → Nat → Int32))) : Nat → (Int32) → Option (Int32 × (Nat → Int32) × (Nat → Nat → Int32))
  | 0, _ => none
  | k + 1, v5 => bd (f_X11_mayBy N iY sY tY jY v3) (fun r_37 => bd (f_X11_bitOf N r_37 v5) (fun r_39 => jn (fun (z : Unit) => match z with | () => f_X11_chain_76 N iY sY tY jY v3 v4 K_19 k (v5 + 1)) (fun K_41 => (if r_39 = 0 then K_41 () else ck v5 7 ((if ((sY 31) (ix v5)) = ((iY 33) - v4) then K_19 v5 else K_41 ()))))))
def f_X11_chain_64 (N : Nat) (iY : Nat → Int32) (tY : Nat → Nat → Int64) (jY : Nat → Int64) : Nat → (Nat → Nat → Int32) → (Int32) → (Int32) → Option (Int32 × (Nat → Int32) × (Nat → Nat → Int32))
  | 0, _, _, _ => none
  | k + 1, sY, v3, v4 => (if (iY 33) ≤ v4 then some ((iY 33), iY, sY) else jn (fun (z : (Int32)) => match z with | x5_51 => ck v4 7 (nv (upd (sY 32) (ix v4) x5_51) (fun g_53 => f_X11_chain_64 N iY tY jY k (va_up sY 32 g_53) x5_51 (v4 + 1)))) (fun K_48 => f_X11_chain_76 N iY sY tY jY v3 v4 K_48 N 0))
def f_X11_chain (N : Nat) (iY : Nat → Int32) (sY : Nat → Nat → Int32) (tY : Nat → Nat → Int64) (jY : Nat → Int64) (p1 : Int32) (p2 : Int32) : Option (Int32 × (Nat → Int32) × (Nat → Nat → Int32)) :=
  bd (f_X11_isPerson N (va_up iY 0 0) sY tY jY p1) (fun r_1 => (if r_1 = 0 then some ((-1), (va_up iY 0 0), sY) else bd (f_X11_isPerson N (va_up iY 0 0) sY tY jY p2) (fun r_4 => (if r_4 = 0 then some ((-1), (va_up iY 0 0), sY) else (if p1 = p2 then some ((-1), (va_up iY 0 0), sY) else bd (f_X11_laysSteps N (va_up iY 0 0) sY tY jY p2) (fun sY_8 => ck p1 7 ((if ((sY_8 31) (ix p1)) < 1000000 then ck p1 7 (nv (((sY_8 31) (ix p1)) - 1) (fun n_13 => f_X11_chain_64 N (va_up (va_up iY 0 0) 33 n_13) tY jY N sY_8 p1 0)) else some ((-1), (va_up iY 0 0), sY_8)))))))))
set_option maxHeartbeats 4000000 in
set_option maxRecDepth 100000 in
theorem c_X11_chain (l : Launch) (G : GT) (N : Nat) (uY : Nat → Nat) (iY : Nat → Int32) (sY : Nat → Nat → Int32) (tY : Nat → Nat → Int64) (jY : Nat → Int64) (p1 : Int32) (p2 : Int32) {r : Int32} {iY' : Nat → Int32} {sY' : Nat → Nat → Int32} (hf : f_X11_chain N iY sY tY jY p1 p2 = some (r, iY', sY')) : CI l G yX11_chain cX11_chain 6 .int 4 [.ref (uY 0), .int p1, .int p2] (gY G uY iY sY tY jY) r (gY G uY iY' sY' tY jY) := by
  refine CI.of (by decide) (Nat.le_of_ble_eq_true rfl) ?_
  intro p e s m args below meth c A X hA hP hD hS ls hl
  have hl : lv_has ls 6 [(0, .ref (uY 0)), (1, .int p1), (2, .int p2)] := hl
  generalize hQ : MQ below (QI G A r (gY G uY iY' sY' tY jY)) args s 0 0 A = QQ
  unfold f_X11_chain at hf
  refine lv_aload_n X.hx X.hb dX11_chain_0 rfl (lv_at hl 0 rfl) ?_
  refine lv_iconst (v := 0) X.hx X.hb dX11_chain_1 (by decide) ?_
  refine pf_X11_1 X hP hD hS 0 rfl rfl rfl (Nat.le_of_ble_eq_true rfl) (wo := (gY G uY (va_up iY 0 0) sY tY jY)) rfl dX11_chain_2 (fun H locs hP hD hS => ?_)
  refine lv_aload_n X.hx X.hb dX11_chain_5 rfl (lv_at hl 0 rfl) ?_
  refine lv_iload_n X.hx X.hb dX11_chain_6 rfl (lv_at hl 1 rfl) ?_
  obtain ⟨r_1, hc_2, hf⟩ := bd_i hf
  refine r_wvi (As := [.int p1]) (rest := []) X sm_X11_272 (c_X11_isPerson l G N uY (va_up iY 0 0) sY tY jY p1 hc_2) hP hD hS hA 0 rfl rfl rfl hl.1 (lv_room (Nat.le_of_ble_eq_true rfl)) ⟨Nat.le_of_ble_eq_true rfl, Nat.le_of_ble_eq_true rfl⟩ ⟨Nat.zero_le _, Nat.zero_le _⟩ dX11_chain_7 (fun H locs hP hD hS => ?_)
  refine lv_if_eq (tgt := 26) X.hx X.hb dX11_chain_10 (by decide) (fun hc_3 => ?_) (fun hc_3 => ?_)
  · replace hf := if_t hf hc_3
    refine lv_iconst (v := (-1)) X.hx X.hb dX11_chain_26 (by decide) ?_
    cases hf
    subst hQ
    exact r_iret X hP hD hS dX11_chain_27
  · replace hf := if_f hf hc_3
    refine lv_aload_n X.hx X.hb dX11_chain_13 rfl (lv_at hl 0 rfl) ?_
    refine lv_iload_n X.hx X.hb dX11_chain_14 rfl (lv_at hl 2 rfl) ?_
    obtain ⟨r_4, hc_5, hf⟩ := bd_i hf
    refine r_wvi (As := [.int p2]) (rest := []) X sm_X11_272 (c_X11_isPerson l G N uY (va_up iY 0 0) sY tY jY p2 hc_5) hP hD hS hA 0 rfl rfl rfl hl.1 (lv_room (Nat.le_of_ble_eq_true rfl)) ⟨Nat.le_of_ble_eq_true rfl, Nat.le_of_ble_eq_true rfl⟩ ⟨Nat.zero_le _, Nat.zero_le _⟩ dX11_chain_15 (fun H locs hP hD hS => ?_)
    refine lv_if_eq (tgt := 26) X.hx X.hb dX11_chain_18 (by decide) (fun hc_6 => ?_) (fun hc_6 => ?_)
    · replace hf := if_t hf hc_6
      refine lv_iconst (v := (-1)) X.hx X.hb dX11_chain_26 (by decide) ?_
      cases hf
      subst hQ
      exact r_iret X hP hD hS dX11_chain_27
    · replace hf := if_f hf hc_6
      refine lv_iload_n X.hx X.hb dX11_chain_21 rfl (lv_at hl 1 rfl) ?_
      refine lv_iload_n X.hx X.hb dX11_chain_22 rfl (lv_at hl 2 rfl) ?_
      refine lv_icmp_ne (tgt := 28) X.hx X.hb dX11_chain_23 (by decide) (fun hc_7 => ?_) (fun hc_7 => ?_)
      · replace hf := if_f hf hc_7
        refine lv_aload_n X.hx X.hb dX11_chain_28 rfl (lv_at hl 0 rfl) ?_
        refine lv_iload_n X.hx X.hb dX11_chain_29 rfl (lv_at hl 2 rfl) ?_
        obtain ⟨sY_8, hc_9, hf⟩ := bd_i hf
        refine r_wvv (As := [.int p2]) (rest := []) X sm_X11_367 (c_X11_laysSteps l G N uY (va_up iY 0 0) sY tY jY p2 hc_9) hP hD hS hA 0 rfl rfl rfl hl.1 (lv_room (Nat.le_of_ble_eq_true rfl)) ⟨Nat.le_of_ble_eq_true rfl, Nat.le_of_ble_eq_true rfl⟩ ⟨Nat.zero_le _, Nat.zero_le _⟩ dX11_chain_30 (fun H locs hP hD hS => ?_)
        refine lv_aload_n X.hx X.hb dX11_chain_33 rfl (lv_at hl 0 rfl) ?_
        refine gf_X11_65 X hP 0 rfl (v := .ref (uY 32)) rfl dX11_chain_34 ?_
        refine lv_iload_n X.hx X.hb dX11_chain_37 rfl (lv_at hl 1 rfl) ?_
        obtain ⟨hi_10, hf⟩ := ck_i hf
        refine r_iald X hP 12 (f := (sY_8 31)) rfl hi_10 dX11_chain_38 ?_
        refine lv_ldcw (v := 1000000) X.hx X.hb X.hown (X.hts _ tw_1718) dX11_chain_39 ?_
        refine lv_icmp_lt (tgt := 47) X.hx X.hb dX11_chain_42 (by decide) (fun hc_11 => ?_) (fun hc_11 => ?_)
        · replace hf := if_t hf hc_11
          refine lv_aload_n X.hx X.hb dX11_chain_47 rfl (lv_at hl 0 rfl) ?_
          refine lv_aload_n X.hx X.hb dX11_chain_48 rfl (lv_at hl 0 rfl) ?_
          refine gf_X11_65 X hP 0 rfl (v := .ref (uY 32)) rfl dX11_chain_49 ?_
          refine lv_iload_n X.hx X.hb dX11_chain_52 rfl (lv_at hl 1 rfl) ?_
          obtain ⟨hi_12, hf⟩ := ck_i hf
          refine r_iald X hP 12 (f := (sY_8 31)) rfl hi_12 dX11_chain_53 ?_
          refine lv_iconst (v := 1) X.hx X.hb dX11_chain_54 (by decide) ?_
          refine lv_isub X.hx X.hb dX11_chain_55 ?_
          obtain ⟨n_13, en_13, hf⟩ := nv_i hf
          refine r_nm en_13 ?_
          refine pf_X11_71 X hP hD hS 0 rfl rfl rfl (Nat.le_of_ble_eq_true rfl) (wo := (gY G uY (va_up (va_up iY 0 0) 33 n_13) sY_8 tY jY)) rfl dX11_chain_56 (fun H locs hP hD hS => ?_)
          refine lv_iload_n X.hx X.hb dX11_chain_59 rfl (lv_at hl 1 rfl) ?_
          refine lv_istore_n (lv' := [(3, .int p1), (0, .ref (uY 0)), (1, .int p1), (2, .int p2)]) X.hx X.hb dX11_chain_60 rfl hl (by decide) rfl (fun ls hl => ?_)
          refine lv_iconst (v := 0) X.hx X.hb dX11_chain_61 (by decide) ?_
          refine lv_istore (lv' := [(4, .int 0), (3, .int p1), (0, .ref (uY 0)), (1, .int p1), (2, .int p2)]) X.hx X.hb dX11_chain_62 hl (by decide) rfl (fun ls hl => ?_)
          have hlo_14 : ∀ (k : Nat) (sY_15 : Nat → Nat → Int32) (v3_16 : Int32) (v4_17 : Int32) (H : Heap) (locs : List Loc) (ls : Array Slot), f_X11_chain_64 N (va_up (va_up iY 0 0) 33 n_13) tY jY k sY_15 v3_16 v4_17 = some (r, iY', sY') → va_P G.1 vwCl (gY G uY (va_up (va_up iY 0 0) 33 n_13) sY_15 tY jY) H → va_D A (gY G uY (va_up (va_up iY 0 0) 33 n_13) sY_15 tY jY) → va_S A s.heap H locs → lv_has ls 6 [(0, .ref (uY 0)), (3, .int v3_16), (4, .int v4_17)] → W p l e (RM 4) s m args below meth c H locs 0 0 QQ (F0 m 64 ls []) := by
            intro k
            induction k with
            | zero => intro sY_15 v3_16 v4_17 H locs ls hf; exact absurd hf (by intro q; cases q)
            | succ k ih =>
              intro sY_15 v3_16 v4_17 H locs ls hf hP hD hS hl
              unfold f_X11_chain_64 at hf
              refine lv_iload X.hx X.hb dX11_chain_64 (lv_at hl 2 rfl) ?_
              refine lv_aload_n X.hx X.hb dX11_chain_66 rfl (lv_at hl 0 rfl) ?_
              refine gf_X11_71 X hP 0 rfl (v := .int n_13) rfl dX11_chain_67 ?_
              refine lv_icmp_ge (tgt := 130) X.hx X.hb dX11_chain_70 (by decide) (fun hc_18 => ?_) (fun hc_18 => ?_)
              · replace hf := if_t hf hc_18
                refine lv_aload_n X.hx X.hb dX11_chain_130 rfl (lv_at hl 0 rfl) ?_
                refine gf_X11_71 X hP 0 rfl (v := .int n_13) rfl dX11_chain_131 ?_
                cases hf
                subst hQ
                exact r_iret X hP hD hS dX11_chain_134
              · replace hf := if_f hf hc_18
                refine lv_iconst (v := 0) X.hx X.hb dX11_chain_73 (by decide) ?_
                refine lv_istore (lv' := [(5, .int 0), (0, .ref (uY 0)), (3, .int v3_16), (4, .int v4_17)]) X.hx X.hb dX11_chain_74 hl (by decide) rfl (fun ls hl => ?_)
                obtain ⟨K_19, eK_21, hf⟩ := jn_i hf
                have hj_20 : ∀ (x5_22 : Int32) (H : Heap) (locs : List Loc) (ls : Array Slot), K_19 x5_22 = some (r, iY', sY') → va_P G.1 vwCl (gY G uY (va_up (va_up iY 0 0) 33 n_13) sY_15 tY jY) H → va_D A (gY G uY (va_up (va_up iY 0 0) 33 n_13) sY_15 tY jY) → va_S A s.heap H locs → lv_has ls 6 [(0, .ref (uY 0)), (4, .int v4_17), (5, .int x5_22)] → W p l e (RM 4) s m args below meth c H locs 0 0 QQ (F0 m 112 ls []) := by
                  intro x5_22 H locs ls hf hP hD hS hl
                  rw [eK_21] at hf
                  try dsimp only at hf
                  refine lv_aload_n X.hx X.hb dX11_chain_112 rfl (lv_at hl 0 rfl) ?_
                  refine gf_X11_68 X hP 0 rfl (v := .ref (uY 33)) rfl dX11_chain_113 ?_
                  refine lv_iload X.hx X.hb dX11_chain_116 (lv_at hl 1 rfl) ?_
                  refine lv_iload X.hx X.hb dX11_chain_118 (lv_at hl 2 rfl) ?_
                  obtain ⟨hi_23, hf⟩ := ck_i hf
                  obtain ⟨g_24, eg_24, hf⟩ := nv_i hf
                  refine r_iast X hP hD hS 13 (f := (sY_15 32)) rfl hi_23 (wo := (gY G uY (va_up (va_up iY 0 0) 33 n_13) (va_up sY_15 32 g_24) tY jY)) (by subst eg_24; rfl) dX11_chain_120 (fun H locs hP hD hS => ?_)
                  refine lv_iload X.hx X.hb dX11_chain_121 (lv_at hl 2 rfl) ?_
                  refine lv_istore_n (lv' := [(3, .int x5_22), (0, .ref (uY 0)), (4, .int v4_17), (5, .int x5_22)]) X.hx X.hb dX11_chain_123 rfl hl (by decide) rfl (fun ls hl => ?_)
                  refine lv_iinc (v := (v4_17 + 1)) (lv' := [(4, .int (v4_17 + 1)), (3, .int x5_22), (0, .ref (uY 0)), (5, .int x5_22)]) X.hx X.hb dX11_chain_124 hl (k := 2) rfl rfl (by decide) rfl (fun ls hl => ?_)
                  refine lv_goto (tgt := 64) X.hx X.hb dX11_chain_127 (by decide) ?_
                  exact ih _ _ _ _ _ _ hf hP hD hS (lv_sub hl [2, 1, 0] rfl)
                have hlo_25 : ∀ (k : Nat) (v5_26 : Int32) (H : Heap) (locs : List Loc) (ls : Array Slot), f_X11_chain_76 N (va_up (va_up iY 0 0) 33 n_13) sY_15 tY jY v3_16 v4_17 K_19 k v5_26 = some (r, iY', sY') → va_P G.1 vwCl (gY G uY (va_up (va_up iY 0 0) 33 n_13) sY_15 tY jY) H → va_D A (gY G uY (va_up (va_up iY 0 0) 33 n_13) sY_15 tY jY) → va_S A s.heap H locs → lv_has ls 6 [(0, .ref (uY 0)), (3, .int v3_16), (4, .int v4_17), (5, .int v5_26)] → W p l e (RM 4) s m args below meth c H locs 0 0 QQ (F0 m 76 ls []) := by
                  intro k
                  induction k with
                  | zero => intro v5_26 H locs ls hf; exact absurd hf (by intro q; cases q)
                  | succ k ih =>
                    intro v5_26 H locs ls hf hP hD hS hl
                    unfold f_X11_chain_76 at hf
                    refine lv_aload_n X.hx X.hb dX11_chain_76 rfl (lv_at hl 0 rfl) ?_
                    refine lv_iload_n X.hx X.hb dX11_chain_77 rfl (lv_at hl 1 rfl) ?_
                    obtain ⟨r_27, hc_28, hf⟩ := bd_i hf
                    refine r_wvi (As := [.int v3_16]) (rest := []) X sm_X11_278 (c_X11_mayBy l G N uY (va_up (va_up iY 0 0) 33 n_13) sY_15 tY jY v3_16 hc_28) hP hD hS hA 0 rfl rfl rfl hl.1 (lv_room (Nat.le_of_ble_eq_true rfl)) ⟨Nat.le_of_ble_eq_true rfl, Nat.le_of_ble_eq_true rfl⟩ ⟨Nat.zero_le _, Nat.zero_le _⟩ dX11_chain_78 (fun H locs hP hD hS => ?_)
                    refine lv_iload X.hx X.hb dX11_chain_81 (lv_at hl 3 rfl) ?_
                    obtain ⟨r_29, hc_30, hf⟩ := bd_i hf
                    refine r_cs0 (As := [.int r_27, .int v5_26]) (rest := []) X sm_X11_214 (c_X11_bitOf l G N r_27 v5_26 hc_30) hP hD hS hA rfl hl.1 (lv_room (Nat.le_of_ble_eq_true rfl)) ⟨Nat.le_of_ble_eq_true rfl, Nat.le_of_ble_eq_true rfl⟩ ⟨Nat.zero_le _, Nat.zero_le _⟩ dX11_chain_83 (fun H locs hP hD hS => ?_)
                    obtain ⟨K_31, eK_33, hf⟩ := jn_i hf
                    have hj_32 : ∀ (H : Heap) (locs : List Loc) (ls : Array Slot), K_31 () = some (r, iY', sY') → va_P G.1 vwCl (gY G uY (va_up (va_up iY 0 0) 33 n_13) sY_15 tY jY) H → va_D A (gY G uY (va_up (va_up iY 0 0) 33 n_13) sY_15 tY jY) → va_S A s.heap H locs → lv_has ls 6 [(0, .ref (uY 0)), (3, .int v3_16), (4, .int v4_17), (5, .int v5_26)] → W p l e (RM 4) s m args below meth c H locs 0 0 QQ (F0 m 106 ls []) := by
                      intro  H locs ls hf hP hD hS hl
                      rw [eK_33] at hf
                      try dsimp only at hf
                      refine lv_iinc (v := (v5_26 + 1)) (lv' := [(5, .int (v5_26 + 1)), (0, .ref (uY 0)), (3, .int v3_16), (4, .int v4_17)]) X.hx X.hb dX11_chain_106 hl (k := 3) rfl rfl (by decide) rfl (fun ls hl => ?_)
                      refine lv_goto (tgt := 76) X.hx X.hb dX11_chain_109 (by decide) ?_
                      exact ih _ _ _ _ hf hP hD hS (lv_sub hl [1, 2, 3, 0] rfl)
                    refine lv_if_eq (tgt := 106) X.hx X.hb dX11_chain_86 (by decide) (fun hc_34 => ?_) (fun hc_34 => ?_)
                    · replace hf := if_t hf hc_34
                      exact hj_32 _ _ _ hf hP hD hS (lv_sub hl [0, 1, 2, 3] rfl)
                    · replace hf := if_f hf hc_34
                      refine lv_aload_n X.hx X.hb dX11_chain_89 rfl (lv_at hl 0 rfl) ?_
                      refine gf_X11_65 X hP 0 rfl (v := .ref (uY 32)) rfl dX11_chain_90 ?_
                      refine lv_iload X.hx X.hb dX11_chain_93 (lv_at hl 3 rfl) ?_
                      obtain ⟨hi_35, hf⟩ := ck_i hf
                      refine r_iald X hP 12 (f := (sY_15 31)) rfl hi_35 dX11_chain_95 ?_
                      refine lv_aload_n X.hx X.hb dX11_chain_96 rfl (lv_at hl 0 rfl) ?_
                      refine gf_X11_71 X hP 0 rfl (v := .int n_13) rfl dX11_chain_97 ?_
                      refine lv_iload X.hx X.hb dX11_chain_100 (lv_at hl 2 rfl) ?_
                      refine lv_isub X.hx X.hb dX11_chain_102 ?_
                      refine lv_icmp_eq (tgt := 112) X.hx X.hb dX11_chain_103 (by decide) (fun hc_36 => ?_) (fun hc_36 => ?_)
                      · replace hf := if_t hf hc_36
                        exact hj_20 _ _ _ _ hf hP hD hS (lv_sub hl [0, 2, 3] rfl)
                      · replace hf := if_f hf hc_36
                        exact hj_32 _ _ _ hf hP hD hS (lv_sub hl [0, 1, 2, 3] rfl)
                exact hlo_25 N _ _ _ _ hf hP hD hS (lv_sub hl [1, 2, 3, 0] rfl)
          exact hlo_14 N _ _ _ _ _ _ hf hP hD hS (lv_sub hl [2, 1, 0] rfl)
        · replace hf := if_f hf hc_11
          refine lv_iconst (v := (-1)) X.hx X.hb dX11_chain_45 (by decide) ?_
          cases hf
          subst hQ
          exact r_iret X hP hD hS dX11_chain_46
      · replace hf := if_t hf hc_7
        refine lv_iconst (v := (-1)) X.hx X.hb dX11_chain_26 (by decide) ?_
        cases hf
        subst hQ
        exact r_iret X hP hD hS dX11_chain_27

def f_X11_chainAt (N : Nat) (iY : Nat → Int32) (sY : Nat → Nat → Int32) (tY : Nat → Nat → Int64) (jY : Nat → Int64) (p1 : Int32) : Option (Int32 × (Nat → Int32)) :=
  bd (f_X11_isIn N p1 0 ((iY 33) - 1)) (fun r_1 => (if r_1 = 0 then some ((-1), (va_up iY 0 0)) else ck p1 7 (some (((sY 32) (ix p1)), (va_up iY 0 0)))))
set_option maxHeartbeats 4000000 in
set_option maxRecDepth 100000 in
theorem c_X11_chainAt (l : Launch) (G : GT) (N : Nat) (uY : Nat → Nat) (iY : Nat → Int32) (sY : Nat → Nat → Int32) (tY : Nat → Nat → Int64) (jY : Nat → Int64) (p1 : Int32) {r : Int32} {iY' : Nat → Int32} (hf : f_X11_chainAt N iY sY tY jY p1 = some (r, iY')) : CI l G yX11_chainAt cX11_chainAt 2 .int 2 [.ref (uY 0), .int p1] (gY G uY iY sY tY jY) r (gY G uY iY' sY tY jY) := by
  refine CI.of (by decide) (Nat.le_of_ble_eq_true rfl) ?_
  intro p e s m args below meth c A X hA hP hD hS ls hl
  have hl : lv_has ls 2 [(0, .ref (uY 0)), (1, .int p1)] := hl
  generalize hQ : MQ below (QI G A r (gY G uY iY' sY tY jY)) args s 0 0 A = QQ
  unfold f_X11_chainAt at hf
  refine lv_aload_n X.hx X.hb dX11_chainAt_0 rfl (lv_at hl 0 rfl) ?_
  refine lv_iconst (v := 0) X.hx X.hb dX11_chainAt_1 (by decide) ?_
  refine pf_X11_1 X hP hD hS 0 rfl rfl rfl (Nat.le_of_ble_eq_true rfl) (wo := (gY G uY (va_up iY 0 0) sY tY jY)) rfl dX11_chainAt_2 (fun H locs hP hD hS => ?_)
  refine lv_iload_n X.hx X.hb dX11_chainAt_5 rfl (lv_at hl 1 rfl) ?_
  refine lv_iconst (v := 0) X.hx X.hb dX11_chainAt_6 (by decide) ?_
  refine lv_aload_n X.hx X.hb dX11_chainAt_7 rfl (lv_at hl 0 rfl) ?_
  refine gf_X11_71 X hP 0 rfl (v := .int (iY 33)) rfl dX11_chainAt_8 ?_
  refine lv_iconst (v := 1) X.hx X.hb dX11_chainAt_11 (by decide) ?_
  refine lv_isub X.hx X.hb dX11_chainAt_12 ?_
  obtain ⟨r_1, hc_2, hf⟩ := bd_i hf
  refine r_cs0 (As := [.int p1, .int 0, .int ((iY 33) - 1)]) (rest := []) X sm_X11_189 (c_X11_isIn l G N p1 0 ((iY 33) - 1) hc_2) hP hD hS hA rfl hl.1 (lv_room (Nat.le_of_ble_eq_true rfl)) ⟨Nat.le_of_ble_eq_true rfl, Nat.le_of_ble_eq_true rfl⟩ ⟨Nat.zero_le _, Nat.zero_le _⟩ dX11_chainAt_13 (fun H locs hP hD hS => ?_)
  refine lv_if_eq (tgt := 28) X.hx X.hb dX11_chainAt_16 (by decide) (fun hc_3 => ?_) (fun hc_3 => ?_)
  · replace hf := if_t hf hc_3
    refine lv_iconst (v := (-1)) X.hx X.hb dX11_chainAt_28 (by decide) ?_
    cases hf
    subst hQ
    exact r_iret X hP hD hS dX11_chainAt_29
  · replace hf := if_f hf hc_3
    refine lv_aload_n X.hx X.hb dX11_chainAt_19 rfl (lv_at hl 0 rfl) ?_
    refine gf_X11_68 X hP 0 rfl (v := .ref (uY 33)) rfl dX11_chainAt_20 ?_
    refine lv_iload_n X.hx X.hb dX11_chainAt_23 rfl (lv_at hl 1 rfl) ?_
    obtain ⟨hi_4, hf⟩ := ck_i hf
    refine r_iald X hP 13 (f := (sY 32)) rfl hi_4 dX11_chainAt_24 ?_
    refine lv_goto (tgt := 29) X.hx X.hb dX11_chainAt_25 (by decide) ?_
    cases hf
    subst hQ
    exact r_iret X hP hD hS dX11_chainAt_29

def f_X11_tolds_5 (N : Nat) (iY : Nat → Int32) (sY : Nat → Nat → Int32) (tY : Nat → Nat → Int64) (jY : Nat → Int64) (v1 : Int32) (v2 : Int32) (K_1 : ((Int32)) → Option (Int32)) : Nat → (Int32) → (Int32) → Option (Int32)
  | 0, _, _ => none
  | k + 1, v3, v4 => (if ((sY 6) 0) ≤ v4 then K_1 v3 else bd (f_X11_bitOf N v1 v4) (fun r_19 => jn (fun (z : (Int32)) => match z with | y_24 => f_X11_tolds_5 N iY sY tY jY v1 v2 K_1 k (v3 ||| y_24) (v4 + 1)) (fun K_21 => (if r_19 = 0 then K_21 0 else bd (f_X11_knownBy N iY sY tY jY v4) (fun r_26 => K_21 r_26)))))
def f_X11_tolds (N : Nat) (iY : Nat → Int32) (sY : Nat → Nat → Int32) (tY : Nat → Nat → Int64) (jY : Nat → Int64) (p1 : Int32) (p2 : Int32) : Option (Int32) :=
  jn (fun (z : (Int32)) => match z with | x3_4 => some (x3_4 &&& (p2 ^^^ (-1)))) (fun K_1 => f_X11_tolds_5 N iY sY tY jY p1 p2 K_1 N p1 0)
set_option maxHeartbeats 4000000 in
set_option maxRecDepth 100000 in
theorem c_X11_tolds (l : Launch) (G : GT) (N : Nat) (uY : Nat → Nat) (iY : Nat → Int32) (sY : Nat → Nat → Int32) (tY : Nat → Nat → Int64) (jY : Nat → Int64) (p1 : Int32) (p2 : Int32) {r : Int32} (hf : f_X11_tolds N iY sY tY jY p1 p2 = some r) : CI l G yX11_tolds cX11_tolds 5 .int 2 [.ref (uY 0), .int p1, .int p2] (gY G uY iY sY tY jY) r (gY G uY iY sY tY jY) := by
  refine CI.of (by decide) (Nat.le_of_ble_eq_true rfl) ?_
  intro p e s m args below meth c A X hA hP hD hS ls hl
  have hl : lv_has ls 5 [(0, .ref (uY 0)), (1, .int p1), (2, .int p2)] := hl
  generalize hQ : MQ below (QI G A r (gY G uY iY sY tY jY)) args s 0 0 A = QQ
  unfold f_X11_tolds at hf
  refine lv_iload_n X.hx X.hb dX11_tolds_0 rfl (lv_at hl 1 rfl) ?_
  refine lv_istore_n (lv' := [(3, .int p1), (0, .ref (uY 0)), (1, .int p1), (2, .int p2)]) X.hx X.hb dX11_tolds_1 rfl hl (by decide) rfl (fun ls hl => ?_)
  refine lv_iconst (v := 0) X.hx X.hb dX11_tolds_2 (by decide) ?_
  refine lv_istore (lv' := [(4, .int 0), (3, .int p1), (0, .ref (uY 0)), (1, .int p1), (2, .int p2)]) X.hx X.hb dX11_tolds_3 hl (by decide) rfl (fun ls hl => ?_)
  obtain ⟨K_1, eK_3, hf⟩ := jn_i hf
  have hj_2 : ∀ (x3_4 : Int32) (H : Heap) (locs : List Loc) (ls : Array Slot), K_1 x3_4 = some r → va_P G.1 vwCl (gY G uY iY sY tY jY) H → va_D A (gY G uY iY sY tY jY) → va_S A s.heap H locs → lv_has ls 5 [(2, .int p2), (3, .int x3_4)] → W p l e (RM 2) s m args below meth c H locs 0 0 QQ (F0 m 44 ls []) := by
    intro x3_4 H locs ls hf hP hD hS hl
    rw [eK_3] at hf
    try dsimp only at hf
    refine lv_iload_n X.hx X.hb dX11_tolds_44 rfl (lv_at hl 1 rfl) ?_
    refine lv_iload_n X.hx X.hb dX11_tolds_45 rfl (lv_at hl 0 rfl) ?_
    refine lv_iconst (v := (-1)) X.hx X.hb dX11_tolds_46 (by decide) ?_
    refine lv_ixor X.hx X.hb dX11_tolds_47 ?_
    refine lv_iand X.hx X.hb dX11_tolds_48 ?_
    cases hf
    subst hQ
    exact r_iret X hP hD hS dX11_tolds_49
  have hlo_5 : ∀ (k : Nat) (v3_6 : Int32) (v4_7 : Int32) (H : Heap) (locs : List Loc) (ls : Array Slot), f_X11_tolds_5 N iY sY tY jY p1 p2 K_1 k v3_6 v4_7 = some r → va_P G.1 vwCl (gY G uY iY sY tY jY) H → va_D A (gY G uY iY sY tY jY) → va_S A s.heap H locs → lv_has ls 5 [(0, .ref (uY 0)), (1, .int p1), (2, .int p2), (3, .int v3_6), (4, .int v4_7)] → W p l e (RM 2) s m args below meth c H locs 0 0 QQ (F0 m 5 ls []) := by
    intro k
    induction k with
    | zero => intro v3_6 v4_7 H locs ls hf; exact absurd hf (by intro q; cases q)
    | succ k ih =>
      intro v3_6 v4_7 H locs ls hf hP hD hS hl
      unfold f_X11_tolds_5 at hf
      refine lv_iload X.hx X.hb dX11_tolds_5 (lv_at hl 4 rfl) ?_
      refine lv_aload_n X.hx X.hb dX11_tolds_7 rfl (lv_at hl 0 rfl) ?_
      refine gf_X11_33 X hP 0 rfl (v := .ref (uY 7)) rfl dX11_tolds_8 ?_
      refine lv_iconst (v := 0) X.hx X.hb dX11_tolds_11 (by decide) ?_
      refine r_iald X hP 2 (f := (sY 6)) rfl (vp_c rfl) dX11_tolds_12 ?_
      refine W.eq (g2 := F0 m 13 ls [.int ((sY 6) 0), .int v4_7]) rfl ?_
      refine lv_icmp_ge (tgt := 44) X.hx X.hb dX11_tolds_13 (by decide) (fun hc_8 => ?_) (fun hc_8 => ?_)
      · replace hf := if_t hf hc_8
        exact hj_2 _ _ _ _ hf hP hD hS (lv_sub hl [2, 3] rfl)
      · replace hf := if_f hf hc_8
        refine lv_iload_n X.hx X.hb dX11_tolds_16 rfl (lv_at hl 3 rfl) ?_
        refine lv_iload_n X.hx X.hb dX11_tolds_17 rfl (lv_at hl 1 rfl) ?_
        refine lv_iload X.hx X.hb dX11_tolds_18 (lv_at hl 4 rfl) ?_
        obtain ⟨r_9, hc_10, hf⟩ := bd_i hf
        refine r_cs0 (As := [.int p1, .int v4_7]) (rest := [.int v3_6]) X sm_X11_214 (c_X11_bitOf l G N p1 v4_7 hc_10) hP hD hS hA rfl hl.1 (lv_room (Nat.le_of_ble_eq_true rfl)) ⟨Nat.le_of_ble_eq_true rfl, Nat.le_of_ble_eq_true rfl⟩ ⟨Nat.zero_le _, Nat.zero_le _⟩ dX11_tolds_20 (fun H locs hP hD hS => ?_)
        obtain ⟨K_11, eK_13, hf⟩ := jn_i hf
        have hj_12 : ∀ (y_14 : Int32) (H : Heap) (locs : List Loc) (ls : Array Slot), K_11 y_14 = some r → va_P G.1 vwCl (gY G uY iY sY tY jY) H → va_D A (gY G uY iY sY tY jY) → va_S A s.heap H locs → lv_has ls 5 [(0, .ref (uY 0)), (1, .int p1), (2, .int p2), (4, .int v4_7)] → W p l e (RM 2) s m args below meth c H locs 0 0 QQ (F0 m 36 ls [.int y_14, .int v3_6]) := by
          intro y_14 H locs ls hf hP hD hS hl
          rw [eK_13] at hf
          try dsimp only at hf
          refine lv_ior X.hx X.hb dX11_tolds_36 ?_
          refine lv_istore_n (lv' := [(3, .int (v3_6 ||| y_14)), (0, .ref (uY 0)), (1, .int p1), (2, .int p2), (4, .int v4_7)]) X.hx X.hb dX11_tolds_37 rfl hl (by decide) rfl (fun ls hl => ?_)
          refine lv_iinc (v := (v4_7 + 1)) (lv' := [(4, .int (v4_7 + 1)), (3, .int (v3_6 ||| y_14)), (0, .ref (uY 0)), (1, .int p1), (2, .int p2)]) X.hx X.hb dX11_tolds_38 hl (k := 4) rfl rfl (by decide) rfl (fun ls hl => ?_)
          refine lv_goto (tgt := 5) X.hx X.hb dX11_tolds_41 (by decide) ?_
          exact ih _ _ _ _ _ hf hP hD hS (lv_sub hl [2, 3, 4, 1, 0] rfl)
        refine lv_if_eq (tgt := 35) X.hx X.hb dX11_tolds_23 (by decide) (fun hc_15 => ?_) (fun hc_15 => ?_)
        · replace hf := if_t hf hc_15
          refine lv_iconst (v := 0) X.hx X.hb dX11_tolds_35 (by decide) ?_
          exact hj_12 _ _ _ _ hf hP hD hS (lv_sub hl [0, 1, 2, 4] rfl)
        · replace hf := if_f hf hc_15
          refine lv_aload_n X.hx X.hb dX11_tolds_26 rfl (lv_at hl 0 rfl) ?_
          refine lv_iload X.hx X.hb dX11_tolds_27 (lv_at hl 4 rfl) ?_
          obtain ⟨r_16, hc_17, hf⟩ := bd_i hf
          refine r_wvi (As := [.int v4_7]) (rest := [.int v3_6]) X sm_X11_265 (c_X11_knownBy l G N uY iY sY tY jY v4_7 hc_17) hP hD hS hA 0 rfl rfl rfl hl.1 (lv_room (Nat.le_of_ble_eq_true rfl)) ⟨Nat.le_of_ble_eq_true rfl, Nat.le_of_ble_eq_true rfl⟩ ⟨Nat.zero_le _, Nat.zero_le _⟩ dX11_tolds_29 (fun H locs hP hD hS => ?_)
          refine lv_goto (tgt := 36) X.hx X.hb dX11_tolds_32 (by decide) ?_
          exact hj_12 _ _ _ _ hf hP hD hS (lv_sub hl [0, 1, 2, 4] rfl)
  exact hlo_5 N _ _ _ _ _ hf hP hD hS (lv_sub hl [2, 3, 4, 1, 0] rfl)

def f_X11_out_33 (N : Nat) (iY : Nat → Int32) (sY : Nat → Nat → Int32) (tY : Nat → Nat → Int64) (jY : Nat → Int64) (v2 : Int32) : Nat → (Int32) → (Int32) → Option (Int32 × (Nat → Int32))
  | 0, _, _ => none
  | k + 1, v3, v4 => (if v3 = v2 then some (v4, iY) else bd (f_X11_tolds N iY sY tY jY v3 0) (fun r_14 => (if r_14 = v3 then some ((-1), iY) else f_X11_out_33 N iY sY tY jY v2 k r_14 (v4 + 1))))
def f_X11_out (N : Nat) (iY : Nat → Int32) (sY : Nat → Nat → Int32) (tY : Nat → Nat → Int64) (jY : Nat → Int64) (p1 : Int32) : Option (Int32 × (Nat → Int32)) :=
  bd (f_X11_isPerson N (va_up iY 0 0) sY tY jY p1) (fun r_1 => (if r_1 = 0 then some ((-1), (va_up iY 0 0)) else nv (((1 : Int32) <<< (((sY 6) 0) &&& 31)) - 1) (fun n_4 => nv ((1 : Int32) <<< (p1 &&& 31)) (fun n_5 => f_X11_out_33 N (va_up iY 0 0) sY tY jY n_4 N n_5 0))))
set_option maxHeartbeats 4000000 in
set_option maxRecDepth 100000 in
theorem c_X11_out (l : Launch) (G : GT) (N : Nat) (uY : Nat → Nat) (iY : Nat → Int32) (sY : Nat → Nat → Int32) (tY : Nat → Nat → Int64) (jY : Nat → Int64) (p1 : Int32) {r : Int32} {iY' : Nat → Int32} (hf : f_X11_out N iY sY tY jY p1 = some (r, iY')) : CI l G yX11_out cX11_out 6 .int 3 [.ref (uY 0), .int p1] (gY G uY iY sY tY jY) r (gY G uY iY' sY tY jY) := by
  refine CI.of (by decide) (Nat.le_of_ble_eq_true rfl) ?_
  intro p e s m args below meth c A X hA hP hD hS ls hl
  have hl : lv_has ls 6 [(0, .ref (uY 0)), (1, .int p1)] := hl
  generalize hQ : MQ below (QI G A r (gY G uY iY' sY tY jY)) args s 0 0 A = QQ
  unfold f_X11_out at hf
  refine lv_aload_n X.hx X.hb dX11_out_0 rfl (lv_at hl 0 rfl) ?_
  refine lv_iconst (v := 0) X.hx X.hb dX11_out_1 (by decide) ?_
  refine pf_X11_1 X hP hD hS 0 rfl rfl rfl (Nat.le_of_ble_eq_true rfl) (wo := (gY G uY (va_up iY 0 0) sY tY jY)) rfl dX11_out_2 (fun H locs hP hD hS => ?_)
  refine lv_aload_n X.hx X.hb dX11_out_5 rfl (lv_at hl 0 rfl) ?_
  refine lv_iload_n X.hx X.hb dX11_out_6 rfl (lv_at hl 1 rfl) ?_
  obtain ⟨r_1, hc_2, hf⟩ := bd_i hf
  refine r_wvi (As := [.int p1]) (rest := []) X sm_X11_272 (c_X11_isPerson l G N uY (va_up iY 0 0) sY tY jY p1 hc_2) hP hD hS hA 0 rfl rfl rfl hl.1 (lv_room (Nat.le_of_ble_eq_true rfl)) ⟨Nat.le_of_ble_eq_true rfl, Nat.le_of_ble_eq_true rfl⟩ ⟨Nat.zero_le _, Nat.zero_le _⟩ dX11_out_7 (fun H locs hP hD hS => ?_)
  refine lv_if_ne (tgt := 15) X.hx X.hb dX11_out_10 (by decide) (fun hc_3 => ?_) (fun hc_3 => ?_)
  · replace hf := if_f hf hc_3
    refine lv_iconst (v := 1) X.hx X.hb dX11_out_15 (by decide) ?_
    refine lv_aload_n X.hx X.hb dX11_out_16 rfl (lv_at hl 0 rfl) ?_
    refine gf_X11_33 X hP 0 rfl (v := .ref (uY 7)) rfl dX11_out_17 ?_
    refine lv_iconst (v := 0) X.hx X.hb dX11_out_20 (by decide) ?_
    refine r_iald X hP 2 (f := (sY 6)) rfl (vp_c rfl) dX11_out_21 ?_
    refine W.eq (g2 := F0 m 22 ls [.int ((sY 6) 0), .int 1]) rfl ?_
    refine lv_ishl X.hx X.hb dX11_out_22 ?_
    refine lv_iconst (v := 1) X.hx X.hb dX11_out_23 (by decide) ?_
    refine lv_isub X.hx X.hb dX11_out_24 ?_
    obtain ⟨n_4, en_4, hf⟩ := nv_i hf
    refine r_nm en_4 ?_
    refine lv_istore_n (lv' := [(2, .int n_4), (0, .ref (uY 0)), (1, .int p1)]) X.hx X.hb dX11_out_25 rfl hl (by decide) rfl (fun ls hl => ?_)
    refine lv_iconst (v := 1) X.hx X.hb dX11_out_26 (by decide) ?_
    refine lv_iload_n X.hx X.hb dX11_out_27 rfl (lv_at hl 2 rfl) ?_
    refine lv_ishl X.hx X.hb dX11_out_28 ?_
    obtain ⟨n_5, en_5, hf⟩ := nv_i hf
    refine r_nm en_5 ?_
    refine lv_istore_n (lv' := [(3, .int n_5), (2, .int n_4), (0, .ref (uY 0)), (1, .int p1)]) X.hx X.hb dX11_out_29 rfl hl (by decide) rfl (fun ls hl => ?_)
    refine lv_iconst (v := 0) X.hx X.hb dX11_out_30 (by decide) ?_
    refine lv_istore (lv' := [(4, .int 0), (3, .int n_5), (2, .int n_4), (0, .ref (uY 0)), (1, .int p1)]) X.hx X.hb dX11_out_31 hl (by decide) rfl (fun ls hl => ?_)
    have hlo_6 : ∀ (k : Nat) (v3_7 : Int32) (v4_8 : Int32) (H : Heap) (locs : List Loc) (ls : Array Slot), f_X11_out_33 N (va_up iY 0 0) sY tY jY n_4 k v3_7 v4_8 = some (r, iY') → va_P G.1 vwCl (gY G uY (va_up iY 0 0) sY tY jY) H → va_D A (gY G uY (va_up iY 0 0) sY tY jY) → va_S A s.heap H locs → lv_has ls 6 [(0, .ref (uY 0)), (2, .int n_4), (3, .int v3_7), (4, .int v4_8)] → W p l e (RM 3) s m args below meth c H locs 0 0 QQ (F0 m 33 ls []) := by
      intro k
      induction k with
      | zero => intro v3_7 v4_8 H locs ls hf; exact absurd hf (by intro q; cases q)
      | succ k ih =>
        intro v3_7 v4_8 H locs ls hf hP hD hS hl
        unfold f_X11_out_33 at hf
        refine lv_iload_n X.hx X.hb dX11_out_33 rfl (lv_at hl 2 rfl) ?_
        refine lv_iload_n X.hx X.hb dX11_out_34 rfl (lv_at hl 1 rfl) ?_
        refine lv_icmp_eq (tgt := 63) X.hx X.hb dX11_out_35 (by decide) (fun hc_9 => ?_) (fun hc_9 => ?_)
        · replace hf := if_t hf hc_9
          refine lv_iload X.hx X.hb dX11_out_63 (lv_at hl 3 rfl) ?_
          cases hf
          subst hQ
          exact r_iret X hP hD hS dX11_out_65
        · replace hf := if_f hf hc_9
          refine lv_aload_n X.hx X.hb dX11_out_38 rfl (lv_at hl 0 rfl) ?_
          refine lv_iload_n X.hx X.hb dX11_out_39 rfl (lv_at hl 2 rfl) ?_
          refine lv_iconst (v := 0) X.hx X.hb dX11_out_40 (by decide) ?_
          obtain ⟨r_10, hc_11, hf⟩ := bd_i hf
          refine r_wvi (As := [.int v3_7, .int 0]) (rest := []) X sm_X11_370 (c_X11_tolds l G N uY (va_up iY 0 0) sY tY jY v3_7 0 hc_11) hP hD hS hA 0 rfl rfl rfl hl.1 (lv_room (Nat.le_of_ble_eq_true rfl)) ⟨Nat.le_of_ble_eq_true rfl, Nat.le_of_ble_eq_true rfl⟩ ⟨Nat.zero_le _, Nat.zero_le _⟩ dX11_out_41 (fun H locs hP hD hS => ?_)
          refine lv_istore (lv' := [(5, .int r_10), (0, .ref (uY 0)), (2, .int n_4), (3, .int v3_7), (4, .int v4_8)]) X.hx X.hb dX11_out_44 hl (by decide) rfl (fun ls hl => ?_)
          refine lv_iload X.hx X.hb dX11_out_46 (lv_at hl 0 rfl) ?_
          refine lv_iload_n X.hx X.hb dX11_out_48 rfl (lv_at hl 3 rfl) ?_
          refine lv_icmp_ne (tgt := 54) X.hx X.hb dX11_out_49 (by decide) (fun hc_12 => ?_) (fun hc_12 => ?_)
          · replace hf := if_f hf hc_12
            refine lv_iload X.hx X.hb dX11_out_54 (lv_at hl 0 rfl) ?_
            refine lv_istore_n (lv' := [(3, .int r_10), (5, .int r_10), (0, .ref (uY 0)), (2, .int n_4), (4, .int v4_8)]) X.hx X.hb dX11_out_56 rfl hl (by decide) rfl (fun ls hl => ?_)
            refine lv_iinc (v := (v4_8 + 1)) (lv' := [(4, .int (v4_8 + 1)), (3, .int r_10), (5, .int r_10), (0, .ref (uY 0)), (2, .int n_4)]) X.hx X.hb dX11_out_57 hl (k := 4) rfl rfl (by decide) rfl (fun ls hl => ?_)
            refine lv_goto (tgt := 33) X.hx X.hb dX11_out_60 (by decide) ?_
            exact ih _ _ _ _ _ hf hP hD hS (lv_sub hl [3, 4, 1, 0] rfl)
          · replace hf := if_t hf hc_12
            refine lv_iconst (v := (-1)) X.hx X.hb dX11_out_52 (by decide) ?_
            cases hf
            subst hQ
            exact r_iret X hP hD hS dX11_out_53
    exact hlo_6 N _ _ _ _ _ hf hP hD hS (lv_sub hl [3, 2, 1, 0] rfl)
  · replace hf := if_t hf hc_3
    refine lv_iconst (v := (-1)) X.hx X.hb dX11_out_13 (by decide) ?_
    cases hf
    subst hQ
    exact r_iret X hP hD hS dX11_out_14

def f_X11_areApart_8 (N : Nat) (iY : Nat → Int32) (sY : Nat → Nat → Int32) (tY : Nat → Nat → Int64) (jY : Nat → Int64) (v2 : Int32) (v3 : Int32) (K_2 : ((Int32)) → Option (Int32)) : Nat → (Int32) → (Int32) → Option (Int32)
  | 0, _, _ => none
  | k + 1, v4, v5 => (if (7 : Int32) ≤ v5 then K_2 v4 else bd (f_X11_tolds N iY sY tY jY v4 v3) (fun r_16 => f_X11_areApart_8 N iY sY tY jY v2 v3 K_2 k r_16 (v5 + 1)))
def f_X11_areApart (N : Nat) (iY : Nat → Int32) (sY : Nat → Nat → Int32) (tY : Nat → Nat → Int64) (jY : Nat → Int64) (p1 : Int32) (p2 : Int32) (p3 : Int32) : Option (Int32) :=
  nv ((1 : Int32) <<< (p1 &&& 31)) (fun n_1 => jn (fun (z : (Int32)) => match z with | x4_5 => bd (f_X11_bitOf N x4_5 p2) (fun r_6 => (if r_6 = 0 then some 1 else some 0))) (fun K_2 => f_X11_areApart_8 N iY sY tY jY p2 p3 K_2 N n_1 0))
set_option maxHeartbeats 4000000 in
set_option maxRecDepth 100000 in
theorem c_X11_areApart (l : Launch) (G : GT) (N : Nat) (uY : Nat → Nat) (iY : Nat → Int32) (sY : Nat → Nat → Int32) (tY : Nat → Nat → Int64) (jY : Nat → Int64) (p1 : Int32) (p2 : Int32) (p3 : Int32) {r : Int32} (hf : f_X11_areApart N iY sY tY jY p1 p2 p3 = some r) : CI l G yX11_areApart cX11_areApart 6 .boolean 3 [.ref (uY 0), .int p1, .int p2, .int p3] (gY G uY iY sY tY jY) r (gY G uY iY sY tY jY) := by
  refine CI.of (by decide) (Nat.le_of_ble_eq_true rfl) ?_
  intro p e s m args below meth c A X hA hP hD hS ls hl
  have hl : lv_has ls 6 [(0, .ref (uY 0)), (1, .int p1), (2, .int p2), (3, .int p3)] := hl
  generalize hQ : MQ below (QI G A r (gY G uY iY sY tY jY)) args s 0 0 A = QQ
  unfold f_X11_areApart at hf
  refine lv_iconst (v := 1) X.hx X.hb dX11_areApart_0 (by decide) ?_
  refine lv_iload_n X.hx X.hb dX11_areApart_1 rfl (lv_at hl 1 rfl) ?_
  refine lv_ishl X.hx X.hb dX11_areApart_2 ?_
  obtain ⟨n_1, en_1, hf⟩ := nv_i hf
  refine r_nm en_1 ?_
  refine lv_istore (lv' := [(4, .int n_1), (0, .ref (uY 0)), (1, .int p1), (2, .int p2), (3, .int p3)]) X.hx X.hb dX11_areApart_3 hl (by decide) rfl (fun ls hl => ?_)
  refine lv_iconst (v := 0) X.hx X.hb dX11_areApart_5 (by decide) ?_
  refine lv_istore (lv' := [(5, .int 0), (4, .int n_1), (0, .ref (uY 0)), (1, .int p1), (2, .int p2), (3, .int p3)]) X.hx X.hb dX11_areApart_6 hl (by decide) rfl (fun ls hl => ?_)
  obtain ⟨K_2, eK_4, hf⟩ := jn_i hf
  have hj_3 : ∀ (x4_5 : Int32) (H : Heap) (locs : List Loc) (ls : Array Slot), K_2 x4_5 = some r → va_P G.1 vwCl (gY G uY iY sY tY jY) H → va_D A (gY G uY iY sY tY jY) → va_S A s.heap H locs → lv_has ls 6 [(2, .int p2), (4, .int x4_5)] → W p l e (RM 3) s m args below meth c H locs 0 0 QQ (F0 m 30 ls []) := by
    intro x4_5 H locs ls hf hP hD hS hl
    rw [eK_4] at hf
    try dsimp only at hf
    refine lv_iload X.hx X.hb dX11_areApart_30 (lv_at hl 1 rfl) ?_
    refine lv_iload_n X.hx X.hb dX11_areApart_32 rfl (lv_at hl 0 rfl) ?_
    obtain ⟨r_6, hc_7, hf⟩ := bd_i hf
    refine r_cs0 (As := [.int x4_5, .int p2]) (rest := []) X sm_X11_214 (c_X11_bitOf l G N x4_5 p2 hc_7) hP hD hS hA rfl hl.1 (lv_room (Nat.le_of_ble_eq_true rfl)) ⟨Nat.le_of_ble_eq_true rfl, Nat.le_of_ble_eq_true rfl⟩ ⟨Nat.zero_le _, Nat.zero_le _⟩ dX11_areApart_33 (fun H locs hP hD hS => ?_)
    refine lv_if_ne (tgt := 43) X.hx X.hb dX11_areApart_36 (by decide) (fun hc_8 => ?_) (fun hc_8 => ?_)
    · replace hf := if_f hf hc_8
      refine lv_iconst (v := 0) X.hx X.hb dX11_areApart_43 (by decide) ?_
      cases hf
      subst hQ
      exact r_zret X hP hD hS (by decide) dX11_areApart_44
    · replace hf := if_t hf hc_8
      refine lv_iconst (v := 1) X.hx X.hb dX11_areApart_39 (by decide) ?_
      refine lv_goto (tgt := 44) X.hx X.hb dX11_areApart_40 (by decide) ?_
      cases hf
      subst hQ
      exact r_zret X hP hD hS (by decide) dX11_areApart_44
  have hlo_9 : ∀ (k : Nat) (v4_10 : Int32) (v5_11 : Int32) (H : Heap) (locs : List Loc) (ls : Array Slot), f_X11_areApart_8 N iY sY tY jY p2 p3 K_2 k v4_10 v5_11 = some r → va_P G.1 vwCl (gY G uY iY sY tY jY) H → va_D A (gY G uY iY sY tY jY) → va_S A s.heap H locs → lv_has ls 6 [(0, .ref (uY 0)), (2, .int p2), (3, .int p3), (4, .int v4_10), (5, .int v5_11)] → W p l e (RM 3) s m args below meth c H locs 0 0 QQ (F0 m 8 ls []) := by
    intro k
    induction k with
    | zero => intro v4_10 v5_11 H locs ls hf; exact absurd hf (by intro q; cases q)
    | succ k ih =>
      intro v4_10 v5_11 H locs ls hf hP hD hS hl
      unfold f_X11_areApart_8 at hf
      refine lv_iload X.hx X.hb dX11_areApart_8 (lv_at hl 4 rfl) ?_
      refine lv_bipush (v := 7) X.hx X.hb dX11_areApart_10 (by decide) ?_
      refine lv_icmp_ge (tgt := 30) X.hx X.hb dX11_areApart_12 (by decide) (fun hc_12 => ?_) (fun hc_12 => ?_)
      · replace hf := if_t hf hc_12
        exact hj_3 _ _ _ _ hf hP hD hS (lv_sub hl [1, 3] rfl)
      · replace hf := if_f hf hc_12
        refine lv_aload_n X.hx X.hb dX11_areApart_15 rfl (lv_at hl 0 rfl) ?_
        refine lv_iload X.hx X.hb dX11_areApart_16 (lv_at hl 3 rfl) ?_
        refine lv_iload_n X.hx X.hb dX11_areApart_18 rfl (lv_at hl 2 rfl) ?_
        obtain ⟨r_13, hc_14, hf⟩ := bd_i hf
        refine r_wvi (As := [.int v4_10, .int p3]) (rest := []) X sm_X11_370 (c_X11_tolds l G N uY iY sY tY jY v4_10 p3 hc_14) hP hD hS hA 0 rfl rfl rfl hl.1 (lv_room (Nat.le_of_ble_eq_true rfl)) ⟨Nat.le_of_ble_eq_true rfl, Nat.le_of_ble_eq_true rfl⟩ ⟨Nat.zero_le _, Nat.zero_le _⟩ dX11_areApart_19 (fun H locs hP hD hS => ?_)
        refine lv_istore (lv' := [(4, .int r_13), (0, .ref (uY 0)), (2, .int p2), (3, .int p3), (5, .int v5_11)]) X.hx X.hb dX11_areApart_22 hl (by decide) rfl (fun ls hl => ?_)
        refine lv_iinc (v := (v5_11 + 1)) (lv' := [(5, .int (v5_11 + 1)), (4, .int r_13), (0, .ref (uY 0)), (2, .int p2), (3, .int p3)]) X.hx X.hb dX11_areApart_24 hl (k := 4) rfl rfl (by decide) rfl (fun ls hl => ?_)
        refine lv_goto (tgt := 8) X.hx X.hb dX11_areApart_27 (by decide) ?_
        exact ih _ _ _ _ _ hf hP hD hS (lv_sub hl [2, 3, 4, 1, 0] rfl)
  exact hlo_9 N _ _ _ _ _ hf hP hD hS (lv_sub hl [2, 4, 5, 1, 0] rfl)

def f_X11_apart_45 (N : Nat) (iY : Nat → Int32) (sY : Nat → Nat → Int32) (tY : Nat → Nat → Int64) (jY : Nat → Int64) (v1 : Int32) (v2 : Int32) (K_13 : ((Int32)) → Option (Int32 × (Nat → Int32))) : Nat → (Int32) → (Int32) → Option (Int32 × (Nat → Int32))
  | 0, _, _ => none
  | k + 1, v3, v4 => (if ((1 : Int32) <<< (((sY 6) 0) &&& 31)) ≤ v4 then K_13 v3 else bd (f_X11_bitOf N v4 v1) (fun r_46 => jn (fun (z : (Int32)) => match z with | x3_51 => f_X11_apart_45 N iY sY tY jY v1 v2 K_13 k x3_51 (v4 + 1)) (fun K_48 => (if r_46 = 0 then bd (f_X11_bitOf N v4 v2) (fun r_53 => (if r_53 = 0 then jn (fun (z : Unit) => match z with | () => bd (f_X11_areApart N iY sY tY jY v1 v2 v4) (fun r_59 => (if r_59 = 0 then K_48 v3 else K_48 v4))) (fun K_56 => (if v3 < 0 then K_56 () else bd (f_X11_bits N v4) (fun r_63 => bd (f_X11_bits N v3) (fun r_65 => (if r_65 ≤ r_63 then K_48 v3 else K_56 ()))))) else K_48 v3)) else K_48 v3))))
def f_X11_apart (N : Nat) (iY : Nat → Int32) (sY : Nat → Nat → Int32) (tY : Nat → Nat → Int64) (jY : Nat → Int64) (p1 : Int32) (p2 : Int32) : Option (Int32 × (Nat → Int32)) :=
  bd (f_X11_isPerson N (va_up iY 0 0) sY tY jY p1) (fun r_1 => (if r_1 = 0 then some ((-1), (va_up iY 0 0)) else bd (f_X11_isPerson N (va_up iY 0 0) sY tY jY p2) (fun r_4 => (if r_4 = 0 then some ((-1), (va_up iY 0 0)) else (if p1 = p2 then some ((-1), (va_up iY 0 0)) else bd (f_X11_knownBy N (va_up iY 0 0) sY tY jY p1) (fun r_8 => bd (f_X11_bitOf N r_8 p2) (fun r_10 => (if r_10 = 0 then jn (fun (z : (Int32)) => match z with | x3_16 => bd (f_X11_bits N x3_16) (fun r_17 => some (r_17, (va_up (va_up (va_up iY 0 0) 35 1) 34 x3_16)))) (fun K_13 => f_X11_apart_45 N (va_up iY 0 0) sY tY jY p1 p2 K_13 N (-1) 0) else some ((-1), (va_up iY 0 0))))))))))
set_option maxHeartbeats 4000000 in
set_option maxRecDepth 100000 in
theorem c_X11_apart (l : Launch) (G : GT) (N : Nat) (uY : Nat → Nat) (iY : Nat → Int32) (sY : Nat → Nat → Int32) (tY : Nat → Nat → Int64) (jY : Nat → Int64) (p1 : Int32) (p2 : Int32) {r : Int32} {iY' : Nat → Int32} (hf : f_X11_apart N iY sY tY jY p1 p2 = some (r, iY')) : CI l G yX11_apart cX11_apart 5 .int 4 [.ref (uY 0), .int p1, .int p2] (gY G uY iY sY tY jY) r (gY G uY iY' sY tY jY) := by
  refine CI.of (by decide) (Nat.le_of_ble_eq_true rfl) ?_
  intro p e s m args below meth c A X hA hP hD hS ls hl
  have hl : lv_has ls 5 [(0, .ref (uY 0)), (1, .int p1), (2, .int p2)] := hl
  generalize hQ : MQ below (QI G A r (gY G uY iY' sY tY jY)) args s 0 0 A = QQ
  unfold f_X11_apart at hf
  refine lv_aload_n X.hx X.hb dX11_apart_0 rfl (lv_at hl 0 rfl) ?_
  refine lv_iconst (v := 0) X.hx X.hb dX11_apart_1 (by decide) ?_
  refine pf_X11_1 X hP hD hS 0 rfl rfl rfl (Nat.le_of_ble_eq_true rfl) (wo := (gY G uY (va_up iY 0 0) sY tY jY)) rfl dX11_apart_2 (fun H locs hP hD hS => ?_)
  refine lv_aload_n X.hx X.hb dX11_apart_5 rfl (lv_at hl 0 rfl) ?_
  refine lv_iload_n X.hx X.hb dX11_apart_6 rfl (lv_at hl 1 rfl) ?_
  obtain ⟨r_1, hc_2, hf⟩ := bd_i hf
  refine r_wvi (As := [.int p1]) (rest := []) X sm_X11_272 (c_X11_isPerson l G N uY (va_up iY 0 0) sY tY jY p1 hc_2) hP hD hS hA 0 rfl rfl rfl hl.1 (lv_room (Nat.le_of_ble_eq_true rfl)) ⟨Nat.le_of_ble_eq_true rfl, Nat.le_of_ble_eq_true rfl⟩ ⟨Nat.zero_le _, Nat.zero_le _⟩ dX11_apart_7 (fun H locs hP hD hS => ?_)
  refine lv_if_eq (tgt := 38) X.hx X.hb dX11_apart_10 (by decide) (fun hc_3 => ?_) (fun hc_3 => ?_)
  · replace hf := if_t hf hc_3
    refine lv_iconst (v := (-1)) X.hx X.hb dX11_apart_38 (by decide) ?_
    cases hf
    subst hQ
    exact r_iret X hP hD hS dX11_apart_39
  · replace hf := if_f hf hc_3
    refine lv_aload_n X.hx X.hb dX11_apart_13 rfl (lv_at hl 0 rfl) ?_
    refine lv_iload_n X.hx X.hb dX11_apart_14 rfl (lv_at hl 2 rfl) ?_
    obtain ⟨r_4, hc_5, hf⟩ := bd_i hf
    refine r_wvi (As := [.int p2]) (rest := []) X sm_X11_272 (c_X11_isPerson l G N uY (va_up iY 0 0) sY tY jY p2 hc_5) hP hD hS hA 0 rfl rfl rfl hl.1 (lv_room (Nat.le_of_ble_eq_true rfl)) ⟨Nat.le_of_ble_eq_true rfl, Nat.le_of_ble_eq_true rfl⟩ ⟨Nat.zero_le _, Nat.zero_le _⟩ dX11_apart_15 (fun H locs hP hD hS => ?_)
    refine lv_if_eq (tgt := 38) X.hx X.hb dX11_apart_18 (by decide) (fun hc_6 => ?_) (fun hc_6 => ?_)
    · replace hf := if_t hf hc_6
      refine lv_iconst (v := (-1)) X.hx X.hb dX11_apart_38 (by decide) ?_
      cases hf
      subst hQ
      exact r_iret X hP hD hS dX11_apart_39
    · replace hf := if_f hf hc_6
      refine lv_iload_n X.hx X.hb dX11_apart_21 rfl (lv_at hl 1 rfl) ?_
      refine lv_iload_n X.hx X.hb dX11_apart_22 rfl (lv_at hl 2 rfl) ?_
      refine lv_icmp_eq (tgt := 38) X.hx X.hb dX11_apart_23 (by decide) (fun hc_7 => ?_) (fun hc_7 => ?_)
      · replace hf := if_t hf hc_7
        refine lv_iconst (v := (-1)) X.hx X.hb dX11_apart_38 (by decide) ?_
        cases hf
        subst hQ
        exact r_iret X hP hD hS dX11_apart_39
      · replace hf := if_f hf hc_7
        refine lv_aload_n X.hx X.hb dX11_apart_26 rfl (lv_at hl 0 rfl) ?_
        refine lv_iload_n X.hx X.hb dX11_apart_27 rfl (lv_at hl 1 rfl) ?_
        obtain ⟨r_8, hc_9, hf⟩ := bd_i hf
        refine r_wvi (As := [.int p1]) (rest := []) X sm_X11_265 (c_X11_knownBy l G N uY (va_up iY 0 0) sY tY jY p1 hc_9) hP hD hS hA 0 rfl rfl rfl hl.1 (lv_room (Nat.le_of_ble_eq_true rfl)) ⟨Nat.le_of_ble_eq_true rfl, Nat.le_of_ble_eq_true rfl⟩ ⟨Nat.zero_le _, Nat.zero_le _⟩ dX11_apart_28 (fun H locs hP hD hS => ?_)
        refine lv_iload_n X.hx X.hb dX11_apart_31 rfl (lv_at hl 2 rfl) ?_
        obtain ⟨r_10, hc_11, hf⟩ := bd_i hf
        refine r_cs0 (As := [.int r_8, .int p2]) (rest := []) X sm_X11_214 (c_X11_bitOf l G N r_8 p2 hc_11) hP hD hS hA rfl hl.1 (lv_room (Nat.le_of_ble_eq_true rfl)) ⟨Nat.le_of_ble_eq_true rfl, Nat.le_of_ble_eq_true rfl⟩ ⟨Nat.zero_le _, Nat.zero_le _⟩ dX11_apart_32 (fun H locs hP hD hS => ?_)
        refine lv_if_eq (tgt := 40) X.hx X.hb dX11_apart_35 (by decide) (fun hc_12 => ?_) (fun hc_12 => ?_)
        · replace hf := if_t hf hc_12
          refine lv_iconst (v := (-1)) X.hx X.hb dX11_apart_40 (by decide) ?_
          refine lv_istore_n (lv' := [(3, .int (-1)), (0, .ref (uY 0)), (1, .int p1), (2, .int p2)]) X.hx X.hb dX11_apart_41 rfl hl (by decide) rfl (fun ls hl => ?_)
          refine lv_iconst (v := 0) X.hx X.hb dX11_apart_42 (by decide) ?_
          refine lv_istore (lv' := [(4, .int 0), (3, .int (-1)), (0, .ref (uY 0)), (1, .int p1), (2, .int p2)]) X.hx X.hb dX11_apart_43 hl (by decide) rfl (fun ls hl => ?_)
          obtain ⟨K_13, eK_15, hf⟩ := jn_i hf
          have hj_14 : ∀ (x3_16 : Int32) (H : Heap) (locs : List Loc) (ls : Array Slot), K_13 x3_16 = some (r, iY') → va_P G.1 vwCl (gY G uY (va_up iY 0 0) sY tY jY) H → va_D A (gY G uY (va_up iY 0 0) sY tY jY) → va_S A s.heap H locs → lv_has ls 5 [(0, .ref (uY 0)), (3, .int x3_16)] → W p l e (RM 4) s m args below meth c H locs 0 0 QQ (F0 m 112 ls []) := by
            intro x3_16 H locs ls hf hP hD hS hl
            rw [eK_15] at hf
            try dsimp only at hf
            refine lv_aload_n X.hx X.hb dX11_apart_112 rfl (lv_at hl 0 rfl) ?_
            refine lv_iconst (v := 1) X.hx X.hb dX11_apart_113 (by decide) ?_
            refine pf_X11_376 X hP hD hS 0 rfl (by decide) (by decide) (Nat.le_of_ble_eq_true rfl) (wo := (gY G uY (va_up (va_up iY 0 0) 35 1) sY tY jY)) rfl dX11_apart_114 (fun H locs hP hD hS => ?_)
            refine lv_aload_n X.hx X.hb dX11_apart_117 rfl (lv_at hl 0 rfl) ?_
            refine lv_iload_n X.hx X.hb dX11_apart_118 rfl (lv_at hl 1 rfl) ?_
            refine pf_X11_379 X hP hD hS 0 rfl rfl rfl (Nat.le_of_ble_eq_true rfl) (wo := (gY G uY (va_up (va_up (va_up iY 0 0) 35 1) 34 x3_16) sY tY jY)) rfl dX11_apart_119 (fun H locs hP hD hS => ?_)
            refine lv_iload_n X.hx X.hb dX11_apart_122 rfl (lv_at hl 1 rfl) ?_
            obtain ⟨r_17, hc_18, hf⟩ := bd_i hf
            refine r_cs0 (As := [.int x3_16]) (rest := []) X sm_X11_284 (c_X11_bits l G N x3_16 hc_18) hP hD hS hA rfl hl.1 (lv_room (Nat.le_of_ble_eq_true rfl)) ⟨Nat.le_of_ble_eq_true rfl, Nat.le_of_ble_eq_true rfl⟩ ⟨Nat.zero_le _, Nat.zero_le _⟩ dX11_apart_123 (fun H locs hP hD hS => ?_)
            cases hf
            subst hQ
            exact r_iret X hP hD hS dX11_apart_126
          have hlo_19 : ∀ (k : Nat) (v3_20 : Int32) (v4_21 : Int32) (H : Heap) (locs : List Loc) (ls : Array Slot), f_X11_apart_45 N (va_up iY 0 0) sY tY jY p1 p2 K_13 k v3_20 v4_21 = some (r, iY') → va_P G.1 vwCl (gY G uY (va_up iY 0 0) sY tY jY) H → va_D A (gY G uY (va_up iY 0 0) sY tY jY) → va_S A s.heap H locs → lv_has ls 5 [(0, .ref (uY 0)), (1, .int p1), (2, .int p2), (3, .int v3_20), (4, .int v4_21)] → W p l e (RM 4) s m args below meth c H locs 0 0 QQ (F0 m 45 ls []) := by
            intro k
            induction k with
            | zero => intro v3_20 v4_21 H locs ls hf; exact absurd hf (by intro q; cases q)
            | succ k ih =>
              intro v3_20 v4_21 H locs ls hf hP hD hS hl
              unfold f_X11_apart_45 at hf
              refine lv_iload X.hx X.hb dX11_apart_45 (lv_at hl 4 rfl) ?_
              refine lv_iconst (v := 1) X.hx X.hb dX11_apart_47 (by decide) ?_
              refine lv_aload_n X.hx X.hb dX11_apart_48 rfl (lv_at hl 0 rfl) ?_
              refine gf_X11_33 X hP 0 rfl (v := .ref (uY 7)) rfl dX11_apart_49 ?_
              refine lv_iconst (v := 0) X.hx X.hb dX11_apart_52 (by decide) ?_
              refine r_iald X hP 2 (f := (sY 6)) rfl (vp_c rfl) dX11_apart_53 ?_
              refine W.eq (g2 := F0 m 54 ls [.int ((sY 6) 0), .int 1, .int v4_21]) rfl ?_
              refine lv_ishl X.hx X.hb dX11_apart_54 ?_
              refine lv_icmp_ge (tgt := 112) X.hx X.hb dX11_apart_55 (by decide) (fun hc_22 => ?_) (fun hc_22 => ?_)
              · replace hf := if_t hf hc_22
                exact hj_14 _ _ _ _ hf hP hD hS (lv_sub hl [0, 3] rfl)
              · replace hf := if_f hf hc_22
                refine lv_iload X.hx X.hb dX11_apart_58 (lv_at hl 4 rfl) ?_
                refine lv_iload_n X.hx X.hb dX11_apart_60 rfl (lv_at hl 1 rfl) ?_
                obtain ⟨r_23, hc_24, hf⟩ := bd_i hf
                refine r_cs0 (As := [.int v4_21, .int p1]) (rest := []) X sm_X11_214 (c_X11_bitOf l G N v4_21 p1 hc_24) hP hD hS hA rfl hl.1 (lv_room (Nat.le_of_ble_eq_true rfl)) ⟨Nat.le_of_ble_eq_true rfl, Nat.le_of_ble_eq_true rfl⟩ ⟨Nat.zero_le _, Nat.zero_le _⟩ dX11_apart_61 (fun H locs hP hD hS => ?_)
                obtain ⟨K_25, eK_27, hf⟩ := jn_i hf
                have hj_26 : ∀ (x3_28 : Int32) (H : Heap) (locs : List Loc) (ls : Array Slot), K_25 x3_28 = some (r, iY') → va_P G.1 vwCl (gY G uY (va_up iY 0 0) sY tY jY) H → va_D A (gY G uY (va_up iY 0 0) sY tY jY) → va_S A s.heap H locs → lv_has ls 5 [(0, .ref (uY 0)), (1, .int p1), (2, .int p2), (3, .int x3_28), (4, .int v4_21)] → W p l e (RM 4) s m args below meth c H locs 0 0 QQ (F0 m 106 ls []) := by
                  intro x3_28 H locs ls hf hP hD hS hl
                  rw [eK_27] at hf
                  try dsimp only at hf
                  refine lv_iinc (v := (v4_21 + 1)) (lv' := [(4, .int (v4_21 + 1)), (0, .ref (uY 0)), (1, .int p1), (2, .int p2), (3, .int x3_28)]) X.hx X.hb dX11_apart_106 hl (k := 4) rfl rfl (by decide) rfl (fun ls hl => ?_)
                  refine lv_goto (tgt := 45) X.hx X.hb dX11_apart_109 (by decide) ?_
                  exact ih _ _ _ _ _ hf hP hD hS (lv_sub hl [1, 2, 3, 4, 0] rfl)
                refine lv_if_ne (tgt := 106) X.hx X.hb dX11_apart_64 (by decide) (fun hc_29 => ?_) (fun hc_29 => ?_)
                · replace hf := if_f hf hc_29
                  exact hj_26 _ _ _ _ hf hP hD hS (lv_sub hl [0, 1, 2, 3, 4] rfl)
                · replace hf := if_t hf hc_29
                  refine lv_iload X.hx X.hb dX11_apart_67 (lv_at hl 4 rfl) ?_
                  refine lv_iload_n X.hx X.hb dX11_apart_69 rfl (lv_at hl 2 rfl) ?_
                  obtain ⟨r_30, hc_31, hf⟩ := bd_i hf
                  refine r_cs0 (As := [.int v4_21, .int p2]) (rest := []) X sm_X11_214 (c_X11_bitOf l G N v4_21 p2 hc_31) hP hD hS hA rfl hl.1 (lv_room (Nat.le_of_ble_eq_true rfl)) ⟨Nat.le_of_ble_eq_true rfl, Nat.le_of_ble_eq_true rfl⟩ ⟨Nat.zero_le _, Nat.zero_le _⟩ dX11_apart_70 (fun H locs hP hD hS => ?_)
                  refine lv_if_ne (tgt := 106) X.hx X.hb dX11_apart_73 (by decide) (fun hc_32 => ?_) (fun hc_32 => ?_)
                  · replace hf := if_f hf hc_32
                    exact hj_26 _ _ _ _ hf hP hD hS (lv_sub hl [0, 1, 2, 3, 4] rfl)
                  · replace hf := if_t hf hc_32
                    refine lv_iload_n X.hx X.hb dX11_apart_76 rfl (lv_at hl 3 rfl) ?_
                    obtain ⟨K_33, eK_35, hf⟩ := jn_i hf
                    have hj_34 : ∀ (H : Heap) (locs : List Loc) (ls : Array Slot), K_33 () = some (r, iY') → va_P G.1 vwCl (gY G uY (va_up iY 0 0) sY tY jY) H → va_D A (gY G uY (va_up iY 0 0) sY tY jY) → va_S A s.heap H locs → lv_has ls 5 [(0, .ref (uY 0)), (1, .int p1), (2, .int p2), (3, .int v3_20), (4, .int v4_21)] → W p l e (RM 4) s m args below meth c H locs 0 0 QQ (F0 m 92 ls []) := by
                      intro  H locs ls hf hP hD hS hl
                      rw [eK_35] at hf
                      try dsimp only at hf
                      refine lv_aload_n X.hx X.hb dX11_apart_92 rfl (lv_at hl 0 rfl) ?_
                      refine lv_iload_n X.hx X.hb dX11_apart_93 rfl (lv_at hl 1 rfl) ?_
                      refine lv_iload_n X.hx X.hb dX11_apart_94 rfl (lv_at hl 2 rfl) ?_
                      refine lv_iload X.hx X.hb dX11_apart_95 (lv_at hl 4 rfl) ?_
                      obtain ⟨r_36, hc_37, hf⟩ := bd_i hf
                      refine r_wvi (As := [.int p1, .int p2, .int v4_21]) (rest := []) X sm_X11_373 (c_X11_areApart l G N uY (va_up iY 0 0) sY tY jY p1 p2 v4_21 hc_37) hP hD hS hA 0 rfl rfl rfl hl.1 (lv_room (Nat.le_of_ble_eq_true rfl)) ⟨Nat.le_of_ble_eq_true rfl, Nat.le_of_ble_eq_true rfl⟩ ⟨Nat.zero_le _, Nat.zero_le _⟩ dX11_apart_97 (fun H locs hP hD hS => ?_)
                      refine lv_if_eq (tgt := 106) X.hx X.hb dX11_apart_100 (by decide) (fun hc_38 => ?_) (fun hc_38 => ?_)
                      · replace hf := if_t hf hc_38
                        exact hj_26 _ _ _ _ hf hP hD hS (lv_sub hl [0, 1, 2, 3, 4] rfl)
                      · replace hf := if_f hf hc_38
                        refine lv_iload X.hx X.hb dX11_apart_103 (lv_at hl 4 rfl) ?_
                        refine lv_istore_n (lv' := [(3, .int v4_21), (0, .ref (uY 0)), (1, .int p1), (2, .int p2), (4, .int v4_21)]) X.hx X.hb dX11_apart_105 rfl hl (by decide) rfl (fun ls hl => ?_)
                        exact hj_26 _ _ _ _ hf hP hD hS (lv_sub hl [1, 2, 3, 0, 4] rfl)
                    refine lv_if_lt (tgt := 92) X.hx X.hb dX11_apart_77 (by decide) (fun hc_39 => ?_) (fun hc_39 => ?_)
                    · replace hf := if_t hf hc_39
                      exact hj_34 _ _ _ hf hP hD hS (lv_sub hl [0, 1, 2, 3, 4] rfl)
                    · replace hf := if_f hf hc_39
                      refine lv_iload X.hx X.hb dX11_apart_80 (lv_at hl 4 rfl) ?_
                      obtain ⟨r_40, hc_41, hf⟩ := bd_i hf
                      refine r_cs0 (As := [.int v4_21]) (rest := []) X sm_X11_284 (c_X11_bits l G N v4_21 hc_41) hP hD hS hA rfl hl.1 (lv_room (Nat.le_of_ble_eq_true rfl)) ⟨Nat.le_of_ble_eq_true rfl, Nat.le_of_ble_eq_true rfl⟩ ⟨Nat.zero_le _, Nat.zero_le _⟩ dX11_apart_82 (fun H locs hP hD hS => ?_)
                      refine lv_iload_n X.hx X.hb dX11_apart_85 rfl (lv_at hl 3 rfl) ?_
                      obtain ⟨r_42, hc_43, hf⟩ := bd_i hf
                      refine r_cs0 (As := [.int v3_20]) (rest := [.int r_40]) X sm_X11_284 (c_X11_bits l G N v3_20 hc_43) hP hD hS hA rfl hl.1 (lv_room (Nat.le_of_ble_eq_true rfl)) ⟨Nat.le_of_ble_eq_true rfl, Nat.le_of_ble_eq_true rfl⟩ ⟨Nat.zero_le _, Nat.zero_le _⟩ dX11_apart_86 (fun H locs hP hD hS => ?_)
                      refine lv_icmp_ge (tgt := 106) X.hx X.hb dX11_apart_89 (by decide) (fun hc_44 => ?_) (fun hc_44 => ?_)
                      · replace hf := if_t hf hc_44
                        exact hj_26 _ _ _ _ hf hP hD hS (lv_sub hl [0, 1, 2, 3, 4] rfl)
                      · replace hf := if_f hf hc_44
                        exact hj_34 _ _ _ hf hP hD hS (lv_sub hl [0, 1, 2, 3, 4] rfl)
          exact hlo_19 N _ _ _ _ _ hf hP hD hS (lv_sub hl [2, 3, 4, 1, 0] rfl)
        · replace hf := if_f hf hc_12
          refine lv_iconst (v := (-1)) X.hx X.hb dX11_apart_38 (by decide) ?_
          cases hf
          subst hQ
          exact r_iret X hP hD hS dX11_apart_39

