def f_X11_parting (N : Nat) (iY : Nat → Int32) (sY : Nat → Nat → Int32) (tY : Nat → Nat → Int64) (jY : Nat → Int64) : Option (Int32 × (Nat → Int32)) :=
  (if (iY 35) = 0 then some ((-1), (va_up iY 0 0)) else some ((iY 34), (va_up iY 0 0)))
set_option maxHeartbeats 4000000 in
set_option maxRecDepth 100000 in
theorem c_X11_parting (l : Launch) (G : GT) (N : Nat) (uY : Nat → Nat) (iY : Nat → Int32) (sY : Nat → Nat → Int32) (tY : Nat → Nat → Int64) (jY : Nat → Int64) {r : Int32} {iY' : Nat → Int32} (hf : f_X11_parting N iY sY tY jY = some (r, iY')) : CI l G yX11_parting cX11_parting 1 .int 1 [.ref (uY 0)] (gY G uY iY sY tY jY) r (gY G uY iY' sY tY jY) := by
  refine CI.of (by decide) (Nat.le_of_ble_eq_true rfl) ?_
  intro p e s m args below meth c A X hA hP hD hS ls hl
  have hl : lv_has ls 1 [(0, .ref (uY 0))] := hl
  generalize hQ : MQ below (QI G A r (gY G uY iY' sY tY jY)) args s 0 0 A = QQ
  unfold f_X11_parting at hf
  refine lv_aload_n X.hx X.hb dX11_parting_0 rfl (lv_at hl 0 rfl) ?_
  refine lv_iconst (v := 0) X.hx X.hb dX11_parting_1 (by decide) ?_
  refine pf_X11_1 X hP hD hS 0 rfl rfl rfl (Nat.le_of_ble_eq_true rfl) (wo := (gY G uY (va_up iY 0 0) sY tY jY)) rfl dX11_parting_2 (fun H locs hP hD hS => ?_)
  refine lv_aload_n X.hx X.hb dX11_parting_5 rfl (lv_at hl 0 rfl) ?_
  refine gf_X11_376 X hP 0 rfl (v := .int (iY 35)) rfl dX11_parting_6 ?_
  refine lv_if_eq (tgt := 19) X.hx X.hb dX11_parting_9 (by decide) (fun hc_1 => ?_) (fun hc_1 => ?_)
  · replace hf := if_t hf hc_1
    refine lv_iconst (v := (-1)) X.hx X.hb dX11_parting_19 (by decide) ?_
    cases hf
    subst hQ
    exact r_iret X hP hD hS dX11_parting_20
  · replace hf := if_f hf hc_1
    refine lv_aload_n X.hx X.hb dX11_parting_12 rfl (lv_at hl 0 rfl) ?_
    refine gf_X11_379 X hP 0 rfl (v := .int (iY 34)) rfl dX11_parting_13 ?_
    refine lv_goto (tgt := 20) X.hx X.hb dX11_parting_16 (by decide) ?_
    cases hf
    subst hQ
    exact r_iret X hP hD hS dX11_parting_20

def f_X11_recluse_9 (N : Nat) (iY : Nat → Int32) (sY : Nat → Nat → Int32) (tY : Nat → Nat → Int64) (jY : Nat → Int64) : Nat → (Int32) → (Int32) → Option (Int32 × (Nat → Int32))
  | 0, _, _ => none
  | k + 1, v1, v2 => (if ((sY 6) 0) ≤ v2 then some (v1, iY) else jn (fun (z : (Int32)) => match z with | x1_26 => f_X11_recluse_9 N iY sY tY jY k x1_26 (v2 + 1)) (fun K_23 => jn (fun (z : Unit) => match z with | () => K_23 v2) (fun K_27 => (if v1 < 0 then K_27 () else bd (f_X11_knownBy N iY sY tY jY v2) (fun r_31 => bd (f_X11_bits N r_31) (fun r_33 => bd (f_X11_knownBy N iY sY tY jY v1) (fun r_35 => bd (f_X11_bits N r_35) (fun r_37 => (if r_37 ≤ r_33 then K_23 v1 else K_27 ())))))))))
def f_X11_recluse (N : Nat) (iY : Nat → Int32) (sY : Nat → Nat → Int32) (tY : Nat → Nat → Int64) (jY : Nat → Int64) : Option (Int32 × (Nat → Int32)) :=
  f_X11_recluse_9 N (va_up iY 0 0) sY tY jY N (-1) 0
set_option maxHeartbeats 4000000 in
set_option maxRecDepth 100000 in
theorem c_X11_recluse (l : Launch) (G : GT) (N : Nat) (uY : Nat → Nat) (iY : Nat → Int32) (sY : Nat → Nat → Int32) (tY : Nat → Nat → Int64) (jY : Nat → Int64) {r : Int32} {iY' : Nat → Int32} (hf : f_X11_recluse N iY sY tY jY = some (r, iY')) : CI l G yX11_recluse cX11_recluse 3 .int 2 [.ref (uY 0)] (gY G uY iY sY tY jY) r (gY G uY iY' sY tY jY) := by
  refine CI.of (by decide) (Nat.le_of_ble_eq_true rfl) ?_
  intro p e s m args below meth c A X hA hP hD hS ls hl
  have hl : lv_has ls 3 [(0, .ref (uY 0))] := hl
  generalize hQ : MQ below (QI G A r (gY G uY iY' sY tY jY)) args s 0 0 A = QQ
  unfold f_X11_recluse at hf
  refine lv_aload_n X.hx X.hb dX11_recluse_0 rfl (lv_at hl 0 rfl) ?_
  refine lv_iconst (v := 0) X.hx X.hb dX11_recluse_1 (by decide) ?_
  refine pf_X11_1 X hP hD hS 0 rfl rfl rfl (Nat.le_of_ble_eq_true rfl) (wo := (gY G uY (va_up iY 0 0) sY tY jY)) rfl dX11_recluse_2 (fun H locs hP hD hS => ?_)
  refine lv_iconst (v := (-1)) X.hx X.hb dX11_recluse_5 (by decide) ?_
  refine lv_istore_n (lv' := [(1, .int (-1)), (0, .ref (uY 0))]) X.hx X.hb dX11_recluse_6 rfl hl (by decide) rfl (fun ls hl => ?_)
  refine lv_iconst (v := 0) X.hx X.hb dX11_recluse_7 (by decide) ?_
  refine lv_istore_n (lv' := [(2, .int 0), (1, .int (-1)), (0, .ref (uY 0))]) X.hx X.hb dX11_recluse_8 rfl hl (by decide) rfl (fun ls hl => ?_)
  have hlo_1 : ∀ (k : Nat) (v1_2 : Int32) (v2_3 : Int32) (H : Heap) (locs : List Loc) (ls : Array Slot), f_X11_recluse_9 N (va_up iY 0 0) sY tY jY k v1_2 v2_3 = some (r, iY') → va_P G.1 vwCl (gY G uY (va_up iY 0 0) sY tY jY) H → va_D A (gY G uY (va_up iY 0 0) sY tY jY) → va_S A s.heap H locs → lv_has ls 3 [(0, .ref (uY 0)), (1, .int v1_2), (2, .int v2_3)] → W p l e (RM 2) s m args below meth c H locs 0 0 QQ (F0 m 9 ls []) := by
    intro k
    induction k with
    | zero => intro v1_2 v2_3 H locs ls hf; exact absurd hf (by intro q; cases q)
    | succ k ih =>
      intro v1_2 v2_3 H locs ls hf hP hD hS hl
      unfold f_X11_recluse_9 at hf
      refine lv_iload_n X.hx X.hb dX11_recluse_9 rfl (lv_at hl 2 rfl) ?_
      refine lv_aload_n X.hx X.hb dX11_recluse_10 rfl (lv_at hl 0 rfl) ?_
      refine gf_X11_33 X hP 0 rfl (v := .ref (uY 7)) rfl dX11_recluse_11 ?_
      refine lv_iconst (v := 0) X.hx X.hb dX11_recluse_14 (by decide) ?_
      refine r_iald X hP 2 (f := (sY 6)) rfl (vp_c rfl) dX11_recluse_15 ?_
      refine W.eq (g2 := F0 m 16 ls [.int ((sY 6) 0), .int v2_3]) rfl ?_
      refine lv_icmp_ge (tgt := 50) X.hx X.hb dX11_recluse_16 (by decide) (fun hc_4 => ?_) (fun hc_4 => ?_)
      · replace hf := if_t hf hc_4
        refine lv_iload_n X.hx X.hb dX11_recluse_50 rfl (lv_at hl 1 rfl) ?_
        cases hf
        subst hQ
        exact r_iret X hP hD hS dX11_recluse_51
      · replace hf := if_f hf hc_4
        refine lv_iload_n X.hx X.hb dX11_recluse_19 rfl (lv_at hl 1 rfl) ?_
        obtain ⟨K_5, eK_7, hf⟩ := jn_i hf
        have hj_6 : ∀ (x1_8 : Int32) (H : Heap) (locs : List Loc) (ls : Array Slot), K_5 x1_8 = some (r, iY') → va_P G.1 vwCl (gY G uY (va_up iY 0 0) sY tY jY) H → va_D A (gY G uY (va_up iY 0 0) sY tY jY) → va_S A s.heap H locs → lv_has ls 3 [(0, .ref (uY 0)), (1, .int x1_8), (2, .int v2_3)] → W p l e (RM 2) s m args below meth c H locs 0 0 QQ (F0 m 44 ls []) := by
          intro x1_8 H locs ls hf hP hD hS hl
          rw [eK_7] at hf
          try dsimp only at hf
          refine lv_iinc (v := (v2_3 + 1)) (lv' := [(2, .int (v2_3 + 1)), (0, .ref (uY 0)), (1, .int x1_8)]) X.hx X.hb dX11_recluse_44 hl (k := 2) rfl rfl (by decide) rfl (fun ls hl => ?_)
          refine lv_goto (tgt := 9) X.hx X.hb dX11_recluse_47 (by decide) ?_
          exact ih _ _ _ _ _ hf hP hD hS (lv_sub hl [1, 2, 0] rfl)
        obtain ⟨K_9, eK_11, hf⟩ := jn_i hf
        have hj_10 : ∀ (H : Heap) (locs : List Loc) (ls : Array Slot), K_9 () = some (r, iY') → va_P G.1 vwCl (gY G uY (va_up iY 0 0) sY tY jY) H → va_D A (gY G uY (va_up iY 0 0) sY tY jY) → va_S A s.heap H locs → lv_has ls 3 [(0, .ref (uY 0)), (2, .int v2_3)] → W p l e (RM 2) s m args below meth c H locs 0 0 QQ (F0 m 42 ls []) := by
          intro  H locs ls hf hP hD hS hl
          rw [eK_11] at hf
          try dsimp only at hf
          refine lv_iload_n X.hx X.hb dX11_recluse_42 rfl (lv_at hl 1 rfl) ?_
          refine lv_istore_n (lv' := [(1, .int v2_3), (0, .ref (uY 0)), (2, .int v2_3)]) X.hx X.hb dX11_recluse_43 rfl hl (by decide) rfl (fun ls hl => ?_)
          exact hj_6 _ _ _ _ hf hP hD hS (lv_sub hl [1, 0, 2] rfl)
        refine lv_if_lt (tgt := 42) X.hx X.hb dX11_recluse_20 (by decide) (fun hc_12 => ?_) (fun hc_12 => ?_)
        · replace hf := if_t hf hc_12
          exact hj_10 _ _ _ hf hP hD hS (lv_sub hl [0, 2] rfl)
        · replace hf := if_f hf hc_12
          refine lv_aload_n X.hx X.hb dX11_recluse_23 rfl (lv_at hl 0 rfl) ?_
          refine lv_iload_n X.hx X.hb dX11_recluse_24 rfl (lv_at hl 2 rfl) ?_
          obtain ⟨r_13, hc_14, hf⟩ := bd_i hf
          refine r_wvi (As := [.int v2_3]) (rest := []) X sm_X11_265 (c_X11_knownBy l G N uY (va_up iY 0 0) sY tY jY v2_3 hc_14) hP hD hS hA 0 rfl rfl rfl hl.1 (lv_room (Nat.le_of_ble_eq_true rfl)) ⟨Nat.le_of_ble_eq_true rfl, Nat.le_of_ble_eq_true rfl⟩ ⟨Nat.zero_le _, Nat.zero_le _⟩ dX11_recluse_25 (fun H locs hP hD hS => ?_)
          obtain ⟨r_15, hc_16, hf⟩ := bd_i hf
          refine r_cs0 (As := [.int r_13]) (rest := []) X sm_X11_284 (c_X11_bits l G N r_13 hc_16) hP hD hS hA rfl hl.1 (lv_room (Nat.le_of_ble_eq_true rfl)) ⟨Nat.le_of_ble_eq_true rfl, Nat.le_of_ble_eq_true rfl⟩ ⟨Nat.zero_le _, Nat.zero_le _⟩ dX11_recluse_28 (fun H locs hP hD hS => ?_)
          refine lv_aload_n X.hx X.hb dX11_recluse_31 rfl (lv_at hl 0 rfl) ?_
          refine lv_iload_n X.hx X.hb dX11_recluse_32 rfl (lv_at hl 1 rfl) ?_
          obtain ⟨r_17, hc_18, hf⟩ := bd_i hf
          refine r_wvi (As := [.int v1_2]) (rest := [.int r_15]) X sm_X11_265 (c_X11_knownBy l G N uY (va_up iY 0 0) sY tY jY v1_2 hc_18) hP hD hS hA 0 rfl rfl rfl hl.1 (lv_room (Nat.le_of_ble_eq_true rfl)) ⟨Nat.le_of_ble_eq_true rfl, Nat.le_of_ble_eq_true rfl⟩ ⟨Nat.zero_le _, Nat.zero_le _⟩ dX11_recluse_33 (fun H locs hP hD hS => ?_)
          obtain ⟨r_19, hc_20, hf⟩ := bd_i hf
          refine r_cs0 (As := [.int r_17]) (rest := [.int r_15]) X sm_X11_284 (c_X11_bits l G N r_17 hc_20) hP hD hS hA rfl hl.1 (lv_room (Nat.le_of_ble_eq_true rfl)) ⟨Nat.le_of_ble_eq_true rfl, Nat.le_of_ble_eq_true rfl⟩ ⟨Nat.zero_le _, Nat.zero_le _⟩ dX11_recluse_36 (fun H locs hP hD hS => ?_)
          refine lv_icmp_ge (tgt := 44) X.hx X.hb dX11_recluse_39 (by decide) (fun hc_21 => ?_) (fun hc_21 => ?_)
          · replace hf := if_t hf hc_21
            exact hj_6 _ _ _ _ hf hP hD hS (lv_sub hl [0, 1, 2] rfl)
          · replace hf := if_f hf hc_21
            exact hj_10 _ _ _ hf hP hD hS (lv_sub hl [0, 2] rfl)
  exact hlo_1 N _ _ _ _ _ hf hP hD hS (lv_sub hl [2, 1, 0] rfl)

def f_X11_lays (N : Nat) (iY : Nat → Int32) (sY : Nat → Nat → Int32) (tY : Nat → Nat → Int64) (jY : Nat → Int64) (p1 : Int32) : Option ((Nat → Int32) × (Nat → Nat → Int32)) :=
  ck (iY 37) 80 (nv (upd (sY 36) (ix (iY 37)) (vp_nar .byte (p1.toInt8.toInt32))) (fun g_2 => some ((va_up iY 37 ((iY 37) + 1)), (va_up sY 36 g_2))))
set_option maxHeartbeats 4000000 in
set_option maxRecDepth 100000 in
theorem c_X11_lays (l : Launch) (G : GT) (N : Nat) (uY : Nat → Nat) (iY : Nat → Int32) (sY : Nat → Nat → Int32) (tY : Nat → Nat → Int64) (jY : Nat → Int64) (p1 : Int32) {iY' : Nat → Int32} {sY' : Nat → Nat → Int32} (hf : f_X11_lays N iY sY tY jY p1 = some (iY', sY')) : CV l G yX11_lays cX11_lays 2 1 [.ref (uY 0), .int p1] (gY G uY iY sY tY jY) (gY G uY iY' sY' tY jY) := by
  refine CV.of (by decide) (Nat.le_of_ble_eq_true rfl) ?_
  intro p e s m args below meth c A X hA hP hD hS ls hl
  have hl : lv_has ls 2 [(0, .ref (uY 0)), (1, .int p1)] := hl
  generalize hQ : MQ below (QV G A (gY G uY iY' sY' tY jY)) args s 0 0 A = QQ
  unfold f_X11_lays at hf
  refine lv_aload_n X.hx X.hb dX11_lays_0 rfl (lv_at hl 0 rfl) ?_
  refine gf_X11_74 X hP 0 rfl (v := .ref (uY 37)) rfl dX11_lays_1 ?_
  refine lv_aload_n X.hx X.hb dX11_lays_4 rfl (lv_at hl 0 rfl) ?_
  refine gf_X11_382 X hP 0 rfl (v := .int (iY 37)) rfl dX11_lays_5 ?_
  refine lv_iload_n X.hx X.hb dX11_lays_8 rfl (lv_at hl 1 rfl) ?_
  refine lv_i2b (v := (p1.toInt8.toInt32)) X.hx X.hb dX11_lays_9 rfl ?_
  obtain ⟨hi_1, hf⟩ := ck_i hf
  obtain ⟨g_2, eg_2, hf⟩ := nv_i hf
  refine r_bast X hP hD hS 14 (f := (sY 36)) rfl hi_1 (wo := (gY G uY iY (va_up sY 36 g_2) tY jY)) (by subst eg_2; rfl) dX11_lays_10 (fun H locs hP hD hS => ?_)
  refine lv_aload_n X.hx X.hb dX11_lays_11 rfl (lv_at hl 0 rfl) ?_
  refine lv_dup X.hx X.hb dX11_lays_12 rfl ?_
  refine gf_X11_382 X hP 0 rfl (v := .int (iY 37)) rfl dX11_lays_13 ?_
  refine lv_iconst (v := 1) X.hx X.hb dX11_lays_16 (by decide) ?_
  refine lv_iadd X.hx X.hb dX11_lays_17 ?_
  refine pf_X11_382 X hP hD hS 0 rfl rfl rfl (Nat.le_of_ble_eq_true rfl) (wo := (gY G uY (va_up iY 37 ((iY 37) + 1)) (va_up sY 36 g_2) tY jY)) rfl dX11_lays_18 (fun H locs hP hD hS => ?_)
  cases hf
  subst hQ
  exact r_vret X hP hD hS dX11_lays_21

def f_X11_spells_3 (N : Nat) (tY : Nat → Nat → Int64) (jY : Nat → Int64) (v1 : Int64) : Nat → (Nat → Int32) → (Nat → Nat → Int32) → (Int32) → Option ((Nat → Int32) × (Nat → Nat → Int32))
  | 0, _, _, _ => none
  | k + 1, iY, sY, v3 => (if v3 < 0 then some (iY, sY) else jn (fun (z : (Nat → Int32) × (Nat → Nat → Int32)) => match z with | (iY_19, sY_20) => f_X11_spells_3 N tY jY v1 k iY_19 sY_20 (v3 + (-8))) (fun K_16 => (if (lg_cmp ((srl v1 v3) &&& 255) 0) = 0 then K_16 (iY, sY) else bd (f_X11_lays N iY sY tY jY (((srl v1 v3) &&& 255).toInt32)) (fun (iY_22, sY_23) => K_16 (iY_22, sY_23)))))
def f_X11_spells (N : Nat) (iY : Nat → Int32) (sY : Nat → Nat → Int32) (tY : Nat → Nat → Int64) (jY : Nat → Int64) (p1 : Int64) : Option ((Nat → Int32) × (Nat → Nat → Int32)) :=
  f_X11_spells_3 N tY jY p1 N iY sY 56
set_option maxHeartbeats 4000000 in
set_option maxRecDepth 100000 in
theorem c_X11_spells (l : Launch) (G : GT) (N : Nat) (uY : Nat → Nat) (iY : Nat → Int32) (sY : Nat → Nat → Int32) (tY : Nat → Nat → Int64) (jY : Nat → Int64) (p1 : Int64) {iY' : Nat → Int32} {sY' : Nat → Nat → Int32} (hf : f_X11_spells N iY sY tY jY p1 = some (iY', sY')) : CV l G yX11_spells cX11_spells 4 2 [.ref (uY 0), .long p1] (gY G uY iY sY tY jY) (gY G uY iY' sY' tY jY) := by
  refine CV.of (by decide) (Nat.le_of_ble_eq_true rfl) ?_
  intro p e s m args below meth c A X hA hP hD hS ls hl
  have hl : lv_has ls 4 [(0, .ref (uY 0)), (1, .long p1)] := hl
  generalize hQ : MQ below (QV G A (gY G uY iY' sY' tY jY)) args s 0 0 A = QQ
  unfold f_X11_spells at hf
  refine lv_bipush (v := 56) X.hx X.hb dX11_spells_0 (by decide) ?_
  refine lv_istore_n (lv' := [(3, .int 56), (0, .ref (uY 0)), (1, .long p1)]) X.hx X.hb dX11_spells_2 rfl hl (by decide) rfl (fun ls hl => ?_)
  have hlo_1 : ∀ (k : Nat) (iY_2 : Nat → Int32) (sY_3 : Nat → Nat → Int32) (v3_4 : Int32) (H : Heap) (locs : List Loc) (ls : Array Slot), f_X11_spells_3 N tY jY p1 k iY_2 sY_3 v3_4 = some (iY', sY') → va_P G.1 vwCl (gY G uY iY_2 sY_3 tY jY) H → va_D A (gY G uY iY_2 sY_3 tY jY) → va_S A s.heap H locs → lv_has ls 4 [(0, .ref (uY 0)), (1, .long p1), (3, .int v3_4)] → W p l e (RM 2) s m args below meth c H locs 0 0 QQ (F0 m 3 ls []) := by
    intro k
    induction k with
    | zero => intro iY_2 sY_3 v3_4 H locs ls hf; exact absurd hf (by intro q; cases q)
    | succ k ih =>
      intro iY_2 sY_3 v3_4 H locs ls hf hP hD hS hl
      unfold f_X11_spells_3 at hf
      refine lv_iload_n X.hx X.hb dX11_spells_3 rfl (lv_at hl 2 rfl) ?_
      refine lv_if_lt (tgt := 37) X.hx X.hb dX11_spells_4 (by decide) (fun hc_5 => ?_) (fun hc_5 => ?_)
      · replace hf := if_t hf hc_5
        cases hf
        subst hQ
        exact r_vret X hP hD hS dX11_spells_37
      · replace hf := if_f hf hc_5
        refine lv_lload_n X.hx X.hb dX11_spells_7 rfl (lv_at hl 1 rfl) ?_
        refine lv_iload_n X.hx X.hb dX11_spells_8 rfl (lv_at hl 2 rfl) ?_
        refine lv_lshr (v := (srl p1 v3_4)) X.hx X.hb dX11_spells_9 rfl ?_
        refine lv_ldc2 (v := 255) X.hx X.hb X.hown (X.hts _ tw_1798) dX11_spells_10 ?_
        refine lv_land X.hx X.hb dX11_spells_13 ?_
        refine lv_lconst (v := 0) X.hx X.hb dX11_spells_14 rfl ?_
        refine W.lcmp X.hx X.hb dX11_spells_15 ?_
        obtain ⟨K_6, eK_8, hf⟩ := jn_i hf
        have hj_7 : ∀ (iY_9 : Nat → Int32) (sY_10 : Nat → Nat → Int32) (H : Heap) (locs : List Loc) (ls : Array Slot), K_6 (iY_9, sY_10) = some (iY', sY') → va_P G.1 vwCl (gY G uY iY_9 sY_10 tY jY) H → va_D A (gY G uY iY_9 sY_10 tY jY) → va_S A s.heap H locs → lv_has ls 4 [(0, .ref (uY 0)), (1, .long p1), (3, .int v3_4)] → W p l e (RM 2) s m args below meth c H locs 0 0 QQ (F0 m 31 ls []) := by
          intro iY_9 sY_10 H locs ls hf hP hD hS hl
          rw [eK_8] at hf
          try dsimp only at hf
          refine lv_iinc (v := (v3_4 + (-8))) (lv' := [(3, .int (v3_4 + (-8))), (0, .ref (uY 0)), (1, .long p1)]) X.hx X.hb dX11_spells_31 hl (k := 2) rfl rfl (by decide) rfl (fun ls hl => ?_)
          refine lv_goto (tgt := 3) X.hx X.hb dX11_spells_34 (by decide) ?_
          exact ih _ _ _ _ _ _ hf hP hD hS (lv_sub hl [1, 2, 0] rfl)
        refine lv_if_eq (tgt := 31) X.hx X.hb dX11_spells_16 (by decide) (fun hc_11 => ?_) (fun hc_11 => ?_)
        · replace hf := if_t hf hc_11
          exact hj_7 _ _ _ _ _ hf hP hD hS (lv_sub hl [0, 1, 2] rfl)
        · replace hf := if_f hf hc_11
          refine lv_aload_n X.hx X.hb dX11_spells_19 rfl (lv_at hl 0 rfl) ?_
          refine lv_lload_n X.hx X.hb dX11_spells_20 rfl (lv_at hl 1 rfl) ?_
          refine lv_iload_n X.hx X.hb dX11_spells_21 rfl (lv_at hl 2 rfl) ?_
          refine lv_lshr (v := (srl p1 v3_4)) X.hx X.hb dX11_spells_22 rfl ?_
          refine lv_ldc2 (v := 255) X.hx X.hb X.hown (X.hts _ tw_1798) dX11_spells_23 ?_
          refine lv_land X.hx X.hb dX11_spells_26 ?_
          refine lv_l2i (v := (((srl p1 v3_4) &&& 255).toInt32)) X.hx X.hb dX11_spells_27 rfl ?_
          obtain ⟨⟨iY_12, sY_13⟩, hc_14, hf⟩ := bd_i hf
          refine r_wvv (As := [.int (((srl p1 v3_4) &&& 255).toInt32)]) (rest := []) X sm_X11_387 (c_X11_lays l G N uY iY_2 sY_3 tY jY (((srl p1 v3_4) &&& 255).toInt32) hc_14) hP hD hS hA 0 rfl rfl rfl hl.1 (lv_room (Nat.le_of_ble_eq_true rfl)) ⟨Nat.le_of_ble_eq_true rfl, Nat.le_of_ble_eq_true rfl⟩ ⟨Nat.zero_le _, Nat.zero_le _⟩ dX11_spells_28 (fun H locs hP hD hS => ?_)
          exact hj_7 _ _ _ _ _ hf hP hD hS (lv_sub hl [0, 1, 2] rfl)
  exact hlo_1 N _ _ _ _ _ _ hf hP hD hS (lv_sub hl [1, 2, 0] rfl)

def f_X11_says (N : Nat) (iY : Nat → Int32) (sY : Nat → Nat → Int32) (tY : Nat → Nat → Int64) (jY : Nat → Int64) (p1 : Int64) : Option ((Nat → Int32) × (Nat → Nat → Int32)) :=
  bd (f_X11_lays N iY sY tY jY 32) (fun (iY_1, sY_2) => bd (f_X11_spells N iY_1 sY_2 tY jY p1) (fun (iY_4, sY_5) => some (iY_4, sY_5)))
set_option maxHeartbeats 4000000 in
set_option maxRecDepth 100000 in
theorem c_X11_says (l : Launch) (G : GT) (N : Nat) (uY : Nat → Nat) (iY : Nat → Int32) (sY : Nat → Nat → Int32) (tY : Nat → Nat → Int64) (jY : Nat → Int64) (p1 : Int64) {iY' : Nat → Int32} {sY' : Nat → Nat → Int32} (hf : f_X11_says N iY sY tY jY p1 = some (iY', sY')) : CV l G yX11_says cX11_says 3 3 [.ref (uY 0), .long p1] (gY G uY iY sY tY jY) (gY G uY iY' sY' tY jY) := by
  refine CV.of (by decide) (Nat.le_of_ble_eq_true rfl) ?_
  intro p e s m args below meth c A X hA hP hD hS ls hl
  have hl : lv_has ls 3 [(0, .ref (uY 0)), (1, .long p1)] := hl
  generalize hQ : MQ below (QV G A (gY G uY iY' sY' tY jY)) args s 0 0 A = QQ
  unfold f_X11_says at hf
  refine lv_aload_n X.hx X.hb dX11_says_0 rfl (lv_at hl 0 rfl) ?_
  refine lv_bipush (v := 32) X.hx X.hb dX11_says_1 (by decide) ?_
  obtain ⟨⟨iY_1, sY_2⟩, hc_3, hf⟩ := bd_i hf
  refine r_wvv (As := [.int 32]) (rest := []) X sm_X11_387 (c_X11_lays l G N uY iY sY tY jY 32 hc_3) hP hD hS hA 0 rfl rfl rfl hl.1 (lv_room (Nat.le_of_ble_eq_true rfl)) ⟨Nat.le_of_ble_eq_true rfl, Nat.le_of_ble_eq_true rfl⟩ ⟨Nat.zero_le _, Nat.zero_le _⟩ dX11_says_3 (fun H locs hP hD hS => ?_)
  refine lv_aload_n X.hx X.hb dX11_says_6 rfl (lv_at hl 0 rfl) ?_
  refine lv_lload_n X.hx X.hb dX11_says_7 rfl (lv_at hl 1 rfl) ?_
  obtain ⟨⟨iY_4, sY_5⟩, hc_6, hf⟩ := bd_i hf
  refine r_wvv (As := [.long p1]) (rest := []) X sm_X11_390 (c_X11_spells l G N uY iY_1 sY_2 tY jY p1 hc_6) hP hD hS hA 0 rfl rfl rfl hl.1 (lv_room (Nat.le_of_ble_eq_true rfl)) ⟨Nat.le_of_ble_eq_true rfl, Nat.le_of_ble_eq_true rfl⟩ ⟨Nat.zero_le _, Nat.zero_le _⟩ dX11_says_8 (fun H locs hP hD hS => ?_)
  cases hf
  subst hQ
  exact r_vret X hP hD hS dX11_says_11

def f_X11_face_54 (N : Nat) (tY : Nat → Nat → Int64) (jY : Nat → Int64) (v1 : Int32) (K_18 : ((Nat → Int32) × (Nat → Nat → Int32)) → Option (Int32 × (Nat → Int32) × (Nat → Nat → Int32))) : Nat → (Nat → Int32) → (Nat → Nat → Int32) → (Int32) → Option (Int32 × (Nat → Int32) × (Nat → Nat → Int32))
  | 0, _, _, _ => none
  | k + 1, iY, sY, v2 => (if ((sY 6) 0) ≤ v2 then K_18 (iY, sY) else bd (f_X11_knownBy N iY sY tY jY v1) (fun r_60 => bd (f_X11_bitOf N r_60 v2) (fun r_62 => jn (fun (z : (Nat → Int32) × (Nat → Nat → Int32)) => match z with | (iY_67, sY_68) => f_X11_face_54 N tY jY v1 K_18 k iY_67 sY_68 (v2 + 1)) (fun K_64 => (if r_62 = 0 then K_64 (iY, sY) else ck v2 24 (bd (f_X11_says N iY sY tY jY ((tY 9) (ix v2))) (fun (iY_71, sY_72) => K_64 (iY_71, sY_72))))))))
def f_X11_face (N : Nat) (iY : Nat → Int32) (sY : Nat → Nat → Int32) (tY : Nat → Nat → Int64) (jY : Nat → Int64) (p1 : Int32) : Option (Int32 × (Nat → Int32) × (Nat → Nat → Int32)) :=
  bd (f_X11_isPerson N (va_up iY 0 0) sY tY jY p1) (fun r_1 => (if r_1 = 0 then some ((-1), (va_up iY 0 0), sY) else ck p1 24 (bd (f_X11_spells N (va_up (va_up iY 0 0) 37 0) sY tY jY ((tY 9) (ix p1))) (fun (iY_5, sY_6) => bd (f_X11_says N iY_5 sY_6 tY jY 461414299507) (fun (iY_8, sY_9) => bd (f_X11_knownBy N iY_8 sY_9 tY jY p1) (fun r_11 => jn (fun (z : (Nat → Int32) × (Nat → Nat → Int32)) => match z with | (iY_16, sY_17) => jn (fun (z : (Nat → Int32) × (Nat → Nat → Int32)) => match z with | (iY_21, sY_22) => bd (f_X11_isVeiled N iY_21 sY_22 tY jY p1) (fun r_23 => jn (fun (z : (Nat → Int32) × (Nat → Nat → Int32)) => match z with | (iY_28, sY_29) => bd (f_X11_isHome N iY_28 sY_29 tY jY p1) (fun r_30 => (if r_30 = 0 then some ((iY_28 37), iY_28, sY_29) else bd (f_X11_says N iY_28 sY_29 tY jY 1752132965) (fun (iY_33, sY_34) => some ((iY_33 37), iY_33, sY_34))))) (fun K_25 => (if r_23 = 0 then K_25 (iY_21, sY_22) else bd (f_X11_says N iY_21 sY_22 tY jY 130177932485988) (fun (iY_37, sY_38) => K_25 (iY_37, sY_38)))))) (fun K_18 => f_X11_face_54 N tY jY p1 K_18 N iY_16 sY_17 0)) (fun K_13 => (if r_11 = 0 then bd (f_X11_says N iY_8 sY_9 tY jY 121424671892601) (fun (iY_75, sY_76) => K_13 (iY_75, sY_76)) else K_13 (iY_8, sY_9)))))))))
set_option maxHeartbeats 4000000 in
set_option maxRecDepth 100000 in
theorem c_X11_face (l : Launch) (G : GT) (N : Nat) (uY : Nat → Nat) (iY : Nat → Int32) (sY : Nat → Nat → Int32) (tY : Nat → Nat → Int64) (jY : Nat → Int64) (p1 : Int32) {r : Int32} {iY' : Nat → Int32} {sY' : Nat → Nat → Int32} (hf : f_X11_face N iY sY tY jY p1 = some (r, iY', sY')) : CI l G yX11_face cX11_face 3 .int 4 [.ref (uY 0), .int p1] (gY G uY iY sY tY jY) r (gY G uY iY' sY' tY jY) := by
  refine CI.of (by decide) (Nat.le_of_ble_eq_true rfl) ?_
  intro p e s m args below meth c A X hA hP hD hS ls hl
  have hl : lv_has ls 3 [(0, .ref (uY 0)), (1, .int p1)] := hl
  generalize hQ : MQ below (QI G A r (gY G uY iY' sY' tY jY)) args s 0 0 A = QQ
  unfold f_X11_face at hf
  refine lv_aload_n X.hx X.hb dX11_face_0 rfl (lv_at hl 0 rfl) ?_
  refine lv_iconst (v := 0) X.hx X.hb dX11_face_1 (by decide) ?_
  refine pf_X11_1 X hP hD hS 0 rfl rfl rfl (Nat.le_of_ble_eq_true rfl) (wo := (gY G uY (va_up iY 0 0) sY tY jY)) rfl dX11_face_2 (fun H locs hP hD hS => ?_)
  refine lv_aload_n X.hx X.hb dX11_face_5 rfl (lv_at hl 0 rfl) ?_
  refine lv_iload_n X.hx X.hb dX11_face_6 rfl (lv_at hl 1 rfl) ?_
  obtain ⟨r_1, hc_2, hf⟩ := bd_i hf
  refine r_wvi (As := [.int p1]) (rest := []) X sm_X11_272 (c_X11_isPerson l G N uY (va_up iY 0 0) sY tY jY p1 hc_2) hP hD hS hA 0 rfl rfl rfl hl.1 (lv_room (Nat.le_of_ble_eq_true rfl)) ⟨Nat.le_of_ble_eq_true rfl, Nat.le_of_ble_eq_true rfl⟩ ⟨Nat.zero_le _, Nat.zero_le _⟩ dX11_face_7 (fun H locs hP hD hS => ?_)
  refine lv_if_ne (tgt := 15) X.hx X.hb dX11_face_10 (by decide) (fun hc_3 => ?_) (fun hc_3 => ?_)
  · replace hf := if_f hf hc_3
    refine lv_aload_n X.hx X.hb dX11_face_15 rfl (lv_at hl 0 rfl) ?_
    refine lv_iconst (v := 0) X.hx X.hb dX11_face_16 (by decide) ?_
    refine pf_X11_382 X hP hD hS 0 rfl rfl rfl (Nat.le_of_ble_eq_true rfl) (wo := (gY G uY (va_up (va_up iY 0 0) 37 0) sY tY jY)) rfl dX11_face_17 (fun H locs hP hD hS => ?_)
    refine lv_aload_n X.hx X.hb dX11_face_20 rfl (lv_at hl 0 rfl) ?_
    refine lv_aload_n X.hx X.hb dX11_face_21 rfl (lv_at hl 0 rfl) ?_
    refine gf_X11_43 X hP 0 rfl (v := .ref (uY 10)) rfl dX11_face_22 ?_
    refine lv_iload_n X.hx X.hb dX11_face_25 rfl (lv_at hl 1 rfl) ?_
    obtain ⟨hi_4, hf⟩ := ck_i hf
    refine r_lald X hP 5 (f := (tY 9)) rfl hi_4 dX11_face_26 ?_
    obtain ⟨⟨iY_5, sY_6⟩, hc_7, hf⟩ := bd_i hf
    refine r_wvv (As := [.long ((tY 9) (ix p1))]) (rest := []) X sm_X11_390 (c_X11_spells l G N uY (va_up (va_up iY 0 0) 37 0) sY tY jY ((tY 9) (ix p1)) hc_7) hP hD hS hA 0 rfl rfl rfl hl.1 (lv_room (Nat.le_of_ble_eq_true rfl)) ⟨Nat.le_of_ble_eq_true rfl, Nat.le_of_ble_eq_true rfl⟩ ⟨Nat.zero_le _, Nat.zero_le _⟩ dX11_face_27 (fun H locs hP hD hS => ?_)
    refine lv_aload_n X.hx X.hb dX11_face_30 rfl (lv_at hl 0 rfl) ?_
    refine lv_ldc2 (v := 461414299507) X.hx X.hb X.hown (X.hts _ tw_1298) dX11_face_31 ?_
    obtain ⟨⟨iY_8, sY_9⟩, hc_10, hf⟩ := bd_i hf
    refine r_wvv (As := [.long 461414299507]) (rest := []) X sm_X11_394 (c_X11_says l G N uY iY_5 sY_6 tY jY 461414299507 hc_10) hP hD hS hA 0 rfl rfl rfl hl.1 (lv_room (Nat.le_of_ble_eq_true rfl)) ⟨Nat.le_of_ble_eq_true rfl, Nat.le_of_ble_eq_true rfl⟩ ⟨Nat.zero_le _, Nat.zero_le _⟩ dX11_face_34 (fun H locs hP hD hS => ?_)
    refine lv_aload_n X.hx X.hb dX11_face_37 rfl (lv_at hl 0 rfl) ?_
    refine lv_iload_n X.hx X.hb dX11_face_38 rfl (lv_at hl 1 rfl) ?_
    obtain ⟨r_11, hc_12, hf⟩ := bd_i hf
    refine r_wvi (As := [.int p1]) (rest := []) X sm_X11_265 (c_X11_knownBy l G N uY iY_8 sY_9 tY jY p1 hc_12) hP hD hS hA 0 rfl rfl rfl hl.1 (lv_room (Nat.le_of_ble_eq_true rfl)) ⟨Nat.le_of_ble_eq_true rfl, Nat.le_of_ble_eq_true rfl⟩ ⟨Nat.zero_le _, Nat.zero_le _⟩ dX11_face_39 (fun H locs hP hD hS => ?_)
    obtain ⟨K_13, eK_15, hf⟩ := jn_i hf
    have hj_14 : ∀ (iY_16 : Nat → Int32) (sY_17 : Nat → Nat → Int32) (H : Heap) (locs : List Loc) (ls : Array Slot), K_13 (iY_16, sY_17) = some (r, iY', sY') → va_P G.1 vwCl (gY G uY iY_16 sY_17 tY jY) H → va_D A (gY G uY iY_16 sY_17 tY jY) → va_S A s.heap H locs → lv_has ls 3 [(0, .ref (uY 0)), (1, .int p1)] → W p l e (RM 4) s m args below meth c H locs 0 0 QQ (F0 m 52 ls []) := by
      intro iY_16 sY_17 H locs ls hf hP hD hS hl
      rw [eK_15] at hf
      try dsimp only at hf
      refine lv_iconst (v := 0) X.hx X.hb dX11_face_52 (by decide) ?_
      refine lv_istore_n (lv' := [(2, .int 0), (0, .ref (uY 0)), (1, .int p1)]) X.hx X.hb dX11_face_53 rfl hl (by decide) rfl (fun ls hl => ?_)
      obtain ⟨K_18, eK_20, hf⟩ := jn_i hf
      have hj_19 : ∀ (iY_21 : Nat → Int32) (sY_22 : Nat → Nat → Int32) (H : Heap) (locs : List Loc) (ls : Array Slot), K_18 (iY_21, sY_22) = some (r, iY', sY') → va_P G.1 vwCl (gY G uY iY_21 sY_22 tY jY) H → va_D A (gY G uY iY_21 sY_22 tY jY) → va_S A s.heap H locs → lv_has ls 3 [(0, .ref (uY 0)), (1, .int p1)] → W p l e (RM 4) s m args below meth c H locs 0 0 QQ (F0 m 92 ls []) := by
        intro iY_21 sY_22 H locs ls hf hP hD hS hl
        rw [eK_20] at hf
        try dsimp only at hf
        refine lv_aload_n X.hx X.hb dX11_face_92 rfl (lv_at hl 0 rfl) ?_
        refine lv_iload_n X.hx X.hb dX11_face_93 rfl (lv_at hl 1 rfl) ?_
        obtain ⟨r_23, hc_24, hf⟩ := bd_i hf
        refine r_wvi (As := [.int p1]) (rest := []) X sm_X11_293 (c_X11_isVeiled l G N uY iY_21 sY_22 tY jY p1 hc_24) hP hD hS hA 0 rfl rfl rfl hl.1 (lv_room (Nat.le_of_ble_eq_true rfl)) ⟨Nat.le_of_ble_eq_true rfl, Nat.le_of_ble_eq_true rfl⟩ ⟨Nat.zero_le _, Nat.zero_le _⟩ dX11_face_94 (fun H locs hP hD hS => ?_)
        obtain ⟨K_25, eK_27, hf⟩ := jn_i hf
        have hj_26 : ∀ (iY_28 : Nat → Int32) (sY_29 : Nat → Nat → Int32) (H : Heap) (locs : List Loc) (ls : Array Slot), K_25 (iY_28, sY_29) = some (r, iY', sY') → va_P G.1 vwCl (gY G uY iY_28 sY_29 tY jY) H → va_D A (gY G uY iY_28 sY_29 tY jY) → va_S A s.heap H locs → lv_has ls 3 [(0, .ref (uY 0)), (1, .int p1)] → W p l e (RM 4) s m args below meth c H locs 0 0 QQ (F0 m 107 ls []) := by
          intro iY_28 sY_29 H locs ls hf hP hD hS hl
          rw [eK_27] at hf
          try dsimp only at hf
          refine lv_aload_n X.hx X.hb dX11_face_107 rfl (lv_at hl 0 rfl) ?_
          refine lv_iload_n X.hx X.hb dX11_face_108 rfl (lv_at hl 1 rfl) ?_
          obtain ⟨r_30, hc_31, hf⟩ := bd_i hf
          refine r_wvi (As := [.int p1]) (rest := []) X sm_X11_290 (c_X11_isHome l G N uY iY_28 sY_29 tY jY p1 hc_31) hP hD hS hA 0 rfl rfl rfl hl.1 (lv_room (Nat.le_of_ble_eq_true rfl)) ⟨Nat.le_of_ble_eq_true rfl, Nat.le_of_ble_eq_true rfl⟩ ⟨Nat.zero_le _, Nat.zero_le _⟩ dX11_face_109 (fun H locs hP hD hS => ?_)
          refine lv_if_eq (tgt := 122) X.hx X.hb dX11_face_112 (by decide) (fun hc_32 => ?_) (fun hc_32 => ?_)
          · replace hf := if_t hf hc_32
            refine lv_aload_n X.hx X.hb dX11_face_122 rfl (lv_at hl 0 rfl) ?_
            refine gf_X11_382 X hP 0 rfl (v := .int (iY_28 37)) rfl dX11_face_123 ?_
            cases hf
            subst hQ
            exact r_iret X hP hD hS dX11_face_126
          · replace hf := if_f hf hc_32
            refine lv_aload_n X.hx X.hb dX11_face_115 rfl (lv_at hl 0 rfl) ?_
            refine lv_ldc2 (v := 1752132965) X.hx X.hb X.hown (X.hts _ tw_1310) dX11_face_116 ?_
            obtain ⟨⟨iY_33, sY_34⟩, hc_35, hf⟩ := bd_i hf
            refine r_wvv (As := [.long 1752132965]) (rest := []) X sm_X11_394 (c_X11_says l G N uY iY_28 sY_29 tY jY 1752132965 hc_35) hP hD hS hA 0 rfl rfl rfl hl.1 (lv_room (Nat.le_of_ble_eq_true rfl)) ⟨Nat.le_of_ble_eq_true rfl, Nat.le_of_ble_eq_true rfl⟩ ⟨Nat.zero_le _, Nat.zero_le _⟩ dX11_face_119 (fun H locs hP hD hS => ?_)
            refine lv_aload_n X.hx X.hb dX11_face_122 rfl (lv_at hl 0 rfl) ?_
            refine gf_X11_382 X hP 0 rfl (v := .int (iY_33 37)) rfl dX11_face_123 ?_
            cases hf
            subst hQ
            exact r_iret X hP hD hS dX11_face_126
        refine lv_if_eq (tgt := 107) X.hx X.hb dX11_face_97 (by decide) (fun hc_36 => ?_) (fun hc_36 => ?_)
        · replace hf := if_t hf hc_36
          exact hj_26 _ _ _ _ _ hf hP hD hS (lv_sub hl [0, 1] rfl)
        · replace hf := if_f hf hc_36
          refine lv_aload_n X.hx X.hb dX11_face_100 rfl (lv_at hl 0 rfl) ?_
          refine lv_ldc2 (v := 130177932485988) X.hx X.hb X.hown (X.hts _ tw_1311) dX11_face_101 ?_
          obtain ⟨⟨iY_37, sY_38⟩, hc_39, hf⟩ := bd_i hf
          refine r_wvv (As := [.long 130177932485988]) (rest := []) X sm_X11_394 (c_X11_says l G N uY iY_21 sY_22 tY jY 130177932485988 hc_39) hP hD hS hA 0 rfl rfl rfl hl.1 (lv_room (Nat.le_of_ble_eq_true rfl)) ⟨Nat.le_of_ble_eq_true rfl, Nat.le_of_ble_eq_true rfl⟩ ⟨Nat.zero_le _, Nat.zero_le _⟩ dX11_face_104 (fun H locs hP hD hS => ?_)
          exact hj_26 _ _ _ _ _ hf hP hD hS (lv_sub hl [0, 1] rfl)
      have hlo_40 : ∀ (k : Nat) (iY_41 : Nat → Int32) (sY_42 : Nat → Nat → Int32) (v2_43 : Int32) (H : Heap) (locs : List Loc) (ls : Array Slot), f_X11_face_54 N tY jY p1 K_18 k iY_41 sY_42 v2_43 = some (r, iY', sY') → va_P G.1 vwCl (gY G uY iY_41 sY_42 tY jY) H → va_D A (gY G uY iY_41 sY_42 tY jY) → va_S A s.heap H locs → lv_has ls 3 [(0, .ref (uY 0)), (1, .int p1), (2, .int v2_43)] → W p l e (RM 4) s m args below meth c H locs 0 0 QQ (F0 m 54 ls []) := by
        intro k
        induction k with
        | zero => intro iY_41 sY_42 v2_43 H locs ls hf; exact absurd hf (by intro q; cases q)
        | succ k ih =>
          intro iY_41 sY_42 v2_43 H locs ls hf hP hD hS hl
          unfold f_X11_face_54 at hf
          refine lv_iload_n X.hx X.hb dX11_face_54 rfl (lv_at hl 2 rfl) ?_
          refine lv_aload_n X.hx X.hb dX11_face_55 rfl (lv_at hl 0 rfl) ?_
          refine gf_X11_33 X hP 0 rfl (v := .ref (uY 7)) rfl dX11_face_56 ?_
          refine lv_iconst (v := 0) X.hx X.hb dX11_face_59 (by decide) ?_
          refine r_iald X hP 2 (f := (sY_42 6)) rfl (vp_c rfl) dX11_face_60 ?_
          refine W.eq (g2 := F0 m 61 ls [.int ((sY_42 6) 0), .int v2_43]) rfl ?_
          refine lv_icmp_ge (tgt := 92) X.hx X.hb dX11_face_61 (by decide) (fun hc_44 => ?_) (fun hc_44 => ?_)
          · replace hf := if_t hf hc_44
            exact hj_19 _ _ _ _ _ hf hP hD hS (lv_sub hl [0, 1] rfl)
          · replace hf := if_f hf hc_44
            refine lv_aload_n X.hx X.hb dX11_face_64 rfl (lv_at hl 0 rfl) ?_
            refine lv_iload_n X.hx X.hb dX11_face_65 rfl (lv_at hl 1 rfl) ?_
            obtain ⟨r_45, hc_46, hf⟩ := bd_i hf
            refine r_wvi (As := [.int p1]) (rest := []) X sm_X11_265 (c_X11_knownBy l G N uY iY_41 sY_42 tY jY p1 hc_46) hP hD hS hA 0 rfl rfl rfl hl.1 (lv_room (Nat.le_of_ble_eq_true rfl)) ⟨Nat.le_of_ble_eq_true rfl, Nat.le_of_ble_eq_true rfl⟩ ⟨Nat.zero_le _, Nat.zero_le _⟩ dX11_face_66 (fun H locs hP hD hS => ?_)
            refine lv_iload_n X.hx X.hb dX11_face_69 rfl (lv_at hl 2 rfl) ?_
            obtain ⟨r_47, hc_48, hf⟩ := bd_i hf
            refine r_cs0 (As := [.int r_45, .int v2_43]) (rest := []) X sm_X11_214 (c_X11_bitOf l G N r_45 v2_43 hc_48) hP hD hS hA rfl hl.1 (lv_room (Nat.le_of_ble_eq_true rfl)) ⟨Nat.le_of_ble_eq_true rfl, Nat.le_of_ble_eq_true rfl⟩ ⟨Nat.zero_le _, Nat.zero_le _⟩ dX11_face_70 (fun H locs hP hD hS => ?_)
            obtain ⟨K_49, eK_51, hf⟩ := jn_i hf
            have hj_50 : ∀ (iY_52 : Nat → Int32) (sY_53 : Nat → Nat → Int32) (H : Heap) (locs : List Loc) (ls : Array Slot), K_49 (iY_52, sY_53) = some (r, iY', sY') → va_P G.1 vwCl (gY G uY iY_52 sY_53 tY jY) H → va_D A (gY G uY iY_52 sY_53 tY jY) → va_S A s.heap H locs → lv_has ls 3 [(0, .ref (uY 0)), (1, .int p1), (2, .int v2_43)] → W p l e (RM 4) s m args below meth c H locs 0 0 QQ (F0 m 86 ls []) := by
              intro iY_52 sY_53 H locs ls hf hP hD hS hl
              rw [eK_51] at hf
              try dsimp only at hf
              refine lv_iinc (v := (v2_43 + 1)) (lv' := [(2, .int (v2_43 + 1)), (0, .ref (uY 0)), (1, .int p1)]) X.hx X.hb dX11_face_86 hl (k := 2) rfl rfl (by decide) rfl (fun ls hl => ?_)
              refine lv_goto (tgt := 54) X.hx X.hb dX11_face_89 (by decide) ?_
              exact ih _ _ _ _ _ _ hf hP hD hS (lv_sub hl [1, 2, 0] rfl)
            refine lv_if_eq (tgt := 86) X.hx X.hb dX11_face_73 (by decide) (fun hc_54 => ?_) (fun hc_54 => ?_)
            · replace hf := if_t hf hc_54
              exact hj_50 _ _ _ _ _ hf hP hD hS (lv_sub hl [0, 1, 2] rfl)
            · replace hf := if_f hf hc_54
              refine lv_aload_n X.hx X.hb dX11_face_76 rfl (lv_at hl 0 rfl) ?_
              refine lv_aload_n X.hx X.hb dX11_face_77 rfl (lv_at hl 0 rfl) ?_
              refine gf_X11_43 X hP 0 rfl (v := .ref (uY 10)) rfl dX11_face_78 ?_
              refine lv_iload_n X.hx X.hb dX11_face_81 rfl (lv_at hl 2 rfl) ?_
              obtain ⟨hi_55, hf⟩ := ck_i hf
              refine r_lald X hP 5 (f := (tY 9)) rfl hi_55 dX11_face_82 ?_
              obtain ⟨⟨iY_56, sY_57⟩, hc_58, hf⟩ := bd_i hf
              refine r_wvv (As := [.long ((tY 9) (ix v2_43))]) (rest := []) X sm_X11_394 (c_X11_says l G N uY iY_41 sY_42 tY jY ((tY 9) (ix v2_43)) hc_58) hP hD hS hA 0 rfl rfl rfl hl.1 (lv_room (Nat.le_of_ble_eq_true rfl)) ⟨Nat.le_of_ble_eq_true rfl, Nat.le_of_ble_eq_true rfl⟩ ⟨Nat.zero_le _, Nat.zero_le _⟩ dX11_face_83 (fun H locs hP hD hS => ?_)
              exact hj_50 _ _ _ _ _ hf hP hD hS (lv_sub hl [0, 1, 2] rfl)
      exact hlo_40 N _ _ _ _ _ _ hf hP hD hS (lv_sub hl [1, 2, 0] rfl)
    refine lv_if_ne (tgt := 52) X.hx X.hb dX11_face_42 (by decide) (fun hc_74 => ?_) (fun hc_74 => ?_)
    · replace hf := if_f hf hc_74
      exact hj_14 _ _ _ _ _ hf hP hD hS (lv_sub hl [0, 1] rfl)
    · replace hf := if_t hf hc_74
      refine lv_aload_n X.hx X.hb dX11_face_45 rfl (lv_at hl 0 rfl) ?_
      refine lv_ldc2 (v := 121424671892601) X.hx X.hb X.hown (X.hts _ tw_1807) dX11_face_46 ?_
      obtain ⟨⟨iY_75, sY_76⟩, hc_77, hf⟩ := bd_i hf
      refine r_wvv (As := [.long 121424671892601]) (rest := []) X sm_X11_394 (c_X11_says l G N uY iY_8 sY_9 tY jY 121424671892601 hc_77) hP hD hS hA 0 rfl rfl rfl hl.1 (lv_room (Nat.le_of_ble_eq_true rfl)) ⟨Nat.le_of_ble_eq_true rfl, Nat.le_of_ble_eq_true rfl⟩ ⟨Nat.zero_le _, Nat.zero_le _⟩ dX11_face_49 (fun H locs hP hD hS => ?_)
      exact hj_14 _ _ _ _ _ hf hP hD hS (lv_sub hl [0, 1] rfl)
  · replace hf := if_t hf hc_3
    refine lv_iconst (v := (-1)) X.hx X.hb dX11_face_13 (by decide) ?_
    cases hf
    subst hQ
    exact r_iret X hP hD hS dX11_face_14

def f_X11_byteAt (N : Nat) (iY : Nat → Int32) (sY : Nat → Nat → Int32) (tY : Nat → Nat → Int64) (jY : Nat → Int64) (p1 : Int32) : Option (Int32 × (Nat → Int32)) :=
  bd (f_X11_isIn N p1 0 ((iY 37) - 1)) (fun r_1 => (if r_1 = 0 then some ((-1), (va_up iY 0 0)) else ck p1 80 (some (((sY 36) (ix p1)), (va_up iY 0 0)))))
set_option maxHeartbeats 4000000 in
set_option maxRecDepth 100000 in
theorem c_X11_byteAt (l : Launch) (G : GT) (N : Nat) (uY : Nat → Nat) (iY : Nat → Int32) (sY : Nat → Nat → Int32) (tY : Nat → Nat → Int64) (jY : Nat → Int64) (p1 : Int32) {r : Int32} {iY' : Nat → Int32} (hf : f_X11_byteAt N iY sY tY jY p1 = some (r, iY')) : CI l G yX11_byteAt cX11_byteAt 2 .int 2 [.ref (uY 0), .int p1] (gY G uY iY sY tY jY) r (gY G uY iY' sY tY jY) := by
  refine CI.of (by decide) (Nat.le_of_ble_eq_true rfl) ?_
  intro p e s m args below meth c A X hA hP hD hS ls hl
  have hl : lv_has ls 2 [(0, .ref (uY 0)), (1, .int p1)] := hl
  generalize hQ : MQ below (QI G A r (gY G uY iY' sY tY jY)) args s 0 0 A = QQ
  unfold f_X11_byteAt at hf
  refine lv_aload_n X.hx X.hb dX11_byteAt_0 rfl (lv_at hl 0 rfl) ?_
  refine lv_iconst (v := 0) X.hx X.hb dX11_byteAt_1 (by decide) ?_
  refine pf_X11_1 X hP hD hS 0 rfl rfl rfl (Nat.le_of_ble_eq_true rfl) (wo := (gY G uY (va_up iY 0 0) sY tY jY)) rfl dX11_byteAt_2 (fun H locs hP hD hS => ?_)
  refine lv_iload_n X.hx X.hb dX11_byteAt_5 rfl (lv_at hl 1 rfl) ?_
  refine lv_iconst (v := 0) X.hx X.hb dX11_byteAt_6 (by decide) ?_
  refine lv_aload_n X.hx X.hb dX11_byteAt_7 rfl (lv_at hl 0 rfl) ?_
  refine gf_X11_382 X hP 0 rfl (v := .int (iY 37)) rfl dX11_byteAt_8 ?_
  refine lv_iconst (v := 1) X.hx X.hb dX11_byteAt_11 (by decide) ?_
  refine lv_isub X.hx X.hb dX11_byteAt_12 ?_
  obtain ⟨r_1, hc_2, hf⟩ := bd_i hf
  refine r_cs0 (As := [.int p1, .int 0, .int ((iY 37) - 1)]) (rest := []) X sm_X11_189 (c_X11_isIn l G N p1 0 ((iY 37) - 1) hc_2) hP hD hS hA rfl hl.1 (lv_room (Nat.le_of_ble_eq_true rfl)) ⟨Nat.le_of_ble_eq_true rfl, Nat.le_of_ble_eq_true rfl⟩ ⟨Nat.zero_le _, Nat.zero_le _⟩ dX11_byteAt_13 (fun H locs hP hD hS => ?_)
  refine lv_if_eq (tgt := 28) X.hx X.hb dX11_byteAt_16 (by decide) (fun hc_3 => ?_) (fun hc_3 => ?_)
  · replace hf := if_t hf hc_3
    refine lv_iconst (v := (-1)) X.hx X.hb dX11_byteAt_28 (by decide) ?_
    cases hf
    subst hQ
    exact r_iret X hP hD hS dX11_byteAt_29
  · replace hf := if_f hf hc_3
    refine lv_aload_n X.hx X.hb dX11_byteAt_19 rfl (lv_at hl 0 rfl) ?_
    refine gf_X11_74 X hP 0 rfl (v := .ref (uY 37)) rfl dX11_byteAt_20 ?_
    refine lv_iload_n X.hx X.hb dX11_byteAt_23 rfl (lv_at hl 1 rfl) ?_
    obtain ⟨hi_4, hf⟩ := ck_i hf
    refine r_bald X hP 14 (f := (sY 36)) rfl hi_4 dX11_byteAt_24 ?_
    refine lv_goto (tgt := 29) X.hx X.hb dX11_byteAt_25 (by decide) ?_
    cases hf
    subst hQ
    exact r_iret X hP hD hS dX11_byteAt_29

def f_X11_draw (N : Nat) (iY : Nat → Int32) (sY : Nat → Nat → Int32) (tY : Nat → Nat → Int64) (jY : Nat → Int64) (p1 : Int32) : Option (Int32 × (Nat → Int32)) :=
  nv (((iY 38) * 1103515245) + 12345) (fun n_1 => nz p1 (some (((us n_1 8) - (us n_1 8) / p1 * p1), (va_up iY 38 n_1))))
set_option maxHeartbeats 4000000 in
set_option maxRecDepth 100000 in
theorem c_X11_draw (l : Launch) (G : GT) (N : Nat) (uY : Nat → Nat) (iY : Nat → Int32) (sY : Nat → Nat → Int32) (tY : Nat → Nat → Int64) (jY : Nat → Int64) (p1 : Int32) {r : Int32} {iY' : Nat → Int32} (hf : f_X11_draw N iY sY tY jY p1 = some (r, iY')) : CI l G yX11_draw cX11_draw 2 .int 1 [.ref (uY 0), .int p1] (gY G uY iY sY tY jY) r (gY G uY iY' sY tY jY) := by
  refine CI.of (by decide) (Nat.le_of_ble_eq_true rfl) ?_
  intro p e s m args below meth c A X hA hP hD hS ls hl
  have hl : lv_has ls 2 [(0, .ref (uY 0)), (1, .int p1)] := hl
  generalize hQ : MQ below (QI G A r (gY G uY iY' sY tY jY)) args s 0 0 A = QQ
  unfold f_X11_draw at hf
  refine lv_aload_n X.hx X.hb dX11_draw_0 rfl (lv_at hl 0 rfl) ?_
  refine lv_aload_n X.hx X.hb dX11_draw_1 rfl (lv_at hl 0 rfl) ?_
  refine gf_X11_399 X hP 0 rfl (v := .int (iY 38)) rfl dX11_draw_2 ?_
  refine lv_ldcw (v := 1103515245) X.hx X.hb X.hown (X.hts _ tw_1828) dX11_draw_5 ?_
  refine lv_imul X.hx X.hb dX11_draw_8 ?_
  refine lv_sipush (v := 12345) X.hx X.hb dX11_draw_9 (by decide) ?_
  refine lv_iadd X.hx X.hb dX11_draw_12 ?_
  obtain ⟨n_1, en_1, hf⟩ := nv_i hf
  refine r_nm en_1 ?_
  refine pf_X11_399 X hP hD hS 0 rfl rfl rfl (Nat.le_of_ble_eq_true rfl) (wo := (gY G uY (va_up iY 38 n_1) sY tY jY)) rfl dX11_draw_13 (fun H locs hP hD hS => ?_)
  refine lv_aload_n X.hx X.hb dX11_draw_16 rfl (lv_at hl 0 rfl) ?_
  refine gf_X11_399 X hP 0 rfl (v := .int n_1) rfl dX11_draw_17 ?_
  refine lv_bipush (v := 8) X.hx X.hb dX11_draw_20 (by decide) ?_
  refine lv_iushr (v := (us n_1 8)) X.hx X.hb dX11_draw_22 rfl ?_
  refine lv_iload_n X.hx X.hb dX11_draw_23 rfl (lv_at hl 1 rfl) ?_
  obtain ⟨hz_2, hf⟩ := nz_i hf
  refine lv_irem X.hx X.hb dX11_draw_24 hz_2 ?_
  cases hf
  subst hQ
  exact r_iret X hP hD hS dX11_draw_25

def f_X11_drawPerson (N : Nat) (iY : Nat → Int32) (sY : Nat → Nat → Int32) (tY : Nat → Nat → Int64) (jY : Nat → Int64) (p1 : Int32) : Option ((Nat → Int32) × (Nat → Nat → Int32)) :=
  bd (f_X11_draw N iY sY tY jY 6) (fun (r_1, iY_2) => jn (fun (z : (Nat → Int32) × (Nat → Nat → Int32)) => match z with | (iY_7, sY_8) => jn (fun (z : (Nat → Int32) × (Nat → Nat → Int32)) => match z with | (iY_12, sY_13) => (if r_1 = 4 then bd (f_X11_whyVeil N iY_12 sY_13 tY jY p1) (fun r_15 => (if r_15 = 0 then bd (f_X11_veils N iY_12 sY_13 tY jY p1) (fun sY_18 => some (iY_12, sY_18)) else some (iY_12, sY_13))) else some (iY_12, sY_13))) (fun K_9 => (if r_1 = 3 then bd (f_X11_draw N iY_7 sY_8 tY jY ((sY_8 6) 0)) (fun (r_21, iY_22) => bd (f_X11_whyNod N iY_22 sY_8 tY jY p1 r_21) (fun r_24 => (if r_24 = 0 then bd (f_X11_nods N iY_22 sY_8 tY jY p1 r_21) (fun sY_27 => K_9 (iY_22, sY_27)) else K_9 (iY_22, sY_8)))) else K_9 (iY_7, sY_8)))) (fun K_4 => (if (3 : Int32) ≤ r_1 then K_4 (iY_2, sY) else (if ((sY 6) 1) ≤ 0 then K_4 (iY_2, sY) else bd (f_X11_draw N iY_2 sY tY jY ((sY 6) 1)) (fun (r_31, iY_32) => bd (f_X11_draw N iY_32 sY tY jY ((sY 6) 0)) (fun (r_34, iY_35) => bd (f_X11_whyBuy N iY_35 sY tY jY p1 r_31 r_34) (fun r_37 => (if r_37 = 0 then bd (f_X11_buys N iY_35 sY tY jY p1 r_31 r_34) (fun sY_40 => K_4 (iY_35, sY_40)) else K_4 (iY_35, sY)))))))))
set_option maxHeartbeats 4000000 in
set_option maxRecDepth 100000 in
theorem c_X11_drawPerson (l : Launch) (G : GT) (N : Nat) (uY : Nat → Nat) (iY : Nat → Int32) (sY : Nat → Nat → Int32) (tY : Nat → Nat → Int64) (jY : Nat → Int64) (p1 : Int32) {iY' : Nat → Int32} {sY' : Nat → Nat → Int32} (hf : f_X11_drawPerson N iY sY tY jY p1 = some (iY', sY')) : CV l G yX11_drawPerson cX11_drawPerson 5 4 [.ref (uY 0), .int p1] (gY G uY iY sY tY jY) (gY G uY iY' sY' tY jY) := by
  refine CV.of (by decide) (Nat.le_of_ble_eq_true rfl) ?_
  intro p e s m args below meth c A X hA hP hD hS ls hl
  have hl : lv_has ls 5 [(0, .ref (uY 0)), (1, .int p1)] := hl
  generalize hQ : MQ below (QV G A (gY G uY iY' sY' tY jY)) args s 0 0 A = QQ
  unfold f_X11_drawPerson at hf
  refine lv_aload_n X.hx X.hb dX11_drawPerson_0 rfl (lv_at hl 0 rfl) ?_
  refine lv_bipush (v := 6) X.hx X.hb dX11_drawPerson_1 (by decide) ?_
  obtain ⟨⟨r_1, iY_2⟩, hc_3, hf⟩ := bd_i hf
  refine r_wvi (As := [.int 6]) (rest := []) X sm_X11_403 (c_X11_draw l G N uY iY sY tY jY 6 hc_3) hP hD hS hA 0 rfl rfl rfl hl.1 (lv_room (Nat.le_of_ble_eq_true rfl)) ⟨Nat.le_of_ble_eq_true rfl, Nat.le_of_ble_eq_true rfl⟩ ⟨Nat.zero_le _, Nat.zero_le _⟩ dX11_drawPerson_3 (fun H locs hP hD hS => ?_)
  refine lv_istore_n (lv' := [(2, .int r_1), (0, .ref (uY 0)), (1, .int p1)]) X.hx X.hb dX11_drawPerson_6 rfl hl (by decide) rfl (fun ls hl => ?_)
  refine lv_iload_n X.hx X.hb dX11_drawPerson_7 rfl (lv_at hl 0 rfl) ?_
  refine lv_iconst (v := 3) X.hx X.hb dX11_drawPerson_8 (by decide) ?_
  obtain ⟨K_4, eK_6, hf⟩ := jn_i hf
  have hj_5 : ∀ (iY_7 : Nat → Int32) (sY_8 : Nat → Nat → Int32) (H : Heap) (locs : List Loc) (ls : Array Slot), K_4 (iY_7, sY_8) = some (iY', sY') → va_P G.1 vwCl (gY G uY iY_7 sY_8 tY jY) H → va_D A (gY G uY iY_7 sY_8 tY jY) → va_S A s.heap H locs → lv_has ls 5 [(0, .ref (uY 0)), (1, .int p1), (2, .int r_1)] → W p l e (RM 4) s m args below meth c H locs 0 0 QQ (F0 m 63 ls []) := by
    intro iY_7 sY_8 H locs ls hf hP hD hS hl
    rw [eK_6] at hf
    try dsimp only at hf
    refine lv_iload_n X.hx X.hb dX11_drawPerson_63 rfl (lv_at hl 2 rfl) ?_
    refine lv_iconst (v := 3) X.hx X.hb dX11_drawPerson_64 (by decide) ?_
    obtain ⟨K_9, eK_11, hf⟩ := jn_i hf
    have hj_10 : ∀ (iY_12 : Nat → Int32) (sY_13 : Nat → Nat → Int32) (H : Heap) (locs : List Loc) (ls : Array Slot), K_9 (iY_12, sY_13) = some (iY', sY') → va_P G.1 vwCl (gY G uY iY_12 sY_13 tY jY) H → va_D A (gY G uY iY_12 sY_13 tY jY) → va_S A s.heap H locs → lv_has ls 5 [(0, .ref (uY 0)), (1, .int p1), (2, .int r_1)] → W p l e (RM 4) s m args below meth c H locs 0 0 QQ (F0 m 94 ls []) := by
      intro iY_12 sY_13 H locs ls hf hP hD hS hl
      rw [eK_11] at hf
      try dsimp only at hf
      refine lv_iload_n X.hx X.hb dX11_drawPerson_94 rfl (lv_at hl 2 rfl) ?_
      refine lv_iconst (v := 4) X.hx X.hb dX11_drawPerson_95 (by decide) ?_
      refine lv_icmp_ne (tgt := 112) X.hx X.hb dX11_drawPerson_96 (by decide) (fun hc_14 => ?_) (fun hc_14 => ?_)
      · replace hf := if_f hf hc_14
        cases hf
        subst hQ
        exact r_vret X hP hD hS dX11_drawPerson_112
      · replace hf := if_t hf hc_14
        refine lv_aload_n X.hx X.hb dX11_drawPerson_99 rfl (lv_at hl 0 rfl) ?_
        refine lv_iload_n X.hx X.hb dX11_drawPerson_100 rfl (lv_at hl 1 rfl) ?_
        obtain ⟨r_15, hc_16, hf⟩ := bd_i hf
        refine r_wvi (As := [.int p1]) (rest := []) X sm_X11_323 (c_X11_whyVeil l G N uY iY_12 sY_13 tY jY p1 hc_16) hP hD hS hA 0 rfl rfl rfl hl.1 (lv_room (Nat.le_of_ble_eq_true rfl)) ⟨Nat.le_of_ble_eq_true rfl, Nat.le_of_ble_eq_true rfl⟩ ⟨Nat.zero_le _, Nat.zero_le _⟩ dX11_drawPerson_101 (fun H locs hP hD hS => ?_)
        refine lv_if_ne (tgt := 112) X.hx X.hb dX11_drawPerson_104 (by decide) (fun hc_17 => ?_) (fun hc_17 => ?_)
        · replace hf := if_f hf hc_17
          cases hf
          subst hQ
          exact r_vret X hP hD hS dX11_drawPerson_112
        · replace hf := if_t hf hc_17
          refine lv_aload_n X.hx X.hb dX11_drawPerson_107 rfl (lv_at hl 0 rfl) ?_
          refine lv_iload_n X.hx X.hb dX11_drawPerson_108 rfl (lv_at hl 1 rfl) ?_
          obtain ⟨sY_18, hc_19, hf⟩ := bd_i hf
          refine r_wvv (As := [.int p1]) (rest := []) X sm_X11_326 (c_X11_veils l G N uY iY_12 sY_13 tY jY p1 hc_19) hP hD hS hA 0 rfl rfl rfl hl.1 (lv_room (Nat.le_of_ble_eq_true rfl)) ⟨Nat.le_of_ble_eq_true rfl, Nat.le_of_ble_eq_true rfl⟩ ⟨Nat.zero_le _, Nat.zero_le _⟩ dX11_drawPerson_109 (fun H locs hP hD hS => ?_)
          cases hf
          subst hQ
          exact r_vret X hP hD hS dX11_drawPerson_112
    refine lv_icmp_ne (tgt := 94) X.hx X.hb dX11_drawPerson_65 (by decide) (fun hc_20 => ?_) (fun hc_20 => ?_)
    · replace hf := if_f hf hc_20
      exact hj_10 _ _ _ _ _ hf hP hD hS (lv_sub hl [0, 1, 2] rfl)
    · replace hf := if_t hf hc_20
      refine lv_aload_n X.hx X.hb dX11_drawPerson_68 rfl (lv_at hl 0 rfl) ?_
      refine lv_aload_n X.hx X.hb dX11_drawPerson_69 rfl (lv_at hl 0 rfl) ?_
      refine gf_X11_33 X hP 0 rfl (v := .ref (uY 7)) rfl dX11_drawPerson_70 ?_
      refine lv_iconst (v := 0) X.hx X.hb dX11_drawPerson_73 (by decide) ?_
      refine r_iald X hP 2 (f := (sY_8 6)) rfl (vp_c rfl) dX11_drawPerson_74 ?_
      refine W.eq (g2 := F0 m 75 ls [.int ((sY_8 6) 0), .ref (uY 0)]) rfl ?_
      obtain ⟨⟨r_21, iY_22⟩, hc_23, hf⟩ := bd_i hf
      refine r_wvi (As := [.int ((sY_8 6) 0)]) (rest := []) X sm_X11_403 (c_X11_draw l G N uY iY_7 sY_8 tY jY ((sY_8 6) 0) hc_23) hP hD hS hA 0 rfl rfl rfl hl.1 (lv_room (Nat.le_of_ble_eq_true rfl)) ⟨Nat.le_of_ble_eq_true rfl, Nat.le_of_ble_eq_true rfl⟩ ⟨Nat.zero_le _, Nat.zero_le _⟩ dX11_drawPerson_75 (fun H locs hP hD hS => ?_)
      refine lv_istore_n (lv' := [(3, .int r_21), (0, .ref (uY 0)), (1, .int p1), (2, .int r_1)]) X.hx X.hb dX11_drawPerson_78 rfl hl (by decide) rfl (fun ls hl => ?_)
      refine lv_aload_n X.hx X.hb dX11_drawPerson_79 rfl (lv_at hl 1 rfl) ?_
      refine lv_iload_n X.hx X.hb dX11_drawPerson_80 rfl (lv_at hl 2 rfl) ?_
      refine lv_iload_n X.hx X.hb dX11_drawPerson_81 rfl (lv_at hl 0 rfl) ?_
      obtain ⟨r_24, hc_25, hf⟩ := bd_i hf
      refine r_wvi (As := [.int p1, .int r_21]) (rest := []) X sm_X11_317 (c_X11_whyNod l G N uY iY_22 sY_8 tY jY p1 r_21 hc_25) hP hD hS hA 0 rfl rfl rfl hl.1 (lv_room (Nat.le_of_ble_eq_true rfl)) ⟨Nat.le_of_ble_eq_true rfl, Nat.le_of_ble_eq_true rfl⟩ ⟨Nat.zero_le _, Nat.zero_le _⟩ dX11_drawPerson_82 (fun H locs hP hD hS => ?_)
      refine lv_if_ne (tgt := 94) X.hx X.hb dX11_drawPerson_85 (by decide) (fun hc_26 => ?_) (fun hc_26 => ?_)
      · replace hf := if_f hf hc_26
        exact hj_10 _ _ _ _ _ hf hP hD hS (lv_sub hl [1, 2, 3] rfl)
      · replace hf := if_t hf hc_26
        refine lv_aload_n X.hx X.hb dX11_drawPerson_88 rfl (lv_at hl 1 rfl) ?_
        refine lv_iload_n X.hx X.hb dX11_drawPerson_89 rfl (lv_at hl 2 rfl) ?_
        refine lv_iload_n X.hx X.hb dX11_drawPerson_90 rfl (lv_at hl 0 rfl) ?_
        obtain ⟨sY_27, hc_28, hf⟩ := bd_i hf
        refine r_wvv (As := [.int p1, .int r_21]) (rest := []) X sm_X11_320 (c_X11_nods l G N uY iY_22 sY_8 tY jY p1 r_21 hc_28) hP hD hS hA 0 rfl rfl rfl hl.1 (lv_room (Nat.le_of_ble_eq_true rfl)) ⟨Nat.le_of_ble_eq_true rfl, Nat.le_of_ble_eq_true rfl⟩ ⟨Nat.zero_le _, Nat.zero_le _⟩ dX11_drawPerson_91 (fun H locs hP hD hS => ?_)
        exact hj_10 _ _ _ _ _ hf hP hD hS (lv_sub hl [1, 2, 3] rfl)
  refine lv_icmp_ge (tgt := 63) X.hx X.hb dX11_drawPerson_9 (by decide) (fun hc_29 => ?_) (fun hc_29 => ?_)
  · replace hf := if_t hf hc_29
    exact hj_5 _ _ _ _ _ hf hP hD hS (lv_sub hl [1, 2, 0] rfl)
  · replace hf := if_f hf hc_29
    refine lv_aload_n X.hx X.hb dX11_drawPerson_12 rfl (lv_at hl 1 rfl) ?_
    refine gf_X11_33 X hP 0 rfl (v := .ref (uY 7)) rfl dX11_drawPerson_13 ?_
    refine lv_iconst (v := 1) X.hx X.hb dX11_drawPerson_16 (by decide) ?_
    refine r_iald X hP 2 (f := (sY 6)) rfl (vp_c rfl) dX11_drawPerson_17 ?_
    refine W.eq (g2 := F0 m 18 ls [.int ((sY 6) 1)]) rfl ?_
    refine lv_if_le (tgt := 63) X.hx X.hb dX11_drawPerson_18 (by decide) (fun hc_30 => ?_) (fun hc_30 => ?_)
    · replace hf := if_t hf hc_30
      exact hj_5 _ _ _ _ _ hf hP hD hS (lv_sub hl [1, 2, 0] rfl)
    · replace hf := if_f hf hc_30
      refine lv_aload_n X.hx X.hb dX11_drawPerson_21 rfl (lv_at hl 1 rfl) ?_
      refine lv_aload_n X.hx X.hb dX11_drawPerson_22 rfl (lv_at hl 1 rfl) ?_
      refine gf_X11_33 X hP 0 rfl (v := .ref (uY 7)) rfl dX11_drawPerson_23 ?_
      refine lv_iconst (v := 1) X.hx X.hb dX11_drawPerson_26 (by decide) ?_
      refine r_iald X hP 2 (f := (sY 6)) rfl (vp_c rfl) dX11_drawPerson_27 ?_
      refine W.eq (g2 := F0 m 28 ls [.int ((sY 6) 1), .ref (uY 0)]) rfl ?_
      obtain ⟨⟨r_31, iY_32⟩, hc_33, hf⟩ := bd_i hf
      refine r_wvi (As := [.int ((sY 6) 1)]) (rest := []) X sm_X11_403 (c_X11_draw l G N uY iY_2 sY tY jY ((sY 6) 1) hc_33) hP hD hS hA 0 rfl rfl rfl hl.1 (lv_room (Nat.le_of_ble_eq_true rfl)) ⟨Nat.le_of_ble_eq_true rfl, Nat.le_of_ble_eq_true rfl⟩ ⟨Nat.zero_le _, Nat.zero_le _⟩ dX11_drawPerson_28 (fun H locs hP hD hS => ?_)
      refine lv_istore_n (lv' := [(3, .int r_31), (2, .int r_1), (0, .ref (uY 0)), (1, .int p1)]) X.hx X.hb dX11_drawPerson_31 rfl hl (by decide) rfl (fun ls hl => ?_)
      refine lv_aload_n X.hx X.hb dX11_drawPerson_32 rfl (lv_at hl 2 rfl) ?_
      refine lv_aload_n X.hx X.hb dX11_drawPerson_33 rfl (lv_at hl 2 rfl) ?_
      refine gf_X11_33 X hP 0 rfl (v := .ref (uY 7)) rfl dX11_drawPerson_34 ?_
      refine lv_iconst (v := 0) X.hx X.hb dX11_drawPerson_37 (by decide) ?_
      refine r_iald X hP 2 (f := (sY 6)) rfl (vp_c rfl) dX11_drawPerson_38 ?_
      refine W.eq (g2 := F0 m 39 ls [.int ((sY 6) 0), .ref (uY 0)]) rfl ?_
      obtain ⟨⟨r_34, iY_35⟩, hc_36, hf⟩ := bd_i hf
      refine r_wvi (As := [.int ((sY 6) 0)]) (rest := []) X sm_X11_403 (c_X11_draw l G N uY iY_32 sY tY jY ((sY 6) 0) hc_36) hP hD hS hA 0 rfl rfl rfl hl.1 (lv_room (Nat.le_of_ble_eq_true rfl)) ⟨Nat.le_of_ble_eq_true rfl, Nat.le_of_ble_eq_true rfl⟩ ⟨Nat.zero_le _, Nat.zero_le _⟩ dX11_drawPerson_39 (fun H locs hP hD hS => ?_)
      refine lv_istore (lv' := [(4, .int r_34), (3, .int r_31), (2, .int r_1), (0, .ref (uY 0)), (1, .int p1)]) X.hx X.hb dX11_drawPerson_42 hl (by decide) rfl (fun ls hl => ?_)
      refine lv_aload_n X.hx X.hb dX11_drawPerson_44 rfl (lv_at hl 3 rfl) ?_
      refine lv_iload_n X.hx X.hb dX11_drawPerson_45 rfl (lv_at hl 4 rfl) ?_
      refine lv_iload_n X.hx X.hb dX11_drawPerson_46 rfl (lv_at hl 1 rfl) ?_
      refine lv_iload X.hx X.hb dX11_drawPerson_47 (lv_at hl 0 rfl) ?_
      obtain ⟨r_37, hc_38, hf⟩ := bd_i hf
      refine r_wvi (As := [.int p1, .int r_31, .int r_34]) (rest := []) X sm_X11_306 (c_X11_whyBuy l G N uY iY_35 sY tY jY p1 r_31 r_34 hc_38) hP hD hS hA 0 rfl rfl rfl hl.1 (lv_room (Nat.le_of_ble_eq_true rfl)) ⟨Nat.le_of_ble_eq_true rfl, Nat.le_of_ble_eq_true rfl⟩ ⟨Nat.zero_le _, Nat.zero_le _⟩ dX11_drawPerson_49 (fun H locs hP hD hS => ?_)
      refine lv_if_ne (tgt := 63) X.hx X.hb dX11_drawPerson_52 (by decide) (fun hc_39 => ?_) (fun hc_39 => ?_)
      · replace hf := if_f hf hc_39
        exact hj_5 _ _ _ _ _ hf hP hD hS (lv_sub hl [3, 4, 2] rfl)
      · replace hf := if_t hf hc_39
        refine lv_aload_n X.hx X.hb dX11_drawPerson_55 rfl (lv_at hl 3 rfl) ?_
        refine lv_iload_n X.hx X.hb dX11_drawPerson_56 rfl (lv_at hl 4 rfl) ?_
        refine lv_iload_n X.hx X.hb dX11_drawPerson_57 rfl (lv_at hl 1 rfl) ?_
        refine lv_iload X.hx X.hb dX11_drawPerson_58 (lv_at hl 0 rfl) ?_
        obtain ⟨sY_40, hc_41, hf⟩ := bd_i hf
        refine r_wvv (As := [.int p1, .int r_31, .int r_34]) (rest := []) X sm_X11_313 (c_X11_buys l G N uY iY_35 sY tY jY p1 r_31 r_34 hc_41) hP hD hS hA 0 rfl rfl rfl hl.1 (lv_room (Nat.le_of_ble_eq_true rfl)) ⟨Nat.le_of_ble_eq_true rfl, Nat.le_of_ble_eq_true rfl⟩ ⟨Nat.zero_le _, Nat.zero_le _⟩ dX11_drawPerson_60 (fun H locs hP hD hS => ?_)
        exact hj_5 _ _ _ _ _ hf hP hD hS (lv_sub hl [3, 4, 2] rfl)

def f_X11_draws_29 (N : Nat) (tY : Nat → Nat → Int64) (jY : Nat → Int64) (v1 : Int32) (v3 : Int32) (K_7 : ((Nat → Int32) × (Nat → Nat → Int32)) → Option (Int32 × (Nat → Int32) × (Nat → Nat → Int32))) : Nat → (Nat → Int32) → (Nat → Nat → Int32) → (Int32) → Option (Int32 × (Nat → Int32) × (Nat → Nat → Int32))
  | 0, _, _, _ => none
  | k + 1, iY, sY, v4 => (if ((sY 6) 0) ≤ v4 then K_7 (iY, sY) else bd (f_X11_drawPerson N iY sY tY jY v4) (fun (iY_23, sY_24) => f_X11_draws_29 N tY jY v1 v3 K_7 k iY_23 sY_24 (v4 + 1)))
def f_X11_draws_7 (N : Nat) (tY : Nat → Nat → Int64) (jY : Nat → Int64) (v1 : Int32) : Nat → (Nat → Int32) → (Nat → Nat → Int32) → (Int32) → Option (Int32 × (Nat → Int32) × (Nat → Nat → Int32))
  | 0, _, _, _ => none
  | k + 1, iY, sY, v3 => (if v1 ≤ v3 then some (v3, iY, sY) else (if (400 : Int32) ≤ ((sY 6) 131) then some (v3, iY, sY) else jn (fun (z : (Nat → Int32) × (Nat → Nat → Int32)) => match z with | (iY_31, sY_32) => bd (f_X11_day N iY_31 sY_32 tY jY) (fun sY_33 => f_X11_draws_7 N tY jY v1 k iY_31 sY_33 (v3 + 1))) (fun K_28 => f_X11_draws_29 N tY jY v1 v3 K_28 N iY sY 0)))
def f_X11_draws (N : Nat) (iY : Nat → Int32) (sY : Nat → Nat → Int32) (tY : Nat → Nat → Int64) (jY : Nat → Int64) (p1 : Int32) (p2 : Int32) : Option (Int32 × (Nat → Int32) × (Nat → Nat → Int32)) :=
  f_X11_draws_7 N tY jY p1 N (va_up iY 38 p2) sY 0
set_option maxHeartbeats 4000000 in
set_option maxRecDepth 100000 in
theorem c_X11_draws (l : Launch) (G : GT) (N : Nat) (uY : Nat → Nat) (iY : Nat → Int32) (sY : Nat → Nat → Int32) (tY : Nat → Nat → Int64) (jY : Nat → Int64) (p1 : Int32) (p2 : Int32) {r : Int32} {iY' : Nat → Int32} {sY' : Nat → Nat → Int32} (hf : f_X11_draws N iY sY tY jY p1 p2 = some (r, iY', sY')) : CI l G yX11_draws cX11_draws 5 .int 5 [.ref (uY 0), .int p1, .int p2] (gY G uY iY sY tY jY) r (gY G uY iY' sY' tY jY) := by
  refine CI.of (by decide) (Nat.le_of_ble_eq_true rfl) ?_
  intro p e s m args below meth c A X hA hP hD hS ls hl
  have hl : lv_has ls 5 [(0, .ref (uY 0)), (1, .int p1), (2, .int p2)] := hl
  generalize hQ : MQ below (QI G A r (gY G uY iY' sY' tY jY)) args s 0 0 A = QQ
  unfold f_X11_draws at hf
  refine lv_aload_n X.hx X.hb dX11_draws_0 rfl (lv_at hl 0 rfl) ?_
  refine lv_iload_n X.hx X.hb dX11_draws_1 rfl (lv_at hl 2 rfl) ?_
  refine pf_X11_399 X hP hD hS 0 rfl rfl rfl (Nat.le_of_ble_eq_true rfl) (wo := (gY G uY (va_up iY 38 p2) sY tY jY)) rfl dX11_draws_2 (fun H locs hP hD hS => ?_)
  refine lv_iconst (v := 0) X.hx X.hb dX11_draws_5 (by decide) ?_
  refine lv_istore_n (lv' := [(3, .int 0), (0, .ref (uY 0)), (1, .int p1), (2, .int p2)]) X.hx X.hb dX11_draws_6 rfl hl (by decide) rfl (fun ls hl => ?_)
  have hlo_1 : ∀ (k : Nat) (iY_2 : Nat → Int32) (sY_3 : Nat → Nat → Int32) (v3_4 : Int32) (H : Heap) (locs : List Loc) (ls : Array Slot), f_X11_draws_7 N tY jY p1 k iY_2 sY_3 v3_4 = some (r, iY', sY') → va_P G.1 vwCl (gY G uY iY_2 sY_3 tY jY) H → va_D A (gY G uY iY_2 sY_3 tY jY) → va_S A s.heap H locs → lv_has ls 5 [(0, .ref (uY 0)), (1, .int p1), (3, .int v3_4)] → W p l e (RM 5) s m args below meth c H locs 0 0 QQ (F0 m 7 ls []) := by
    intro k
    induction k with
    | zero => intro iY_2 sY_3 v3_4 H locs ls hf; exact absurd hf (by intro q; cases q)
    | succ k ih =>
      intro iY_2 sY_3 v3_4 H locs ls hf hP hD hS hl
      unfold f_X11_draws_7 at hf
      refine lv_iload_n X.hx X.hb dX11_draws_7 rfl (lv_at hl 2 rfl) ?_
      refine lv_iload_n X.hx X.hb dX11_draws_8 rfl (lv_at hl 1 rfl) ?_
      refine lv_icmp_ge (tgt := 62) X.hx X.hb dX11_draws_9 (by decide) (fun hc_5 => ?_) (fun hc_5 => ?_)
      · replace hf := if_t hf hc_5
        refine lv_iload_n X.hx X.hb dX11_draws_62 rfl (lv_at hl 2 rfl) ?_
        cases hf
        subst hQ
        exact r_iret X hP hD hS dX11_draws_63
      · replace hf := if_f hf hc_5
        refine lv_aload_n X.hx X.hb dX11_draws_12 rfl (lv_at hl 0 rfl) ?_
        refine gf_X11_33 X hP 0 rfl (v := .ref (uY 7)) rfl dX11_draws_13 ?_
        refine lv_sipush (v := 131) X.hx X.hb dX11_draws_16 (by decide) ?_
        refine r_iald X hP 2 (f := (sY_3 6)) rfl (vp_c rfl) dX11_draws_19 ?_
        refine W.eq (g2 := F0 m 20 ls [.int ((sY_3 6) 131)]) rfl ?_
        refine lv_sipush (v := 400) X.hx X.hb dX11_draws_20 (by decide) ?_
        refine lv_icmp_ge (tgt := 62) X.hx X.hb dX11_draws_23 (by decide) (fun hc_6 => ?_) (fun hc_6 => ?_)
        · replace hf := if_t hf hc_6
          refine lv_iload_n X.hx X.hb dX11_draws_62 rfl (lv_at hl 2 rfl) ?_
          cases hf
          subst hQ
          exact r_iret X hP hD hS dX11_draws_63
        · replace hf := if_f hf hc_6
          refine lv_iconst (v := 0) X.hx X.hb dX11_draws_26 (by decide) ?_
          refine lv_istore (lv' := [(4, .int 0), (0, .ref (uY 0)), (1, .int p1), (3, .int v3_4)]) X.hx X.hb dX11_draws_27 hl (by decide) rfl (fun ls hl => ?_)
          obtain ⟨K_7, eK_9, hf⟩ := jn_i hf
          have hj_8 : ∀ (iY_10 : Nat → Int32) (sY_11 : Nat → Nat → Int32) (H : Heap) (locs : List Loc) (ls : Array Slot), K_7 (iY_10, sY_11) = some (r, iY', sY') → va_P G.1 vwCl (gY G uY iY_10 sY_11 tY jY) H → va_D A (gY G uY iY_10 sY_11 tY jY) → va_S A s.heap H locs → lv_has ls 5 [(0, .ref (uY 0)), (1, .int p1), (3, .int v3_4)] → W p l e (RM 5) s m args below meth c H locs 0 0 QQ (F0 m 52 ls []) := by
            intro iY_10 sY_11 H locs ls hf hP hD hS hl
            rw [eK_9] at hf
            try dsimp only at hf
            refine lv_aload_n X.hx X.hb dX11_draws_52 rfl (lv_at hl 0 rfl) ?_
            obtain ⟨sY_12, hc_13, hf⟩ := bd_i hf
            refine r_wvv (As := []) (rest := []) X sm_X11_303 (c_X11_day l G N uY iY_10 sY_11 tY jY hc_13) hP hD hS hA 0 rfl rfl rfl hl.1 (lv_room (Nat.le_of_ble_eq_true rfl)) ⟨Nat.le_of_ble_eq_true rfl, Nat.le_of_ble_eq_true rfl⟩ ⟨Nat.zero_le _, Nat.zero_le _⟩ dX11_draws_53 (fun H locs hP hD hS => ?_)
            refine lv_iinc (v := (v3_4 + 1)) (lv' := [(3, .int (v3_4 + 1)), (0, .ref (uY 0)), (1, .int p1)]) X.hx X.hb dX11_draws_56 hl (k := 2) rfl rfl (by decide) rfl (fun ls hl => ?_)
            refine lv_goto (tgt := 7) X.hx X.hb dX11_draws_59 (by decide) ?_
            exact ih _ _ _ _ _ _ hf hP hD hS (lv_sub hl [1, 2, 0] rfl)
          have hlo_14 : ∀ (k : Nat) (iY_15 : Nat → Int32) (sY_16 : Nat → Nat → Int32) (v4_17 : Int32) (H : Heap) (locs : List Loc) (ls : Array Slot), f_X11_draws_29 N tY jY p1 v3_4 K_7 k iY_15 sY_16 v4_17 = some (r, iY', sY') → va_P G.1 vwCl (gY G uY iY_15 sY_16 tY jY) H → va_D A (gY G uY iY_15 sY_16 tY jY) → va_S A s.heap H locs → lv_has ls 5 [(0, .ref (uY 0)), (1, .int p1), (3, .int v3_4), (4, .int v4_17)] → W p l e (RM 5) s m args below meth c H locs 0 0 QQ (F0 m 29 ls []) := by
            intro k
            induction k with
            | zero => intro iY_15 sY_16 v4_17 H locs ls hf; exact absurd hf (by intro q; cases q)
            | succ k ih =>
              intro iY_15 sY_16 v4_17 H locs ls hf hP hD hS hl
              unfold f_X11_draws_29 at hf
              refine lv_iload X.hx X.hb dX11_draws_29 (lv_at hl 3 rfl) ?_
              refine lv_aload_n X.hx X.hb dX11_draws_31 rfl (lv_at hl 0 rfl) ?_
              refine gf_X11_33 X hP 0 rfl (v := .ref (uY 7)) rfl dX11_draws_32 ?_
              refine lv_iconst (v := 0) X.hx X.hb dX11_draws_35 (by decide) ?_
              refine r_iald X hP 2 (f := (sY_16 6)) rfl (vp_c rfl) dX11_draws_36 ?_
              refine W.eq (g2 := F0 m 37 ls [.int ((sY_16 6) 0), .int v4_17]) rfl ?_
              refine lv_icmp_ge (tgt := 52) X.hx X.hb dX11_draws_37 (by decide) (fun hc_18 => ?_) (fun hc_18 => ?_)
              · replace hf := if_t hf hc_18
                exact hj_8 _ _ _ _ _ hf hP hD hS (lv_sub hl [0, 1, 2] rfl)
              · replace hf := if_f hf hc_18
                refine lv_aload_n X.hx X.hb dX11_draws_40 rfl (lv_at hl 0 rfl) ?_
                refine lv_iload X.hx X.hb dX11_draws_41 (lv_at hl 3 rfl) ?_
                obtain ⟨⟨iY_19, sY_20⟩, hc_21, hf⟩ := bd_i hf
                refine r_wvv (As := [.int v4_17]) (rest := []) X sm_X11_406 (c_X11_drawPerson l G N uY iY_15 sY_16 tY jY v4_17 hc_21) hP hD hS hA 0 rfl rfl rfl hl.1 (lv_room (Nat.le_of_ble_eq_true rfl)) ⟨Nat.le_of_ble_eq_true rfl, Nat.le_of_ble_eq_true rfl⟩ ⟨Nat.zero_le _, Nat.zero_le _⟩ dX11_draws_43 (fun H locs hP hD hS => ?_)
                refine lv_iinc (v := (v4_17 + 1)) (lv' := [(4, .int (v4_17 + 1)), (0, .ref (uY 0)), (1, .int p1), (3, .int v3_4)]) X.hx X.hb dX11_draws_46 hl (k := 3) rfl rfl (by decide) rfl (fun ls hl => ?_)
                refine lv_goto (tgt := 29) X.hx X.hb dX11_draws_49 (by decide) ?_
                exact ih _ _ _ _ _ _ hf hP hD hS (lv_sub hl [1, 2, 3, 0] rfl)
          exact hlo_14 N _ _ _ _ _ _ hf hP hD hS (lv_sub hl [1, 2, 3, 0] rfl)
  exact hlo_1 N _ _ _ _ _ _ hf hP hD hS (lv_sub hl [1, 2, 0] rfl)

def f_X11_drawn (N : Nat) (iY : Nat → Int32) (sY : Nat → Nat → Int32) (tY : Nat → Nat → Int64) (jY : Nat → Int64) (p1 : Int32) (p2 : Int32) : Option (Int32 × (Nat → Int32) × (Nat → Nat → Int32)) :=
  bd (f_X11_isIn N p1 1 60) (fun r_1 => (if r_1 = 0 then some ((-1), (va_up iY 0 0), sY) else jn (fun (z : (Nat → Int32) × (Nat → Nat → Int32)) => match z with | (iY_7, sY_8) => bd (f_X11_draws N iY_7 sY_8 tY jY p1 p2) (fun (r_9, iY_10, sY_11) => some (r_9, iY_10, sY_11))) (fun K_4 => (if (400 : Int32) ≤ ((sY 6) 131) then K_4 ((va_up iY 0 0), sY) else bd (f_X11_keep N (va_up iY 0 0) sY tY jY) (fun (iY_14, sY_15) => K_4 (iY_14, sY_15))))))
set_option maxHeartbeats 4000000 in
set_option maxRecDepth 100000 in
theorem c_X11_drawn (l : Launch) (G : GT) (N : Nat) (uY : Nat → Nat) (iY : Nat → Int32) (sY : Nat → Nat → Int32) (tY : Nat → Nat → Int64) (jY : Nat → Int64) (p1 : Int32) (p2 : Int32) {r : Int32} {iY' : Nat → Int32} {sY' : Nat → Nat → Int32} (hf : f_X11_drawn N iY sY tY jY p1 p2 = some (r, iY', sY')) : CI l G yX11_drawn cX11_drawn 3 .int 6 [.ref (uY 0), .int p1, .int p2] (gY G uY iY sY tY jY) r (gY G uY iY' sY' tY jY) := by
  refine CI.of (by decide) (Nat.le_of_ble_eq_true rfl) ?_
  intro p e s m args below meth c A X hA hP hD hS ls hl
  have hl : lv_has ls 3 [(0, .ref (uY 0)), (1, .int p1), (2, .int p2)] := hl
  generalize hQ : MQ below (QI G A r (gY G uY iY' sY' tY jY)) args s 0 0 A = QQ
  unfold f_X11_drawn at hf
  refine lv_aload_n X.hx X.hb dX11_drawn_0 rfl (lv_at hl 0 rfl) ?_
  refine lv_iconst (v := 0) X.hx X.hb dX11_drawn_1 (by decide) ?_
  refine pf_X11_1 X hP hD hS 0 rfl rfl rfl (Nat.le_of_ble_eq_true rfl) (wo := (gY G uY (va_up iY 0 0) sY tY jY)) rfl dX11_drawn_2 (fun H locs hP hD hS => ?_)
  refine lv_iload_n X.hx X.hb dX11_drawn_5 rfl (lv_at hl 1 rfl) ?_
  refine lv_iconst (v := 1) X.hx X.hb dX11_drawn_6 (by decide) ?_
  refine lv_bipush (v := 60) X.hx X.hb dX11_drawn_7 (by decide) ?_
  obtain ⟨r_1, hc_2, hf⟩ := bd_i hf
  refine r_cs0 (As := [.int p1, .int 1, .int 60]) (rest := []) X sm_X11_189 (c_X11_isIn l G N p1 1 60 hc_2) hP hD hS hA rfl hl.1 (lv_room (Nat.le_of_ble_eq_true rfl)) ⟨Nat.le_of_ble_eq_true rfl, Nat.le_of_ble_eq_true rfl⟩ ⟨Nat.zero_le _, Nat.zero_le _⟩ dX11_drawn_9 (fun H locs hP hD hS => ?_)
  refine lv_if_ne (tgt := 17) X.hx X.hb dX11_drawn_12 (by decide) (fun hc_3 => ?_) (fun hc_3 => ?_)
  · replace hf := if_f hf hc_3
    refine lv_aload_n X.hx X.hb dX11_drawn_17 rfl (lv_at hl 0 rfl) ?_
    refine gf_X11_33 X hP 0 rfl (v := .ref (uY 7)) rfl dX11_drawn_18 ?_
    refine lv_sipush (v := 131) X.hx X.hb dX11_drawn_21 (by decide) ?_
    refine r_iald X hP 2 (f := (sY 6)) rfl (vp_c rfl) dX11_drawn_24 ?_
    refine W.eq (g2 := F0 m 25 ls [.int ((sY 6) 131)]) rfl ?_
    refine lv_sipush (v := 400) X.hx X.hb dX11_drawn_25 (by decide) ?_
    obtain ⟨K_4, eK_6, hf⟩ := jn_i hf
    have hj_5 : ∀ (iY_7 : Nat → Int32) (sY_8 : Nat → Nat → Int32) (H : Heap) (locs : List Loc) (ls : Array Slot), K_4 (iY_7, sY_8) = some (r, iY', sY') → va_P G.1 vwCl (gY G uY iY_7 sY_8 tY jY) H → va_D A (gY G uY iY_7 sY_8 tY jY) → va_S A s.heap H locs → lv_has ls 3 [(0, .ref (uY 0)), (1, .int p1), (2, .int p2)] → W p l e (RM 6) s m args below meth c H locs 0 0 QQ (F0 m 35 ls []) := by
      intro iY_7 sY_8 H locs ls hf hP hD hS hl
      rw [eK_6] at hf
      try dsimp only at hf
      refine lv_aload_n X.hx X.hb dX11_drawn_35 rfl (lv_at hl 0 rfl) ?_
      refine lv_iload_n X.hx X.hb dX11_drawn_36 rfl (lv_at hl 1 rfl) ?_
      refine lv_iload_n X.hx X.hb dX11_drawn_37 rfl (lv_at hl 2 rfl) ?_
      obtain ⟨⟨r_9, iY_10, sY_11⟩, hc_12, hf⟩ := bd_i hf
      refine r_wvi (As := [.int p1, .int p2]) (rest := []) X sm_X11_409 (c_X11_draws l G N uY iY_7 sY_8 tY jY p1 p2 hc_12) hP hD hS hA 0 rfl rfl rfl hl.1 (lv_room (Nat.le_of_ble_eq_true rfl)) ⟨Nat.le_of_ble_eq_true rfl, Nat.le_of_ble_eq_true rfl⟩ ⟨Nat.zero_le _, Nat.zero_le _⟩ dX11_drawn_38 (fun H locs hP hD hS => ?_)
      cases hf
      subst hQ
      exact r_iret X hP hD hS dX11_drawn_41
    refine lv_icmp_ge (tgt := 35) X.hx X.hb dX11_drawn_28 (by decide) (fun hc_13 => ?_) (fun hc_13 => ?_)
    · replace hf := if_t hf hc_13
      exact hj_5 _ _ _ _ _ hf hP hD hS (lv_sub hl [0, 1, 2] rfl)
    · replace hf := if_f hf hc_13
      refine lv_aload_n X.hx X.hb dX11_drawn_31 rfl (lv_at hl 0 rfl) ?_
      obtain ⟨⟨iY_14, sY_15⟩, hc_16, hf⟩ := bd_i hf
      refine r_wvv (As := []) (rest := []) X sm_X11_310 (c_X11_keep l G N uY (va_up iY 0 0) sY tY jY hc_16) hP hD hS hA 0 rfl rfl rfl hl.1 (lv_room (Nat.le_of_ble_eq_true rfl)) ⟨Nat.le_of_ble_eq_true rfl, Nat.le_of_ble_eq_true rfl⟩ ⟨Nat.zero_le _, Nat.zero_le _⟩ dX11_drawn_32 (fun H locs hP hD hS => ?_)
      exact hj_5 _ _ _ _ _ hf hP hD hS (lv_sub hl [0, 1, 2] rfl)
  · replace hf := if_t hf hc_3
    refine lv_iconst (v := (-1)) X.hx X.hb dX11_drawn_15 (by decide) ?_
    cases hf
    subst hQ
    exact r_iret X hP hD hS dX11_drawn_16

def f_X11_odds_47 (N : Nat) (tY : Nat → Nat → Int64) (jY : Nat → Int64) (v1 : Int32) (v2 : Int32) (v3 : Int32) (v4 : Int32) : Nat → (Nat → Int32) → (Nat → Nat → Int32) → (Int32) → (Int32) → Option (Int32 × (Nat → Int32) × (Nat → Nat → Int32))
  | 0, _, _, _, _ => none
  | k + 1, iY, sY, v5, v6 => (if v2 ≤ v6 then some (v5, iY, sY) else bd (f_X11_draws N iY sY tY jY 10 (v3 + v6)) (fun (r_30, iY_31, sY_32) => ck ((136 : Int32) + v1) 457 (jn (fun (z : (Int32)) => match z with | y_38 => bd (f_X11_back N iY_31 sY_32 tY jY) (fun sY_39 => f_X11_odds_47 N tY jY v1 v2 v3 v4 k iY_31 sY_39 (v5 + y_38) (v6 + 1))) (fun K_35 => (if ((sY_32 6) (ix ((136 : Int32) + v1))) ≤ v4 then K_35 0 else K_35 1)))))
def f_X11_odds (N : Nat) (iY : Nat → Int32) (sY : Nat → Nat → Int32) (tY : Nat → Nat → Int64) (jY : Nat → Int64) (p1 : Int32) (p2 : Int32) (p3 : Int32) : Option (Int32 × (Nat → Int32) × (Nat → Nat → Int32)) :=
  bd (f_X11_isPerson N (va_up iY 0 0) sY tY jY p1) (fun r_1 => (if r_1 = 0 then some ((-1), (va_up iY 0 0), sY) else bd (f_X11_isIn N p2 1 30) (fun r_4 => (if r_4 = 0 then some ((-1), (va_up iY 0 0), sY) else bd (f_X11_tries N (va_up iY 0 0) sY tY jY) (fun sY_7 => ck ((136 : Int32) + p1) 457 (nv ((sY_7 6) (ix ((136 : Int32) + p1))) (fun n_10 => f_X11_odds_47 N tY jY p1 p2 p3 n_10 N (va_up iY 0 0) sY_7 0 0)))))))
set_option maxHeartbeats 4000000 in
set_option maxRecDepth 100000 in
theorem c_X11_odds (l : Launch) (G : GT) (N : Nat) (uY : Nat → Nat) (iY : Nat → Int32) (sY : Nat → Nat → Int32) (tY : Nat → Nat → Int64) (jY : Nat → Int64) (p1 : Int32) (p2 : Int32) (p3 : Int32) {r : Int32} {iY' : Nat → Int32} {sY' : Nat → Nat → Int32} (hf : f_X11_odds N iY sY tY jY p1 p2 p3 = some (r, iY', sY')) : CI l G yX11_odds cX11_odds 7 .int 6 [.ref (uY 0), .int p1, .int p2, .int p3] (gY G uY iY sY tY jY) r (gY G uY iY' sY' tY jY) := by
  refine CI.of (by decide) (Nat.le_of_ble_eq_true rfl) ?_
  intro p e s m args below meth c A X hA hP hD hS ls hl
  have hl : lv_has ls 7 [(0, .ref (uY 0)), (1, .int p1), (2, .int p2), (3, .int p3)] := hl
  generalize hQ : MQ below (QI G A r (gY G uY iY' sY' tY jY)) args s 0 0 A = QQ
  unfold f_X11_odds at hf
  refine lv_aload_n X.hx X.hb dX11_odds_0 rfl (lv_at hl 0 rfl) ?_
  refine lv_iconst (v := 0) X.hx X.hb dX11_odds_1 (by decide) ?_
  refine pf_X11_1 X hP hD hS 0 rfl rfl rfl (Nat.le_of_ble_eq_true rfl) (wo := (gY G uY (va_up iY 0 0) sY tY jY)) rfl dX11_odds_2 (fun H locs hP hD hS => ?_)
  refine lv_aload_n X.hx X.hb dX11_odds_5 rfl (lv_at hl 0 rfl) ?_
  refine lv_iload_n X.hx X.hb dX11_odds_6 rfl (lv_at hl 1 rfl) ?_
  obtain ⟨r_1, hc_2, hf⟩ := bd_i hf
  refine r_wvi (As := [.int p1]) (rest := []) X sm_X11_272 (c_X11_isPerson l G N uY (va_up iY 0 0) sY tY jY p1 hc_2) hP hD hS hA 0 rfl rfl rfl hl.1 (lv_room (Nat.le_of_ble_eq_true rfl)) ⟨Nat.le_of_ble_eq_true rfl, Nat.le_of_ble_eq_true rfl⟩ ⟨Nat.zero_le _, Nat.zero_le _⟩ dX11_odds_7 (fun H locs hP hD hS => ?_)
  refine lv_if_eq (tgt := 23) X.hx X.hb dX11_odds_10 (by decide) (fun hc_3 => ?_) (fun hc_3 => ?_)
  · replace hf := if_t hf hc_3
    refine lv_iconst (v := (-1)) X.hx X.hb dX11_odds_23 (by decide) ?_
    cases hf
    subst hQ
    exact r_iret X hP hD hS dX11_odds_24
  · replace hf := if_f hf hc_3
    refine lv_iload_n X.hx X.hb dX11_odds_13 rfl (lv_at hl 2 rfl) ?_
    refine lv_iconst (v := 1) X.hx X.hb dX11_odds_14 (by decide) ?_
    refine lv_bipush (v := 30) X.hx X.hb dX11_odds_15 (by decide) ?_
    obtain ⟨r_4, hc_5, hf⟩ := bd_i hf
    refine r_cs0 (As := [.int p2, .int 1, .int 30]) (rest := []) X sm_X11_189 (c_X11_isIn l G N p2 1 30 hc_5) hP hD hS hA rfl hl.1 (lv_room (Nat.le_of_ble_eq_true rfl)) ⟨Nat.le_of_ble_eq_true rfl, Nat.le_of_ble_eq_true rfl⟩ ⟨Nat.zero_le _, Nat.zero_le _⟩ dX11_odds_17 (fun H locs hP hD hS => ?_)
    refine lv_if_ne (tgt := 25) X.hx X.hb dX11_odds_20 (by decide) (fun hc_6 => ?_) (fun hc_6 => ?_)
    · replace hf := if_f hf hc_6
      refine lv_aload_n X.hx X.hb dX11_odds_25 rfl (lv_at hl 0 rfl) ?_
      obtain ⟨sY_7, hc_8, hf⟩ := bd_i hf
      refine r_wvv (As := []) (rest := []) X sm_X11_412 (c_X11_tries l G N uY (va_up iY 0 0) sY tY jY hc_8) hP hD hS hA 0 rfl rfl rfl hl.1 (lv_room (Nat.le_of_ble_eq_true rfl)) ⟨Nat.le_of_ble_eq_true rfl, Nat.le_of_ble_eq_true rfl⟩ ⟨Nat.zero_le _, Nat.zero_le _⟩ dX11_odds_26 (fun H locs hP hD hS => ?_)
      refine lv_aload_n X.hx X.hb dX11_odds_29 rfl (lv_at hl 0 rfl) ?_
      refine gf_X11_33 X hP 0 rfl (v := .ref (uY 7)) rfl dX11_odds_30 ?_
      refine lv_sipush (v := 136) X.hx X.hb dX11_odds_33 (by decide) ?_
      refine lv_iload_n X.hx X.hb dX11_odds_36 rfl (lv_at hl 1 rfl) ?_
      refine lv_iadd X.hx X.hb dX11_odds_37 ?_
      obtain ⟨hi_9, hf⟩ := ck_i hf
      refine r_iald X hP 2 (f := (sY_7 6)) rfl hi_9 dX11_odds_38 ?_
      obtain ⟨n_10, en_10, hf⟩ := nv_i hf
      refine r_nm en_10 ?_
      refine lv_istore (lv' := [(4, .int n_10), (0, .ref (uY 0)), (1, .int p1), (2, .int p2), (3, .int p3)]) X.hx X.hb dX11_odds_39 hl (by decide) rfl (fun ls hl => ?_)
      refine lv_iconst (v := 0) X.hx X.hb dX11_odds_41 (by decide) ?_
      refine lv_istore (lv' := [(5, .int 0), (4, .int n_10), (0, .ref (uY 0)), (1, .int p1), (2, .int p2), (3, .int p3)]) X.hx X.hb dX11_odds_42 hl (by decide) rfl (fun ls hl => ?_)
      refine lv_iconst (v := 0) X.hx X.hb dX11_odds_44 (by decide) ?_
      refine lv_istore (lv' := [(6, .int 0), (5, .int 0), (4, .int n_10), (0, .ref (uY 0)), (1, .int p1), (2, .int p2), (3, .int p3)]) X.hx X.hb dX11_odds_45 hl (by decide) rfl (fun ls hl => ?_)
      have hlo_11 : ∀ (k : Nat) (iY_12 : Nat → Int32) (sY_13 : Nat → Nat → Int32) (v5_14 : Int32) (v6_15 : Int32) (H : Heap) (locs : List Loc) (ls : Array Slot), f_X11_odds_47 N tY jY p1 p2 p3 n_10 k iY_12 sY_13 v5_14 v6_15 = some (r, iY', sY') → va_P G.1 vwCl (gY G uY iY_12 sY_13 tY jY) H → va_D A (gY G uY iY_12 sY_13 tY jY) → va_S A s.heap H locs → lv_has ls 7 [(0, .ref (uY 0)), (1, .int p1), (2, .int p2), (3, .int p3), (4, .int n_10), (5, .int v5_14), (6, .int v6_15)] → W p l e (RM 6) s m args below meth c H locs 0 0 QQ (F0 m 47 ls []) := by
        intro k
        induction k with
        | zero => intro iY_12 sY_13 v5_14 v6_15 H locs ls hf; exact absurd hf (by intro q; cases q)
        | succ k ih =>
          intro iY_12 sY_13 v5_14 v6_15 H locs ls hf hP hD hS hl
          unfold f_X11_odds_47 at hf
          refine lv_iload X.hx X.hb dX11_odds_47 (lv_at hl 6 rfl) ?_
          refine lv_iload_n X.hx X.hb dX11_odds_49 rfl (lv_at hl 2 rfl) ?_
          refine lv_icmp_ge (tgt := 99) X.hx X.hb dX11_odds_50 (by decide) (fun hc_16 => ?_) (fun hc_16 => ?_)
          · replace hf := if_t hf hc_16
            refine lv_iload X.hx X.hb dX11_odds_99 (lv_at hl 5 rfl) ?_
            cases hf
            subst hQ
            exact r_iret X hP hD hS dX11_odds_101
          · replace hf := if_f hf hc_16
            refine lv_aload_n X.hx X.hb dX11_odds_53 rfl (lv_at hl 0 rfl) ?_
            refine lv_bipush (v := 10) X.hx X.hb dX11_odds_54 (by decide) ?_
            refine lv_iload_n X.hx X.hb dX11_odds_56 rfl (lv_at hl 3 rfl) ?_
            refine lv_iload X.hx X.hb dX11_odds_57 (lv_at hl 6 rfl) ?_
            refine lv_iadd X.hx X.hb dX11_odds_59 ?_
            obtain ⟨⟨r_17, iY_18, sY_19⟩, hc_20, hf⟩ := bd_i hf
            refine r_wvi (As := [.int 10, .int (p3 + v6_15)]) (rest := []) X sm_X11_409 (c_X11_draws l G N uY iY_12 sY_13 tY jY 10 (p3 + v6_15) hc_20) hP hD hS hA 0 rfl rfl rfl hl.1 (lv_room (Nat.le_of_ble_eq_true rfl)) ⟨Nat.le_of_ble_eq_true rfl, Nat.le_of_ble_eq_true rfl⟩ ⟨Nat.zero_le _, Nat.zero_le _⟩ dX11_odds_60 (fun H locs hP hD hS => ?_)
            refine lv_pop X.hx X.hb dX11_odds_63 rfl ?_
            refine lv_iload X.hx X.hb dX11_odds_64 (lv_at hl 5 rfl) ?_
            refine lv_aload_n X.hx X.hb dX11_odds_66 rfl (lv_at hl 0 rfl) ?_
            refine gf_X11_33 X hP 0 rfl (v := .ref (uY 7)) rfl dX11_odds_67 ?_
            refine lv_sipush (v := 136) X.hx X.hb dX11_odds_70 (by decide) ?_
            refine lv_iload_n X.hx X.hb dX11_odds_73 rfl (lv_at hl 1 rfl) ?_
            refine lv_iadd X.hx X.hb dX11_odds_74 ?_
            obtain ⟨hi_21, hf⟩ := ck_i hf
            refine r_iald X hP 2 (f := (sY_19 6)) rfl hi_21 dX11_odds_75 ?_
            refine lv_iload X.hx X.hb dX11_odds_76 (lv_at hl 4 rfl) ?_
            obtain ⟨K_22, eK_24, hf⟩ := jn_i hf
            have hj_23 : ∀ (y_25 : Int32) (H : Heap) (locs : List Loc) (ls : Array Slot), K_22 y_25 = some (r, iY', sY') → va_P G.1 vwCl (gY G uY iY_18 sY_19 tY jY) H → va_D A (gY G uY iY_18 sY_19 tY jY) → va_S A s.heap H locs → lv_has ls 7 [(0, .ref (uY 0)), (1, .int p1), (2, .int p2), (3, .int p3), (4, .int n_10), (6, .int v6_15)] → W p l e (RM 6) s m args below meth c H locs 0 0 QQ (F0 m 86 ls [.int y_25, .int v5_14]) := by
              intro y_25 H locs ls hf hP hD hS hl
              rw [eK_24] at hf
              try dsimp only at hf
              refine lv_iadd X.hx X.hb dX11_odds_86 ?_
              refine lv_istore (lv' := [(5, .int (v5_14 + y_25)), (0, .ref (uY 0)), (1, .int p1), (2, .int p2), (3, .int p3), (4, .int n_10), (6, .int v6_15)]) X.hx X.hb dX11_odds_87 hl (by decide) rfl (fun ls hl => ?_)
              refine lv_aload_n X.hx X.hb dX11_odds_89 rfl (lv_at hl 1 rfl) ?_
              obtain ⟨sY_26, hc_27, hf⟩ := bd_i hf
              refine r_wvv (As := []) (rest := []) X sm_X11_415 (c_X11_back l G N uY iY_18 sY_19 tY jY hc_27) hP hD hS hA 0 rfl rfl rfl hl.1 (lv_room (Nat.le_of_ble_eq_true rfl)) ⟨Nat.le_of_ble_eq_true rfl, Nat.le_of_ble_eq_true rfl⟩ ⟨Nat.zero_le _, Nat.zero_le _⟩ dX11_odds_90 (fun H locs hP hD hS => ?_)
              refine lv_iinc (v := (v6_15 + 1)) (lv' := [(6, .int (v6_15 + 1)), (5, .int (v5_14 + y_25)), (0, .ref (uY 0)), (1, .int p1), (2, .int p2), (3, .int p3), (4, .int n_10)]) X.hx X.hb dX11_odds_93 hl (k := 6) rfl rfl (by decide) rfl (fun ls hl => ?_)
              refine lv_goto (tgt := 47) X.hx X.hb dX11_odds_96 (by decide) ?_
              exact ih _ _ _ _ _ _ _ hf hP hD hS (lv_sub hl [2, 3, 4, 5, 6, 1, 0] rfl)
            refine lv_icmp_le (tgt := 85) X.hx X.hb dX11_odds_78 (by decide) (fun hc_28 => ?_) (fun hc_28 => ?_)
            · replace hf := if_t hf hc_28
              refine lv_iconst (v := 0) X.hx X.hb dX11_odds_85 (by decide) ?_
              exact hj_23 _ _ _ _ hf hP hD hS (lv_sub hl [0, 1, 2, 3, 4, 6] rfl)
            · replace hf := if_f hf hc_28
              refine lv_iconst (v := 1) X.hx X.hb dX11_odds_81 (by decide) ?_
              refine lv_goto (tgt := 86) X.hx X.hb dX11_odds_82 (by decide) ?_
              exact hj_23 _ _ _ _ hf hP hD hS (lv_sub hl [0, 1, 2, 3, 4, 6] rfl)
      exact hlo_11 N _ _ _ _ _ _ _ hf hP hD hS (lv_sub hl [3, 4, 5, 6, 2, 1, 0] rfl)
    · replace hf := if_t hf hc_6
      refine lv_iconst (v := (-1)) X.hx X.hb dX11_odds_23 (by decide) ?_
      cases hf
      subst hQ
      exact r_iret X hP hD hS dX11_odds_24

def f_X11_bookLine (N : Nat) (iY : Nat → Int32) (sY : Nat → Nat → Int32) (tY : Nat → Nat → Int64) (jY : Nat → Int64) : Option (Int32 × (Nat → Int32) × (Nat → Nat → Int32) × (Nat → Int64)) :=
  nv ((4 : Int32) * (iY 39)) (fun n_1 => bd (f_X11_isWord N iY sY tY jY 6578553) (fun r_2 => jn (fun (z : (Nat → Int32)) => match z with | iY_7 => (if (iY_7 39) = 40 then bd (f_X11_bad N iY_7 sY tY jY 4) (fun (r_79, iY_80) => zb r_79 (some (r_79, iY_80, sY, jY))) else bd (f_X11_next N iY_7 sY tY jY) (fun (iY_9, jY_10) => ck n_1 160 (nv (upd (sY 8) (ix n_1) 4) (fun g_13 => (if r_2 = 0 then bd (f_X11_isWord N iY_9 (va_up sY 8 g_13) tY jY_10 1651865971) (fun r_15 => jn (fun (z : (Int32)) => match z with | y_20 => (if (0 : Int32) ≤ y_20 then bd (f_X11_next N iY_9 (va_up sY 8 g_13) tY jY_10) (fun (iY_22, jY_23) => ck n_1 160 (nv (upd g_13 (ix n_1) y_20) (fun g_26 => ck (n_1 + 1) 160 (nv (upd g_26 (ix (n_1 + 1)) (iY_7 18)) (fun g_28 => (if y_20 = 2 then some (1, iY_22, (va_up sY 8 g_28), jY_23) else jn (fun (z : (Int32) × (Nat → Int32) × (Nat → Int64)) => match z with | (y_33, iY_34, jY_35) => ck (n_1 + 2) 160 (nv (upd g_28 (ix (n_1 + 2)) (iY_34 18)) (fun g_37 => (if y_33 = 0 then zb y_33 (some (y_33, iY_34, (va_up sY 8 g_37), jY_35)) else (if y_20 = 1 then zb y_33 (some (y_33, iY_34, (va_up sY 8 g_37), jY_35)) else bd (f_X11_takesName N iY_34 (va_up sY 8 g_37) tY jY_35 0 ((sY 6) 0)) (fun (r_41, iY_42, jY_43) => ck (n_1 + 3) 160 (nv (upd g_37 (ix (n_1 + 3)) (iY_42 18)) (fun g_46 => zb r_41 (some (r_41, iY_42, (va_up sY 8 g_46), jY_43)))))))))) (fun K_30 => (if y_20 = 0 then bd (f_X11_takesName N iY_22 (va_up sY 8 g_28) tY jY_23 7 ((sY 6) 1)) (fun (r_54, iY_55, jY_56) => K_30 (r_54, iY_55, jY_56)) else bd (f_X11_takesName N iY_22 (va_up sY 8 g_28) tY jY_23 0 ((sY 6) 0)) (fun (r_50, iY_51, jY_52) => K_30 (r_50, iY_51, jY_52)))))))))) else bd (f_X11_bad N iY_9 (va_up sY 8 g_13) tY jY_10 1) (fun (r_58, iY_59) => zb r_58 (some (r_58, iY_59, (va_up sY 8 g_13), jY_10))))) (fun K_17 => (if r_15 = 0 then bd (f_X11_isWord N iY_9 (va_up sY 8 g_13) tY jY_10 1852793971) (fun r_63 => (if r_63 = 0 then bd (f_X11_isWord N iY_9 (va_up sY 8 g_13) tY jY_10 508507548787) (fun r_66 => (if r_66 = 0 then bd (f_X11_isWord N iY_9 (va_up sY 8 g_13) tY jY_10 499917810803) (fun r_69 => (if r_69 = 0 then K_17 (-1) else K_17 3)) else K_17 2)) else K_17 1)) else K_17 0))) else bd (f_X11_takes N iY_9 (va_up sY 8 g_13) tY jY_10 1 60) (fun (r_72, iY_73, jY_74) => (if r_72 = 0 then some (0, iY_73, (va_up sY 8 g_13), jY_74) else ck (n_1 + 1) 160 (nv (upd g_13 (ix (n_1 + 1)) (iY_73 18)) (fun g_78 => some (1, iY_73, (va_up sY 8 g_78), jY_74))))))))))) (fun K_4 => (if r_2 = 0 then bd (f_X11_looksAt N iY sY tY jY 0 ((sY 6) 0)) (fun (r_84, iY_85) => (if r_84 = 0 then some (0, iY_85, sY, jY) else K_4 iY_85)) else K_4 iY))))
set_option maxHeartbeats 4000000 in
set_option maxRecDepth 100000 in
theorem c_X11_bookLine (l : Launch) (G : GT) (N : Nat) (uY : Nat → Nat) (iY : Nat → Int32) (sY : Nat → Nat → Int32) (tY : Nat → Nat → Int64) (jY : Nat → Int64) {r : Int32} {iY' : Nat → Int32} {sY' : Nat → Nat → Int32} {jY' : Nat → Int64} (hf : f_X11_bookLine N iY sY tY jY = some (r, iY', sY', jY')) : CI l G yX11_bookLine cX11_bookLine 6 .boolean 4 [.ref (uY 0)] (gY G uY iY sY tY jY) r (gY G uY iY' sY' tY jY') := by
  refine CI.of (by decide) (Nat.le_of_ble_eq_true rfl) ?_
  intro p e s m args below meth c A X hA hP hD hS ls hl
  have hl : lv_has ls 6 [(0, .ref (uY 0))] := hl
  generalize hQ : MQ below (QI G A r (gY G uY iY' sY' tY jY')) args s 0 0 A = QQ
  unfold f_X11_bookLine at hf
  refine lv_iconst (v := 4) X.hx X.hb dX11_bookLine_0 (by decide) ?_
  refine lv_aload_n X.hx X.hb dX11_bookLine_1 rfl (lv_at hl 0 rfl) ?_
  refine gf_X11_418 X hP 0 rfl (v := .int (iY 39)) rfl dX11_bookLine_2 ?_
  refine lv_imul X.hx X.hb dX11_bookLine_5 ?_
  obtain ⟨n_1, en_1, hf⟩ := nv_i hf
  refine r_nm en_1 ?_
  refine lv_istore_n (lv' := [(1, .int n_1), (0, .ref (uY 0))]) X.hx X.hb dX11_bookLine_6 rfl hl (by decide) rfl (fun ls hl => ?_)
  refine lv_aload_n X.hx X.hb dX11_bookLine_7 rfl (lv_at hl 1 rfl) ?_
  refine lv_ldc2 (v := 6578553) X.hx X.hb X.hown (X.hts _ tw_1306) dX11_bookLine_8 ?_
  obtain ⟨r_2, hc_3, hf⟩ := bd_i hf
  refine r_wvi (As := [.long 6578553]) (rest := []) X sm_X11_220 (c_X11_isWord l G N uY iY sY tY jY 6578553 hc_3) hP hD hS hA 0 rfl rfl rfl hl.1 (lv_room (Nat.le_of_ble_eq_true rfl)) ⟨Nat.le_of_ble_eq_true rfl, Nat.le_of_ble_eq_true rfl⟩ ⟨Nat.zero_le _, Nat.zero_le _⟩ dX11_bookLine_11 (fun H locs hP hD hS => ?_)
  refine lv_istore_n (lv' := [(2, .int r_2), (1, .int n_1), (0, .ref (uY 0))]) X.hx X.hb dX11_bookLine_14 rfl hl (by decide) rfl (fun ls hl => ?_)
  refine lv_iload_n X.hx X.hb dX11_bookLine_15 rfl (lv_at hl 0 rfl) ?_
  obtain ⟨K_4, eK_6, hf⟩ := jn_i hf
  have hj_5 : ∀ (iY_7 : Nat → Int32) (H : Heap) (locs : List Loc) (ls : Array Slot), K_4 iY_7 = some (r, iY', sY', jY') → va_P G.1 vwCl (gY G uY iY_7 sY tY jY) H → va_D A (gY G uY iY_7 sY tY jY) → va_S A s.heap H locs → lv_has ls 6 [(0, .ref (uY 0)), (1, .int n_1), (2, .int r_2)] → W p l e (RM 4) s m args below meth c H locs 0 0 QQ (F0 m 35 ls []) := by
    intro iY_7 H locs ls hf hP hD hS hl
    rw [eK_6] at hf
    try dsimp only at hf
    refine lv_aload_n X.hx X.hb dX11_bookLine_35 rfl (lv_at hl 0 rfl) ?_
    refine gf_X11_418 X hP 0 rfl (v := .int (iY_7 39)) rfl dX11_bookLine_36 ?_
    refine lv_bipush (v := 40) X.hx X.hb dX11_bookLine_39 (by decide) ?_
    refine lv_icmp_ne (tgt := 50) X.hx X.hb dX11_bookLine_41 (by decide) (fun hc_8 => ?_) (fun hc_8 => ?_)
    · replace hf := if_f hf hc_8
      refine lv_aload_n X.hx X.hb dX11_bookLine_50 rfl (lv_at hl 0 rfl) ?_
      refine gf_X11_193 X hP 0 rfl (v := .int (iY_7 18)) rfl dX11_bookLine_51 ?_
      refine lv_istore_n (lv' := [(3, .int (iY_7 18)), (0, .ref (uY 0)), (1, .int n_1), (2, .int r_2)]) X.hx X.hb dX11_bookLine_54 rfl hl (by decide) rfl (fun ls hl => ?_)
      refine lv_aload_n X.hx X.hb dX11_bookLine_55 rfl (lv_at hl 1 rfl) ?_
      obtain ⟨⟨iY_9, jY_10⟩, hc_11, hf⟩ := bd_i hf
      refine r_wvv (As := []) (rest := []) X sm_X11_186 (c_X11_next l G N uY iY_7 sY tY jY hc_11) hP hD hS hA 0 rfl rfl rfl hl.1 (lv_room (Nat.le_of_ble_eq_true rfl)) ⟨Nat.le_of_ble_eq_true rfl, Nat.le_of_ble_eq_true rfl⟩ ⟨Nat.zero_le _, Nat.zero_le _⟩ dX11_bookLine_56 (fun H locs hP hD hS => ?_)
      refine lv_aload_n X.hx X.hb dX11_bookLine_59 rfl (lv_at hl 1 rfl) ?_
      refine gf_X11_40 X hP 0 rfl (v := .ref (uY 9)) rfl dX11_bookLine_60 ?_
      refine lv_iload_n X.hx X.hb dX11_bookLine_63 rfl (lv_at hl 2 rfl) ?_
      refine lv_iconst (v := 4) X.hx X.hb dX11_bookLine_64 (by decide) ?_
      obtain ⟨hi_12, hf⟩ := ck_i hf
      obtain ⟨g_13, eg_13, hf⟩ := nv_i hf
      refine r_iast X hP hD hS 4 (f := (sY 8)) rfl hi_12 (wo := (gY G uY iY_9 (va_up sY 8 g_13) tY jY_10)) (by subst eg_13; rfl) dX11_bookLine_65 (fun H locs hP hD hS => ?_)
      refine lv_iload_n X.hx X.hb dX11_bookLine_66 rfl (lv_at hl 3 rfl) ?_
      refine lv_if_eq (tgt := 96) X.hx X.hb dX11_bookLine_67 (by decide) (fun hc_14 => ?_) (fun hc_14 => ?_)
      · replace hf := if_t hf hc_14
        refine lv_aload_n X.hx X.hb dX11_bookLine_96 rfl (lv_at hl 1 rfl) ?_
        refine lv_ldc2 (v := 1651865971) X.hx X.hb X.hown (X.hts _ tw_1303) dX11_bookLine_97 ?_
        obtain ⟨r_15, hc_16, hf⟩ := bd_i hf
        refine r_wvi (As := [.long 1651865971]) (rest := []) X sm_X11_220 (c_X11_isWord l G N uY iY_9 (va_up sY 8 g_13) tY jY_10 1651865971 hc_16) hP hD hS hA 0 rfl rfl rfl hl.1 (lv_room (Nat.le_of_ble_eq_true rfl)) ⟨Nat.le_of_ble_eq_true rfl, Nat.le_of_ble_eq_true rfl⟩ ⟨Nat.zero_le _, Nat.zero_le _⟩ dX11_bookLine_100 (fun H locs hP hD hS => ?_)
        obtain ⟨K_17, eK_19, hf⟩ := jn_i hf
        have hj_18 : ∀ (y_20 : Int32) (H : Heap) (locs : List Loc) (ls : Array Slot), K_17 y_20 = some (r, iY', sY', jY') → va_P G.1 vwCl (gY G uY iY_9 (va_up sY 8 g_13) tY jY_10) H → va_D A (gY G uY iY_9 (va_up sY 8 g_13) tY jY_10) → va_S A s.heap H locs → lv_has ls 6 [(0, .ref (uY 0)), (1, .int n_1), (3, .int (iY_7 18))] → W p l e (RM 4) s m args below meth c H locs 0 0 QQ (F0 m 153 ls [.int y_20]) := by
          intro y_20 H locs ls hf hP hD hS hl
          rw [eK_19] at hf
          try dsimp only at hf
          refine lv_istore (lv' := [(4, .int y_20), (0, .ref (uY 0)), (1, .int n_1), (3, .int (iY_7 18))]) X.hx X.hb dX11_bookLine_153 hl (by decide) rfl (fun ls hl => ?_)
          refine lv_iload X.hx X.hb dX11_bookLine_155 (lv_at hl 0 rfl) ?_
          refine lv_if_ge (tgt := 166) X.hx X.hb dX11_bookLine_157 (by decide) (fun hc_21 => ?_) (fun hc_21 => ?_)
          · replace hf := if_t hf hc_21
            refine lv_aload_n X.hx X.hb dX11_bookLine_166 rfl (lv_at hl 1 rfl) ?_
            obtain ⟨⟨iY_22, jY_23⟩, hc_24, hf⟩ := bd_i hf
            refine r_wvv (As := []) (rest := []) X sm_X11_186 (c_X11_next l G N uY iY_9 (va_up sY 8 g_13) tY jY_10 hc_24) hP hD hS hA 0 rfl rfl rfl hl.1 (lv_room (Nat.le_of_ble_eq_true rfl)) ⟨Nat.le_of_ble_eq_true rfl, Nat.le_of_ble_eq_true rfl⟩ ⟨Nat.zero_le _, Nat.zero_le _⟩ dX11_bookLine_167 (fun H locs hP hD hS => ?_)
            refine lv_aload_n X.hx X.hb dX11_bookLine_170 rfl (lv_at hl 1 rfl) ?_
            refine gf_X11_40 X hP 0 rfl (v := .ref (uY 9)) rfl dX11_bookLine_171 ?_
            refine lv_iload_n X.hx X.hb dX11_bookLine_174 rfl (lv_at hl 2 rfl) ?_
            refine lv_iload X.hx X.hb dX11_bookLine_175 (lv_at hl 0 rfl) ?_
            obtain ⟨hi_25, hf⟩ := ck_i hf
            obtain ⟨g_26, eg_26, hf⟩ := nv_i hf
            refine r_iast X hP hD hS 4 (f := g_13) rfl hi_25 (wo := (gY G uY iY_22 (va_up sY 8 g_26) tY jY_23)) (by subst eg_26; rfl) dX11_bookLine_177 (fun H locs hP hD hS => ?_)
            refine lv_aload_n X.hx X.hb dX11_bookLine_178 rfl (lv_at hl 1 rfl) ?_
            refine gf_X11_40 X hP 0 rfl (v := .ref (uY 9)) rfl dX11_bookLine_179 ?_
            refine lv_iload_n X.hx X.hb dX11_bookLine_182 rfl (lv_at hl 2 rfl) ?_
            refine lv_iconst (v := 1) X.hx X.hb dX11_bookLine_183 (by decide) ?_
            refine lv_iadd X.hx X.hb dX11_bookLine_184 ?_
            refine lv_iload_n X.hx X.hb dX11_bookLine_185 rfl (lv_at hl 3 rfl) ?_
            obtain ⟨hi_27, hf⟩ := ck_i hf
            obtain ⟨g_28, eg_28, hf⟩ := nv_i hf
            refine r_iast X hP hD hS 4 (f := g_26) rfl hi_27 (wo := (gY G uY iY_22 (va_up sY 8 g_28) tY jY_23)) (by subst eg_28; rfl) dX11_bookLine_186 (fun H locs hP hD hS => ?_)
            refine lv_iload X.hx X.hb dX11_bookLine_187 (lv_at hl 0 rfl) ?_
            refine lv_iconst (v := 2) X.hx X.hb dX11_bookLine_189 (by decide) ?_
            refine lv_icmp_ne (tgt := 195) X.hx X.hb dX11_bookLine_190 (by decide) (fun hc_29 => ?_) (fun hc_29 => ?_)
            · replace hf := if_f hf hc_29
              refine lv_iload X.hx X.hb dX11_bookLine_195 (lv_at hl 0 rfl) ?_
              obtain ⟨K_30, eK_32, hf⟩ := jn_i hf
              have hj_31 : ∀ (y_33 : Int32) (iY_34 : Nat → Int32) (jY_35 : Nat → Int64) (H : Heap) (locs : List Loc) (ls : Array Slot), K_30 (y_33, iY_34, jY_35) = some (r, iY', sY', jY') → va_P G.1 vwCl (gY G uY iY_34 (va_up sY 8 g_28) tY jY_35) H → va_D A (gY G uY iY_34 (va_up sY 8 g_28) tY jY_35) → va_S A s.heap H locs → lv_has ls 6 [(0, .ref (uY 0)), (1, .int n_1), (4, .int y_20)] → W p l e (RM 4) s m args below meth c H locs 0 0 QQ (F0 m 226 ls [.int y_33]) := by
                intro y_33 iY_34 jY_35 H locs ls hf hP hD hS hl
                rw [eK_32] at hf
                try dsimp only at hf
                refine lv_istore (lv' := [(5, .int y_33), (0, .ref (uY 0)), (1, .int n_1), (4, .int y_20)]) X.hx X.hb dX11_bookLine_226 hl (by decide) rfl (fun ls hl => ?_)
                refine lv_aload_n X.hx X.hb dX11_bookLine_228 rfl (lv_at hl 1 rfl) ?_
                refine gf_X11_40 X hP 0 rfl (v := .ref (uY 9)) rfl dX11_bookLine_229 ?_
                refine lv_iload_n X.hx X.hb dX11_bookLine_232 rfl (lv_at hl 2 rfl) ?_
                refine lv_iconst (v := 2) X.hx X.hb dX11_bookLine_233 (by decide) ?_
                refine lv_iadd X.hx X.hb dX11_bookLine_234 ?_
                refine lv_aload_n X.hx X.hb dX11_bookLine_235 rfl (lv_at hl 1 rfl) ?_
                refine gf_X11_193 X hP 0 rfl (v := .int (iY_34 18)) rfl dX11_bookLine_236 ?_
                obtain ⟨hi_36, hf⟩ := ck_i hf
                obtain ⟨g_37, eg_37, hf⟩ := nv_i hf
                refine r_iast X hP hD hS 4 (f := g_28) rfl hi_36 (wo := (gY G uY iY_34 (va_up sY 8 g_37) tY jY_35)) (by subst eg_37; rfl) dX11_bookLine_239 (fun H locs hP hD hS => ?_)
                refine lv_iload X.hx X.hb dX11_bookLine_240 (lv_at hl 0 rfl) ?_
                refine lv_if_eq (tgt := 251) X.hx X.hb dX11_bookLine_242 (by decide) (fun hc_38 => ?_) (fun hc_38 => ?_)
                · replace hf := if_t hf hc_38
                  refine lv_iload X.hx X.hb dX11_bookLine_251 (lv_at hl 0 rfl) ?_
                  obtain ⟨hb_39, hf⟩ := zb_i hf
                  cases hf
                  subst hQ
                  exact r_zret X hP hD hS hb_39 dX11_bookLine_253
                · replace hf := if_f hf hc_38
                  refine lv_iload X.hx X.hb dX11_bookLine_245 (lv_at hl 3 rfl) ?_
                  refine lv_iconst (v := 1) X.hx X.hb dX11_bookLine_247 (by decide) ?_
                  refine lv_icmp_ne (tgt := 254) X.hx X.hb dX11_bookLine_248 (by decide) (fun hc_40 => ?_) (fun hc_40 => ?_)
                  · replace hf := if_f hf hc_40
                    refine lv_aload_n X.hx X.hb dX11_bookLine_254 rfl (lv_at hl 1 rfl) ?_
                    refine lv_iconst (v := 0) X.hx X.hb dX11_bookLine_255 (by decide) ?_
                    refine lv_aload_n X.hx X.hb dX11_bookLine_256 rfl (lv_at hl 1 rfl) ?_
                    refine gf_X11_33 X hP 0 rfl (v := .ref (uY 7)) rfl dX11_bookLine_257 ?_
                    refine lv_iconst (v := 0) X.hx X.hb dX11_bookLine_260 (by decide) ?_
                    refine r_iald X hP 2 (f := (sY 6)) rfl (vp_c rfl) dX11_bookLine_261 ?_
                    refine W.eq (g2 := F0 m 262 ls [.int ((sY 6) 0), .int 0, .ref (uY 0)]) rfl ?_
                    obtain ⟨⟨r_41, iY_42, jY_43⟩, hc_44, hf⟩ := bd_i hf
                    refine r_wvi (As := [.int 0, .int ((sY 6) 0)]) (rest := []) X sm_X11_244 (c_X11_takesName l G N uY iY_34 (va_up sY 8 g_37) tY jY_35 0 ((sY 6) 0) hc_44) hP hD hS hA 0 rfl rfl rfl hl.1 (lv_room (Nat.le_of_ble_eq_true rfl)) ⟨Nat.le_of_ble_eq_true rfl, Nat.le_of_ble_eq_true rfl⟩ ⟨Nat.zero_le _, Nat.zero_le _⟩ dX11_bookLine_262 (fun H locs hP hD hS => ?_)
                    refine lv_istore (lv' := [(5, .int r_41), (0, .ref (uY 0)), (1, .int n_1), (4, .int y_20)]) X.hx X.hb dX11_bookLine_265 hl (by decide) rfl (fun ls hl => ?_)
                    refine lv_aload_n X.hx X.hb dX11_bookLine_267 rfl (lv_at hl 1 rfl) ?_
                    refine gf_X11_40 X hP 0 rfl (v := .ref (uY 9)) rfl dX11_bookLine_268 ?_
                    refine lv_iload_n X.hx X.hb dX11_bookLine_271 rfl (lv_at hl 2 rfl) ?_
                    refine lv_iconst (v := 3) X.hx X.hb dX11_bookLine_272 (by decide) ?_
                    refine lv_iadd X.hx X.hb dX11_bookLine_273 ?_
                    refine lv_aload_n X.hx X.hb dX11_bookLine_274 rfl (lv_at hl 1 rfl) ?_
                    refine gf_X11_193 X hP 0 rfl (v := .int (iY_42 18)) rfl dX11_bookLine_275 ?_
                    obtain ⟨hi_45, hf⟩ := ck_i hf
                    obtain ⟨g_46, eg_46, hf⟩ := nv_i hf
                    refine r_iast X hP hD hS 4 (f := g_37) rfl hi_45 (wo := (gY G uY iY_42 (va_up sY 8 g_46) tY jY_43)) (by subst eg_46; rfl) dX11_bookLine_278 (fun H locs hP hD hS => ?_)
                    refine lv_iload X.hx X.hb dX11_bookLine_279 (lv_at hl 0 rfl) ?_
                    obtain ⟨hb_47, hf⟩ := zb_i hf
                    cases hf
                    subst hQ
                    exact r_zret X hP hD hS hb_47 dX11_bookLine_281
                  · replace hf := if_t hf hc_40
                    refine lv_iload X.hx X.hb dX11_bookLine_251 (lv_at hl 0 rfl) ?_
                    obtain ⟨hb_48, hf⟩ := zb_i hf
                    cases hf
                    subst hQ
                    exact r_zret X hP hD hS hb_48 dX11_bookLine_253
              refine lv_if_ne (tgt := 215) X.hx X.hb dX11_bookLine_197 (by decide) (fun hc_49 => ?_) (fun hc_49 => ?_)
              · replace hf := if_f hf hc_49
                refine lv_aload_n X.hx X.hb dX11_bookLine_215 rfl (lv_at hl 1 rfl) ?_
                refine lv_iconst (v := 0) X.hx X.hb dX11_bookLine_216 (by decide) ?_
                refine lv_aload_n X.hx X.hb dX11_bookLine_217 rfl (lv_at hl 1 rfl) ?_
                refine gf_X11_33 X hP 0 rfl (v := .ref (uY 7)) rfl dX11_bookLine_218 ?_
                refine lv_iconst (v := 0) X.hx X.hb dX11_bookLine_221 (by decide) ?_
                refine r_iald X hP 2 (f := (sY 6)) rfl (vp_c rfl) dX11_bookLine_222 ?_
                refine W.eq (g2 := F0 m 223 ls [.int ((sY 6) 0), .int 0, .ref (uY 0)]) rfl ?_
                obtain ⟨⟨r_50, iY_51, jY_52⟩, hc_53, hf⟩ := bd_i hf
                refine r_wvi (As := [.int 0, .int ((sY 6) 0)]) (rest := []) X sm_X11_244 (c_X11_takesName l G N uY iY_22 (va_up sY 8 g_28) tY jY_23 0 ((sY 6) 0) hc_53) hP hD hS hA 0 rfl rfl rfl hl.1 (lv_room (Nat.le_of_ble_eq_true rfl)) ⟨Nat.le_of_ble_eq_true rfl, Nat.le_of_ble_eq_true rfl⟩ ⟨Nat.zero_le _, Nat.zero_le _⟩ dX11_bookLine_223 (fun H locs hP hD hS => ?_)
                exact hj_31 _ _ _ _ _ _ hf hP hD hS (lv_sub hl [1, 2, 0] rfl)
              · replace hf := if_t hf hc_49
                refine lv_aload_n X.hx X.hb dX11_bookLine_200 rfl (lv_at hl 1 rfl) ?_
                refine lv_bipush (v := 7) X.hx X.hb dX11_bookLine_201 (by decide) ?_
                refine lv_aload_n X.hx X.hb dX11_bookLine_203 rfl (lv_at hl 1 rfl) ?_
                refine gf_X11_33 X hP 0 rfl (v := .ref (uY 7)) rfl dX11_bookLine_204 ?_
                refine lv_iconst (v := 1) X.hx X.hb dX11_bookLine_207 (by decide) ?_
                refine r_iald X hP 2 (f := (sY 6)) rfl (vp_c rfl) dX11_bookLine_208 ?_
                refine W.eq (g2 := F0 m 209 ls [.int ((sY 6) 1), .int 7, .ref (uY 0)]) rfl ?_
                obtain ⟨⟨r_54, iY_55, jY_56⟩, hc_57, hf⟩ := bd_i hf
                refine r_wvi (As := [.int 7, .int ((sY 6) 1)]) (rest := []) X sm_X11_244 (c_X11_takesName l G N uY iY_22 (va_up sY 8 g_28) tY jY_23 7 ((sY 6) 1) hc_57) hP hD hS hA 0 rfl rfl rfl hl.1 (lv_room (Nat.le_of_ble_eq_true rfl)) ⟨Nat.le_of_ble_eq_true rfl, Nat.le_of_ble_eq_true rfl⟩ ⟨Nat.zero_le _, Nat.zero_le _⟩ dX11_bookLine_209 (fun H locs hP hD hS => ?_)
                refine lv_goto (tgt := 226) X.hx X.hb dX11_bookLine_212 (by decide) ?_
                exact hj_31 _ _ _ _ _ _ hf hP hD hS (lv_sub hl [1, 2, 0] rfl)
            · replace hf := if_t hf hc_29
              refine lv_iconst (v := 1) X.hx X.hb dX11_bookLine_193 (by decide) ?_
              cases hf
              subst hQ
              exact r_zret X hP hD hS (by decide) dX11_bookLine_194
          · replace hf := if_f hf hc_21
            refine lv_aload_n X.hx X.hb dX11_bookLine_160 rfl (lv_at hl 1 rfl) ?_
            refine lv_iconst (v := 1) X.hx X.hb dX11_bookLine_161 (by decide) ?_
            obtain ⟨⟨r_58, iY_59⟩, hc_60, hf⟩ := bd_i hf
            refine r_wvi (As := [.int 1]) (rest := []) X sm_X11_183 (c_X11_bad l G N uY iY_9 (va_up sY 8 g_13) tY jY_10 1 hc_60) hP hD hS hA 0 rfl rfl rfl hl.1 (lv_room (Nat.le_of_ble_eq_true rfl)) ⟨Nat.le_of_ble_eq_true rfl, Nat.le_of_ble_eq_true rfl⟩ ⟨Nat.zero_le _, Nat.zero_le _⟩ dX11_bookLine_162 (fun H locs hP hD hS => ?_)
            obtain ⟨hb_61, hf⟩ := zb_i hf
            cases hf
            subst hQ
            exact r_zret X hP hD hS hb_61 dX11_bookLine_165
        refine lv_if_eq (tgt := 110) X.hx X.hb dX11_bookLine_103 (by decide) (fun hc_62 => ?_) (fun hc_62 => ?_)
        · replace hf := if_t hf hc_62
          refine lv_aload_n X.hx X.hb dX11_bookLine_110 rfl (lv_at hl 1 rfl) ?_
          refine lv_ldc2 (v := 1852793971) X.hx X.hb X.hown (X.hts _ tw_1304) dX11_bookLine_111 ?_
          obtain ⟨r_63, hc_64, hf⟩ := bd_i hf
          refine r_wvi (As := [.long 1852793971]) (rest := []) X sm_X11_220 (c_X11_isWord l G N uY iY_9 (va_up sY 8 g_13) tY jY_10 1852793971 hc_64) hP hD hS hA 0 rfl rfl rfl hl.1 (lv_room (Nat.le_of_ble_eq_true rfl)) ⟨Nat.le_of_ble_eq_true rfl, Nat.le_of_ble_eq_true rfl⟩ ⟨Nat.zero_le _, Nat.zero_le _⟩ dX11_bookLine_114 (fun H locs hP hD hS => ?_)
          refine lv_if_eq (tgt := 124) X.hx X.hb dX11_bookLine_117 (by decide) (fun hc_65 => ?_) (fun hc_65 => ?_)
          · replace hf := if_t hf hc_65
            refine lv_aload_n X.hx X.hb dX11_bookLine_124 rfl (lv_at hl 1 rfl) ?_
            refine lv_ldc2 (v := 508507548787) X.hx X.hb X.hown (X.hts _ tw_1301) dX11_bookLine_125 ?_
            obtain ⟨r_66, hc_67, hf⟩ := bd_i hf
            refine r_wvi (As := [.long 508507548787]) (rest := []) X sm_X11_220 (c_X11_isWord l G N uY iY_9 (va_up sY 8 g_13) tY jY_10 508507548787 hc_67) hP hD hS hA 0 rfl rfl rfl hl.1 (lv_room (Nat.le_of_ble_eq_true rfl)) ⟨Nat.le_of_ble_eq_true rfl, Nat.le_of_ble_eq_true rfl⟩ ⟨Nat.zero_le _, Nat.zero_le _⟩ dX11_bookLine_128 (fun H locs hP hD hS => ?_)
            refine lv_if_eq (tgt := 138) X.hx X.hb dX11_bookLine_131 (by decide) (fun hc_68 => ?_) (fun hc_68 => ?_)
            · replace hf := if_t hf hc_68
              refine lv_aload_n X.hx X.hb dX11_bookLine_138 rfl (lv_at hl 1 rfl) ?_
              refine lv_ldc2 (v := 499917810803) X.hx X.hb X.hown (X.hts _ tw_1305) dX11_bookLine_139 ?_
              obtain ⟨r_69, hc_70, hf⟩ := bd_i hf
              refine r_wvi (As := [.long 499917810803]) (rest := []) X sm_X11_220 (c_X11_isWord l G N uY iY_9 (va_up sY 8 g_13) tY jY_10 499917810803 hc_70) hP hD hS hA 0 rfl rfl rfl hl.1 (lv_room (Nat.le_of_ble_eq_true rfl)) ⟨Nat.le_of_ble_eq_true rfl, Nat.le_of_ble_eq_true rfl⟩ ⟨Nat.zero_le _, Nat.zero_le _⟩ dX11_bookLine_142 (fun H locs hP hD hS => ?_)
              refine lv_if_eq (tgt := 152) X.hx X.hb dX11_bookLine_145 (by decide) (fun hc_71 => ?_) (fun hc_71 => ?_)
              · replace hf := if_t hf hc_71
                refine lv_iconst (v := (-1)) X.hx X.hb dX11_bookLine_152 (by decide) ?_
                exact hj_18 _ _ _ _ hf hP hD hS (lv_sub hl [1, 2, 0] rfl)
              · replace hf := if_f hf hc_71
                refine lv_iconst (v := 3) X.hx X.hb dX11_bookLine_148 (by decide) ?_
                refine lv_goto (tgt := 153) X.hx X.hb dX11_bookLine_149 (by decide) ?_
                exact hj_18 _ _ _ _ hf hP hD hS (lv_sub hl [1, 2, 0] rfl)
            · replace hf := if_f hf hc_68
              refine lv_iconst (v := 2) X.hx X.hb dX11_bookLine_134 (by decide) ?_
              refine lv_goto (tgt := 153) X.hx X.hb dX11_bookLine_135 (by decide) ?_
              exact hj_18 _ _ _ _ hf hP hD hS (lv_sub hl [1, 2, 0] rfl)
          · replace hf := if_f hf hc_65
            refine lv_iconst (v := 1) X.hx X.hb dX11_bookLine_120 (by decide) ?_
            refine lv_goto (tgt := 153) X.hx X.hb dX11_bookLine_121 (by decide) ?_
            exact hj_18 _ _ _ _ hf hP hD hS (lv_sub hl [1, 2, 0] rfl)
        · replace hf := if_f hf hc_62
          refine lv_iconst (v := 0) X.hx X.hb dX11_bookLine_106 (by decide) ?_
          refine lv_goto (tgt := 153) X.hx X.hb dX11_bookLine_107 (by decide) ?_
          exact hj_18 _ _ _ _ hf hP hD hS (lv_sub hl [1, 2, 0] rfl)
      · replace hf := if_f hf hc_14
        refine lv_aload_n X.hx X.hb dX11_bookLine_70 rfl (lv_at hl 1 rfl) ?_
        refine lv_iconst (v := 1) X.hx X.hb dX11_bookLine_71 (by decide) ?_
        refine lv_bipush (v := 60) X.hx X.hb dX11_bookLine_72 (by decide) ?_
        obtain ⟨⟨r_72, iY_73, jY_74⟩, hc_75, hf⟩ := bd_i hf
        refine r_wvi (As := [.int 1, .int 60]) (rest := []) X sm_X11_196 (c_X11_takes l G N uY iY_9 (va_up sY 8 g_13) tY jY_10 1 60 hc_75) hP hD hS hA 0 rfl rfl rfl hl.1 (lv_room (Nat.le_of_ble_eq_true rfl)) ⟨Nat.le_of_ble_eq_true rfl, Nat.le_of_ble_eq_true rfl⟩ ⟨Nat.zero_le _, Nat.zero_le _⟩ dX11_bookLine_74 (fun H locs hP hD hS => ?_)
        refine lv_if_ne (tgt := 82) X.hx X.hb dX11_bookLine_77 (by decide) (fun hc_76 => ?_) (fun hc_76 => ?_)
        · replace hf := if_f hf hc_76
          refine lv_aload_n X.hx X.hb dX11_bookLine_82 rfl (lv_at hl 1 rfl) ?_
          refine gf_X11_40 X hP 0 rfl (v := .ref (uY 9)) rfl dX11_bookLine_83 ?_
          refine lv_iload_n X.hx X.hb dX11_bookLine_86 rfl (lv_at hl 2 rfl) ?_
          refine lv_iconst (v := 1) X.hx X.hb dX11_bookLine_87 (by decide) ?_
          refine lv_iadd X.hx X.hb dX11_bookLine_88 ?_
          refine lv_aload_n X.hx X.hb dX11_bookLine_89 rfl (lv_at hl 1 rfl) ?_
          refine gf_X11_193 X hP 0 rfl (v := .int (iY_73 18)) rfl dX11_bookLine_90 ?_
          obtain ⟨hi_77, hf⟩ := ck_i hf
          obtain ⟨g_78, eg_78, hf⟩ := nv_i hf
          refine r_iast X hP hD hS 4 (f := g_13) rfl hi_77 (wo := (gY G uY iY_73 (va_up sY 8 g_78) tY jY_74)) (by subst eg_78; rfl) dX11_bookLine_93 (fun H locs hP hD hS => ?_)
          refine lv_iconst (v := 1) X.hx X.hb dX11_bookLine_94 (by decide) ?_
          cases hf
          subst hQ
          exact r_zret X hP hD hS (by decide) dX11_bookLine_95
        · replace hf := if_t hf hc_76
          refine lv_iconst (v := 0) X.hx X.hb dX11_bookLine_80 (by decide) ?_
          cases hf
          subst hQ
          exact r_zret X hP hD hS (by decide) dX11_bookLine_81
    · replace hf := if_t hf hc_8
      refine lv_aload_n X.hx X.hb dX11_bookLine_44 rfl (lv_at hl 0 rfl) ?_
      refine lv_iconst (v := 4) X.hx X.hb dX11_bookLine_45 (by decide) ?_
      obtain ⟨⟨r_79, iY_80⟩, hc_81, hf⟩ := bd_i hf
      refine r_wvi (As := [.int 4]) (rest := []) X sm_X11_183 (c_X11_bad l G N uY iY_7 sY tY jY 4 hc_81) hP hD hS hA 0 rfl rfl rfl hl.1 (lv_room (Nat.le_of_ble_eq_true rfl)) ⟨Nat.le_of_ble_eq_true rfl, Nat.le_of_ble_eq_true rfl⟩ ⟨Nat.zero_le _, Nat.zero_le _⟩ dX11_bookLine_46 (fun H locs hP hD hS => ?_)
      obtain ⟨hb_82, hf⟩ := zb_i hf
      cases hf
      subst hQ
      exact r_zret X hP hD hS hb_82 dX11_bookLine_49
  refine lv_if_ne (tgt := 35) X.hx X.hb dX11_bookLine_16 (by decide) (fun hc_83 => ?_) (fun hc_83 => ?_)
  · replace hf := if_f hf hc_83
    exact hj_5 _ _ _ _ hf hP hD hS (lv_sub hl [2, 1, 0] rfl)
  · replace hf := if_t hf hc_83
    refine lv_aload_n X.hx X.hb dX11_bookLine_19 rfl (lv_at hl 2 rfl) ?_
    refine lv_iconst (v := 0) X.hx X.hb dX11_bookLine_20 (by decide) ?_
    refine lv_aload_n X.hx X.hb dX11_bookLine_21 rfl (lv_at hl 2 rfl) ?_
    refine gf_X11_33 X hP 0 rfl (v := .ref (uY 7)) rfl dX11_bookLine_22 ?_
    refine lv_iconst (v := 0) X.hx X.hb dX11_bookLine_25 (by decide) ?_
    refine r_iald X hP 2 (f := (sY 6)) rfl (vp_c rfl) dX11_bookLine_26 ?_
    refine W.eq (g2 := F0 m 27 ls [.int ((sY 6) 0), .int 0, .ref (uY 0)]) rfl ?_
    obtain ⟨⟨r_84, iY_85⟩, hc_86, hf⟩ := bd_i hf
    refine r_wvi (As := [.int 0, .int ((sY 6) 0)]) (rest := []) X sm_X11_208 (c_X11_looksAt l G N uY iY sY tY jY 0 ((sY 6) 0) hc_86) hP hD hS hA 0 rfl rfl rfl hl.1 (lv_room (Nat.le_of_ble_eq_true rfl)) ⟨Nat.le_of_ble_eq_true rfl, Nat.le_of_ble_eq_true rfl⟩ ⟨Nat.zero_le _, Nat.zero_le _⟩ dX11_bookLine_27 (fun H locs hP hD hS => ?_)
    refine lv_if_ne (tgt := 35) X.hx X.hb dX11_bookLine_30 (by decide) (fun hc_87 => ?_) (fun hc_87 => ?_)
    · replace hf := if_f hf hc_87
      exact hj_5 _ _ _ _ hf hP hD hS (lv_sub hl [2, 1, 0] rfl)
    · replace hf := if_t hf hc_87
      refine lv_iconst (v := 0) X.hx X.hb dX11_bookLine_33 (by decide) ?_
      cases hf
      subst hQ
      exact r_zret X hP hD hS (by decide) dX11_bookLine_34

