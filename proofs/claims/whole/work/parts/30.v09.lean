def f_X11_isSold_7 (N : Nat) (iY : Nat → Int32) (sY : Nat → Nat → Int32) (tY : Nat → Nat → Int64) (jY : Nat → Int64) (v1 : Int32) (K_1 : ((Int32) × (Int32)) → Option (Int32)) : Nat → (Int32) → (Int32) → (Int32) → Option (Int32)
  | 0, _, _, _ => none
  | k + 1, v2, v3, v4 => (if ((sY 6) 1) ≤ v4 then K_1 (v2, v3) else jn (fun (z : (Int32)) => match z with | y_29 => ck (((143 : Int32) + ((5 : Int32) * v1)) + v4) 457 (nv (v3 + ((sY 6) (ix (((143 : Int32) + ((5 : Int32) * v1)) + v4)))) (fun n_31 => f_X11_isSold_7 N iY sY tY jY v1 K_1 k y_29 n_31 (v4 + 1)))) (fun K_26 => jn (fun (z : Unit) => match z with | () => K_26 1) (fun K_32 => (if v2 = 0 then ck (((47 : Int32) + ((5 : Int32) * v1)) + v4) 457 ((if ((sY 6) (ix (((47 : Int32) + ((5 : Int32) * v1)) + v4))) ≤ 0 then K_26 0 else K_32 ())) else K_32 ()))))
def f_X11_isSold (N : Nat) (iY : Nat → Int32) (sY : Nat → Nat → Int32) (tY : Nat → Nat → Int64) (jY : Nat → Int64) (p1 : Int32) : Option (Int32) :=
  jn (fun (z : (Int32) × (Int32)) => match z with | (x2_4, x3_5) => (if x2_4 = 0 then some 0 else (if x3_5 = 0 then some 1 else some 0))) (fun K_1 => f_X11_isSold_7 N iY sY tY jY p1 K_1 N 0 0 0)
set_option maxHeartbeats 4000000 in
set_option maxRecDepth 100000 in
theorem c_X11_isSold (l : Launch) (G : GT) (N : Nat) (uY : Nat → Nat) (iY : Nat → Int32) (sY : Nat → Nat → Int32) (tY : Nat → Nat → Int64) (jY : Nat → Int64) (p1 : Int32) {r : Int32} (hf : f_X11_isSold N iY sY tY jY p1 = some r) : CI l G yX11_isSold cX11_isSold 5 .boolean 1 [.ref (uY 0), .int p1] (gY G uY iY sY tY jY) r (gY G uY iY sY tY jY) := by
  refine CI.of (by decide) (Nat.le_of_ble_eq_true rfl) ?_
  intro p e s m args below meth c A X hA hP hD hS ls hl
  have hl : lv_has ls 5 [(0, .ref (uY 0)), (1, .int p1)] := hl
  generalize hQ : MQ below (QI G A r (gY G uY iY sY tY jY)) args s 0 0 A = QQ
  unfold f_X11_isSold at hf
  refine lv_iconst (v := 0) X.hx X.hb dX11_isSold_0 (by decide) ?_
  refine lv_istore_n (lv' := [(2, .int 0), (0, .ref (uY 0)), (1, .int p1)]) X.hx X.hb dX11_isSold_1 rfl hl (by decide) rfl (fun ls hl => ?_)
  refine lv_iconst (v := 0) X.hx X.hb dX11_isSold_2 (by decide) ?_
  refine lv_istore_n (lv' := [(3, .int 0), (2, .int 0), (0, .ref (uY 0)), (1, .int p1)]) X.hx X.hb dX11_isSold_3 rfl hl (by decide) rfl (fun ls hl => ?_)
  refine lv_iconst (v := 0) X.hx X.hb dX11_isSold_4 (by decide) ?_
  refine lv_istore (lv' := [(4, .int 0), (3, .int 0), (2, .int 0), (0, .ref (uY 0)), (1, .int p1)]) X.hx X.hb dX11_isSold_5 hl (by decide) rfl (fun ls hl => ?_)
  obtain ⟨K_1, eK_3, hf⟩ := jn_i hf
  have hj_2 : ∀ (x2_4 : Int32) (x3_5 : Int32) (H : Heap) (locs : List Loc) (ls : Array Slot), K_1 (x2_4, x3_5) = some r → va_P G.1 vwCl (gY G uY iY sY tY jY) H → va_D A (gY G uY iY sY tY jY) → va_S A s.heap H locs → lv_has ls 5 [(2, .int x2_4), (3, .int x3_5)] → W p l e (RM 1) s m args below meth c H locs 0 0 QQ (F0 m 69 ls []) := by
    intro x2_4 x3_5 H locs ls hf hP hD hS hl
    rw [eK_3] at hf
    try dsimp only at hf
    refine lv_iload_n X.hx X.hb dX11_isSold_69 rfl (lv_at hl 0 rfl) ?_
    refine lv_if_eq (tgt := 81) X.hx X.hb dX11_isSold_70 (by decide) (fun hc_6 => ?_) (fun hc_6 => ?_)
    · replace hf := if_t hf hc_6
      refine lv_iconst (v := 0) X.hx X.hb dX11_isSold_81 (by decide) ?_
      cases hf
      subst hQ
      exact r_zret X hP hD hS (by decide) dX11_isSold_82
    · replace hf := if_f hf hc_6
      refine lv_iload_n X.hx X.hb dX11_isSold_73 rfl (lv_at hl 1 rfl) ?_
      refine lv_if_ne (tgt := 81) X.hx X.hb dX11_isSold_74 (by decide) (fun hc_7 => ?_) (fun hc_7 => ?_)
      · replace hf := if_f hf hc_7
        refine lv_iconst (v := 0) X.hx X.hb dX11_isSold_81 (by decide) ?_
        cases hf
        subst hQ
        exact r_zret X hP hD hS (by decide) dX11_isSold_82
      · replace hf := if_t hf hc_7
        refine lv_iconst (v := 1) X.hx X.hb dX11_isSold_77 (by decide) ?_
        refine lv_goto (tgt := 82) X.hx X.hb dX11_isSold_78 (by decide) ?_
        cases hf
        subst hQ
        exact r_zret X hP hD hS (by decide) dX11_isSold_82
  have hlo_8 : ∀ (k : Nat) (v2_9 : Int32) (v3_10 : Int32) (v4_11 : Int32) (H : Heap) (locs : List Loc) (ls : Array Slot), f_X11_isSold_7 N iY sY tY jY p1 K_1 k v2_9 v3_10 v4_11 = some r → va_P G.1 vwCl (gY G uY iY sY tY jY) H → va_D A (gY G uY iY sY tY jY) → va_S A s.heap H locs → lv_has ls 5 [(0, .ref (uY 0)), (1, .int p1), (2, .int v2_9), (3, .int v3_10), (4, .int v4_11)] → W p l e (RM 1) s m args below meth c H locs 0 0 QQ (F0 m 7 ls []) := by
    intro k
    induction k with
    | zero => intro v2_9 v3_10 v4_11 H locs ls hf; exact absurd hf (by intro q; cases q)
    | succ k ih =>
      intro v2_9 v3_10 v4_11 H locs ls hf hP hD hS hl
      unfold f_X11_isSold_7 at hf
      refine lv_iload X.hx X.hb dX11_isSold_7 (lv_at hl 4 rfl) ?_
      refine lv_aload_n X.hx X.hb dX11_isSold_9 rfl (lv_at hl 0 rfl) ?_
      refine gf_X11_33 X hP 0 rfl (v := .ref (uY 7)) rfl dX11_isSold_10 ?_
      refine lv_iconst (v := 1) X.hx X.hb dX11_isSold_13 (by decide) ?_
      refine r_iald X hP 2 (f := (sY 6)) rfl (vp_c rfl) dX11_isSold_14 ?_
      refine W.eq (g2 := F0 m 15 ls [.int ((sY 6) 1), .int v4_11]) rfl ?_
      refine lv_icmp_ge (tgt := 69) X.hx X.hb dX11_isSold_15 (by decide) (fun hc_12 => ?_) (fun hc_12 => ?_)
      · replace hf := if_t hf hc_12
        exact hj_2 _ _ _ _ _ hf hP hD hS (lv_sub hl [2, 3] rfl)
      · replace hf := if_f hf hc_12
        refine lv_iload_n X.hx X.hb dX11_isSold_18 rfl (lv_at hl 2 rfl) ?_
        obtain ⟨K_13, eK_15, hf⟩ := jn_i hf
        have hj_14 : ∀ (y_16 : Int32) (H : Heap) (locs : List Loc) (ls : Array Slot), K_13 y_16 = some r → va_P G.1 vwCl (gY G uY iY sY tY jY) H → va_D A (gY G uY iY sY tY jY) → va_S A s.heap H locs → lv_has ls 5 [(0, .ref (uY 0)), (1, .int p1), (3, .int v3_10), (4, .int v4_11)] → W p l e (RM 1) s m args below meth c H locs 0 0 QQ (F0 m 44 ls [.int y_16]) := by
          intro y_16 H locs ls hf hP hD hS hl
          rw [eK_15] at hf
          try dsimp only at hf
          refine lv_istore_n (lv' := [(2, .int y_16), (0, .ref (uY 0)), (1, .int p1), (3, .int v3_10), (4, .int v4_11)]) X.hx X.hb dX11_isSold_44 rfl hl (by decide) rfl (fun ls hl => ?_)
          refine lv_iload_n X.hx X.hb dX11_isSold_45 rfl (lv_at hl 3 rfl) ?_
          refine lv_aload_n X.hx X.hb dX11_isSold_46 rfl (lv_at hl 1 rfl) ?_
          refine gf_X11_33 X hP 0 rfl (v := .ref (uY 7)) rfl dX11_isSold_47 ?_
          refine lv_sipush (v := 143) X.hx X.hb dX11_isSold_50 (by decide) ?_
          refine lv_iconst (v := 5) X.hx X.hb dX11_isSold_53 (by decide) ?_
          refine lv_iload_n X.hx X.hb dX11_isSold_54 rfl (lv_at hl 2 rfl) ?_
          refine lv_imul X.hx X.hb dX11_isSold_55 ?_
          refine lv_iadd X.hx X.hb dX11_isSold_56 ?_
          refine lv_iload X.hx X.hb dX11_isSold_57 (lv_at hl 4 rfl) ?_
          refine lv_iadd X.hx X.hb dX11_isSold_59 ?_
          obtain ⟨hi_17, hf⟩ := ck_i hf
          refine r_iald X hP 2 (f := (sY 6)) rfl hi_17 dX11_isSold_60 ?_
          refine lv_iadd X.hx X.hb dX11_isSold_61 ?_
          obtain ⟨n_18, en_18, hf⟩ := nv_i hf
          refine r_nm en_18 ?_
          refine lv_istore_n (lv' := [(3, .int n_18), (2, .int y_16), (0, .ref (uY 0)), (1, .int p1), (4, .int v4_11)]) X.hx X.hb dX11_isSold_62 rfl hl (by decide) rfl (fun ls hl => ?_)
          refine lv_iinc (v := (v4_11 + 1)) (lv' := [(4, .int (v4_11 + 1)), (3, .int n_18), (2, .int y_16), (0, .ref (uY 0)), (1, .int p1)]) X.hx X.hb dX11_isSold_63 hl (k := 4) rfl rfl (by decide) rfl (fun ls hl => ?_)
          refine lv_goto (tgt := 7) X.hx X.hb dX11_isSold_66 (by decide) ?_
          exact ih _ _ _ _ _ _ hf hP hD hS (lv_sub hl [3, 4, 2, 1, 0] rfl)
        obtain ⟨K_19, eK_21, hf⟩ := jn_i hf
        have hj_20 : ∀ (H : Heap) (locs : List Loc) (ls : Array Slot), K_19 () = some r → va_P G.1 vwCl (gY G uY iY sY tY jY) H → va_D A (gY G uY iY sY tY jY) → va_S A s.heap H locs → lv_has ls 5 [(0, .ref (uY 0)), (1, .int p1), (3, .int v3_10), (4, .int v4_11)] → W p l e (RM 1) s m args below meth c H locs 0 0 QQ (F0 m 39 ls []) := by
          intro  H locs ls hf hP hD hS hl
          rw [eK_21] at hf
          try dsimp only at hf
          refine lv_iconst (v := 1) X.hx X.hb dX11_isSold_39 (by decide) ?_
          refine lv_goto (tgt := 44) X.hx X.hb dX11_isSold_40 (by decide) ?_
          exact hj_14 _ _ _ _ hf hP hD hS (lv_sub hl [0, 1, 2, 3] rfl)
        refine lv_if_ne (tgt := 39) X.hx X.hb dX11_isSold_19 (by decide) (fun hc_22 => ?_) (fun hc_22 => ?_)
        · replace hf := if_f hf hc_22
          exact hj_20 _ _ _ hf hP hD hS (lv_sub hl [0, 1, 3, 4] rfl)
        · replace hf := if_t hf hc_22
          refine lv_aload_n X.hx X.hb dX11_isSold_22 rfl (lv_at hl 0 rfl) ?_
          refine gf_X11_33 X hP 0 rfl (v := .ref (uY 7)) rfl dX11_isSold_23 ?_
          refine lv_bipush (v := 47) X.hx X.hb dX11_isSold_26 (by decide) ?_
          refine lv_iconst (v := 5) X.hx X.hb dX11_isSold_28 (by decide) ?_
          refine lv_iload_n X.hx X.hb dX11_isSold_29 rfl (lv_at hl 1 rfl) ?_
          refine lv_imul X.hx X.hb dX11_isSold_30 ?_
          refine lv_iadd X.hx X.hb dX11_isSold_31 ?_
          refine lv_iload X.hx X.hb dX11_isSold_32 (lv_at hl 4 rfl) ?_
          refine lv_iadd X.hx X.hb dX11_isSold_34 ?_
          obtain ⟨hi_23, hf⟩ := ck_i hf
          refine r_iald X hP 2 (f := (sY 6)) rfl hi_23 dX11_isSold_35 ?_
          refine lv_if_le (tgt := 43) X.hx X.hb dX11_isSold_36 (by decide) (fun hc_24 => ?_) (fun hc_24 => ?_)
          · replace hf := if_t hf hc_24
            refine lv_iconst (v := 0) X.hx X.hb dX11_isSold_43 (by decide) ?_
            exact hj_14 _ _ _ _ hf hP hD hS (lv_sub hl [0, 1, 3, 4] rfl)
          · replace hf := if_f hf hc_24
            exact hj_20 _ _ _ hf hP hD hS (lv_sub hl [0, 1, 3, 4] rfl)
  exact hlo_8 N _ _ _ _ _ _ hf hP hD hS (lv_sub hl [3, 4, 2, 1, 0] rfl)

def f_X11_isLeaf (N : Nat) (iY : Nat → Int32) (sY : Nat → Nat → Int32) (tY : Nat → Nat → Int64) (jY : Nat → Int64) (p1 : Int32) (p2 : Int32) (p3 : Int32) (p4 : Int32) : Option (Int32) :=
  (if p2 = 0 then bd (f_X11_isHome N iY sY tY jY p1) (fun r_2 => zb r_2 (some r_2)) else (if p2 = 1 then bd (f_X11_isVeiled N iY sY tY jY p1) (fun r_6 => zb r_6 (some r_6)) else (if p2 = 2 then bd (f_X11_wantsOf N iY sY tY jY p1) (fun r_10 => (if r_10 = 0 then some 1 else some 0)) else (if p2 = 3 then bd (f_X11_isSold N iY sY tY jY p1) (fun r_14 => zb r_14 (some r_14)) else (if p2 = 4 then bd (f_X11_knownBy N iY sY tY jY p1) (fun r_18 => bd (f_X11_bitOf N r_18 p4) (fun r_20 => zb r_20 (some r_20))) else (if p2 = 5 then ck (((178 : Int32) + ((5 : Int32) * p1)) + p4) 457 ((if ((sY 6) (ix (((178 : Int32) + ((5 : Int32) * p1)) + p4))) ≤ 0 then some 0 else some 1)) else jn (fun (z : (Int32)) => match z with | y_29 => (if p3 = 60 then (if p4 ≤ y_29 then some 0 else some 1) else (if p3 = 61 then (if y_29 = p4 then some 1 else some 0) else (if y_29 ≤ p4 then some 0 else some 1)))) (fun K_26 => (if p2 = 6 then ck ((136 : Int32) + p1) 457 (K_26 ((sY 6) (ix ((136 : Int32) + p1)))) else (if p2 = 7 then bd (f_X11_knownBy N iY sY tY jY p1) (fun r_39 => bd (f_X11_bits N r_39) (fun r_41 => K_26 r_41)) else (if p2 = 8 then ck ((213 : Int32) + p1) 457 (K_26 ((sY 6) (ix ((213 : Int32) + p1)))) else K_26 p1))))))))))
set_option maxHeartbeats 4000000 in
set_option maxRecDepth 100000 in
theorem c_X11_isLeaf (l : Launch) (G : GT) (N : Nat) (uY : Nat → Nat) (iY : Nat → Int32) (sY : Nat → Nat → Int32) (tY : Nat → Nat → Int64) (jY : Nat → Int64) (p1 : Int32) (p2 : Int32) (p3 : Int32) (p4 : Int32) {r : Int32} (hf : f_X11_isLeaf N iY sY tY jY p1 p2 p3 p4 = some r) : CI l G yX11_isLeaf cX11_isLeaf 6 .boolean 3 [.ref (uY 0), .int p1, .int p2, .int p3, .int p4] (gY G uY iY sY tY jY) r (gY G uY iY sY tY jY) := by
  refine CI.of (by decide) (Nat.le_of_ble_eq_true rfl) ?_
  intro p e s m args below meth c A X hA hP hD hS ls hl
  have hl : lv_has ls 6 [(0, .ref (uY 0)), (1, .int p1), (2, .int p2), (3, .int p3), (4, .int p4)] := hl
  generalize hQ : MQ below (QI G A r (gY G uY iY sY tY jY)) args s 0 0 A = QQ
  unfold f_X11_isLeaf at hf
  refine lv_iload_n X.hx X.hb dX11_isLeaf_0 rfl (lv_at hl 2 rfl) ?_
  by_cases hc_1 : p2 = 0
  · replace hf := if_t hf hc_1
    refine lv_tableIn (tgt := 40) X.hx X.hb dX11_isLeaf_1 (by rw [hc_1]; decide) (by rw [hc_1]; decide) (by rw [hc_1]; rfl) (by decide) ?_
    refine lv_aload_n X.hx X.hb dX11_isLeaf_40 rfl (lv_at hl 0 rfl) ?_
    refine lv_iload_n X.hx X.hb dX11_isLeaf_41 rfl (lv_at hl 1 rfl) ?_
    obtain ⟨r_2, hc_3, hf⟩ := bd_i hf
    refine r_cvi (As := [.int p1]) (rest := []) X sm_X11_290 (c_X11_isHome l G N uY iY sY tY jY p1 hc_3) hP hD hS hA 0 rfl rfl [0, 1, 2, 3, 4, 5, 6, 7, 8, 9, 10, 11, 12, 13, 14, 15, 16, 17, 18, 19, 20] rfl rfl rfl (wo := (gY G uY iY sY tY jY)) rfl rfl hl.1 (lv_room (Nat.le_of_ble_eq_true rfl)) ⟨Nat.le_of_ble_eq_true rfl, Nat.le_of_ble_eq_true rfl⟩ ⟨Nat.zero_le _, Nat.zero_le _⟩ dX11_isLeaf_42 (fun H locs hP hD hS => ?_)
    obtain ⟨hb_4, hf⟩ := zb_i hf
    cases hf
    subst hQ
    exact r_zret X hP hD hS hb_4 dX11_isLeaf_45
  replace hf := if_f hf hc_1
  by_cases hc_5 : p2 = 1
  · replace hf := if_t hf hc_5
    refine lv_tableIn (tgt := 46) X.hx X.hb dX11_isLeaf_1 (by rw [hc_5]; decide) (by rw [hc_5]; decide) (by rw [hc_5]; rfl) (by decide) ?_
    refine lv_aload_n X.hx X.hb dX11_isLeaf_46 rfl (lv_at hl 0 rfl) ?_
    refine lv_iload_n X.hx X.hb dX11_isLeaf_47 rfl (lv_at hl 1 rfl) ?_
    obtain ⟨r_6, hc_7, hf⟩ := bd_i hf
    refine r_cvi (As := [.int p1]) (rest := []) X sm_X11_293 (c_X11_isVeiled l G N uY iY sY tY jY p1 hc_7) hP hD hS hA 0 rfl rfl [0, 1, 2, 3, 4, 5, 6, 7, 8, 9, 10, 11, 12, 13, 14, 15, 16, 17, 18, 19, 20] rfl rfl rfl (wo := (gY G uY iY sY tY jY)) rfl rfl hl.1 (lv_room (Nat.le_of_ble_eq_true rfl)) ⟨Nat.le_of_ble_eq_true rfl, Nat.le_of_ble_eq_true rfl⟩ ⟨Nat.zero_le _, Nat.zero_le _⟩ dX11_isLeaf_48 (fun H locs hP hD hS => ?_)
    obtain ⟨hb_8, hf⟩ := zb_i hf
    cases hf
    subst hQ
    exact r_zret X hP hD hS hb_8 dX11_isLeaf_51
  replace hf := if_f hf hc_5
  by_cases hc_9 : p2 = 2
  · replace hf := if_t hf hc_9
    refine lv_tableIn (tgt := 52) X.hx X.hb dX11_isLeaf_1 (by rw [hc_9]; decide) (by rw [hc_9]; decide) (by rw [hc_9]; rfl) (by decide) ?_
    refine lv_aload_n X.hx X.hb dX11_isLeaf_52 rfl (lv_at hl 0 rfl) ?_
    refine lv_iload_n X.hx X.hb dX11_isLeaf_53 rfl (lv_at hl 1 rfl) ?_
    obtain ⟨r_10, hc_11, hf⟩ := bd_i hf
    refine r_cvi (As := [.int p1]) (rest := []) X sm_X11_269 (c_X11_wantsOf l G N uY iY sY tY jY p1 hc_11) hP hD hS hA 0 rfl rfl [0, 1, 2, 3, 4, 5, 6, 7, 8, 9, 10, 11, 12, 13, 14, 15, 16, 17, 18, 19, 20] rfl rfl rfl (wo := (gY G uY iY sY tY jY)) rfl rfl hl.1 (lv_room (Nat.le_of_ble_eq_true rfl)) ⟨Nat.le_of_ble_eq_true rfl, Nat.le_of_ble_eq_true rfl⟩ ⟨Nat.zero_le _, Nat.zero_le _⟩ dX11_isLeaf_54 (fun H locs hP hD hS => ?_)
    refine lv_if_ne (tgt := 64) X.hx X.hb dX11_isLeaf_57 (by decide) (fun hc_12 => ?_) (fun hc_12 => ?_)
    · replace hf := if_f hf hc_12
      refine lv_iconst (v := 0) X.hx X.hb dX11_isLeaf_64 (by decide) ?_
      cases hf
      subst hQ
      exact r_zret X hP hD hS (by decide) dX11_isLeaf_65
    · replace hf := if_t hf hc_12
      refine lv_iconst (v := 1) X.hx X.hb dX11_isLeaf_60 (by decide) ?_
      refine lv_goto (tgt := 65) X.hx X.hb dX11_isLeaf_61 (by decide) ?_
      cases hf
      subst hQ
      exact r_zret X hP hD hS (by decide) dX11_isLeaf_65
  replace hf := if_f hf hc_9
  by_cases hc_13 : p2 = 3
  · replace hf := if_t hf hc_13
    refine lv_tableIn (tgt := 66) X.hx X.hb dX11_isLeaf_1 (by rw [hc_13]; decide) (by rw [hc_13]; decide) (by rw [hc_13]; rfl) (by decide) ?_
    refine lv_aload_n X.hx X.hb dX11_isLeaf_66 rfl (lv_at hl 0 rfl) ?_
    refine lv_iload_n X.hx X.hb dX11_isLeaf_67 rfl (lv_at hl 1 rfl) ?_
    obtain ⟨r_14, hc_15, hf⟩ := bd_i hf
    refine r_cvi (As := [.int p1]) (rest := []) X sm_X11_464 (c_X11_isSold l G N uY iY sY tY jY p1 hc_15) hP hD hS hA 0 rfl rfl [0, 1, 2, 3, 4, 5, 6, 7, 8, 9, 10, 11, 12, 13, 14, 15, 16, 17, 18, 19, 20] rfl rfl rfl (wo := (gY G uY iY sY tY jY)) rfl rfl hl.1 (lv_room (Nat.le_of_ble_eq_true rfl)) ⟨Nat.le_of_ble_eq_true rfl, Nat.le_of_ble_eq_true rfl⟩ ⟨Nat.zero_le _, Nat.zero_le _⟩ dX11_isLeaf_68 (fun H locs hP hD hS => ?_)
    obtain ⟨hb_16, hf⟩ := zb_i hf
    cases hf
    subst hQ
    exact r_zret X hP hD hS hb_16 dX11_isLeaf_71
  replace hf := if_f hf hc_13
  by_cases hc_17 : p2 = 4
  · replace hf := if_t hf hc_17
    refine lv_tableIn (tgt := 72) X.hx X.hb dX11_isLeaf_1 (by rw [hc_17]; decide) (by rw [hc_17]; decide) (by rw [hc_17]; rfl) (by decide) ?_
    refine lv_aload_n X.hx X.hb dX11_isLeaf_72 rfl (lv_at hl 0 rfl) ?_
    refine lv_iload_n X.hx X.hb dX11_isLeaf_73 rfl (lv_at hl 1 rfl) ?_
    obtain ⟨r_18, hc_19, hf⟩ := bd_i hf
    refine r_cvi (As := [.int p1]) (rest := []) X sm_X11_265 (c_X11_knownBy l G N uY iY sY tY jY p1 hc_19) hP hD hS hA 0 rfl rfl [0, 1, 2, 3, 4, 5, 6, 7, 8, 9, 10, 11, 12, 13, 14, 15, 16, 17, 18, 19, 20] rfl rfl rfl (wo := (gY G uY iY sY tY jY)) rfl rfl hl.1 (lv_room (Nat.le_of_ble_eq_true rfl)) ⟨Nat.le_of_ble_eq_true rfl, Nat.le_of_ble_eq_true rfl⟩ ⟨Nat.zero_le _, Nat.zero_le _⟩ dX11_isLeaf_74 (fun H locs hP hD hS => ?_)
    refine lv_iload X.hx X.hb dX11_isLeaf_77 (lv_at hl 4 rfl) ?_
    obtain ⟨r_20, hc_21, hf⟩ := bd_i hf
    refine r_cs0 (As := [.int r_18, .int p4]) (rest := []) X sm_X11_214 (c_X11_bitOf l G N r_18 p4 hc_21) hP hD hS hA rfl hl.1 (lv_room (Nat.le_of_ble_eq_true rfl)) ⟨Nat.le_of_ble_eq_true rfl, Nat.le_of_ble_eq_true rfl⟩ ⟨Nat.zero_le _, Nat.zero_le _⟩ dX11_isLeaf_79 (fun H locs hP hD hS => ?_)
    obtain ⟨hb_22, hf⟩ := zb_i hf
    cases hf
    subst hQ
    exact r_zret X hP hD hS hb_22 dX11_isLeaf_82
  replace hf := if_f hf hc_17
  by_cases hc_23 : p2 = 5
  · replace hf := if_t hf hc_23
    refine lv_tableIn (tgt := 83) X.hx X.hb dX11_isLeaf_1 (by rw [hc_23]; decide) (by rw [hc_23]; decide) (by rw [hc_23]; rfl) (by decide) ?_
    refine lv_aload_n X.hx X.hb dX11_isLeaf_83 rfl (lv_at hl 0 rfl) ?_
    refine gf_X11_33 X hP 0 rfl (v := .ref (uY 7)) rfl dX11_isLeaf_84 ?_
    refine lv_sipush (v := 178) X.hx X.hb dX11_isLeaf_87 (by decide) ?_
    refine lv_iconst (v := 5) X.hx X.hb dX11_isLeaf_90 (by decide) ?_
    refine lv_iload_n X.hx X.hb dX11_isLeaf_91 rfl (lv_at hl 1 rfl) ?_
    refine lv_imul X.hx X.hb dX11_isLeaf_92 ?_
    refine lv_iadd X.hx X.hb dX11_isLeaf_93 ?_
    refine lv_iload X.hx X.hb dX11_isLeaf_94 (lv_at hl 4 rfl) ?_
    refine lv_iadd X.hx X.hb dX11_isLeaf_96 ?_
    obtain ⟨hi_24, hf⟩ := ck_i hf
    refine r_iald X hP 2 (f := (sY 6)) rfl hi_24 dX11_isLeaf_97 ?_
    refine lv_if_le (tgt := 105) X.hx X.hb dX11_isLeaf_98 (by decide) (fun hc_25 => ?_) (fun hc_25 => ?_)
    · replace hf := if_t hf hc_25
      refine lv_iconst (v := 0) X.hx X.hb dX11_isLeaf_105 (by decide) ?_
      cases hf
      subst hQ
      exact r_zret X hP hD hS (by decide) dX11_isLeaf_106
    · replace hf := if_f hf hc_25
      refine lv_iconst (v := 1) X.hx X.hb dX11_isLeaf_101 (by decide) ?_
      refine lv_goto (tgt := 106) X.hx X.hb dX11_isLeaf_102 (by decide) ?_
      cases hf
      subst hQ
      exact r_zret X hP hD hS (by decide) dX11_isLeaf_106
  replace hf := if_f hf hc_23
  refine r_tbd (tgt := 107) X.hx X.hb dX11_isLeaf_1 [0, 1, 2, 3, 4, 5] (by decide) (List.forall_mem_cons.mpr ⟨lv_neT hc_1 rfl, List.forall_mem_cons.mpr ⟨lv_neT hc_5 rfl, List.forall_mem_cons.mpr ⟨lv_neT hc_9 rfl, List.forall_mem_cons.mpr ⟨lv_neT hc_13 rfl, List.forall_mem_cons.mpr ⟨lv_neT hc_17 rfl, List.forall_mem_cons.mpr ⟨lv_neT hc_23 rfl, fun _ h => absurd h List.not_mem_nil⟩⟩⟩⟩⟩⟩) (by decide) ?_
  refine lv_iload_n X.hx X.hb dX11_isLeaf_107 rfl (lv_at hl 2 rfl) ?_
  refine lv_bipush (v := 6) X.hx X.hb dX11_isLeaf_108 (by decide) ?_
  obtain ⟨K_26, eK_28, hf⟩ := jn_i hf
  have hj_27 : ∀ (y_29 : Int32) (H : Heap) (locs : List Loc) (ls : Array Slot), K_26 y_29 = some r → va_P G.1 vwCl (gY G uY iY sY tY jY) H → va_D A (gY G uY iY sY tY jY) → va_S A s.heap H locs → lv_has ls 6 [(3, .int p3), (4, .int p4)] → W p l e (RM 3) s m args below meth c H locs 0 0 QQ (F0 m 163 ls [.int y_29]) := by
    intro y_29 H locs ls hf hP hD hS hl
    rw [eK_28] at hf
    try dsimp only at hf
    refine lv_istore (lv' := [(5, .int y_29), (3, .int p3), (4, .int p4)]) X.hx X.hb dX11_isLeaf_163 hl (by decide) rfl (fun ls hl => ?_)
    refine lv_iload_n X.hx X.hb dX11_isLeaf_165 rfl (lv_at hl 1 rfl) ?_
    refine lv_bipush (v := 60) X.hx X.hb dX11_isLeaf_166 (by decide) ?_
    refine lv_icmp_ne (tgt := 186) X.hx X.hb dX11_isLeaf_168 (by decide) (fun hc_30 => ?_) (fun hc_30 => ?_)
    · replace hf := if_f hf hc_30
      refine lv_iload_n X.hx X.hb dX11_isLeaf_186 rfl (lv_at hl 1 rfl) ?_
      refine lv_bipush (v := 61) X.hx X.hb dX11_isLeaf_187 (by decide) ?_
      refine lv_icmp_ne (tgt := 207) X.hx X.hb dX11_isLeaf_189 (by decide) (fun hc_31 => ?_) (fun hc_31 => ?_)
      · replace hf := if_f hf hc_31
        refine lv_iload X.hx X.hb dX11_isLeaf_207 (lv_at hl 0 rfl) ?_
        refine lv_iload X.hx X.hb dX11_isLeaf_209 (lv_at hl 2 rfl) ?_
        refine lv_icmp_le (tgt := 218) X.hx X.hb dX11_isLeaf_211 (by decide) (fun hc_32 => ?_) (fun hc_32 => ?_)
        · replace hf := if_t hf hc_32
          refine lv_iconst (v := 0) X.hx X.hb dX11_isLeaf_218 (by decide) ?_
          cases hf
          subst hQ
          exact r_zret X hP hD hS (by decide) dX11_isLeaf_219
        · replace hf := if_f hf hc_32
          refine lv_iconst (v := 1) X.hx X.hb dX11_isLeaf_214 (by decide) ?_
          refine lv_goto (tgt := 219) X.hx X.hb dX11_isLeaf_215 (by decide) ?_
          cases hf
          subst hQ
          exact r_zret X hP hD hS (by decide) dX11_isLeaf_219
      · replace hf := if_t hf hc_31
        refine lv_iload X.hx X.hb dX11_isLeaf_192 (lv_at hl 0 rfl) ?_
        refine lv_iload X.hx X.hb dX11_isLeaf_194 (lv_at hl 2 rfl) ?_
        refine lv_icmp_ne (tgt := 203) X.hx X.hb dX11_isLeaf_196 (by decide) (fun hc_33 => ?_) (fun hc_33 => ?_)
        · replace hf := if_f hf hc_33
          refine lv_iconst (v := 0) X.hx X.hb dX11_isLeaf_203 (by decide) ?_
          refine lv_goto (tgt := 219) X.hx X.hb dX11_isLeaf_204 (by decide) ?_
          cases hf
          subst hQ
          exact r_zret X hP hD hS (by decide) dX11_isLeaf_219
        · replace hf := if_t hf hc_33
          refine lv_iconst (v := 1) X.hx X.hb dX11_isLeaf_199 (by decide) ?_
          refine lv_goto (tgt := 219) X.hx X.hb dX11_isLeaf_200 (by decide) ?_
          cases hf
          subst hQ
          exact r_zret X hP hD hS (by decide) dX11_isLeaf_219
    · replace hf := if_t hf hc_30
      refine lv_iload X.hx X.hb dX11_isLeaf_171 (lv_at hl 0 rfl) ?_
      refine lv_iload X.hx X.hb dX11_isLeaf_173 (lv_at hl 2 rfl) ?_
      refine lv_icmp_ge (tgt := 182) X.hx X.hb dX11_isLeaf_175 (by decide) (fun hc_34 => ?_) (fun hc_34 => ?_)
      · replace hf := if_t hf hc_34
        refine lv_iconst (v := 0) X.hx X.hb dX11_isLeaf_182 (by decide) ?_
        refine lv_goto (tgt := 219) X.hx X.hb dX11_isLeaf_183 (by decide) ?_
        cases hf
        subst hQ
        exact r_zret X hP hD hS (by decide) dX11_isLeaf_219
      · replace hf := if_f hf hc_34
        refine lv_iconst (v := 1) X.hx X.hb dX11_isLeaf_178 (by decide) ?_
        refine lv_goto (tgt := 219) X.hx X.hb dX11_isLeaf_179 (by decide) ?_
        cases hf
        subst hQ
        exact r_zret X hP hD hS (by decide) dX11_isLeaf_219
  refine lv_icmp_ne (tgt := 126) X.hx X.hb dX11_isLeaf_110 (by decide) (fun hc_35 => ?_) (fun hc_35 => ?_)
  · replace hf := if_f hf hc_35
    refine lv_iload_n X.hx X.hb dX11_isLeaf_126 rfl (lv_at hl 2 rfl) ?_
    refine lv_bipush (v := 7) X.hx X.hb dX11_isLeaf_127 (by decide) ?_
    refine lv_icmp_ne (tgt := 143) X.hx X.hb dX11_isLeaf_129 (by decide) (fun hc_36 => ?_) (fun hc_36 => ?_)
    · replace hf := if_f hf hc_36
      refine lv_iload_n X.hx X.hb dX11_isLeaf_143 rfl (lv_at hl 2 rfl) ?_
      refine lv_bipush (v := 8) X.hx X.hb dX11_isLeaf_144 (by decide) ?_
      refine lv_icmp_ne (tgt := 162) X.hx X.hb dX11_isLeaf_146 (by decide) (fun hc_37 => ?_) (fun hc_37 => ?_)
      · replace hf := if_f hf hc_37
        refine lv_iload_n X.hx X.hb dX11_isLeaf_162 rfl (lv_at hl 1 rfl) ?_
        exact hj_27 _ _ _ _ hf hP hD hS (lv_sub hl [3, 4] rfl)
      · replace hf := if_t hf hc_37
        refine lv_aload_n X.hx X.hb dX11_isLeaf_149 rfl (lv_at hl 0 rfl) ?_
        refine gf_X11_33 X hP 0 rfl (v := .ref (uY 7)) rfl dX11_isLeaf_150 ?_
        refine lv_sipush (v := 213) X.hx X.hb dX11_isLeaf_153 (by decide) ?_
        refine lv_iload_n X.hx X.hb dX11_isLeaf_156 rfl (lv_at hl 1 rfl) ?_
        refine lv_iadd X.hx X.hb dX11_isLeaf_157 ?_
        obtain ⟨hi_38, hf⟩ := ck_i hf
        refine r_iald X hP 2 (f := (sY 6)) rfl hi_38 dX11_isLeaf_158 ?_
        refine lv_goto (tgt := 163) X.hx X.hb dX11_isLeaf_159 (by decide) ?_
        exact hj_27 _ _ _ _ hf hP hD hS (lv_sub hl [3, 4] rfl)
    · replace hf := if_t hf hc_36
      refine lv_aload_n X.hx X.hb dX11_isLeaf_132 rfl (lv_at hl 0 rfl) ?_
      refine lv_iload_n X.hx X.hb dX11_isLeaf_133 rfl (lv_at hl 1 rfl) ?_
      obtain ⟨r_39, hc_40, hf⟩ := bd_i hf
      refine r_cvi (As := [.int p1]) (rest := []) X sm_X11_265 (c_X11_knownBy l G N uY iY sY tY jY p1 hc_40) hP hD hS hA 0 rfl rfl [0, 1, 2, 3, 4, 5, 6, 7, 8, 9, 10, 11, 12, 13, 14, 15, 16, 17, 18, 19, 20] rfl rfl rfl (wo := (gY G uY iY sY tY jY)) rfl rfl hl.1 (lv_room (Nat.le_of_ble_eq_true rfl)) ⟨Nat.le_of_ble_eq_true rfl, Nat.le_of_ble_eq_true rfl⟩ ⟨Nat.zero_le _, Nat.zero_le _⟩ dX11_isLeaf_134 (fun H locs hP hD hS => ?_)
      obtain ⟨r_41, hc_42, hf⟩ := bd_i hf
      refine r_cs0 (As := [.int r_39]) (rest := []) X sm_X11_284 (c_X11_bits l G N r_39 hc_42) hP hD hS hA rfl hl.1 (lv_room (Nat.le_of_ble_eq_true rfl)) ⟨Nat.le_of_ble_eq_true rfl, Nat.le_of_ble_eq_true rfl⟩ ⟨Nat.zero_le _, Nat.zero_le _⟩ dX11_isLeaf_137 (fun H locs hP hD hS => ?_)
      refine lv_goto (tgt := 163) X.hx X.hb dX11_isLeaf_140 (by decide) ?_
      exact hj_27 _ _ _ _ hf hP hD hS (lv_sub hl [3, 4] rfl)
  · replace hf := if_t hf hc_35
    refine lv_aload_n X.hx X.hb dX11_isLeaf_113 rfl (lv_at hl 0 rfl) ?_
    refine gf_X11_33 X hP 0 rfl (v := .ref (uY 7)) rfl dX11_isLeaf_114 ?_
    refine lv_sipush (v := 136) X.hx X.hb dX11_isLeaf_117 (by decide) ?_
    refine lv_iload_n X.hx X.hb dX11_isLeaf_120 rfl (lv_at hl 1 rfl) ?_
    refine lv_iadd X.hx X.hb dX11_isLeaf_121 ?_
    obtain ⟨hi_43, hf⟩ := ck_i hf
    refine r_iald X hP 2 (f := (sY 6)) rfl hi_43 dX11_isLeaf_122 ?_
    refine lv_goto (tgt := 163) X.hx X.hb dX11_isLeaf_123 (by decide) ?_
    exact hj_27 _ _ _ _ hf hP hD hS (lv_sub hl [3, 4] rfl)

def f_X11_isSaid_4 (N : Nat) (iY : Nat → Int32) (tY : Nat → Nat → Int64) (jY : Nat → Int64) (v1 : Int32) (K_1 : ((Nat → Nat → Int32)) → Option (Int32 × (Nat → Nat → Int32))) : Nat → (Nat → Nat → Int32) → (Int32) → (Int32) → Option (Int32 × (Nat → Nat → Int32))
  | 0, _, _, _ => none
  | k + 1, sY, v2, v3 => (if ((sY 6) 276) ≤ v3 then K_1 sY else nv ((277 : Int32) + ((3 : Int32) * v3)) (fun n_64 => ck n_64 457 (jn (fun (z : (Int32) × (Nat → Nat → Int32)) => match z with | (x2_69, sY_70) => f_X11_isSaid_4 N iY tY jY v1 K_1 k sY_70 x2_69 (v3 + 1)) (fun K_66 => (if ((sY 6) (ix n_64)) = 20 then ck (v2 - 1) 45 (jn (fun (z : (Int32)) => match z with | y_112 => ck (v2 - 1) 45 (nv (upd (sY 48) (ix (v2 - 1)) (vp_nar .boolean y_112)) (fun g_114 => K_66 (v2, (va_up sY 48 g_114))))) (fun K_109 => (if ((sY 48) (ix (v2 - 1))) = 0 then K_109 1 else K_109 0))) else ck n_64 457 (jn (fun (z : Unit) => match z with | () => ck n_64 457 (jn (fun (z : (Int32)) => match z with | y_80 => ck ((v2 + (-1)) - 1) 45 (nv (upd (sY 48) (ix ((v2 + (-1)) - 1)) (vp_nar .boolean y_80)) (fun g_82 => K_66 ((v2 + (-1)), (va_up sY 48 g_82))))) (fun K_77 => (if ((sY 6) (ix n_64)) = 21 then ck ((v2 + (-1)) - 1) 45 (jn (fun (z : Unit) => match z with | () => K_77 0) (fun K_92 => (if ((sY 48) (ix ((v2 + (-1)) - 1))) = 0 then K_92 () else ck (v2 + (-1)) 45 ((if ((sY 48) (ix (v2 + (-1)))) = 0 then K_92 () else K_77 1))))) else ck ((v2 + (-1)) - 1) 45 (jn (fun (z : Unit) => match z with | () => K_77 1) (fun K_85 => (if ((sY 48) (ix ((v2 + (-1)) - 1))) = 0 then ck (v2 + (-1)) 45 ((if ((sY 48) (ix (v2 + (-1)))) = 0 then K_77 0 else K_85 ())) else K_85 ()))))))) (fun K_73 => (if ((sY 6) (ix n_64)) = 21 then K_73 () else ck n_64 457 ((if ((sY 6) (ix n_64)) = 22 then K_73 () else ck n_64 457 (ck (n_64 + 1) 457 (ck (n_64 + 2) 457 (bd (f_X11_isLeaf N iY sY tY jY v1 ((sY 6) (ix n_64)) ((sY 6) (ix (n_64 + 1))) ((sY 6) (ix (n_64 + 2)))) (fun r_104 => ck v2 45 (nv (upd (sY 48) (ix v2) (vp_nar .boolean r_104)) (fun g_107 => K_66 ((v2 + 1), (va_up sY 48 g_107))))))))))))))))))
def f_X11_isSaid (N : Nat) (iY : Nat → Int32) (sY : Nat → Nat → Int32) (tY : Nat → Nat → Int64) (jY : Nat → Int64) (p1 : Int32) : Option (Int32 × (Nat → Nat → Int32)) :=
  jn (fun (z : (Nat → Nat → Int32)) => match z with | sY_4 => zb ((sY_4 48) 0) (some (((sY_4 48) 0), sY_4))) (fun K_1 => f_X11_isSaid_4 N iY tY jY p1 K_1 N sY 0 0)
set_option maxHeartbeats 4000000 in
set_option maxRecDepth 100000 in
theorem c_X11_isSaid (l : Launch) (G : GT) (N : Nat) (uY : Nat → Nat) (iY : Nat → Int32) (sY : Nat → Nat → Int32) (tY : Nat → Nat → Int64) (jY : Nat → Int64) (p1 : Int32) {r : Int32} {sY' : Nat → Nat → Int32} (hf : f_X11_isSaid N iY sY tY jY p1 = some (r, sY')) : CI l G yX11_isSaid cX11_isSaid 5 .boolean 4 [.ref (uY 0), .int p1] (gY G uY iY sY tY jY) r (gY G uY iY sY' tY jY) := by
  refine CI.of (by decide) (Nat.le_of_ble_eq_true rfl) ?_
  intro p e s m args below meth c A X hA hP hD hS ls hl
  have hl : lv_has ls 5 [(0, .ref (uY 0)), (1, .int p1)] := hl
  generalize hQ : MQ below (QI G A r (gY G uY iY sY' tY jY)) args s 0 0 A = QQ
  unfold f_X11_isSaid at hf
  refine lv_iconst (v := 0) X.hx X.hb dX11_isSaid_0 (by decide) ?_
  refine lv_istore_n (lv' := [(2, .int 0), (0, .ref (uY 0)), (1, .int p1)]) X.hx X.hb dX11_isSaid_1 rfl hl (by decide) rfl (fun ls hl => ?_)
  refine lv_iconst (v := 0) X.hx X.hb dX11_isSaid_2 (by decide) ?_
  refine lv_istore_n (lv' := [(3, .int 0), (2, .int 0), (0, .ref (uY 0)), (1, .int p1)]) X.hx X.hb dX11_isSaid_3 rfl hl (by decide) rfl (fun ls hl => ?_)
  obtain ⟨K_1, eK_3, hf⟩ := jn_i hf
  have hj_2 : ∀ (sY_4 : Nat → Nat → Int32) (H : Heap) (locs : List Loc) (ls : Array Slot), K_1 sY_4 = some (r, sY') → va_P G.1 vwCl (gY G uY iY sY_4 tY jY) H → va_D A (gY G uY iY sY_4 tY jY) → va_S A s.heap H locs → lv_has ls 5 [(0, .ref (uY 0))] → W p l e (RM 4) s m args below meth c H locs 0 0 QQ (F0 m 212 ls []) := by
    intro sY_4 H locs ls hf hP hD hS hl
    rw [eK_3] at hf
    try dsimp only at hf
    refine lv_aload_n X.hx X.hb dX11_isSaid_212 rfl (lv_at hl 0 rfl) ?_
    refine gf_X11_83 X hP 0 rfl (v := .ref (uY 49)) rfl dX11_isSaid_213 ?_
    refine lv_iconst (v := 0) X.hx X.hb dX11_isSaid_216 (by decide) ?_
    refine r_zald X hP 17 (f := (sY_4 48)) rfl (vp_c rfl) dX11_isSaid_217 ?_
    refine W.eq (g2 := F0 m 218 ls [.int ((sY_4 48) 0)]) rfl ?_
    obtain ⟨hb_5, hf⟩ := zb_i hf
    cases hf
    subst hQ
    exact r_zret X hP hD hS hb_5 dX11_isSaid_218
  have hlo_6 : ∀ (k : Nat) (sY_7 : Nat → Nat → Int32) (v2_8 : Int32) (v3_9 : Int32) (H : Heap) (locs : List Loc) (ls : Array Slot), f_X11_isSaid_4 N iY tY jY p1 K_1 k sY_7 v2_8 v3_9 = some (r, sY') → va_P G.1 vwCl (gY G uY iY sY_7 tY jY) H → va_D A (gY G uY iY sY_7 tY jY) → va_S A s.heap H locs → lv_has ls 5 [(0, .ref (uY 0)), (1, .int p1), (2, .int v2_8), (3, .int v3_9)] → W p l e (RM 4) s m args below meth c H locs 0 0 QQ (F0 m 4 ls []) := by
    intro k
    induction k with
    | zero => intro sY_7 v2_8 v3_9 H locs ls hf; exact absurd hf (by intro q; cases q)
    | succ k ih =>
      intro sY_7 v2_8 v3_9 H locs ls hf hP hD hS hl
      unfold f_X11_isSaid_4 at hf
      refine lv_iload_n X.hx X.hb dX11_isSaid_4 rfl (lv_at hl 3 rfl) ?_
      refine lv_aload_n X.hx X.hb dX11_isSaid_5 rfl (lv_at hl 0 rfl) ?_
      refine gf_X11_33 X hP 0 rfl (v := .ref (uY 7)) rfl dX11_isSaid_6 ?_
      refine lv_sipush (v := 276) X.hx X.hb dX11_isSaid_9 (by decide) ?_
      refine r_iald X hP 2 (f := (sY_7 6)) rfl (vp_c rfl) dX11_isSaid_12 ?_
      refine W.eq (g2 := F0 m 13 ls [.int ((sY_7 6) 276), .int v3_9]) rfl ?_
      refine lv_icmp_ge (tgt := 212) X.hx X.hb dX11_isSaid_13 (by decide) (fun hc_10 => ?_) (fun hc_10 => ?_)
      · replace hf := if_t hf hc_10
        exact hj_2 _ _ _ _ hf hP hD hS (lv_sub hl [0] rfl)
      · replace hf := if_f hf hc_10
        refine lv_sipush (v := 277) X.hx X.hb dX11_isSaid_16 (by decide) ?_
        refine lv_iconst (v := 3) X.hx X.hb dX11_isSaid_19 (by decide) ?_
        refine lv_iload_n X.hx X.hb dX11_isSaid_20 rfl (lv_at hl 3 rfl) ?_
        refine lv_imul X.hx X.hb dX11_isSaid_21 ?_
        refine lv_iadd X.hx X.hb dX11_isSaid_22 ?_
        obtain ⟨n_11, en_11, hf⟩ := nv_i hf
        refine r_nm en_11 ?_
        refine lv_istore (lv' := [(4, .int n_11), (0, .ref (uY 0)), (1, .int p1), (2, .int v2_8), (3, .int v3_9)]) X.hx X.hb dX11_isSaid_23 hl (by decide) rfl (fun ls hl => ?_)
        refine lv_aload_n X.hx X.hb dX11_isSaid_25 rfl (lv_at hl 1 rfl) ?_
        refine gf_X11_33 X hP 0 rfl (v := .ref (uY 7)) rfl dX11_isSaid_26 ?_
        refine lv_iload X.hx X.hb dX11_isSaid_29 (lv_at hl 0 rfl) ?_
        obtain ⟨hi_12, hf⟩ := ck_i hf
        refine r_iald X hP 2 (f := (sY_7 6)) rfl hi_12 dX11_isSaid_31 ?_
        refine lv_bipush (v := 20) X.hx X.hb dX11_isSaid_32 (by decide) ?_
        obtain ⟨K_13, eK_15, hf⟩ := jn_i hf
        have hj_14 : ∀ (x2_16 : Int32) (sY_17 : Nat → Nat → Int32) (H : Heap) (locs : List Loc) (ls : Array Slot), K_13 (x2_16, sY_17) = some (r, sY') → va_P G.1 vwCl (gY G uY iY sY_17 tY jY) H → va_D A (gY G uY iY sY_17 tY jY) → va_S A s.heap H locs → lv_has ls 5 [(0, .ref (uY 0)), (1, .int p1), (2, .int x2_16), (3, .int v3_9)] → W p l e (RM 4) s m args below meth c H locs 0 0 QQ (F0 m 206 ls []) := by
          intro x2_16 sY_17 H locs ls hf hP hD hS hl
          rw [eK_15] at hf
          try dsimp only at hf
          refine lv_iinc (v := (v3_9 + 1)) (lv' := [(3, .int (v3_9 + 1)), (0, .ref (uY 0)), (1, .int p1), (2, .int x2_16)]) X.hx X.hb dX11_isSaid_206 hl (k := 3) rfl rfl (by decide) rfl (fun ls hl => ?_)
          refine lv_goto (tgt := 4) X.hx X.hb dX11_isSaid_209 (by decide) ?_
          exact ih _ _ _ _ _ _ hf hP hD hS (lv_sub hl [1, 2, 3, 0] rfl)
        refine lv_icmp_ne (tgt := 64) X.hx X.hb dX11_isSaid_34 (by decide) (fun hc_18 => ?_) (fun hc_18 => ?_)
        · replace hf := if_f hf hc_18
          refine lv_aload_n X.hx X.hb dX11_isSaid_64 rfl (lv_at hl 1 rfl) ?_
          refine gf_X11_33 X hP 0 rfl (v := .ref (uY 7)) rfl dX11_isSaid_65 ?_
          refine lv_iload X.hx X.hb dX11_isSaid_68 (lv_at hl 0 rfl) ?_
          obtain ⟨hi_19, hf⟩ := ck_i hf
          refine r_iald X hP 2 (f := (sY_7 6)) rfl hi_19 dX11_isSaid_70 ?_
          refine lv_bipush (v := 21) X.hx X.hb dX11_isSaid_71 (by decide) ?_
          obtain ⟨K_20, eK_22, hf⟩ := jn_i hf
          have hj_21 : ∀ (H : Heap) (locs : List Loc) (ls : Array Slot), K_20 () = some (r, sY') → va_P G.1 vwCl (gY G uY iY sY_7 tY jY) H → va_D A (gY G uY iY sY_7 tY jY) → va_S A s.heap H locs → lv_has ls 5 [(0, .ref (uY 0)), (1, .int p1), (2, .int v2_8), (3, .int v3_9), (4, .int n_11)] → W p l e (RM 4) s m args below meth c H locs 0 0 QQ (F0 m 88 ls []) := by
            intro  H locs ls hf hP hD hS hl
            rw [eK_22] at hf
            try dsimp only at hf
            refine lv_iinc (v := (v2_8 + (-1))) (lv' := [(2, .int (v2_8 + (-1))), (0, .ref (uY 0)), (1, .int p1), (3, .int v3_9), (4, .int n_11)]) X.hx X.hb dX11_isSaid_88 hl (k := 2) rfl rfl (by decide) rfl (fun ls hl => ?_)
            refine lv_aload_n X.hx X.hb dX11_isSaid_91 rfl (lv_at hl 1 rfl) ?_
            refine gf_X11_83 X hP 0 rfl (v := .ref (uY 49)) rfl dX11_isSaid_92 ?_
            refine lv_iload_n X.hx X.hb dX11_isSaid_95 rfl (lv_at hl 0 rfl) ?_
            refine lv_iconst (v := 1) X.hx X.hb dX11_isSaid_96 (by decide) ?_
            refine lv_isub X.hx X.hb dX11_isSaid_97 ?_
            refine lv_aload_n X.hx X.hb dX11_isSaid_98 rfl (lv_at hl 1 rfl) ?_
            refine gf_X11_33 X hP 0 rfl (v := .ref (uY 7)) rfl dX11_isSaid_99 ?_
            refine lv_iload X.hx X.hb dX11_isSaid_102 (lv_at hl 4 rfl) ?_
            obtain ⟨hi_23, hf⟩ := ck_i hf
            refine r_iald X hP 2 (f := (sY_7 6)) rfl hi_23 dX11_isSaid_104 ?_
            refine lv_bipush (v := 21) X.hx X.hb dX11_isSaid_105 (by decide) ?_
            obtain ⟨K_24, eK_26, hf⟩ := jn_i hf
            have hj_25 : ∀ (y_27 : Int32) (H : Heap) (locs : List Loc) (ls : Array Slot), K_24 y_27 = some (r, sY') → va_P G.1 vwCl (gY G uY iY sY_7 tY jY) H → va_D A (gY G uY iY sY_7 tY jY) → va_S A s.heap H locs → lv_has ls 5 [(0, .ref (uY 0)), (1, .int p1), (2, .int (v2_8 + (-1))), (3, .int v3_9)] → W p l e (RM 4) s m args below meth c H locs 0 0 QQ (F0 m 163 ls [.int y_27, .int ((v2_8 + (-1)) - 1), .ref (uY 49)]) := by
              intro y_27 H locs ls hf hP hD hS hl
              rw [eK_26] at hf
              try dsimp only at hf
              obtain ⟨hi_28, hf⟩ := ck_i hf
              obtain ⟨g_29, eg_29, hf⟩ := nv_i hf
              refine r_zast X hP hD hS 17 (f := (sY_7 48)) rfl hi_28 (wo := (gY G uY iY (va_up sY_7 48 g_29) tY jY)) (by subst eg_29; rfl) dX11_isSaid_163 (fun H locs hP hD hS => ?_)
              refine lv_goto (tgt := 206) X.hx X.hb dX11_isSaid_164 (by decide) ?_
              exact hj_14 _ _ _ _ _ hf hP hD hS (lv_sub hl [0, 1, 2, 3] rfl)
            refine lv_icmp_ne (tgt := 138) X.hx X.hb dX11_isSaid_107 (by decide) (fun hc_30 => ?_) (fun hc_30 => ?_)
            · replace hf := if_f hf hc_30
              refine lv_aload_n X.hx X.hb dX11_isSaid_138 rfl (lv_at hl 1 rfl) ?_
              refine gf_X11_83 X hP 0 rfl (v := .ref (uY 49)) rfl dX11_isSaid_139 ?_
              refine lv_iload_n X.hx X.hb dX11_isSaid_142 rfl (lv_at hl 0 rfl) ?_
              refine lv_iconst (v := 1) X.hx X.hb dX11_isSaid_143 (by decide) ?_
              refine lv_isub X.hx X.hb dX11_isSaid_144 ?_
              obtain ⟨hi_31, hf⟩ := ck_i hf
              refine r_zald X hP 17 (f := (sY_7 48)) rfl hi_31 dX11_isSaid_145 ?_
              obtain ⟨K_32, eK_34, hf⟩ := jn_i hf
              have hj_33 : ∀ (H : Heap) (locs : List Loc) (ls : Array Slot), K_32 () = some (r, sY') → va_P G.1 vwCl (gY G uY iY sY_7 tY jY) H → va_D A (gY G uY iY sY_7 tY jY) → va_S A s.heap H locs → lv_has ls 5 [(0, .ref (uY 0)), (1, .int p1), (2, .int (v2_8 + (-1))), (3, .int v3_9)] → W p l e (RM 4) s m args below meth c H locs 0 0 QQ (F0 m 158 ls [.int ((v2_8 + (-1)) - 1), .ref (uY 49)]) := by
                intro  H locs ls hf hP hD hS hl
                rw [eK_34] at hf
                try dsimp only at hf
                refine lv_iconst (v := 1) X.hx X.hb dX11_isSaid_158 (by decide) ?_
                refine lv_goto (tgt := 163) X.hx X.hb dX11_isSaid_159 (by decide) ?_
                exact hj_25 _ _ _ _ hf hP hD hS (lv_sub hl [0, 1, 2, 3] rfl)
              refine lv_if_ne (tgt := 158) X.hx X.hb dX11_isSaid_146 (by decide) (fun hc_35 => ?_) (fun hc_35 => ?_)
              · replace hf := if_f hf hc_35
                exact hj_33 _ _ _ hf hP hD hS (lv_sub hl [1, 2, 0, 3] rfl)
              · replace hf := if_t hf hc_35
                refine lv_aload_n X.hx X.hb dX11_isSaid_149 rfl (lv_at hl 1 rfl) ?_
                refine gf_X11_83 X hP 0 rfl (v := .ref (uY 49)) rfl dX11_isSaid_150 ?_
                refine lv_iload_n X.hx X.hb dX11_isSaid_153 rfl (lv_at hl 0 rfl) ?_
                obtain ⟨hi_36, hf⟩ := ck_i hf
                refine r_zald X hP 17 (f := (sY_7 48)) rfl hi_36 dX11_isSaid_154 ?_
                refine lv_if_eq (tgt := 162) X.hx X.hb dX11_isSaid_155 (by decide) (fun hc_37 => ?_) (fun hc_37 => ?_)
                · replace hf := if_t hf hc_37
                  refine lv_iconst (v := 0) X.hx X.hb dX11_isSaid_162 (by decide) ?_
                  exact hj_25 _ _ _ _ hf hP hD hS (lv_sub hl [1, 2, 0, 3] rfl)
                · replace hf := if_f hf hc_37
                  exact hj_33 _ _ _ hf hP hD hS (lv_sub hl [1, 2, 0, 3] rfl)
            · replace hf := if_t hf hc_30
              refine lv_aload_n X.hx X.hb dX11_isSaid_110 rfl (lv_at hl 1 rfl) ?_
              refine gf_X11_83 X hP 0 rfl (v := .ref (uY 49)) rfl dX11_isSaid_111 ?_
              refine lv_iload_n X.hx X.hb dX11_isSaid_114 rfl (lv_at hl 0 rfl) ?_
              refine lv_iconst (v := 1) X.hx X.hb dX11_isSaid_115 (by decide) ?_
              refine lv_isub X.hx X.hb dX11_isSaid_116 ?_
              obtain ⟨hi_38, hf⟩ := ck_i hf
              refine r_zald X hP 17 (f := (sY_7 48)) rfl hi_38 dX11_isSaid_117 ?_
              obtain ⟨K_39, eK_41, hf⟩ := jn_i hf
              have hj_40 : ∀ (H : Heap) (locs : List Loc) (ls : Array Slot), K_39 () = some (r, sY') → va_P G.1 vwCl (gY G uY iY sY_7 tY jY) H → va_D A (gY G uY iY sY_7 tY jY) → va_S A s.heap H locs → lv_has ls 5 [(0, .ref (uY 0)), (1, .int p1), (2, .int (v2_8 + (-1))), (3, .int v3_9)] → W p l e (RM 4) s m args below meth c H locs 0 0 QQ (F0 m 134 ls [.int ((v2_8 + (-1)) - 1), .ref (uY 49)]) := by
                intro  H locs ls hf hP hD hS hl
                rw [eK_41] at hf
                try dsimp only at hf
                refine lv_iconst (v := 0) X.hx X.hb dX11_isSaid_134 (by decide) ?_
                refine lv_goto (tgt := 163) X.hx X.hb dX11_isSaid_135 (by decide) ?_
                exact hj_25 _ _ _ _ hf hP hD hS (lv_sub hl [0, 1, 2, 3] rfl)
              refine lv_if_eq (tgt := 134) X.hx X.hb dX11_isSaid_118 (by decide) (fun hc_42 => ?_) (fun hc_42 => ?_)
              · replace hf := if_t hf hc_42
                exact hj_40 _ _ _ hf hP hD hS (lv_sub hl [1, 2, 0, 3] rfl)
              · replace hf := if_f hf hc_42
                refine lv_aload_n X.hx X.hb dX11_isSaid_121 rfl (lv_at hl 1 rfl) ?_
                refine gf_X11_83 X hP 0 rfl (v := .ref (uY 49)) rfl dX11_isSaid_122 ?_
                refine lv_iload_n X.hx X.hb dX11_isSaid_125 rfl (lv_at hl 0 rfl) ?_
                obtain ⟨hi_43, hf⟩ := ck_i hf
                refine r_zald X hP 17 (f := (sY_7 48)) rfl hi_43 dX11_isSaid_126 ?_
                refine lv_if_eq (tgt := 134) X.hx X.hb dX11_isSaid_127 (by decide) (fun hc_44 => ?_) (fun hc_44 => ?_)
                · replace hf := if_t hf hc_44
                  exact hj_40 _ _ _ hf hP hD hS (lv_sub hl [1, 2, 0, 3] rfl)
                · replace hf := if_f hf hc_44
                  refine lv_iconst (v := 1) X.hx X.hb dX11_isSaid_130 (by decide) ?_
                  refine lv_goto (tgt := 163) X.hx X.hb dX11_isSaid_131 (by decide) ?_
                  exact hj_25 _ _ _ _ hf hP hD hS (lv_sub hl [1, 2, 0, 3] rfl)
          refine lv_icmp_eq (tgt := 88) X.hx X.hb dX11_isSaid_73 (by decide) (fun hc_45 => ?_) (fun hc_45 => ?_)
          · replace hf := if_t hf hc_45
            exact hj_21 _ _ _ hf hP hD hS (lv_sub hl [1, 2, 3, 4, 0] rfl)
          · replace hf := if_f hf hc_45
            refine lv_aload_n X.hx X.hb dX11_isSaid_76 rfl (lv_at hl 1 rfl) ?_
            refine gf_X11_33 X hP 0 rfl (v := .ref (uY 7)) rfl dX11_isSaid_77 ?_
            refine lv_iload X.hx X.hb dX11_isSaid_80 (lv_at hl 0 rfl) ?_
            obtain ⟨hi_46, hf⟩ := ck_i hf
            refine r_iald X hP 2 (f := (sY_7 6)) rfl hi_46 dX11_isSaid_82 ?_
            refine lv_bipush (v := 22) X.hx X.hb dX11_isSaid_83 (by decide) ?_
            refine lv_icmp_ne (tgt := 167) X.hx X.hb dX11_isSaid_85 (by decide) (fun hc_47 => ?_) (fun hc_47 => ?_)
            · replace hf := if_f hf hc_47
              refine lv_aload_n X.hx X.hb dX11_isSaid_167 rfl (lv_at hl 1 rfl) ?_
              refine gf_X11_83 X hP 0 rfl (v := .ref (uY 49)) rfl dX11_isSaid_168 ?_
              refine lv_iload_n X.hx X.hb dX11_isSaid_171 rfl (lv_at hl 3 rfl) ?_
              refine lv_aload_n X.hx X.hb dX11_isSaid_172 rfl (lv_at hl 1 rfl) ?_
              refine lv_iload_n X.hx X.hb dX11_isSaid_173 rfl (lv_at hl 2 rfl) ?_
              refine lv_aload_n X.hx X.hb dX11_isSaid_174 rfl (lv_at hl 1 rfl) ?_
              refine gf_X11_33 X hP 0 rfl (v := .ref (uY 7)) rfl dX11_isSaid_175 ?_
              refine lv_iload X.hx X.hb dX11_isSaid_178 (lv_at hl 0 rfl) ?_
              obtain ⟨hi_48, hf⟩ := ck_i hf
              refine r_iald X hP 2 (f := (sY_7 6)) rfl hi_48 dX11_isSaid_180 ?_
              refine lv_aload_n X.hx X.hb dX11_isSaid_181 rfl (lv_at hl 1 rfl) ?_
              refine gf_X11_33 X hP 0 rfl (v := .ref (uY 7)) rfl dX11_isSaid_182 ?_
              refine lv_iload X.hx X.hb dX11_isSaid_185 (lv_at hl 0 rfl) ?_
              refine lv_iconst (v := 1) X.hx X.hb dX11_isSaid_187 (by decide) ?_
              refine lv_iadd X.hx X.hb dX11_isSaid_188 ?_
              obtain ⟨hi_49, hf⟩ := ck_i hf
              refine r_iald X hP 2 (f := (sY_7 6)) rfl hi_49 dX11_isSaid_189 ?_
              refine lv_aload_n X.hx X.hb dX11_isSaid_190 rfl (lv_at hl 1 rfl) ?_
              refine gf_X11_33 X hP 0 rfl (v := .ref (uY 7)) rfl dX11_isSaid_191 ?_
              refine lv_iload X.hx X.hb dX11_isSaid_194 (lv_at hl 0 rfl) ?_
              refine lv_iconst (v := 2) X.hx X.hb dX11_isSaid_196 (by decide) ?_
              refine lv_iadd X.hx X.hb dX11_isSaid_197 ?_
              obtain ⟨hi_50, hf⟩ := ck_i hf
              refine r_iald X hP 2 (f := (sY_7 6)) rfl hi_50 dX11_isSaid_198 ?_
              obtain ⟨r_51, hc_52, hf⟩ := bd_i hf
              refine r_cvi (As := [.int p1, .int ((sY_7 6) (ix n_11)), .int ((sY_7 6) (ix (n_11 + 1))), .int ((sY_7 6) (ix (n_11 + 2)))]) (rest := [.int v2_8, .ref (uY 49)]) X sm_X11_467 (c_X11_isLeaf l G N uY iY sY_7 tY jY p1 ((sY_7 6) (ix n_11)) ((sY_7 6) (ix (n_11 + 1))) ((sY_7 6) (ix (n_11 + 2))) hc_52) hP hD hS hA 0 rfl rfl [0, 1, 2, 3, 4, 5, 6, 7, 8, 9, 10, 11, 12, 13, 14, 15, 16, 17, 18, 19, 20] rfl rfl rfl (wo := (gY G uY iY sY_7 tY jY)) rfl rfl hl.1 (lv_room (Nat.le_of_ble_eq_true rfl)) ⟨Nat.le_of_ble_eq_true rfl, Nat.le_of_ble_eq_true rfl⟩ ⟨Nat.zero_le _, Nat.zero_le _⟩ dX11_isSaid_199 (fun H locs hP hD hS => ?_)
              obtain ⟨hi_53, hf⟩ := ck_i hf
              obtain ⟨g_54, eg_54, hf⟩ := nv_i hf
              refine r_zast X hP hD hS 17 (f := (sY_7 48)) rfl hi_53 (wo := (gY G uY iY (va_up sY_7 48 g_54) tY jY)) (by subst eg_54; rfl) dX11_isSaid_202 (fun H locs hP hD hS => ?_)
              refine lv_iinc (v := (v2_8 + 1)) (lv' := [(2, .int (v2_8 + 1)), (4, .int n_11), (0, .ref (uY 0)), (1, .int p1), (3, .int v3_9)]) X.hx X.hb dX11_isSaid_203 hl (k := 3) rfl rfl (by decide) rfl (fun ls hl => ?_)
              exact hj_14 _ _ _ _ _ hf hP hD hS (lv_sub hl [2, 3, 0, 4] rfl)
            · replace hf := if_t hf hc_47
              exact hj_21 _ _ _ hf hP hD hS (lv_sub hl [1, 2, 3, 4, 0] rfl)
        · replace hf := if_t hf hc_18
          refine lv_aload_n X.hx X.hb dX11_isSaid_37 rfl (lv_at hl 1 rfl) ?_
          refine gf_X11_83 X hP 0 rfl (v := .ref (uY 49)) rfl dX11_isSaid_38 ?_
          refine lv_iload_n X.hx X.hb dX11_isSaid_41 rfl (lv_at hl 3 rfl) ?_
          refine lv_iconst (v := 1) X.hx X.hb dX11_isSaid_42 (by decide) ?_
          refine lv_isub X.hx X.hb dX11_isSaid_43 ?_
          refine lv_aload_n X.hx X.hb dX11_isSaid_44 rfl (lv_at hl 1 rfl) ?_
          refine gf_X11_83 X hP 0 rfl (v := .ref (uY 49)) rfl dX11_isSaid_45 ?_
          refine lv_iload_n X.hx X.hb dX11_isSaid_48 rfl (lv_at hl 3 rfl) ?_
          refine lv_iconst (v := 1) X.hx X.hb dX11_isSaid_49 (by decide) ?_
          refine lv_isub X.hx X.hb dX11_isSaid_50 ?_
          obtain ⟨hi_55, hf⟩ := ck_i hf
          refine r_zald X hP 17 (f := (sY_7 48)) rfl hi_55 dX11_isSaid_51 ?_
          obtain ⟨K_56, eK_58, hf⟩ := jn_i hf
          have hj_57 : ∀ (y_59 : Int32) (H : Heap) (locs : List Loc) (ls : Array Slot), K_56 y_59 = some (r, sY') → va_P G.1 vwCl (gY G uY iY sY_7 tY jY) H → va_D A (gY G uY iY sY_7 tY jY) → va_S A s.heap H locs → lv_has ls 5 [(0, .ref (uY 0)), (1, .int p1), (2, .int v2_8), (3, .int v3_9)] → W p l e (RM 4) s m args below meth c H locs 0 0 QQ (F0 m 60 ls [.int y_59, .int (v2_8 - 1), .ref (uY 49)]) := by
            intro y_59 H locs ls hf hP hD hS hl
            rw [eK_58] at hf
            try dsimp only at hf
            obtain ⟨hi_60, hf⟩ := ck_i hf
            obtain ⟨g_61, eg_61, hf⟩ := nv_i hf
            refine r_zast X hP hD hS 17 (f := (sY_7 48)) rfl hi_60 (wo := (gY G uY iY (va_up sY_7 48 g_61) tY jY)) (by subst eg_61; rfl) dX11_isSaid_60 (fun H locs hP hD hS => ?_)
            refine lv_goto (tgt := 206) X.hx X.hb dX11_isSaid_61 (by decide) ?_
            exact hj_14 _ _ _ _ _ hf hP hD hS (lv_sub hl [0, 1, 2, 3] rfl)
          refine lv_if_ne (tgt := 59) X.hx X.hb dX11_isSaid_52 (by decide) (fun hc_62 => ?_) (fun hc_62 => ?_)
          · replace hf := if_f hf hc_62
            refine lv_iconst (v := 0) X.hx X.hb dX11_isSaid_59 (by decide) ?_
            exact hj_57 _ _ _ _ hf hP hD hS (lv_sub hl [1, 2, 3, 4] rfl)
          · replace hf := if_t hf hc_62
            refine lv_iconst (v := 1) X.hx X.hb dX11_isSaid_55 (by decide) ?_
            refine lv_goto (tgt := 60) X.hx X.hb dX11_isSaid_56 (by decide) ?_
            exact hj_57 _ _ _ _ hf hP hD hS (lv_sub hl [1, 2, 3, 4] rfl)
  exact hlo_6 N _ _ _ _ _ _ hf hP hD hS (lv_sub hl [2, 3, 1, 0] rfl)

def f_X11_said_27 (N : Nat) (iY : Nat → Int32) (tY : Nat → Nat → Int64) (jY : Nat → Int64) (v1 : Int32) (K_3 : ((Int32) × (Nat → Nat → Int32)) → Option (Int32 × (Nat → Int32) × (Nat → Nat → Int32))) : Nat → (Nat → Nat → Int32) → (Int32) → (Int32) → Option (Int32 × (Nat → Int32) × (Nat → Nat → Int32))
  | 0, _, _, _ => none
  | k + 1, sY, v2, v3 => (if ((sY 6) 0) ≤ v3 then K_3 (v2, sY) else bd (f_X11_isSaid N iY sY tY jY v3) (fun (r_24, sY_25) => jn (fun (z : (Int32)) => match z with | x2_30 => f_X11_said_27 N iY tY jY v1 K_3 k sY_25 x2_30 (v3 + 1)) (fun K_27 => (if r_24 = 0 then K_27 v2 else (if v2 = v1 then some (v3, iY, sY_25) else K_27 (v2 + 1))))))
def f_X11_said (N : Nat) (iY : Nat → Int32) (sY : Nat → Nat → Int32) (tY : Nat → Nat → Int64) (jY : Nat → Int64) (p1 : Int32) : Option (Int32 × (Nat → Int32) × (Nat → Nat → Int32)) :=
  (if ((sY 6) 276) = 0 then some ((-1), (va_up iY 0 0), sY) else (if ((-1) : Int32) ≤ p1 then jn (fun (z : (Int32) × (Nat → Nat → Int32)) => match z with | (x2_6, sY_7) => (if p1 = (-1) then some (x2_6, (va_up iY 0 0), sY_7) else some ((-1), (va_up iY 0 0), sY_7))) (fun K_3 => f_X11_said_27 N (va_up iY 0 0) tY jY p1 K_3 N sY 0 0) else some ((-1), (va_up iY 0 0), sY)))
set_option maxHeartbeats 4000000 in
set_option maxRecDepth 100000 in
theorem c_X11_said (l : Launch) (G : GT) (N : Nat) (uY : Nat → Nat) (iY : Nat → Int32) (sY : Nat → Nat → Int32) (tY : Nat → Nat → Int64) (jY : Nat → Int64) (p1 : Int32) {r : Int32} {iY' : Nat → Int32} {sY' : Nat → Nat → Int32} (hf : f_X11_said N iY sY tY jY p1 = some (r, iY', sY')) : CI l G yX11_said cX11_said 4 .int 5 [.ref (uY 0), .int p1] (gY G uY iY sY tY jY) r (gY G uY iY' sY' tY jY) := by
  refine CI.of (by decide) (Nat.le_of_ble_eq_true rfl) ?_
  intro p e s m args below meth c A X hA hP hD hS ls hl
  have hl : lv_has ls 4 [(0, .ref (uY 0)), (1, .int p1)] := hl
  generalize hQ : MQ below (QI G A r (gY G uY iY' sY' tY jY)) args s 0 0 A = QQ
  unfold f_X11_said at hf
  refine lv_aload_n X.hx X.hb dX11_said_0 rfl (lv_at hl 0 rfl) ?_
  refine lv_iconst (v := 0) X.hx X.hb dX11_said_1 (by decide) ?_
  refine pf_X11_1 X hP hD hS 0 rfl rfl rfl (Nat.le_of_ble_eq_true rfl) (wo := (gY G uY (va_up iY 0 0) sY tY jY)) rfl dX11_said_2 (fun H locs hP hD hS => ?_)
  refine lv_aload_n X.hx X.hb dX11_said_5 rfl (lv_at hl 0 rfl) ?_
  refine gf_X11_33 X hP 0 rfl (v := .ref (uY 7)) rfl dX11_said_6 ?_
  refine lv_sipush (v := 276) X.hx X.hb dX11_said_9 (by decide) ?_
  refine r_iald X hP 2 (f := (sY 6)) rfl (vp_c rfl) dX11_said_12 ?_
  refine W.eq (g2 := F0 m 13 ls [.int ((sY 6) 276)]) rfl ?_
  refine lv_if_eq (tgt := 21) X.hx X.hb dX11_said_13 (by decide) (fun hc_1 => ?_) (fun hc_1 => ?_)
  · replace hf := if_t hf hc_1
    refine lv_iconst (v := (-1)) X.hx X.hb dX11_said_21 (by decide) ?_
    cases hf
    subst hQ
    exact r_iret X hP hD hS dX11_said_22
  · replace hf := if_f hf hc_1
    refine lv_iload_n X.hx X.hb dX11_said_16 rfl (lv_at hl 1 rfl) ?_
    refine lv_iconst (v := (-1)) X.hx X.hb dX11_said_17 (by decide) ?_
    refine lv_icmp_ge (tgt := 23) X.hx X.hb dX11_said_18 (by decide) (fun hc_2 => ?_) (fun hc_2 => ?_)
    · replace hf := if_t hf hc_2
      refine lv_iconst (v := 0) X.hx X.hb dX11_said_23 (by decide) ?_
      refine lv_istore_n (lv' := [(2, .int 0), (0, .ref (uY 0)), (1, .int p1)]) X.hx X.hb dX11_said_24 rfl hl (by decide) rfl (fun ls hl => ?_)
      refine lv_iconst (v := 0) X.hx X.hb dX11_said_25 (by decide) ?_
      refine lv_istore_n (lv' := [(3, .int 0), (2, .int 0), (0, .ref (uY 0)), (1, .int p1)]) X.hx X.hb dX11_said_26 rfl hl (by decide) rfl (fun ls hl => ?_)
      obtain ⟨K_3, eK_5, hf⟩ := jn_i hf
      have hj_4 : ∀ (x2_6 : Int32) (sY_7 : Nat → Nat → Int32) (H : Heap) (locs : List Loc) (ls : Array Slot), K_3 (x2_6, sY_7) = some (r, iY', sY') → va_P G.1 vwCl (gY G uY (va_up iY 0 0) sY_7 tY jY) H → va_D A (gY G uY (va_up iY 0 0) sY_7 tY jY) → va_S A s.heap H locs → lv_has ls 4 [(1, .int p1), (2, .int x2_6)] → W p l e (RM 5) s m args below meth c H locs 0 0 QQ (F0 m 64 ls []) := by
        intro x2_6 sY_7 H locs ls hf hP hD hS hl
        rw [eK_5] at hf
        try dsimp only at hf
        refine lv_iload_n X.hx X.hb dX11_said_64 rfl (lv_at hl 0 rfl) ?_
        refine lv_iconst (v := (-1)) X.hx X.hb dX11_said_65 (by decide) ?_
        refine lv_icmp_ne (tgt := 73) X.hx X.hb dX11_said_66 (by decide) (fun hc_8 => ?_) (fun hc_8 => ?_)
        · replace hf := if_f hf hc_8
          refine lv_iconst (v := (-1)) X.hx X.hb dX11_said_73 (by decide) ?_
          cases hf
          subst hQ
          exact r_iret X hP hD hS dX11_said_74
        · replace hf := if_t hf hc_8
          refine lv_iload_n X.hx X.hb dX11_said_69 rfl (lv_at hl 1 rfl) ?_
          refine lv_goto (tgt := 74) X.hx X.hb dX11_said_70 (by decide) ?_
          cases hf
          subst hQ
          exact r_iret X hP hD hS dX11_said_74
      have hlo_9 : ∀ (k : Nat) (sY_10 : Nat → Nat → Int32) (v2_11 : Int32) (v3_12 : Int32) (H : Heap) (locs : List Loc) (ls : Array Slot), f_X11_said_27 N (va_up iY 0 0) tY jY p1 K_3 k sY_10 v2_11 v3_12 = some (r, iY', sY') → va_P G.1 vwCl (gY G uY (va_up iY 0 0) sY_10 tY jY) H → va_D A (gY G uY (va_up iY 0 0) sY_10 tY jY) → va_S A s.heap H locs → lv_has ls 4 [(0, .ref (uY 0)), (1, .int p1), (2, .int v2_11), (3, .int v3_12)] → W p l e (RM 5) s m args below meth c H locs 0 0 QQ (F0 m 27 ls []) := by
        intro k
        induction k with
        | zero => intro sY_10 v2_11 v3_12 H locs ls hf; exact absurd hf (by intro q; cases q)
        | succ k ih =>
          intro sY_10 v2_11 v3_12 H locs ls hf hP hD hS hl
          unfold f_X11_said_27 at hf
          refine lv_iload_n X.hx X.hb dX11_said_27 rfl (lv_at hl 3 rfl) ?_
          refine lv_aload_n X.hx X.hb dX11_said_28 rfl (lv_at hl 0 rfl) ?_
          refine gf_X11_33 X hP 0 rfl (v := .ref (uY 7)) rfl dX11_said_29 ?_
          refine lv_iconst (v := 0) X.hx X.hb dX11_said_32 (by decide) ?_
          refine r_iald X hP 2 (f := (sY_10 6)) rfl (vp_c rfl) dX11_said_33 ?_
          refine W.eq (g2 := F0 m 34 ls [.int ((sY_10 6) 0), .int v3_12]) rfl ?_
          refine lv_icmp_ge (tgt := 64) X.hx X.hb dX11_said_34 (by decide) (fun hc_13 => ?_) (fun hc_13 => ?_)
          · replace hf := if_t hf hc_13
            exact hj_4 _ _ _ _ _ hf hP hD hS (lv_sub hl [1, 2] rfl)
          · replace hf := if_f hf hc_13
            refine lv_aload_n X.hx X.hb dX11_said_37 rfl (lv_at hl 0 rfl) ?_
            refine lv_iload_n X.hx X.hb dX11_said_38 rfl (lv_at hl 3 rfl) ?_
            obtain ⟨⟨r_14, sY_15⟩, hc_16, hf⟩ := bd_i hf
            refine r_cvi (As := [.int v3_12]) (rest := []) X sm_X11_470 (c_X11_isSaid l G N uY (va_up iY 0 0) sY_10 tY jY v3_12 hc_16) hP hD hS hA 0 rfl rfl [0, 1, 2, 3, 4, 5, 6, 7, 8, 9, 10, 11, 12, 13, 14, 15, 16, 17, 18, 19, 20] rfl rfl rfl (wo := (gY G uY (va_up iY 0 0) sY_15 tY jY)) rfl rfl hl.1 (lv_room (Nat.le_of_ble_eq_true rfl)) ⟨Nat.le_of_ble_eq_true rfl, Nat.le_of_ble_eq_true rfl⟩ ⟨Nat.zero_le _, Nat.zero_le _⟩ dX11_said_39 (fun H locs hP hD hS => ?_)
            obtain ⟨K_17, eK_19, hf⟩ := jn_i hf
            have hj_18 : ∀ (x2_20 : Int32) (H : Heap) (locs : List Loc) (ls : Array Slot), K_17 x2_20 = some (r, iY', sY') → va_P G.1 vwCl (gY G uY (va_up iY 0 0) sY_15 tY jY) H → va_D A (gY G uY (va_up iY 0 0) sY_15 tY jY) → va_S A s.heap H locs → lv_has ls 4 [(0, .ref (uY 0)), (1, .int p1), (2, .int x2_20), (3, .int v3_12)] → W p l e (RM 5) s m args below meth c H locs 0 0 QQ (F0 m 58 ls []) := by
              intro x2_20 H locs ls hf hP hD hS hl
              rw [eK_19] at hf
              try dsimp only at hf
              refine lv_iinc (v := (v3_12 + 1)) (lv' := [(3, .int (v3_12 + 1)), (0, .ref (uY 0)), (1, .int p1), (2, .int x2_20)]) X.hx X.hb dX11_said_58 hl (k := 3) rfl rfl (by decide) rfl (fun ls hl => ?_)
              refine lv_goto (tgt := 27) X.hx X.hb dX11_said_61 (by decide) ?_
              exact ih _ _ _ _ _ _ hf hP hD hS (lv_sub hl [1, 2, 3, 0] rfl)
            refine lv_if_ne (tgt := 48) X.hx X.hb dX11_said_42 (by decide) (fun hc_21 => ?_) (fun hc_21 => ?_)
            · replace hf := if_f hf hc_21
              refine lv_iload_n X.hx X.hb dX11_said_48 rfl (lv_at hl 2 rfl) ?_
              refine lv_iload_n X.hx X.hb dX11_said_49 rfl (lv_at hl 1 rfl) ?_
              refine lv_icmp_ne (tgt := 55) X.hx X.hb dX11_said_50 (by decide) (fun hc_22 => ?_) (fun hc_22 => ?_)
              · replace hf := if_f hf hc_22
                refine lv_iinc (v := (v2_11 + 1)) (lv' := [(2, .int (v2_11 + 1)), (0, .ref (uY 0)), (1, .int p1), (3, .int v3_12)]) X.hx X.hb dX11_said_55 hl (k := 2) rfl rfl (by decide) rfl (fun ls hl => ?_)
                exact hj_18 _ _ _ _ hf hP hD hS (lv_sub hl [1, 2, 0, 3] rfl)
              · replace hf := if_t hf hc_22
                refine lv_iload_n X.hx X.hb dX11_said_53 rfl (lv_at hl 3 rfl) ?_
                cases hf
                subst hQ
                exact r_iret X hP hD hS dX11_said_54
            · replace hf := if_t hf hc_21
              refine lv_goto (tgt := 58) X.hx X.hb dX11_said_45 (by decide) ?_
              exact hj_18 _ _ _ _ hf hP hD hS (lv_sub hl [0, 1, 2, 3] rfl)
      exact hlo_9 N _ _ _ _ _ _ hf hP hD hS (lv_sub hl [2, 3, 1, 0] rfl)
    · replace hf := if_f hf hc_2
      refine lv_iconst (v := (-1)) X.hx X.hb dX11_said_21 (by decide) ?_
      cases hf
      subst hQ
      exact r_iret X hP hD hS dX11_said_22

def f_X11_image_51 (N : Nat) (iY : Nat → Int32) (sY : Nat → Nat → Int32) (jY : Nat → Int64) (v1 : Int32) (K_8 : ((Nat → Nat → Int64)) → Option (Int32 × (Nat → Int32) × (Nat → Nat → Int32) × (Nat → Nat → Int64))) : Nat → (Nat → Nat → Int64) → (Int32) → Option (Int32 × (Nat → Int32) × (Nat → Nat → Int32) × (Nat → Nat → Int64))
  | 0, _, _ => none
  | k + 1, tY, v2 => (if (12 : Int32) ≤ v2 then K_8 tY else ck v2 24 (ck (((12 : Int32) * v1) + v2) 24 (nv (vp_updL (tY 50) (ix (((12 : Int32) * v1) + v2)) ((tY 9) (ix v2))) (fun g_24 => f_X11_image_51 N iY sY jY v1 K_8 k (va_up tY 50 g_24) (v2 + 1)))))
def f_X11_image_18 (N : Nat) (iY : Nat → Int32) (tY : Nat → Nat → Int64) (jY : Nat → Int64) (v1 : Int32) (K_4 : ((Nat → Nat → Int32)) → Option (Int32 × (Nat → Int32) × (Nat → Nat → Int32) × (Nat → Nat → Int64))) : Nat → (Nat → Nat → Int32) → (Int32) → Option (Int32 × (Nat → Int32) × (Nat → Nat → Int32) × (Nat → Nat → Int64))
  | 0, _, _ => none
  | k + 1, sY, v2 => (if (457 : Int32) ≤ v2 then K_4 sY else ck v2 457 (ck (((457 : Int32) * v1) + v2) 914 (nv (upd (sY 49) (ix (((457 : Int32) * v1) + v2)) ((sY 6) (ix v2))) (fun g_35 => f_X11_image_18 N iY tY jY v1 K_4 k (va_up sY 49 g_35) (v2 + 1)))))
def f_X11_image (N : Nat) (iY : Nat → Int32) (sY : Nat → Nat → Int32) (tY : Nat → Nat → Int64) (jY : Nat → Int64) (p1 : Int32) : Option (Int32 × (Nat → Int32) × (Nat → Nat → Int32) × (Nat → Nat → Int64)) :=
  bd (f_X11_isIn N p1 0 1) (fun r_1 => (if r_1 = 0 then some (0, (va_up iY 0 0), sY, tY) else jn (fun (z : (Nat → Nat → Int32)) => match z with | sY_7 => jn (fun (z : (Nat → Nat → Int64)) => match z with | tY_11 => ck p1 2 (nv (upd (sY_7 51) (ix p1) (vp_nar .boolean 1)) (fun g_13 => some (1, (va_up iY 0 0), (va_up sY_7 51 g_13), tY_11)))) (fun K_8 => f_X11_image_51 N (va_up iY 0 0) sY_7 jY p1 K_8 N tY 0)) (fun K_4 => f_X11_image_18 N (va_up iY 0 0) tY jY p1 K_4 N sY 0)))
set_option maxHeartbeats 4000000 in
set_option maxRecDepth 100000 in
theorem c_X11_image (l : Launch) (G : GT) (N : Nat) (uY : Nat → Nat) (iY : Nat → Int32) (sY : Nat → Nat → Int32) (tY : Nat → Nat → Int64) (jY : Nat → Int64) (p1 : Int32) {r : Int32} {iY' : Nat → Int32} {sY' : Nat → Nat → Int32} {tY' : Nat → Nat → Int64} (hf : f_X11_image N iY sY tY jY p1 = some (r, iY', sY', tY')) : CI l G yX11_image cX11_image 3 .boolean 2 [.ref (uY 0), .int p1] (gY G uY iY sY tY jY) r (gY G uY iY' sY' tY' jY) := by
  refine CI.of (by decide) (Nat.le_of_ble_eq_true rfl) ?_
  intro p e s m args below meth c A X hA hP hD hS ls hl
  have hl : lv_has ls 3 [(0, .ref (uY 0)), (1, .int p1)] := hl
  generalize hQ : MQ below (QI G A r (gY G uY iY' sY' tY' jY)) args s 0 0 A = QQ
  unfold f_X11_image at hf
  refine lv_aload_n X.hx X.hb dX11_image_0 rfl (lv_at hl 0 rfl) ?_
  refine lv_iconst (v := 0) X.hx X.hb dX11_image_1 (by decide) ?_
  refine pf_X11_1 X hP hD hS 0 rfl rfl rfl (Nat.le_of_ble_eq_true rfl) (wo := (gY G uY (va_up iY 0 0) sY tY jY)) rfl dX11_image_2 (fun H locs hP hD hS => ?_)
  refine lv_iload_n X.hx X.hb dX11_image_5 rfl (lv_at hl 1 rfl) ?_
  refine lv_iconst (v := 0) X.hx X.hb dX11_image_6 (by decide) ?_
  refine lv_iconst (v := 1) X.hx X.hb dX11_image_7 (by decide) ?_
  obtain ⟨r_1, hc_2, hf⟩ := bd_i hf
  refine r_cs0 (As := [.int p1, .int 0, .int 1]) (rest := []) X sm_X11_189 (c_X11_isIn l G N p1 0 1 hc_2) hP hD hS hA rfl hl.1 (lv_room (Nat.le_of_ble_eq_true rfl)) ⟨Nat.le_of_ble_eq_true rfl, Nat.le_of_ble_eq_true rfl⟩ ⟨Nat.zero_le _, Nat.zero_le _⟩ dX11_image_8 (fun H locs hP hD hS => ?_)
  refine lv_if_ne (tgt := 16) X.hx X.hb dX11_image_11 (by decide) (fun hc_3 => ?_) (fun hc_3 => ?_)
  · replace hf := if_f hf hc_3
    refine lv_iconst (v := 0) X.hx X.hb dX11_image_16 (by decide) ?_
    refine lv_istore_n (lv' := [(2, .int 0), (0, .ref (uY 0)), (1, .int p1)]) X.hx X.hb dX11_image_17 rfl hl (by decide) rfl (fun ls hl => ?_)
    obtain ⟨K_4, eK_6, hf⟩ := jn_i hf
    have hj_5 : ∀ (sY_7 : Nat → Nat → Int32) (H : Heap) (locs : List Loc) (ls : Array Slot), K_4 sY_7 = some (r, iY', sY', tY') → va_P G.1 vwCl (gY G uY (va_up iY 0 0) sY_7 tY jY) H → va_D A (gY G uY (va_up iY 0 0) sY_7 tY jY) → va_S A s.heap H locs → lv_has ls 3 [(0, .ref (uY 0)), (1, .int p1)] → W p l e (RM 2) s m args below meth c H locs 0 0 QQ (F0 m 49 ls []) := by
      intro sY_7 H locs ls hf hP hD hS hl
      rw [eK_6] at hf
      try dsimp only at hf
      refine lv_iconst (v := 0) X.hx X.hb dX11_image_49 (by decide) ?_
      refine lv_istore_n (lv' := [(2, .int 0), (0, .ref (uY 0)), (1, .int p1)]) X.hx X.hb dX11_image_50 rfl hl (by decide) rfl (fun ls hl => ?_)
      obtain ⟨K_8, eK_10, hf⟩ := jn_i hf
      have hj_9 : ∀ (tY_11 : Nat → Nat → Int64) (H : Heap) (locs : List Loc) (ls : Array Slot), K_8 tY_11 = some (r, iY', sY', tY') → va_P G.1 vwCl (gY G uY (va_up iY 0 0) sY_7 tY_11 jY) H → va_D A (gY G uY (va_up iY 0 0) sY_7 tY_11 jY) → va_S A s.heap H locs → lv_has ls 3 [(0, .ref (uY 0)), (1, .int p1)] → W p l e (RM 2) s m args below meth c H locs 0 0 QQ (F0 m 80 ls []) := by
        intro tY_11 H locs ls hf hP hD hS hl
        rw [eK_10] at hf
        try dsimp only at hf
        refine lv_aload_n X.hx X.hb dX11_image_80 rfl (lv_at hl 0 rfl) ?_
        refine gf_X11_93 X hP 0 rfl (v := .ref (uY 52)) rfl dX11_image_81 ?_
        refine lv_iload_n X.hx X.hb dX11_image_84 rfl (lv_at hl 1 rfl) ?_
        refine lv_iconst (v := 1) X.hx X.hb dX11_image_85 (by decide) ?_
        obtain ⟨hi_12, hf⟩ := ck_i hf
        obtain ⟨g_13, eg_13, hf⟩ := nv_i hf
        refine r_zast X hP hD hS 20 (f := (sY_7 51)) rfl hi_12 (wo := (gY G uY (va_up iY 0 0) (va_up sY_7 51 g_13) tY_11 jY)) (by subst eg_13; rfl) dX11_image_86 (fun H locs hP hD hS => ?_)
        refine lv_iconst (v := 1) X.hx X.hb dX11_image_87 (by decide) ?_
        cases hf
        subst hQ
        exact r_zret X hP hD hS (by decide) dX11_image_88
      have hlo_14 : ∀ (k : Nat) (tY_15 : Nat → Nat → Int64) (v2_16 : Int32) (H : Heap) (locs : List Loc) (ls : Array Slot), f_X11_image_51 N (va_up iY 0 0) sY_7 jY p1 K_8 k tY_15 v2_16 = some (r, iY', sY', tY') → va_P G.1 vwCl (gY G uY (va_up iY 0 0) sY_7 tY_15 jY) H → va_D A (gY G uY (va_up iY 0 0) sY_7 tY_15 jY) → va_S A s.heap H locs → lv_has ls 3 [(0, .ref (uY 0)), (1, .int p1), (2, .int v2_16)] → W p l e (RM 2) s m args below meth c H locs 0 0 QQ (F0 m 51 ls []) := by
        intro k
        induction k with
        | zero => intro tY_15 v2_16 H locs ls hf; exact absurd hf (by intro q; cases q)
        | succ k ih =>
          intro tY_15 v2_16 H locs ls hf hP hD hS hl
          unfold f_X11_image_51 at hf
          refine lv_iload_n X.hx X.hb dX11_image_51 rfl (lv_at hl 2 rfl) ?_
          refine lv_bipush (v := 12) X.hx X.hb dX11_image_52 (by decide) ?_
          refine lv_icmp_ge (tgt := 80) X.hx X.hb dX11_image_54 (by decide) (fun hc_17 => ?_) (fun hc_17 => ?_)
          · replace hf := if_t hf hc_17
            exact hj_9 _ _ _ _ hf hP hD hS (lv_sub hl [0, 1] rfl)
          · replace hf := if_f hf hc_17
            refine lv_aload_n X.hx X.hb dX11_image_57 rfl (lv_at hl 0 rfl) ?_
            refine gf_X11_90 X hP 0 rfl (v := .ref (uY 51)) rfl dX11_image_58 ?_
            refine lv_bipush (v := 12) X.hx X.hb dX11_image_61 (by decide) ?_
            refine lv_iload_n X.hx X.hb dX11_image_63 rfl (lv_at hl 1 rfl) ?_
            refine lv_imul X.hx X.hb dX11_image_64 ?_
            refine lv_iload_n X.hx X.hb dX11_image_65 rfl (lv_at hl 2 rfl) ?_
            refine lv_iadd X.hx X.hb dX11_image_66 ?_
            refine lv_aload_n X.hx X.hb dX11_image_67 rfl (lv_at hl 0 rfl) ?_
            refine gf_X11_43 X hP 0 rfl (v := .ref (uY 10)) rfl dX11_image_68 ?_
            refine lv_iload_n X.hx X.hb dX11_image_71 rfl (lv_at hl 2 rfl) ?_
            obtain ⟨hi_18, hf⟩ := ck_i hf
            refine r_lald X hP 5 (f := (tY_15 9)) rfl hi_18 dX11_image_72 ?_
            obtain ⟨hi_19, hf⟩ := ck_i hf
            obtain ⟨g_20, eg_20, hf⟩ := nv_i hf
            refine r_last X hP hD hS 19 (f := (tY_15 50)) rfl hi_19 (wo := (gY G uY (va_up iY 0 0) sY_7 (va_up tY_15 50 g_20) jY)) (by subst eg_20; rfl) dX11_image_73 (fun H locs hP hD hS => ?_)
            refine lv_iinc (v := (v2_16 + 1)) (lv' := [(2, .int (v2_16 + 1)), (0, .ref (uY 0)), (1, .int p1)]) X.hx X.hb dX11_image_74 hl (k := 2) rfl rfl (by decide) rfl (fun ls hl => ?_)
            refine lv_goto (tgt := 51) X.hx X.hb dX11_image_77 (by decide) ?_
            exact ih _ _ _ _ _ hf hP hD hS (lv_sub hl [1, 2, 0] rfl)
      exact hlo_14 N _ _ _ _ _ hf hP hD hS (lv_sub hl [1, 2, 0] rfl)
    have hlo_25 : ∀ (k : Nat) (sY_26 : Nat → Nat → Int32) (v2_27 : Int32) (H : Heap) (locs : List Loc) (ls : Array Slot), f_X11_image_18 N (va_up iY 0 0) tY jY p1 K_4 k sY_26 v2_27 = some (r, iY', sY', tY') → va_P G.1 vwCl (gY G uY (va_up iY 0 0) sY_26 tY jY) H → va_D A (gY G uY (va_up iY 0 0) sY_26 tY jY) → va_S A s.heap H locs → lv_has ls 3 [(0, .ref (uY 0)), (1, .int p1), (2, .int v2_27)] → W p l e (RM 2) s m args below meth c H locs 0 0 QQ (F0 m 18 ls []) := by
      intro k
      induction k with
      | zero => intro sY_26 v2_27 H locs ls hf; exact absurd hf (by intro q; cases q)
      | succ k ih =>
        intro sY_26 v2_27 H locs ls hf hP hD hS hl
        unfold f_X11_image_18 at hf
        refine lv_iload_n X.hx X.hb dX11_image_18 rfl (lv_at hl 2 rfl) ?_
        refine lv_sipush (v := 457) X.hx X.hb dX11_image_19 (by decide) ?_
        refine lv_icmp_ge (tgt := 49) X.hx X.hb dX11_image_22 (by decide) (fun hc_28 => ?_) (fun hc_28 => ?_)
        · replace hf := if_t hf hc_28
          exact hj_5 _ _ _ _ hf hP hD hS (lv_sub hl [0, 1] rfl)
        · replace hf := if_f hf hc_28
          refine lv_aload_n X.hx X.hb dX11_image_25 rfl (lv_at hl 0 rfl) ?_
          refine gf_X11_87 X hP 0 rfl (v := .ref (uY 50)) rfl dX11_image_26 ?_
          refine lv_sipush (v := 457) X.hx X.hb dX11_image_29 (by decide) ?_
          refine lv_iload_n X.hx X.hb dX11_image_32 rfl (lv_at hl 1 rfl) ?_
          refine lv_imul X.hx X.hb dX11_image_33 ?_
          refine lv_iload_n X.hx X.hb dX11_image_34 rfl (lv_at hl 2 rfl) ?_
          refine lv_iadd X.hx X.hb dX11_image_35 ?_
          refine lv_aload_n X.hx X.hb dX11_image_36 rfl (lv_at hl 0 rfl) ?_
          refine gf_X11_33 X hP 0 rfl (v := .ref (uY 7)) rfl dX11_image_37 ?_
          refine lv_iload_n X.hx X.hb dX11_image_40 rfl (lv_at hl 2 rfl) ?_
          obtain ⟨hi_29, hf⟩ := ck_i hf
          refine r_iald X hP 2 (f := (sY_26 6)) rfl hi_29 dX11_image_41 ?_
          obtain ⟨hi_30, hf⟩ := ck_i hf
          obtain ⟨g_31, eg_31, hf⟩ := nv_i hf
          refine r_iast X hP hD hS 18 (f := (sY_26 49)) rfl hi_30 (wo := (gY G uY (va_up iY 0 0) (va_up sY_26 49 g_31) tY jY)) (by subst eg_31; rfl) dX11_image_42 (fun H locs hP hD hS => ?_)
          refine lv_iinc (v := (v2_27 + 1)) (lv' := [(2, .int (v2_27 + 1)), (0, .ref (uY 0)), (1, .int p1)]) X.hx X.hb dX11_image_43 hl (k := 2) rfl rfl (by decide) rfl (fun ls hl => ?_)
          refine lv_goto (tgt := 18) X.hx X.hb dX11_image_46 (by decide) ?_
          exact ih _ _ _ _ _ hf hP hD hS (lv_sub hl [1, 2, 0] rfl)
    exact hlo_25 N _ _ _ _ _ hf hP hD hS (lv_sub hl [1, 2, 0] rfl)
  · replace hf := if_t hf hc_3
    refine lv_iconst (v := 0) X.hx X.hb dX11_image_14 (by decide) ?_
    cases hf
    subst hQ
    exact r_zret X hP hD hS (by decide) dX11_image_15

def f_X11_restore_60 (N : Nat) (iY : Nat → Int32) (sY : Nat → Nat → Int32) (jY : Nat → Int64) (v1 : Int32) (K_10 : ((Nat → Nat → Int64)) → Option (Int32 × (Nat → Int32) × (Nat → Nat → Int32) × (Nat → Nat → Int64))) : Nat → (Nat → Nat → Int64) → (Int32) → Option (Int32 × (Nat → Int32) × (Nat → Nat → Int32) × (Nat → Nat → Int64))
  | 0, _, _ => none
  | k + 1, tY, v2 => (if (12 : Int32) ≤ v2 then K_10 tY else ck (((12 : Int32) * v1) + v2) 24 (ck v2 24 (nv (vp_updL (tY 9) (ix v2) ((tY 50) (ix (((12 : Int32) * v1) + v2)))) (fun g_24 => f_X11_restore_60 N iY sY jY v1 K_10 k (va_up tY 9 g_24) (v2 + 1)))))
def f_X11_restore_27 (N : Nat) (iY : Nat → Int32) (tY : Nat → Nat → Int64) (jY : Nat → Int64) (v1 : Int32) (K_6 : ((Nat → Nat → Int32)) → Option (Int32 × (Nat → Int32) × (Nat → Nat → Int32) × (Nat → Nat → Int64))) : Nat → (Nat → Nat → Int32) → (Int32) → Option (Int32 × (Nat → Int32) × (Nat → Nat → Int32) × (Nat → Nat → Int64))
  | 0, _, _ => none
  | k + 1, sY, v2 => (if (457 : Int32) ≤ v2 then K_6 sY else ck (((457 : Int32) * v1) + v2) 914 (ck v2 457 (nv (upd (sY 6) (ix v2) ((sY 49) (ix (((457 : Int32) * v1) + v2)))) (fun g_35 => f_X11_restore_27 N iY tY jY v1 K_6 k (va_up sY 6 g_35) (v2 + 1)))))
def f_X11_restore (N : Nat) (iY : Nat → Int32) (sY : Nat → Nat → Int32) (tY : Nat → Nat → Int64) (jY : Nat → Int64) (p1 : Int32) : Option (Int32 × (Nat → Int32) × (Nat → Nat → Int32) × (Nat → Nat → Int64)) :=
  bd (f_X11_isIn N p1 0 1) (fun r_1 => (if r_1 = 0 then some (0, (va_up iY 0 0), sY, tY) else ck p1 2 ((if ((sY 51) (ix p1)) = 0 then some (0, (va_up iY 0 0), sY, tY) else jn (fun (z : (Nat → Nat → Int32)) => match z with | sY_9 => jn (fun (z : (Nat → Nat → Int64)) => match z with | tY_13 => some (1, (va_up (va_up iY 0 0) 23 0), sY_9, tY_13)) (fun K_10 => f_X11_restore_60 N (va_up iY 0 0) sY_9 jY p1 K_10 N tY 0)) (fun K_6 => f_X11_restore_27 N (va_up iY 0 0) tY jY p1 K_6 N sY 0)))))
set_option maxHeartbeats 4000000 in
set_option maxRecDepth 100000 in
theorem c_X11_restore (l : Launch) (G : GT) (N : Nat) (uY : Nat → Nat) (iY : Nat → Int32) (sY : Nat → Nat → Int32) (tY : Nat → Nat → Int64) (jY : Nat → Int64) (p1 : Int32) {r : Int32} {iY' : Nat → Int32} {sY' : Nat → Nat → Int32} {tY' : Nat → Nat → Int64} (hf : f_X11_restore N iY sY tY jY p1 = some (r, iY', sY', tY')) : CI l G yX11_restore cX11_restore 3 .boolean 2 [.ref (uY 0), .int p1] (gY G uY iY sY tY jY) r (gY G uY iY' sY' tY' jY) := by
  refine CI.of (by decide) (Nat.le_of_ble_eq_true rfl) ?_
  intro p e s m args below meth c A X hA hP hD hS ls hl
  have hl : lv_has ls 3 [(0, .ref (uY 0)), (1, .int p1)] := hl
  generalize hQ : MQ below (QI G A r (gY G uY iY' sY' tY' jY)) args s 0 0 A = QQ
  unfold f_X11_restore at hf
  refine lv_aload_n X.hx X.hb dX11_restore_0 rfl (lv_at hl 0 rfl) ?_
  refine lv_iconst (v := 0) X.hx X.hb dX11_restore_1 (by decide) ?_
  refine pf_X11_1 X hP hD hS 0 rfl rfl rfl (Nat.le_of_ble_eq_true rfl) (wo := (gY G uY (va_up iY 0 0) sY tY jY)) rfl dX11_restore_2 (fun H locs hP hD hS => ?_)
  refine lv_iload_n X.hx X.hb dX11_restore_5 rfl (lv_at hl 1 rfl) ?_
  refine lv_iconst (v := 0) X.hx X.hb dX11_restore_6 (by decide) ?_
  refine lv_iconst (v := 1) X.hx X.hb dX11_restore_7 (by decide) ?_
  obtain ⟨r_1, hc_2, hf⟩ := bd_i hf
  refine r_cs0 (As := [.int p1, .int 0, .int 1]) (rest := []) X sm_X11_189 (c_X11_isIn l G N p1 0 1 hc_2) hP hD hS hA rfl hl.1 (lv_room (Nat.le_of_ble_eq_true rfl)) ⟨Nat.le_of_ble_eq_true rfl, Nat.le_of_ble_eq_true rfl⟩ ⟨Nat.zero_le _, Nat.zero_le _⟩ dX11_restore_8 (fun H locs hP hD hS => ?_)
  refine lv_if_eq (tgt := 23) X.hx X.hb dX11_restore_11 (by decide) (fun hc_3 => ?_) (fun hc_3 => ?_)
  · replace hf := if_t hf hc_3
    refine lv_iconst (v := 0) X.hx X.hb dX11_restore_23 (by decide) ?_
    cases hf
    subst hQ
    exact r_zret X hP hD hS (by decide) dX11_restore_24
  · replace hf := if_f hf hc_3
    refine lv_aload_n X.hx X.hb dX11_restore_14 rfl (lv_at hl 0 rfl) ?_
    refine gf_X11_93 X hP 0 rfl (v := .ref (uY 52)) rfl dX11_restore_15 ?_
    refine lv_iload_n X.hx X.hb dX11_restore_18 rfl (lv_at hl 1 rfl) ?_
    obtain ⟨hi_4, hf⟩ := ck_i hf
    refine r_zald X hP 20 (f := (sY 51)) rfl hi_4 dX11_restore_19 ?_
    refine lv_if_ne (tgt := 25) X.hx X.hb dX11_restore_20 (by decide) (fun hc_5 => ?_) (fun hc_5 => ?_)
    · replace hf := if_f hf hc_5
      refine lv_iconst (v := 0) X.hx X.hb dX11_restore_25 (by decide) ?_
      refine lv_istore_n (lv' := [(2, .int 0), (0, .ref (uY 0)), (1, .int p1)]) X.hx X.hb dX11_restore_26 rfl hl (by decide) rfl (fun ls hl => ?_)
      obtain ⟨K_6, eK_8, hf⟩ := jn_i hf
      have hj_7 : ∀ (sY_9 : Nat → Nat → Int32) (H : Heap) (locs : List Loc) (ls : Array Slot), K_6 sY_9 = some (r, iY', sY', tY') → va_P G.1 vwCl (gY G uY (va_up iY 0 0) sY_9 tY jY) H → va_D A (gY G uY (va_up iY 0 0) sY_9 tY jY) → va_S A s.heap H locs → lv_has ls 3 [(0, .ref (uY 0)), (1, .int p1)] → W p l e (RM 2) s m args below meth c H locs 0 0 QQ (F0 m 58 ls []) := by
        intro sY_9 H locs ls hf hP hD hS hl
        rw [eK_8] at hf
        try dsimp only at hf
        refine lv_iconst (v := 0) X.hx X.hb dX11_restore_58 (by decide) ?_
        refine lv_istore_n (lv' := [(2, .int 0), (0, .ref (uY 0)), (1, .int p1)]) X.hx X.hb dX11_restore_59 rfl hl (by decide) rfl (fun ls hl => ?_)
        obtain ⟨K_10, eK_12, hf⟩ := jn_i hf
        have hj_11 : ∀ (tY_13 : Nat → Nat → Int64) (H : Heap) (locs : List Loc) (ls : Array Slot), K_10 tY_13 = some (r, iY', sY', tY') → va_P G.1 vwCl (gY G uY (va_up iY 0 0) sY_9 tY_13 jY) H → va_D A (gY G uY (va_up iY 0 0) sY_9 tY_13 jY) → va_S A s.heap H locs → lv_has ls 3 [(0, .ref (uY 0))] → W p l e (RM 2) s m args below meth c H locs 0 0 QQ (F0 m 89 ls []) := by
          intro tY_13 H locs ls hf hP hD hS hl
          rw [eK_12] at hf
          try dsimp only at hf
          refine lv_aload_n X.hx X.hb dX11_restore_89 rfl (lv_at hl 0 rfl) ?_
          refine lv_iconst (v := 0) X.hx X.hb dX11_restore_90 (by decide) ?_
          refine pf_X11_262 X hP hD hS 0 rfl rfl rfl (Nat.le_of_ble_eq_true rfl) (wo := (gY G uY (va_up (va_up iY 0 0) 23 0) sY_9 tY_13 jY)) rfl dX11_restore_91 (fun H locs hP hD hS => ?_)
          refine lv_iconst (v := 1) X.hx X.hb dX11_restore_94 (by decide) ?_
          cases hf
          subst hQ
          exact r_zret X hP hD hS (by decide) dX11_restore_95
        have hlo_14 : ∀ (k : Nat) (tY_15 : Nat → Nat → Int64) (v2_16 : Int32) (H : Heap) (locs : List Loc) (ls : Array Slot), f_X11_restore_60 N (va_up iY 0 0) sY_9 jY p1 K_10 k tY_15 v2_16 = some (r, iY', sY', tY') → va_P G.1 vwCl (gY G uY (va_up iY 0 0) sY_9 tY_15 jY) H → va_D A (gY G uY (va_up iY 0 0) sY_9 tY_15 jY) → va_S A s.heap H locs → lv_has ls 3 [(0, .ref (uY 0)), (1, .int p1), (2, .int v2_16)] → W p l e (RM 2) s m args below meth c H locs 0 0 QQ (F0 m 60 ls []) := by
          intro k
          induction k with
          | zero => intro tY_15 v2_16 H locs ls hf; exact absurd hf (by intro q; cases q)
          | succ k ih =>
            intro tY_15 v2_16 H locs ls hf hP hD hS hl
            unfold f_X11_restore_60 at hf
            refine lv_iload_n X.hx X.hb dX11_restore_60 rfl (lv_at hl 2 rfl) ?_
            refine lv_bipush (v := 12) X.hx X.hb dX11_restore_61 (by decide) ?_
            refine lv_icmp_ge (tgt := 89) X.hx X.hb dX11_restore_63 (by decide) (fun hc_17 => ?_) (fun hc_17 => ?_)
            · replace hf := if_t hf hc_17
              exact hj_11 _ _ _ _ hf hP hD hS (lv_sub hl [0] rfl)
            · replace hf := if_f hf hc_17
              refine lv_aload_n X.hx X.hb dX11_restore_66 rfl (lv_at hl 0 rfl) ?_
              refine gf_X11_43 X hP 0 rfl (v := .ref (uY 10)) rfl dX11_restore_67 ?_
              refine lv_iload_n X.hx X.hb dX11_restore_70 rfl (lv_at hl 2 rfl) ?_
              refine lv_aload_n X.hx X.hb dX11_restore_71 rfl (lv_at hl 0 rfl) ?_
              refine gf_X11_90 X hP 0 rfl (v := .ref (uY 51)) rfl dX11_restore_72 ?_
              refine lv_bipush (v := 12) X.hx X.hb dX11_restore_75 (by decide) ?_
              refine lv_iload_n X.hx X.hb dX11_restore_77 rfl (lv_at hl 1 rfl) ?_
              refine lv_imul X.hx X.hb dX11_restore_78 ?_
              refine lv_iload_n X.hx X.hb dX11_restore_79 rfl (lv_at hl 2 rfl) ?_
              refine lv_iadd X.hx X.hb dX11_restore_80 ?_
              obtain ⟨hi_18, hf⟩ := ck_i hf
              refine r_lald X hP 19 (f := (tY_15 50)) rfl hi_18 dX11_restore_81 ?_
              obtain ⟨hi_19, hf⟩ := ck_i hf
              obtain ⟨g_20, eg_20, hf⟩ := nv_i hf
              refine r_last X hP hD hS 5 (f := (tY_15 9)) rfl hi_19 (wo := (gY G uY (va_up iY 0 0) sY_9 (va_up tY_15 9 g_20) jY)) (by subst eg_20; rfl) dX11_restore_82 (fun H locs hP hD hS => ?_)
              refine lv_iinc (v := (v2_16 + 1)) (lv' := [(2, .int (v2_16 + 1)), (0, .ref (uY 0)), (1, .int p1)]) X.hx X.hb dX11_restore_83 hl (k := 2) rfl rfl (by decide) rfl (fun ls hl => ?_)
              refine lv_goto (tgt := 60) X.hx X.hb dX11_restore_86 (by decide) ?_
              exact ih _ _ _ _ _ hf hP hD hS (lv_sub hl [1, 2, 0] rfl)
        exact hlo_14 N _ _ _ _ _ hf hP hD hS (lv_sub hl [1, 2, 0] rfl)
      have hlo_25 : ∀ (k : Nat) (sY_26 : Nat → Nat → Int32) (v2_27 : Int32) (H : Heap) (locs : List Loc) (ls : Array Slot), f_X11_restore_27 N (va_up iY 0 0) tY jY p1 K_6 k sY_26 v2_27 = some (r, iY', sY', tY') → va_P G.1 vwCl (gY G uY (va_up iY 0 0) sY_26 tY jY) H → va_D A (gY G uY (va_up iY 0 0) sY_26 tY jY) → va_S A s.heap H locs → lv_has ls 3 [(0, .ref (uY 0)), (1, .int p1), (2, .int v2_27)] → W p l e (RM 2) s m args below meth c H locs 0 0 QQ (F0 m 27 ls []) := by
        intro k
        induction k with
        | zero => intro sY_26 v2_27 H locs ls hf; exact absurd hf (by intro q; cases q)
        | succ k ih =>
          intro sY_26 v2_27 H locs ls hf hP hD hS hl
          unfold f_X11_restore_27 at hf
          refine lv_iload_n X.hx X.hb dX11_restore_27 rfl (lv_at hl 2 rfl) ?_
          refine lv_sipush (v := 457) X.hx X.hb dX11_restore_28 (by decide) ?_
          refine lv_icmp_ge (tgt := 58) X.hx X.hb dX11_restore_31 (by decide) (fun hc_28 => ?_) (fun hc_28 => ?_)
          · replace hf := if_t hf hc_28
            exact hj_7 _ _ _ _ hf hP hD hS (lv_sub hl [0, 1] rfl)
          · replace hf := if_f hf hc_28
            refine lv_aload_n X.hx X.hb dX11_restore_34 rfl (lv_at hl 0 rfl) ?_
            refine gf_X11_33 X hP 0 rfl (v := .ref (uY 7)) rfl dX11_restore_35 ?_
            refine lv_iload_n X.hx X.hb dX11_restore_38 rfl (lv_at hl 2 rfl) ?_
            refine lv_aload_n X.hx X.hb dX11_restore_39 rfl (lv_at hl 0 rfl) ?_
            refine gf_X11_87 X hP 0 rfl (v := .ref (uY 50)) rfl dX11_restore_40 ?_
            refine lv_sipush (v := 457) X.hx X.hb dX11_restore_43 (by decide) ?_
            refine lv_iload_n X.hx X.hb dX11_restore_46 rfl (lv_at hl 1 rfl) ?_
            refine lv_imul X.hx X.hb dX11_restore_47 ?_
            refine lv_iload_n X.hx X.hb dX11_restore_48 rfl (lv_at hl 2 rfl) ?_
            refine lv_iadd X.hx X.hb dX11_restore_49 ?_
            obtain ⟨hi_29, hf⟩ := ck_i hf
            refine r_iald X hP 18 (f := (sY_26 49)) rfl hi_29 dX11_restore_50 ?_
            obtain ⟨hi_30, hf⟩ := ck_i hf
            obtain ⟨g_31, eg_31, hf⟩ := nv_i hf
            refine r_iast X hP hD hS 2 (f := (sY_26 6)) rfl hi_30 (wo := (gY G uY (va_up iY 0 0) (va_up sY_26 6 g_31) tY jY)) (by subst eg_31; rfl) dX11_restore_51 (fun H locs hP hD hS => ?_)
            refine lv_iinc (v := (v2_27 + 1)) (lv' := [(2, .int (v2_27 + 1)), (0, .ref (uY 0)), (1, .int p1)]) X.hx X.hb dX11_restore_52 hl (k := 2) rfl rfl (by decide) rfl (fun ls hl => ?_)
            refine lv_goto (tgt := 27) X.hx X.hb dX11_restore_55 (by decide) ?_
            exact ih _ _ _ _ _ hf hP hD hS (lv_sub hl [1, 2, 0] rfl)
      exact hlo_25 N _ _ _ _ _ hf hP hD hS (lv_sub hl [1, 2, 0] rfl)
    · replace hf := if_t hf hc_5
      refine lv_iconst (v := 0) X.hx X.hb dX11_restore_23 (by decide) ?_
      cases hf
      subst hQ
      exact r_zret X hP hD hS (by decide) dX11_restore_24

def f_X11_count (N : Nat) (iY : Nat → Int32) (sY : Nat → Nat → Int32) (tY : Nat → Nat → Int64) (jY : Nat → Int64) (p1 : Int32) : Option (Int32 × (Nat → Int32)) :=
  (if p1 = 5 then some ((iY 2), (va_up iY 0 0)) else bd (f_X11_isIn N p1 0 4) (fun r_2 => (if r_2 = 0 then some ((-1), (va_up iY 0 0)) else ck p1 457 (some (((sY 6) (ix p1)), (va_up iY 0 0))))))
set_option maxHeartbeats 4000000 in
set_option maxRecDepth 100000 in
theorem c_X11_count (l : Launch) (G : GT) (N : Nat) (uY : Nat → Nat) (iY : Nat → Int32) (sY : Nat → Nat → Int32) (tY : Nat → Nat → Int64) (jY : Nat → Int64) (p1 : Int32) {r : Int32} {iY' : Nat → Int32} (hf : f_X11_count N iY sY tY jY p1 = some (r, iY')) : CI l G yX11_count cX11_count 2 .int 2 [.ref (uY 0), .int p1] (gY G uY iY sY tY jY) r (gY G uY iY' sY tY jY) := by
  refine CI.of (by decide) (Nat.le_of_ble_eq_true rfl) ?_
  intro p e s m args below meth c A X hA hP hD hS ls hl
  have hl : lv_has ls 2 [(0, .ref (uY 0)), (1, .int p1)] := hl
  generalize hQ : MQ below (QI G A r (gY G uY iY' sY tY jY)) args s 0 0 A = QQ
  unfold f_X11_count at hf
  refine lv_aload_n X.hx X.hb dX11_count_0 rfl (lv_at hl 0 rfl) ?_
  refine lv_iconst (v := 0) X.hx X.hb dX11_count_1 (by decide) ?_
  refine pf_X11_1 X hP hD hS 0 rfl rfl rfl (Nat.le_of_ble_eq_true rfl) (wo := (gY G uY (va_up iY 0 0) sY tY jY)) rfl dX11_count_2 (fun H locs hP hD hS => ?_)
  refine lv_iload_n X.hx X.hb dX11_count_5 rfl (lv_at hl 1 rfl) ?_
  refine lv_iconst (v := 5) X.hx X.hb dX11_count_6 (by decide) ?_
  refine lv_icmp_ne (tgt := 17) X.hx X.hb dX11_count_7 (by decide) (fun hc_1 => ?_) (fun hc_1 => ?_)
  · replace hf := if_f hf hc_1
    refine lv_iload_n X.hx X.hb dX11_count_17 rfl (lv_at hl 1 rfl) ?_
    refine lv_iconst (v := 0) X.hx X.hb dX11_count_18 (by decide) ?_
    refine lv_iconst (v := 4) X.hx X.hb dX11_count_19 (by decide) ?_
    obtain ⟨r_2, hc_3, hf⟩ := bd_i hf
    refine r_cs0 (As := [.int p1, .int 0, .int 4]) (rest := []) X sm_X11_189 (c_X11_isIn l G N p1 0 4 hc_3) hP hD hS hA rfl hl.1 (lv_room (Nat.le_of_ble_eq_true rfl)) ⟨Nat.le_of_ble_eq_true rfl, Nat.le_of_ble_eq_true rfl⟩ ⟨Nat.zero_le _, Nat.zero_le _⟩ dX11_count_20 (fun H locs hP hD hS => ?_)
    refine lv_if_eq (tgt := 35) X.hx X.hb dX11_count_23 (by decide) (fun hc_4 => ?_) (fun hc_4 => ?_)
    · replace hf := if_t hf hc_4
      refine lv_iconst (v := (-1)) X.hx X.hb dX11_count_35 (by decide) ?_
      cases hf
      subst hQ
      exact r_iret X hP hD hS dX11_count_36
    · replace hf := if_f hf hc_4
      refine lv_aload_n X.hx X.hb dX11_count_26 rfl (lv_at hl 0 rfl) ?_
      refine gf_X11_33 X hP 0 rfl (v := .ref (uY 7)) rfl dX11_count_27 ?_
      refine lv_iload_n X.hx X.hb dX11_count_30 rfl (lv_at hl 1 rfl) ?_
      obtain ⟨hi_5, hf⟩ := ck_i hf
      refine r_iald X hP 2 (f := (sY 6)) rfl hi_5 dX11_count_31 ?_
      refine lv_goto (tgt := 36) X.hx X.hb dX11_count_32 (by decide) ?_
      cases hf
      subst hQ
      exact r_iret X hP hD hS dX11_count_36
  · replace hf := if_t hf hc_1
    refine lv_aload_n X.hx X.hb dX11_count_10 rfl (lv_at hl 0 rfl) ?_
    refine gf_X11_7 X hP 0 rfl (v := .int (iY 2)) rfl dX11_count_11 ?_
    refine lv_goto (tgt := 36) X.hx X.hb dX11_count_14 (by decide) ?_
    cases hf
    subst hQ
    exact r_iret X hP hD hS dX11_count_36

