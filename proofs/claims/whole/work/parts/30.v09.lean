def f_X11_image_51 (N : Nat) (iY : Nat → Int32) (sY : Nat → Nat → Int32) (jY : Nat → Int64) (v1 : Int32) (K_8 : ((Nat → Nat → Int64)) → Option (Int32 × (Nat → Int32) × (Nat → Nat → Int32) × (Nat → Nat → Int64))) : Nat → (Nat → Nat → Int64) → (Int32) → Option (Int32 × (Nat → Int32) × (Nat → Nat → Int32) × (Nat → Nat → Int64))
  | 0, _, _ => none
  | k + 1, tY, v2 => (if (12 : Int32) ≤ v2 then K_8 tY else ck v2 24 (ck (((12 : Int32) * v1) + v2) 24 (nv (vp_updL (tY 50) (ix (((12 : Int32) * v1) + v2)) ((tY 9) (ix v2))) (fun g_24 => f_X11_image_51 N iY sY jY v1 K_8 k (va_up tY 50 g_24) (v2 + 1)))))
def f_X11_image_18 (N : Nat) (iY : Nat → Int32) (tY : Nat → Nat → Int64) (jY : Nat → Int64) (v1 : Int32) (K_4 : ((Nat → Nat → Int32)) → Option (Int32 × (Nat → Int32) × (Nat → Nat → Int32) × (Nat → Nat → Int64))) : Nat → (Nat → Nat → Int32) → (Int32) → Option (Int32 × (Nat → Int32) × (Nat → Nat → Int32) × (Nat → Nat → Int64))
  | 0, _, _ => none
  | k + 1, sY, v2 => (if (457 : Int32) ≤ v2 then K_4 sY else ck v2 457 (ck (((457 : Int32) * v1) + v2) 914 (nv (upd (sY 49) (ix (((457 : Int32) * v1) + v2)) ((sY 6) (ix v2))) (fun g_35 => f_X11_image_18 N iY tY jY v1 K_4 k (va_up sY 49 g_35) (v2 + 1)))))
def f_X11_image (N : Nat) (iY : Nat → Int32) (sY : Nat → Nat → Int32) (tY : Nat → Nat → Int64) (jY : Nat → Int64) (p1 : Int32) : Option (Int32 × (Nat → Int32) × (Nat → Nat → Int32) × (Nat → Nat → Int64)) :=
  bd (f_X11_isIn N p1 0 1) (fun r_1 => (if r_1 = 0 then some (0, (va_up iY 0 0), sY, tY) else jn (fun (z : (Nat → Nat → Int32)) => match z with | sY_7 => jn (fun (z : (Nat → Nat → Int64)) => match z with | tY_11 => ck p1 2 (nv (upd (sY_7 51) (ix p1) (vp_nar .boolean 1)) (fun g_13 => some (1, (va_up iY 0 0), (va_up sY_7 51 g_13), tY_11)))) (fun K_8 => f_X11_image_51 N (va_up iY 0 0) sY_7 jY p1 K_8 N tY 0)) (fun K_4 => f_X11_image_18 N (va_up iY 0 0) tY jY p1 K_4 N sY 0)))
set_option maxHeartbeats 4000000 in
set_option maxRecDepth 100000 in
theorem c_X11_image (l : Launch) (G : GT) (N : Nat) (uY : Nat → Nat) (iY : Nat → Int32) (sY : Nat → Nat → Int32) (tY : Nat → Nat → Int64) (jY : Nat → Int64) (p1 : Int32) {r : Int32} {iY' : Nat → Int32} {sY' : Nat → Nat → Int32} {tY' : Nat → Nat → Int64} (hf : f_X11_image N iY sY tY jY p1 = some (r, iY', sY', tY')) : CI l G yX11_image cX11_image 3 .boolean 2 [.ref (uY 0), .int p1] (gY G uY iY sY tY jY) r (gY G uY iY' sY' tY' jY) := by
  refine CI.of (by decide) (Nat.le_of_ble_eq_true rfl) ?_
  intro p e s m args below meth c A X hA hP hD hS ls hl
  have hl : lv_has ls 3 [(0, .ref (uY 0)), (1, .int p1)] := hl
  generalize hQ : MQ below (QI G A r (gY G uY iY' sY' tY' jY)) args s 0 0 A = QQ
  unfold f_X11_image at hf
  refine lv_aload_n X.hx X.hb dX11_image_0 rfl (lv_at hl 0 rfl) ?_
  refine lv_iconst (v := 0) X.hx X.hb dX11_image_1 (by decide) ?_
  refine pf_X11_1 X hP hD hS 0 rfl rfl rfl (Nat.le_of_ble_eq_true rfl) (wo := (gY G uY (va_up iY 0 0) sY tY jY)) rfl dX11_image_2 (fun H locs hP hD hS => ?_)
  refine lv_iload_n X.hx X.hb dX11_image_5 rfl (lv_at hl 1 rfl) ?_
  refine lv_iconst (v := 0) X.hx X.hb dX11_image_6 (by decide) ?_
  refine lv_iconst (v := 1) X.hx X.hb dX11_image_7 (by decide) ?_
  obtain ⟨r_1, hc_2, hf⟩ := bd_i hf
  refine r_cs0 (As := [.int p1, .int 0, .int 1]) (rest := []) X sm_X11_189 (c_X11_isIn l G N p1 0 1 hc_2) hP hD hS hA rfl hl.1 (lv_room (Nat.le_of_ble_eq_true rfl)) ⟨Nat.le_of_ble_eq_true rfl, Nat.le_of_ble_eq_true rfl⟩ ⟨Nat.zero_le _, Nat.zero_le _⟩ dX11_image_8 (fun H locs hP hD hS => ?_)
  refine lv_if_ne (tgt := 16) X.hx X.hb dX11_image_11 (by decide) (fun hc_3 => ?_) (fun hc_3 => ?_)
  · replace hf := if_f hf hc_3
    refine lv_iconst (v := 0) X.hx X.hb dX11_image_16 (by decide) ?_
    refine lv_istore_n (lv' := [(2, .int 0), (0, .ref (uY 0)), (1, .int p1)]) X.hx X.hb dX11_image_17 rfl hl (by decide) rfl (fun ls hl => ?_)
    obtain ⟨K_4, eK_6, hf⟩ := jn_i hf
    have hj_5 : ∀ (sY_7 : Nat → Nat → Int32) (H : Heap) (locs : List Loc) (ls : Array Slot), K_4 sY_7 = some (r, iY', sY', tY') → va_P G.1 vwCl (gY G uY (va_up iY 0 0) sY_7 tY jY) H → va_D A (gY G uY (va_up iY 0 0) sY_7 tY jY) → va_S A s.heap H locs → lv_has ls 3 [(0, .ref (uY 0)), (1, .int p1)] → W p l e (RM 2) s m args below meth c H locs 0 0 QQ (F0 m 49 ls []) := by
      intro sY_7 H locs ls hf hP hD hS hl
      rw [eK_6] at hf
      try dsimp only at hf
      refine lv_iconst (v := 0) X.hx X.hb dX11_image_49 (by decide) ?_
      refine lv_istore_n (lv' := [(2, .int 0), (0, .ref (uY 0)), (1, .int p1)]) X.hx X.hb dX11_image_50 rfl hl (by decide) rfl (fun ls hl => ?_)
      obtain ⟨K_8, eK_10, hf⟩ := jn_i hf
      have hj_9 : ∀ (tY_11 : Nat → Nat → Int64) (H : Heap) (locs : List Loc) (ls : Array Slot), K_8 tY_11 = some (r, iY', sY', tY') → va_P G.1 vwCl (gY G uY (va_up iY 0 0) sY_7 tY_11 jY) H → va_D A (gY G uY (va_up iY 0 0) sY_7 tY_11 jY) → va_S A s.heap H locs → lv_has ls 3 [(0, .ref (uY 0)), (1, .int p1)] → W p l e (RM 2) s m args below meth c H locs 0 0 QQ (F0 m 80 ls []) := by
        intro tY_11 H locs ls hf hP hD hS hl
        rw [eK_10] at hf
        try dsimp only at hf
        refine lv_aload_n X.hx X.hb dX11_image_80 rfl (lv_at hl 0 rfl) ?_
        refine gf_X11_93 X hP 0 rfl (v := .ref (uY 52)) rfl dX11_image_81 ?_
        refine lv_iload_n X.hx X.hb dX11_image_84 rfl (lv_at hl 1 rfl) ?_
        refine lv_iconst (v := 1) X.hx X.hb dX11_image_85 (by decide) ?_
        obtain ⟨hi_12, hf⟩ := ck_i hf
        obtain ⟨g_13, eg_13, hf⟩ := nv_i hf
        refine r_zast X hP hD hS 20 (f := (sY_7 51)) rfl hi_12 (wo := (gY G uY (va_up iY 0 0) (va_up sY_7 51 g_13) tY_11 jY)) (by subst eg_13; rfl) dX11_image_86 (fun H locs hP hD hS => ?_)
        refine lv_iconst (v := 1) X.hx X.hb dX11_image_87 (by decide) ?_
        cases hf
        subst hQ
        exact r_zret X hP hD hS (by decide) dX11_image_88
      have hlo_14 : ∀ (k : Nat) (tY_15 : Nat → Nat → Int64) (v2_16 : Int32) (H : Heap) (locs : List Loc) (ls : Array Slot), f_X11_image_51 N (va_up iY 0 0) sY_7 jY p1 K_8 k tY_15 v2_16 = some (r, iY', sY', tY') → va_P G.1 vwCl (gY G uY (va_up iY 0 0) sY_7 tY_15 jY) H → va_D A (gY G uY (va_up iY 0 0) sY_7 tY_15 jY) → va_S A s.heap H locs → lv_has ls 3 [(0, .ref (uY 0)), (1, .int p1), (2, .int v2_16)] → W p l e (RM 2) s m args below meth c H locs 0 0 QQ (F0 m 51 ls []) := by
        intro k
        induction k with
        | zero => intro tY_15 v2_16 H locs ls hf; exact absurd hf (by intro q; cases q)
        | succ k ih =>
          intro tY_15 v2_16 H locs ls hf hP hD hS hl
          unfold f_X11_image_51 at hf
          refine lv_iload_n X.hx X.hb dX11_image_51 rfl (lv_at hl 2 rfl) ?_
          refine lv_bipush (v := 12) X.hx X.hb dX11_image_52 (by decide) ?_
          refine lv_icmp_ge (tgt := 80) X.hx X.hb dX11_image_54 (by decide) (fun hc_17 => ?_) (fun hc_17 => ?_)
          · replace hf := if_t hf hc_17
            exact hj_9 _ _ _ _ hf hP hD hS (lv_sub hl [0, 1] rfl)
          · replace hf := if_f hf hc_17
            refine lv_aload_n X.hx X.hb dX11_image_57 rfl (lv_at hl 0 rfl) ?_
            refine gf_X11_90 X hP 0 rfl (v := .ref (uY 51)) rfl dX11_image_58 ?_
            refine lv_bipush (v := 12) X.hx X.hb dX11_image_61 (by decide) ?_
            refine lv_iload_n X.hx X.hb dX11_image_63 rfl (lv_at hl 1 rfl) ?_
            refine lv_imul X.hx X.hb dX11_image_64 ?_
            refine lv_iload_n X.hx X.hb dX11_image_65 rfl (lv_at hl 2 rfl) ?_
            refine lv_iadd X.hx X.hb dX11_image_66 ?_
            refine lv_aload_n X.hx X.hb dX11_image_67 rfl (lv_at hl 0 rfl) ?_
            refine gf_X11_43 X hP 0 rfl (v := .ref (uY 10)) rfl dX11_image_68 ?_
            refine lv_iload_n X.hx X.hb dX11_image_71 rfl (lv_at hl 2 rfl) ?_
            obtain ⟨hi_18, hf⟩ := ck_i hf
            refine r_lald X hP 5 (f := (tY_15 9)) rfl hi_18 dX11_image_72 ?_
            obtain ⟨hi_19, hf⟩ := ck_i hf
            obtain ⟨g_20, eg_20, hf⟩ := nv_i hf
            refine r_last X hP hD hS 19 (f := (tY_15 50)) rfl hi_19 (wo := (gY G uY (va_up iY 0 0) sY_7 (va_up tY_15 50 g_20) jY)) (by subst eg_20; rfl) dX11_image_73 (fun H locs hP hD hS => ?_)
            refine lv_iinc (v := (v2_16 + 1)) (lv' := [(2, .int (v2_16 + 1)), (0, .ref (uY 0)), (1, .int p1)]) X.hx X.hb dX11_image_74 hl (k := 2) rfl rfl (by decide) rfl (fun ls hl => ?_)
            refine lv_goto (tgt := 51) X.hx X.hb dX11_image_77 (by decide) ?_
            exact ih _ _ _ _ _ hf hP hD hS (lv_sub hl [1, 2, 0] rfl)
      exact hlo_14 N _ _ _ _ _ hf hP hD hS (lv_sub hl [1, 2, 0] rfl)
    have hlo_25 : ∀ (k : Nat) (sY_26 : Nat → Nat → Int32) (v2_27 : Int32) (H : Heap) (locs : List Loc) (ls : Array Slot), f_X11_image_18 N (va_up iY 0 0) tY jY p1 K_4 k sY_26 v2_27 = some (r, iY', sY', tY') → va_P G.1 vwCl (gY G uY (va_up iY 0 0) sY_26 tY jY) H → va_D A (gY G uY (va_up iY 0 0) sY_26 tY jY) → va_S A s.heap H locs → lv_has ls 3 [(0, .ref (uY 0)), (1, .int p1), (2, .int v2_27)] → W p l e (RM 2) s m args below meth c H locs 0 0 QQ (F0 m 18 ls []) := by
      intro k
      induction k with
      | zero => intro sY_26 v2_27 H locs ls hf; exact absurd hf (by intro q; cases q)
      | succ k ih =>
        intro sY_26 v2_27 H locs ls hf hP hD hS hl
        unfold f_X11_image_18 at hf
        refine lv_iload_n X.hx X.hb dX11_image_18 rfl (lv_at hl 2 rfl) ?_
        refine lv_sipush (v := 457) X.hx X.hb dX11_image_19 (by decide) ?_
        refine lv_icmp_ge (tgt := 49) X.hx X.hb dX11_image_22 (by decide) (fun hc_28 => ?_) (fun hc_28 => ?_)
        · replace hf := if_t hf hc_28
          exact hj_5 _ _ _ _ hf hP hD hS (lv_sub hl [0, 1] rfl)
        · replace hf := if_f hf hc_28
          refine lv_aload_n X.hx X.hb dX11_image_25 rfl (lv_at hl 0 rfl) ?_
          refine gf_X11_87 X hP 0 rfl (v := .ref (uY 50)) rfl dX11_image_26 ?_
          refine lv_sipush (v := 457) X.hx X.hb dX11_image_29 (by decide) ?_
          refine lv_iload_n X.hx X.hb dX11_image_32 rfl (lv_at hl 1 rfl) ?_
          refine lv_imul X.hx X.hb dX11_image_33 ?_
          refine lv_iload_n X.hx X.hb dX11_image_34 rfl (lv_at hl 2 rfl) ?_
          refine lv_iadd X.hx X.hb dX11_image_35 ?_
          refine lv_aload_n X.hx X.hb dX11_image_36 rfl (lv_at hl 0 rfl) ?_
          refine gf_X11_33 X hP 0 rfl (v := .ref (uY 7)) rfl dX11_image_37 ?_
          refine lv_iload_n X.hx X.hb dX11_image_40 rfl (lv_at hl 2 rfl) ?_
          obtain ⟨hi_29, hf⟩ := ck_i hf
          refine r_iald X hP 2 (f := (sY_26 6)) rfl hi_29 dX11_image_41 ?_
          obtain ⟨hi_30, hf⟩ := ck_i hf
          obtain ⟨g_31, eg_31, hf⟩ := nv_i hf
          refine r_iast X hP hD hS 18 (f := (sY_26 49)) rfl hi_30 (wo := (gY G uY (va_up iY 0 0) (va_up sY_26 49 g_31) tY jY)) (by subst eg_31; rfl) dX11_image_42 (fun H locs hP hD hS => ?_)
          refine lv_iinc (v := (v2_27 + 1)) (lv' := [(2, .int (v2_27 + 1)), (0, .ref (uY 0)), (1, .int p1)]) X.hx X.hb dX11_image_43 hl (k := 2) rfl rfl (by decide) rfl (fun ls hl => ?_)
          refine lv_goto (tgt := 18) X.hx X.hb dX11_image_46 (by decide) ?_
          exact ih _ _ _ _ _ hf hP hD hS (lv_sub hl [1, 2, 0] rfl)
    exact hlo_25 N _ _ _ _ _ hf hP hD hS (lv_sub hl [1, 2, 0] rfl)
  · replace hf := if_t hf hc_3
    refine lv_iconst (v := 0) X.hx X.hb dX11_image_14 (by decide) ?_
    cases hf
    subst hQ
    exact r_zret X hP hD hS (by decide) dX11_image_15

def f_X11_restore_60 (N : Nat) (iY : Nat → Int32) (sY : Nat → Nat → Int32) (jY : Nat → Int64) (v1 : Int32) (K_10 : ((Nat → Nat → Int64)) → Option (Int32 × (Nat → Int32) × (Nat → Nat → Int32) × (Nat → Nat → Int64))) : Nat → (Nat → Nat → Int64) → (Int32) → Option (Int32 × (Nat → Int32) × (Nat → Nat → Int32) × (Nat → Nat → Int64))
  | 0, _, _ => none
  | k + 1, tY, v2 => (if (12 : Int32) ≤ v2 then K_10 tY else ck (((12 : Int32) * v1) + v2) 24 (ck v2 24 (nv (vp_updL (tY 9) (ix v2) ((tY 50) (ix (((12 : Int32) * v1) + v2)))) (fun g_24 => f_X11_restore_60 N iY sY jY v1 K_10 k (va_up tY 9 g_24) (v2 + 1)))))
def f_X11_restore_27 (N : Nat) (iY : Nat → Int32) (tY : Nat → Nat → Int64) (jY : Nat → Int64) (v1 : Int32) (K_6 : ((Nat → Nat → Int32)) → Option (Int32 × (Nat → Int32) × (Nat → Nat → Int32) × (Nat → Nat → Int64))) : Nat → (Nat → Nat → Int32) → (Int32) → Option (Int32 × (Nat → Int32) × (Nat → Nat → Int32) × (Nat → Nat → Int64))
  | 0, _, _ => none
  | k + 1, sY, v2 => (if (457 : Int32) ≤ v2 then K_6 sY else ck (((457 : Int32) * v1) + v2) 914 (ck v2 457 (nv (upd (sY 6) (ix v2) ((sY 49) (ix (((457 : Int32) * v1) + v2)))) (fun g_35 => f_X11_restore_27 N iY tY jY v1 K_6 k (va_up sY 6 g_35) (v2 + 1)))))
def f_X11_restore (N : Nat) (iY : Nat → Int32) (sY : Nat → Nat → Int32) (tY : Nat → Nat → Int64) (jY : Nat → Int64) (p1 : Int32) : Option (Int32 × (Nat → Int32) × (Nat → Nat → Int32) × (Nat → Nat → Int64)) :=
  bd (f_X11_isIn N p1 0 1) (fun r_1 => (if r_1 = 0 then some (0, (va_up iY 0 0), sY, tY) else ck p1 2 ((if ((sY 51) (ix p1)) = 0 then some (0, (va_up iY 0 0), sY, tY) else jn (fun (z : (Nat → Nat → Int32)) => match z with | sY_9 => jn (fun (z : (Nat → Nat → Int64)) => match z with | tY_13 => some (1, (va_up (va_up iY 0 0) 23 0), sY_9, tY_13)) (fun K_10 => f_X11_restore_60 N (va_up iY 0 0) sY_9 jY p1 K_10 N tY 0)) (fun K_6 => f_X11_restore_27 N (va_up iY 0 0) tY jY p1 K_6 N sY 0)))))
set_option maxHeartbeats 4000000 in
set_option maxRecDepth 100000 in
theorem c_X11_restore (l : Launch) (G : GT) (N : Nat) (uY : Nat → Nat) (iY : Nat → Int32) (sY : Nat → Nat → Int32) (tY : Nat → Nat → Int64) (jY : Nat → Int64) (p1 : Int32) {r : Int32} {iY' : Nat → Int32} {sY' : Nat → Nat → Int32} {tY' : Nat → Nat → Int64} (hf : f_X11_restore N iY sY tY jY p1 = some (r, iY', sY', tY')) : CI l G yX11_restore cX11_restore 3 .boolean 2 [.ref (uY 0), .int p1] (gY G uY iY sY tY jY) r (gY G uY iY' sY' tY' jY) := by
  refine CI.of (by decide) (Nat.le_of_ble_eq_true rfl) ?_
  intro p e s m args below meth c A X hA hP hD hS ls hl
  have hl : lv_has ls 3 [(0, .ref (uY 0)), (1, .int p1)] := hl
  generalize hQ : MQ below (QI G A r (gY G uY iY' sY' tY' jY)) args s 0 0 A = QQ
  unfold f_X11_restore at hf
  refine lv_aload_n X.hx X.hb dX11_restore_0 rfl (lv_at hl 0 rfl) ?_
  refine lv_iconst (v := 0) X.hx X.hb dX11_restore_1 (by decide) ?_
  refine pf_X11_1 X hP hD hS 0 rfl rfl rfl (Nat.le_of_ble_eq_true rfl) (wo := (gY G uY (va_up iY 0 0) sY tY jY)) rfl dX11_restore_2 (fun H locs hP hD hS => ?_)
  refine lv_iload_n X.hx X.hb dX11_restore_5 rfl (lv_at hl 1 rfl) ?_
  refine lv_iconst (v := 0) X.hx X.hb dX11_restore_6 (by decide) ?_
  refine lv_iconst (v := 1) X.hx X.hb dX11_restore_7 (by decide) ?_
  obtain ⟨r_1, hc_2, hf⟩ := bd_i hf
  refine r_cs0 (As := [.int p1, .int 0, .int 1]) (rest := []) X sm_X11_189 (c_X11_isIn l G N p1 0 1 hc_2) hP hD hS hA rfl hl.1 (lv_room (Nat.le_of_ble_eq_true rfl)) ⟨Nat.le_of_ble_eq_true rfl, Nat.le_of_ble_eq_true rfl⟩ ⟨Nat.zero_le _, Nat.zero_le _⟩ dX11_restore_8 (fun H locs hP hD hS => ?_)
  refine lv_if_eq (tgt := 23) X.hx X.hb dX11_restore_11 (by decide) (fun hc_3 => ?_) (fun hc_3 => ?_)
  · replace hf := if_t hf hc_3
    refine lv_iconst (v := 0) X.hx X.hb dX11_restore_23 (by decide) ?_
    cases hf
    subst hQ
    exact r_zret X hP hD hS (by decide) dX11_restore_24
  · replace hf := if_f hf hc_3
    refine lv_aload_n X.hx X.hb dX11_restore_14 rfl (lv_at hl 0 rfl) ?_
    refine gf_X11_93 X hP 0 rfl (v := .ref (uY 52)) rfl dX11_restore_15 ?_
    refine lv_iload_n X.hx X.hb dX11_restore_18 rfl (lv_at hl 1 rfl) ?_
    obtain ⟨hi_4, hf⟩ := ck_i hf
    refine r_zald X hP 20 (f := (sY 51)) rfl hi_4 dX11_restore_19 ?_
    refine lv_if_ne (tgt := 25) X.hx X.hb dX11_restore_20 (by decide) (fun hc_5 => ?_) (fun hc_5 => ?_)
    · replace hf := if_f hf hc_5
      refine lv_iconst (v := 0) X.hx X.hb dX11_restore_25 (by decide) ?_
      refine lv_istore_n (lv' := [(2, .int 0), (0, .ref (uY 0)), (1, .int p1)]) X.hx X.hb dX11_restore_26 rfl hl (by decide) rfl (fun ls hl => ?_)
      obtain ⟨K_6, eK_8, hf⟩ := jn_i hf
      have hj_7 : ∀ (sY_9 : Nat → Nat → Int32) (H : Heap) (locs : List Loc) (ls : Array Slot), K_6 sY_9 = some (r, iY', sY', tY') → va_P G.1 vwCl (gY G uY (va_up iY 0 0) sY_9 tY jY) H → va_D A (gY G uY (va_up iY 0 0) sY_9 tY jY) → va_S A s.heap H locs → lv_has ls 3 [(0, .ref (uY 0)), (1, .int p1)] → W p l e (RM 2) s m args below meth c H locs 0 0 QQ (F0 m 58 ls []) := by
        intro sY_9 H locs ls hf hP hD hS hl
        rw [eK_8] at hf
        try dsimp only at hf
        refine lv_iconst (v := 0) X.hx X.hb dX11_restore_58 (by decide) ?_
        refine lv_istore_n (lv' := [(2, .int 0), (0, .ref (uY 0)), (1, .int p1)]) X.hx X.hb dX11_restore_59 rfl hl (by decide) rfl (fun ls hl => ?_)
        obtain ⟨K_10, eK_12, hf⟩ := jn_i hf
        have hj_11 : ∀ (tY_13 : Nat → Nat → Int64) (H : Heap) (locs : List Loc) (ls : Array Slot), K_10 tY_13 = some (r, iY', sY', tY') → va_P G.1 vwCl (gY G uY (va_up iY 0 0) sY_9 tY_13 jY) H → va_D A (gY G uY (va_up iY 0 0) sY_9 tY_13 jY) → va_S A s.heap H locs → lv_has ls 3 [(0, .ref (uY 0))] → W p l e (RM 2) s m args below meth c H locs 0 0 QQ (F0 m 89 ls []) := by
          intro tY_13 H locs ls hf hP hD hS hl
          rw [eK_12] at hf
          try dsimp only at hf
          refine lv_aload_n X.hx X.hb dX11_restore_89 rfl (lv_at hl 0 rfl) ?_
          refine lv_iconst (v := 0) X.hx X.hb dX11_restore_90 (by decide) ?_
          refine pf_X11_262 X hP hD hS 0 rfl rfl rfl (Nat.le_of_ble_eq_true rfl) (wo := (gY G uY (va_up (va_up iY 0 0) 23 0) sY_9 tY_13 jY)) rfl dX11_restore_91 (fun H locs hP hD hS => ?_)
          refine lv_iconst (v := 1) X.hx X.hb dX11_restore_94 (by decide) ?_
          cases hf
          subst hQ
          exact r_zret X hP hD hS (by decide) dX11_restore_95
        have hlo_14 : ∀ (k : Nat) (tY_15 : Nat → Nat → Int64) (v2_16 : Int32) (H : Heap) (locs : List Loc) (ls : Array Slot), f_X11_restore_60 N (va_up iY 0 0) sY_9 jY p1 K_10 k tY_15 v2_16 = some (r, iY', sY', tY') → va_P G.1 vwCl (gY G uY (va_up iY 0 0) sY_9 tY_15 jY) H → va_D A (gY G uY (va_up iY 0 0) sY_9 tY_15 jY) → va_S A s.heap H locs → lv_has ls 3 [(0, .ref (uY 0)), (1, .int p1), (2, .int v2_16)] → W p l e (RM 2) s m args below meth c H locs 0 0 QQ (F0 m 60 ls []) := by
          intro k
          induction k with
          | zero => intro tY_15 v2_16 H locs ls hf; exact absurd hf (by intro q; cases q)
          | succ k ih =>
            intro tY_15 v2_16 H locs ls hf hP hD hS hl
            unfold f_X11_restore_60 at hf
            refine lv_iload_n X.hx X.hb dX11_restore_60 rfl (lv_at hl 2 rfl) ?_
            refine lv_bipush (v := 12) X.hx X.hb dX11_restore_61 (by decide) ?_
            refine lv_icmp_ge (tgt := 89) X.hx X.hb dX11_restore_63 (by decide) (fun hc_17 => ?_) (fun hc_17 => ?_)
            · replace hf := if_t hf hc_17
              exact hj_11 _ _ _ _ hf hP hD hS (lv_sub hl [0] rfl)
            · replace hf := if_f hf hc_17
              refine lv_aload_n X.hx X.hb dX11_restore_66 rfl (lv_at hl 0 rfl) ?_
              refine gf_X11_43 X hP 0 rfl (v := .ref (uY 10)) rfl dX11_restore_67 ?_
              refine lv_iload_n X.hx X.hb dX11_restore_70 rfl (lv_at hl 2 rfl) ?_
              refine lv_aload_n X.hx X.hb dX11_restore_71 rfl (lv_at hl 0 rfl) ?_
              refine gf_X11_90 X hP 0 rfl (v := .ref (uY 51)) rfl dX11_restore_72 ?_
              refine lv_bipush (v := 12) X.hx X.hb dX11_restore_75 (by decide) ?_
              refine lv_iload_n X.hx X.hb dX11_restore_77 rfl (lv_at hl 1 rfl) ?_
              refine lv_imul X.hx X.hb dX11_restore_78 ?_
              refine lv_iload_n X.hx X.hb dX11_restore_79 rfl (lv_at hl 2 rfl) ?_
              refine lv_iadd X.hx X.hb dX11_restore_80 ?_
              obtain ⟨hi_18, hf⟩ := ck_i hf
              refine r_lald X hP 19 (f := (tY_15 50)) rfl hi_18 dX11_restore_81 ?_
              obtain ⟨hi_19, hf⟩ := ck_i hf
              obtain ⟨g_20, eg_20, hf⟩ := nv_i hf
              refine r_last X hP hD hS 5 (f := (tY_15 9)) rfl hi_19 (wo := (gY G uY (va_up iY 0 0) sY_9 (va_up tY_15 9 g_20) jY)) (by subst eg_20; rfl) dX11_restore_82 (fun H locs hP hD hS => ?_)
              refine lv_iinc (v := (v2_16 + 1)) (lv' := [(2, .int (v2_16 + 1)), (0, .ref (uY 0)), (1, .int p1)]) X.hx X.hb dX11_restore_83 hl (k := 2) rfl rfl (by decide) rfl (fun ls hl => ?_)
              refine lv_goto (tgt := 60) X.hx X.hb dX11_restore_86 (by decide) ?_
              exact ih _ _ _ _ _ hf hP hD hS (lv_sub hl [1, 2, 0] rfl)
        exact hlo_14 N _ _ _ _ _ hf hP hD hS (lv_sub hl [1, 2, 0] rfl)
      have hlo_25 : ∀ (k : Nat) (sY_26 : Nat → Nat → Int32) (v2_27 : Int32) (H : Heap) (locs : List Loc) (ls : Array Slot), f_X11_restore_27 N (va_up iY 0 0) tY jY p1 K_6 k sY_26 v2_27 = some (r, iY', sY', tY') → va_P G.1 vwCl (gY G uY (va_up iY 0 0) sY_26 tY jY) H → va_D A (gY G uY (va_up iY 0 0) sY_26 tY jY) → va_S A s.heap H locs → lv_has ls 3 [(0, .ref (uY 0)), (1, .int p1), (2, .int v2_27)] → W p l e (RM 2) s m args below meth c H locs 0 0 QQ (F0 m 27 ls []) := by
        intro k
        induction k with
        | zero => intro sY_26 v2_27 H locs ls hf; exact absurd hf (by intro q; cases q)
        | succ k ih =>
          intro sY_26 v2_27 H locs ls hf hP hD hS hl
          unfold f_X11_restore_27 at hf
          refine lv_iload_n X.hx X.hb dX11_restore_27 rfl (lv_at hl 2 rfl) ?_
          refine lv_sipush (v := 457) X.hx X.hb dX11_restore_28 (by decide) ?_
          refine lv_icmp_ge (tgt := 58) X.hx X.hb dX11_restore_31 (by decide) (fun hc_28 => ?_) (fun hc_28 => ?_)
          · replace hf := if_t hf hc_28
            exact hj_7 _ _ _ _ hf hP hD hS (lv_sub hl [0, 1] rfl)
          · replace hf := if_f hf hc_28
            refine lv_aload_n X.hx X.hb dX11_restore_34 rfl (lv_at hl 0 rfl) ?_
            refine gf_X11_33 X hP 0 rfl (v := .ref (uY 7)) rfl dX11_restore_35 ?_
            refine lv_iload_n X.hx X.hb dX11_restore_38 rfl (lv_at hl 2 rfl) ?_
            refine lv_aload_n X.hx X.hb dX11_restore_39 rfl (lv_at hl 0 rfl) ?_
            refine gf_X11_87 X hP 0 rfl (v := .ref (uY 50)) rfl dX11_restore_40 ?_
            refine lv_sipush (v := 457) X.hx X.hb dX11_restore_43 (by decide) ?_
            refine lv_iload_n X.hx X.hb dX11_restore_46 rfl (lv_at hl 1 rfl) ?_
            refine lv_imul X.hx X.hb dX11_restore_47 ?_
            refine lv_iload_n X.hx X.hb dX11_restore_48 rfl (lv_at hl 2 rfl) ?_
            refine lv_iadd X.hx X.hb dX11_restore_49 ?_
            obtain ⟨hi_29, hf⟩ := ck_i hf
            refine r_iald X hP 18 (f := (sY_26 49)) rfl hi_29 dX11_restore_50 ?_
            obtain ⟨hi_30, hf⟩ := ck_i hf
            obtain ⟨g_31, eg_31, hf⟩ := nv_i hf
            refine r_iast X hP hD hS 2 (f := (sY_26 6)) rfl hi_30 (wo := (gY G uY (va_up iY 0 0) (va_up sY_26 6 g_31) tY jY)) (by subst eg_31; rfl) dX11_restore_51 (fun H locs hP hD hS => ?_)
            refine lv_iinc (v := (v2_27 + 1)) (lv' := [(2, .int (v2_27 + 1)), (0, .ref (uY 0)), (1, .int p1)]) X.hx X.hb dX11_restore_52 hl (k := 2) rfl rfl (by decide) rfl (fun ls hl => ?_)
            refine lv_goto (tgt := 27) X.hx X.hb dX11_restore_55 (by decide) ?_
            exact ih _ _ _ _ _ hf hP hD hS (lv_sub hl [1, 2, 0] rfl)
      exact hlo_25 N _ _ _ _ _ hf hP hD hS (lv_sub hl [1, 2, 0] rfl)
    · replace hf := if_t hf hc_5
      refine lv_iconst (v := 0) X.hx X.hb dX11_restore_23 (by decide) ?_
      cases hf
      subst hQ
      exact r_zret X hP hD hS (by decide) dX11_restore_24

def f_X11_count (N : Nat) (iY : Nat → Int32) (sY : Nat → Nat → Int32) (tY : Nat → Nat → Int64) (jY : Nat → Int64) (p1 : Int32) : Option (Int32 × (Nat → Int32)) :=
  (if p1 = 5 then some ((iY 2), (va_up iY 0 0)) else bd (f_X11_isIn N p1 0 4) (fun r_2 => (if r_2 = 0 then some ((-1), (va_up iY 0 0)) else ck p1 457 (some (((sY 6) (ix p1)), (va_up iY 0 0))))))
set_option maxHeartbeats 4000000 in
set_option maxRecDepth 100000 in
theorem c_X11_count (l : Launch) (G : GT) (N : Nat) (uY : Nat → Nat) (iY : Nat → Int32) (sY : Nat → Nat → Int32) (tY : Nat → Nat → Int64) (jY : Nat → Int64) (p1 : Int32) {r : Int32} {iY' : Nat → Int32} (hf : f_X11_count N iY sY tY jY p1 = some (r, iY')) : CI l G yX11_count cX11_count 2 .int 2 [.ref (uY 0), .int p1] (gY G uY iY sY tY jY) r (gY G uY iY' sY tY jY) := by
  refine CI.of (by decide) (Nat.le_of_ble_eq_true rfl) ?_
  intro p e s m args below meth c A X hA hP hD hS ls hl
  have hl : lv_has ls 2 [(0, .ref (uY 0)), (1, .int p1)] := hl
  generalize hQ : MQ below (QI G A r (gY G uY iY' sY tY jY)) args s 0 0 A = QQ
  unfold f_X11_count at hf
  refine lv_aload_n X.hx X.hb dX11_count_0 rfl (lv_at hl 0 rfl) ?_
  refine lv_iconst (v := 0) X.hx X.hb dX11_count_1 (by decide) ?_
  refine pf_X11_1 X hP hD hS 0 rfl rfl rfl (Nat.le_of_ble_eq_true rfl) (wo := (gY G uY (va_up iY 0 0) sY tY jY)) rfl dX11_count_2 (fun H locs hP hD hS => ?_)
  refine lv_iload_n X.hx X.hb dX11_count_5 rfl (lv_at hl 1 rfl) ?_
  refine lv_iconst (v := 5) X.hx X.hb dX11_count_6 (by decide) ?_
  refine lv_icmp_ne (tgt := 17) X.hx X.hb dX11_count_7 (by decide) (fun hc_1 => ?_) (fun hc_1 => ?_)
  · replace hf := if_f hf hc_1
    refine lv_iload_n X.hx X.hb dX11_count_17 rfl (lv_at hl 1 rfl) ?_
    refine lv_iconst (v := 0) X.hx X.hb dX11_count_18 (by decide) ?_
    refine lv_iconst (v := 4) X.hx X.hb dX11_count_19 (by decide) ?_
    obtain ⟨r_2, hc_3, hf⟩ := bd_i hf
    refine r_cs0 (As := [.int p1, .int 0, .int 4]) (rest := []) X sm_X11_189 (c_X11_isIn l G N p1 0 4 hc_3) hP hD hS hA rfl hl.1 (lv_room (Nat.le_of_ble_eq_true rfl)) ⟨Nat.le_of_ble_eq_true rfl, Nat.le_of_ble_eq_true rfl⟩ ⟨Nat.zero_le _, Nat.zero_le _⟩ dX11_count_20 (fun H locs hP hD hS => ?_)
    refine lv_if_eq (tgt := 35) X.hx X.hb dX11_count_23 (by decide) (fun hc_4 => ?_) (fun hc_4 => ?_)
    · replace hf := if_t hf hc_4
      refine lv_iconst (v := (-1)) X.hx X.hb dX11_count_35 (by decide) ?_
      cases hf
      subst hQ
      exact r_iret X hP hD hS dX11_count_36
    · replace hf := if_f hf hc_4
      refine lv_aload_n X.hx X.hb dX11_count_26 rfl (lv_at hl 0 rfl) ?_
      refine gf_X11_33 X hP 0 rfl (v := .ref (uY 7)) rfl dX11_count_27 ?_
      refine lv_iload_n X.hx X.hb dX11_count_30 rfl (lv_at hl 1 rfl) ?_
      obtain ⟨hi_5, hf⟩ := ck_i hf
      refine r_iald X hP 2 (f := (sY 6)) rfl hi_5 dX11_count_31 ?_
      refine lv_goto (tgt := 36) X.hx X.hb dX11_count_32 (by decide) ?_
      cases hf
      subst hQ
      exact r_iret X hP hD hS dX11_count_36
  · replace hf := if_t hf hc_1
    refine lv_aload_n X.hx X.hb dX11_count_10 rfl (lv_at hl 0 rfl) ?_
    refine gf_X11_7 X hP 0 rfl (v := .int (iY 2)) rfl dX11_count_11 ?_
    refine lv_goto (tgt := 36) X.hx X.hb dX11_count_14 (by decide) ?_
    cases hf
    subst hQ
    exact r_iret X hP hD hS dX11_count_36

