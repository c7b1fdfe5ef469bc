def f_X11_tries_2 (N : Nat) (iY : Nat → Int32) (tY : Nat → Nat → Int64) (jY : Nat → Int64) : Nat → (Nat → Nat → Int32) → (Int32) → Option ((Nat → Nat → Int32))
  | 0, _, _ => none
  | k + 1, sY, v1 => (if (145 : Int32) ≤ v1 then some sY else ck ((131 : Int32) + v1) 457 (ck v1 145 (nv (upd (sY 22) (ix v1) ((sY 6) (ix ((131 : Int32) + v1)))) (fun g_11 => f_X11_tries_2 N iY tY jY k (va_up sY 22 g_11) (v1 + 1)))))
def f_X11_tries (N : Nat) (iY : Nat → Int32) (sY : Nat → Nat → Int32) (tY : Nat → Nat → Int64) (jY : Nat → Int64) : Option ((Nat → Nat → Int32)) :=
  f_X11_tries_2 N iY tY jY N sY 0
set_option maxHeartbeats 4000000 in
set_option maxRecDepth 100000 in
theorem c_X11_tries (l : Launch) (G : GT) (N : Nat) (uY : Nat → Nat) (iY : Nat → Int32) (sY : Nat → Nat → Int32) (tY : Nat → Nat → Int64) (jY : Nat → Int64) {sY' : Nat → Nat → Int32} (hf : f_X11_tries N iY sY tY jY = some sY') : CV l G yX11_tries cX11_tries 2 1 [.ref (uY 0)] (gY G uY iY sY tY jY) (gY G uY iY sY' tY jY) := by
  refine CV.of (by decide) (Nat.le_of_ble_eq_true rfl) ?_
  intro p e s m args below meth c A X hA hP hD hS ls hl
  have hl : lv_has ls 2 [(0, .ref (uY 0))] := hl
  generalize hQ : MQ below (QV G A (gY G uY iY sY' tY jY)) args s 0 0 A = QQ
  unfold f_X11_tries at hf
  refine lv_iconst (v := 0) X.hx X.hb dX11_tries_0 (by decide) ?_
  refine lv_istore_n (lv' := [(1, .int 0), (0, .ref (uY 0))]) X.hx X.hb dX11_tries_1 rfl hl (by decide) rfl (fun ls hl => ?_)
  have hlo_1 : ∀ (k : Nat) (sY_2 : Nat → Nat → Int32) (v1_3 : Int32) (H : Heap) (locs : List Loc) (ls : Array Slot), f_X11_tries_2 N iY tY jY k sY_2 v1_3 = some sY' → va_P G.1 vwCl (gY G uY iY sY_2 tY jY) H → va_D A (gY G uY iY sY_2 tY jY) → va_S A s.heap H locs → lv_has ls 2 [(0, .ref (uY 0)), (1, .int v1_3)] → W p l e (RM 1) s m args below meth c H locs 0 0 QQ (F0 m 2 ls []) := by
    intro k
    induction k with
    | zero => intro sY_2 v1_3 H locs ls hf; exact absurd hf (by intro q; cases q)
    | succ k ih =>
      intro sY_2 v1_3 H locs ls hf hP hD hS hl
      unfold f_X11_tries_2 at hf
      refine lv_iload_n X.hx X.hb dX11_tries_2 rfl (lv_at hl 1 rfl) ?_
      refine lv_sipush (v := 145) X.hx X.hb dX11_tries_3 (by decide) ?_
      refine lv_icmp_ge (tgt := 31) X.hx X.hb dX11_tries_6 (by decide) (fun hc_4 => ?_) (fun hc_4 => ?_)
      · replace hf := if_t hf hc_4
        cases hf
        subst hQ
        exact r_vret X hP hD hS dX11_tries_31
      · replace hf := if_f hf hc_4
        refine lv_aload_n X.hx X.hb dX11_tries_9 rfl (lv_at hl 0 rfl) ?_
        refine gf_X11_53 X hP 0 rfl (v := .ref (uY 23)) rfl dX11_tries_10 ?_
        refine lv_iload_n X.hx X.hb dX11_tries_13 rfl (lv_at hl 1 rfl) ?_
        refine lv_aload_n X.hx X.hb dX11_tries_14 rfl (lv_at hl 0 rfl) ?_
        refine gf_X11_33 X hP 0 rfl (v := .ref (uY 7)) rfl dX11_tries_15 ?_
        refine lv_sipush (v := 131) X.hx X.hb dX11_tries_18 (by decide) ?_
        refine lv_iload_n X.hx X.hb dX11_tries_21 rfl (lv_at hl 1 rfl) ?_
        refine lv_iadd X.hx X.hb dX11_tries_22 ?_
        obtain ⟨hi_5, hf⟩ := ck_i hf
        refine r_iald X hP 2 (f := (sY_2 6)) rfl hi_5 dX11_tries_23 ?_
        obtain ⟨hi_6, hf⟩ := ck_i hf
        obtain ⟨g_7, eg_7, hf⟩ := nv_i hf
        refine r_iast X hP hD hS 8 (f := (sY_2 22)) rfl hi_6 (wo := (gY G uY iY (va_up sY_2 22 g_7) tY jY)) (by subst eg_7; rfl) dX11_tries_24 (fun H locs hP hD hS => ?_)
        refine lv_iinc (v := (v1_3 + 1)) (lv' := [(1, .int (v1_3 + 1)), (0, .ref (uY 0))]) X.hx X.hb dX11_tries_25 hl (k := 1) rfl rfl (by decide) rfl (fun ls hl => ?_)
        refine lv_goto (tgt := 2) X.hx X.hb dX11_tries_28 (by decide) ?_
        exact ih _ _ _ _ _ hf hP hD hS (lv_sub hl [1, 0] rfl)
  exact hlo_1 N _ _ _ _ _ hf hP hD hS (lv_sub hl [1, 0] rfl)

def f_X11_back_2 (N : Nat) (iY : Nat → Int32) (tY : Nat → Nat → Int64) (jY : Nat → Int64) : Nat → (Nat → Nat → Int32) → (Int32) → Option ((Nat → Nat → Int32))
  | 0, _, _ => none
  | k + 1, sY, v1 => (if (145 : Int32) ≤ v1 then some sY else ck v1 145 (ck ((131 : Int32) + v1) 457 (nv (upd (sY 6) (ix ((131 : Int32) + v1)) ((sY 22) (ix v1))) (fun g_11 => f_X11_back_2 N iY tY jY k (va_up sY 6 g_11) (v1 + 1)))))
def f_X11_back (N : Nat) (iY : Nat → Int32) (sY : Nat → Nat → Int32) (tY : Nat → Nat → Int64) (jY : Nat → Int64) : Option ((Nat → Nat → Int32)) :=
  f_X11_back_2 N iY tY jY N sY 0
set_option maxHeartbeats 4000000 in
set_option maxRecDepth 100000 in
theorem c_X11_back (l : Launch) (G : GT) (N : Nat) (uY : Nat → Nat) (iY : Nat → Int32) (sY : Nat → Nat → Int32) (tY : Nat → Nat → Int64) (jY : Nat → Int64) {sY' : Nat → Nat → Int32} (hf : f_X11_back N iY sY tY jY = some sY') : CV l G yX11_back cX11_back 2 1 [.ref (uY 0)] (gY G uY iY sY tY jY) (gY G uY iY sY' tY jY) := by
  refine CV.of (by decide) (Nat.le_of_ble_eq_true rfl) ?_
  intro p e s m args below meth c A X hA hP hD hS ls hl
  have hl : lv_has ls 2 [(0, .ref (uY 0))] := hl
  generalize hQ : MQ below (QV G A (gY G uY iY sY' tY jY)) args s 0 0 A = QQ
  unfold f_X11_back at hf
  refine lv_iconst (v := 0) X.hx X.hb dX11_back_0 (by decide) ?_
  refine lv_istore_n (lv' := [(1, .int 0), (0, .ref (uY 0))]) X.hx X.hb dX11_back_1 rfl hl (by decide) rfl (fun ls hl => ?_)
  have hlo_1 : ∀ (k : Nat) (sY_2 : Nat → Nat → Int32) (v1_3 : Int32) (H : Heap) (locs : List Loc) (ls : Array Slot), f_X11_back_2 N iY tY jY k sY_2 v1_3 = some sY' → va_P G.1 vwCl (gY G uY iY sY_2 tY jY) H → va_D A (gY G uY iY sY_2 tY jY) → va_S A s.heap H locs → lv_has ls 2 [(0, .ref (uY 0)), (1, .int v1_3)] → W p l e (RM 1) s m args below meth c H locs 0 0 QQ (F0 m 2 ls []) := by
    intro k
    induction k with
    | zero => intro sY_2 v1_3 H locs ls hf; exact absurd hf (by intro q; cases q)
    | succ k ih =>
      intro sY_2 v1_3 H locs ls hf hP hD hS hl
      unfold f_X11_back_2 at hf
      refine lv_iload_n X.hx X.hb dX11_back_2 rfl (lv_at hl 1 rfl) ?_
      refine lv_sipush (v := 145) X.hx X.hb dX11_back_3 (by decide) ?_
      refine lv_icmp_ge (tgt := 31) X.hx X.hb dX11_back_6 (by decide) (fun hc_4 => ?_) (fun hc_4 => ?_)
      · replace hf := if_t hf hc_4
        cases hf
        subst hQ
        exact r_vret X hP hD hS dX11_back_31
      · replace hf := if_f hf hc_4
        refine lv_aload_n X.hx X.hb dX11_back_9 rfl (lv_at hl 0 rfl) ?_
        refine gf_X11_33 X hP 0 rfl (v := .ref (uY 7)) rfl dX11_back_10 ?_
        refine lv_sipush (v := 131) X.hx X.hb dX11_back_13 (by decide) ?_
        refine lv_iload_n X.hx X.hb dX11_back_16 rfl (lv_at hl 1 rfl) ?_
        refine lv_iadd X.hx X.hb dX11_back_17 ?_
        refine lv_aload_n X.hx X.hb dX11_back_18 rfl (lv_at hl 0 rfl) ?_
        refine gf_X11_53 X hP 0 rfl (v := .ref (uY 23)) rfl dX11_back_19 ?_
        refine lv_iload_n X.hx X.hb dX11_back_22 rfl (lv_at hl 1 rfl) ?_
        obtain ⟨hi_5, hf⟩ := ck_i hf
        refine r_iald X hP 8 (f := (sY_2 22)) rfl hi_5 dX11_back_23 ?_
        obtain ⟨hi_6, hf⟩ := ck_i hf
        obtain ⟨g_7, eg_7, hf⟩ := nv_i hf
        refine r_iast X hP hD hS 2 (f := (sY_2 6)) rfl hi_6 (wo := (gY G uY iY (va_up sY_2 6 g_7) tY jY)) (by subst eg_7; rfl) dX11_back_24 (fun H locs hP hD hS => ?_)
        refine lv_iinc (v := (v1_3 + 1)) (lv' := [(1, .int (v1_3 + 1)), (0, .ref (uY 0))]) X.hx X.hb dX11_back_25 hl (k := 1) rfl rfl (by decide) rfl (fun ls hl => ?_)
        refine lv_goto (tgt := 2) X.hx X.hb dX11_back_28 (by decide) ?_
        exact ih _ _ _ _ _ hf hP hD hS (lv_sub hl [1, 0] rfl)
  exact hlo_1 N _ _ _ _ _ hf hP hD hS (lv_sub hl [1, 0] rfl)

def f_X11_finds_49 (N : Nat) (iY : Nat → Int32) (tY : Nat → Nat → Int64) (jY : Nat → Int64) (v2 : Int32) (K_17 : ((Int32) × (Nat → Nat → Int32)) → Option (Int32 × (Nat → Nat → Int32))) (K_7 : ((Nat → Nat → Int32)) → Option (Int32 × (Nat → Nat → Int32))) : Nat → (Nat → Nat → Int32) → (Int32) → (Int32) → Option (Int32 × (Nat → Nat → Int32))
  | 0, _, _, _ => none
  | k + 1, sY, v1, v3 => (if (16 : Int32) ≤ v3 then K_17 (v1, sY) else ck v3 16 (jn (fun (z : (Int32) × (Nat → Nat → Int32)) => match z with | (x1_47, sY_48) => f_X11_finds_49 N iY tY jY v2 K_17 K_7 k sY_48 x1_47 (v3 + 1)) (fun K_44 => (if (0 : Int32) ≤ ((sY 25) (ix v3)) then K_44 (v1, sY) else ck v2 16 (ck (((16 : Int32) * ((sY 26) (ix v2))) + v3) 256 ((if ((sY 24) (ix (((16 : Int32) * ((sY 26) (ix v2))) + v3))) = 0 then K_44 (v1, sY) else ck v2 16 (ck v3 16 (nv (upd (sY 25) (ix v3) ((sY 26) (ix v2))) (fun g_55 => ck v1 16 (nv (upd (sY 26) (ix v1) v3) (fun g_57 => K_44 ((v1 + 1), (va_up (va_up sY 25 g_55) 26 g_57))))))))))))))
def f_X11_finds_42 (N : Nat) (iY : Nat → Int32) (tY : Nat → Nat → Int64) (jY : Nat → Int64) (K_7 : ((Nat → Nat → Int32)) → Option (Int32 × (Nat → Nat → Int32))) : Nat → (Nat → Nat → Int32) → (Int32) → (Int32) → Option (Int32 × (Nat → Nat → Int32))
  | 0, _, _, _ => none
  | k + 1, sY, v1, v2 => (if v1 ≤ v2 then K_7 sY else jn (fun (z : (Int32) × (Nat → Nat → Int32)) => match z with | (x1_62, sY_63) => f_X11_finds_42 N iY tY jY K_7 k sY_63 x1_62 (v2 + 1)) (fun K_59 => f_X11_finds_49 N iY tY jY v2 K_59 K_7 N sY v1 0))
def f_X11_finds_2 (N : Nat) (iY : Nat → Int32) (tY : Nat → Nat → Int64) (jY : Nat → Int64) (K_1 : ((Nat → Nat → Int32)) → Option (Int32 × (Nat → Nat → Int32))) : Nat → (Nat → Nat → Int32) → (Int32) → Option (Int32 × (Nat → Nat → Int32))
  | 0, _, _ => none
  | k + 1, sY, v1 => (if (16 : Int32) ≤ v1 then K_1 sY else ck v1 16 (nv (upd (sY 25) (ix v1) (-1)) (fun g_108 => f_X11_finds_2 N iY tY jY K_1 k (va_up sY 25 g_108) (v1 + 1))))
def f_X11_finds (N : Nat) (iY : Nat → Int32) (sY : Nat → Nat → Int32) (tY : Nat → Nat → Int64) (jY : Nat → Int64) : Option (Int32 × (Nat → Nat → Int32)) :=
  jn (fun (z : (Nat → Nat → Int32)) => match z with | sY_4 => nv (upd (sY_4 25) 14 14) (fun g_5 => nv (upd (sY_4 26) 0 14) (fun g_6 => jn (fun (z : (Nat → Nat → Int32)) => match z with | sY_10 => (if ((sY_10 25) 15) < 0 then some (0, sY_10) else some (1, sY_10))) (fun K_7 => f_X11_finds_42 N iY tY jY K_7 N (va_up (va_up sY_4 25 g_5) 26 g_6) 1 0)))) (fun K_1 => f_X11_finds_2 N iY tY jY K_1 N sY 0)
set_option maxHeartbeats 4000000 in
set_option maxRecDepth 100000 in
theorem c_X11_finds (l : Launch) (G : GT) (N : Nat) (uY : Nat → Nat) (iY : Nat → Int32) (sY : Nat → Nat → Int32) (tY : Nat → Nat → Int64) (jY : Nat → Int64) {r : Int32} {sY' : Nat → Nat → Int32} (hf : f_X11_finds N iY sY tY jY = some (r, sY')) : CI l G yX11_finds cX11_finds 4 .boolean 1 [.ref (uY 0)] (gY G uY iY sY tY jY) r (gY G uY iY sY' tY jY) := by
  refine CI.of (by decide) (Nat.le_of_ble_eq_true rfl) ?_
  intro p e s m args below meth c A X hA hP hD hS ls hl
  have hl : lv_has ls 4 [(0, .ref (uY 0))] := hl
  generalize hQ : MQ below (QI G A r (gY G uY iY sY' tY jY)) args s 0 0 A = QQ
  unfold f_X11_finds at hf
  refine lv_iconst (v := 0) X.hx X.hb dX11_finds_0 (by decide) ?_
  refine lv_istore_n (lv' := [(1, .int 0), (0, .ref (uY 0))]) X.hx X.hb dX11_finds_1 rfl hl (by decide) rfl (fun ls hl => ?_)
  obtain ⟨K_1, eK_3, hf⟩ := jn_i hf
  have hj_2 : ∀ (sY_4 : Nat → Nat → Int32) (H : Heap) (locs : List Loc) (ls : Array Slot), K_1 sY_4 = some (r, sY') → va_P G.1 vwCl (gY G uY iY sY_4 tY jY) H → va_D A (gY G uY iY sY_4 tY jY) → va_S A s.heap H locs → lv_has ls 4 [(0, .ref (uY 0))] → W p l e (RM 1) s m args below meth c H locs 0 0 QQ (F0 m 21 ls []) := by
    intro sY_4 H locs ls hf hP hD hS hl
    rw [eK_3] at hf
    try dsimp only at hf
    refine lv_aload_n X.hx X.hb dX11_finds_21 rfl (lv_at hl 0 rfl) ?_
    refine gf_X11_59 X hP 0 rfl (v := .ref (uY 26)) rfl dX11_finds_22 ?_
    refine lv_bipush (v := 14) X.hx X.hb dX11_finds_25 (by decide) ?_
    refine lv_bipush (v := 14) X.hx X.hb dX11_finds_27 (by decide) ?_
    obtain ⟨g_5, eg_5, hf⟩ := nv_i hf
    refine r_iast X hP hD hS 10 (f := (sY_4 25)) rfl (vp_c rfl) (wo := (gY G uY iY (va_up sY_4 25 g_5) tY jY)) (by subst eg_5; rfl) dX11_finds_29 (fun H locs hP hD hS => ?_)
    refine lv_aload_n X.hx X.hb dX11_finds_30 rfl (lv_at hl 0 rfl) ?_
    refine gf_X11_62 X hP 0 rfl (v := .ref (uY 27)) rfl dX11_finds_31 ?_
    refine lv_iconst (v := 0) X.hx X.hb dX11_finds_34 (by decide) ?_
    refine lv_bipush (v := 14) X.hx X.hb dX11_finds_35 (by decide) ?_
    obtain ⟨g_6, eg_6, hf⟩ := nv_i hf
    refine r_iast X hP hD hS 11 (f := (sY_4 26)) rfl (vp_c rfl) (wo := (gY G uY iY (va_up (va_up sY_4 25 g_5) 26 g_6) tY jY)) (by subst eg_6; rfl) dX11_finds_37 (fun H locs hP hD hS => ?_)
    refine lv_iconst (v := 1) X.hx X.hb dX11_finds_38 (by decide) ?_
    refine lv_istore_n (lv' := [(1, .int 1), (0, .ref (uY 0))]) X.hx X.hb dX11_finds_39 rfl hl (by decide) rfl (fun ls hl => ?_)
    refine lv_iconst (v := 0) X.hx X.hb dX11_finds_40 (by decide) ?_
    refine lv_istore_n (lv' := [(2, .int 0), (1, .int 1), (0, .ref (uY 0))]) X.hx X.hb dX11_finds_41 rfl hl (by decide) rfl (fun ls hl => ?_)
    obtain ⟨K_7, eK_9, hf⟩ := jn_i hf
    have hj_8 : ∀ (sY_10 : Nat → Nat → Int32) (H : Heap) (locs : List Loc) (ls : Array Slot), K_7 sY_10 = some (r, sY') → va_P G.1 vwCl (gY G uY iY sY_10 tY jY) H → va_D A (gY G uY iY sY_10 tY jY) → va_S A s.heap H locs → lv_has ls 4 [(0, .ref (uY 0))] → W p l e (RM 1) s m args below meth c H locs 0 0 QQ (F0 m 120 ls []) := by
      intro sY_10 H locs ls hf hP hD hS hl
      rw [eK_9] at hf
      try dsimp only at hf
      refine lv_aload_n X.hx X.hb dX11_finds_120 rfl (lv_at hl 0 rfl) ?_
      refine gf_X11_59 X hP 0 rfl (v := .ref (uY 26)) rfl dX11_finds_121 ?_
      refine lv_bipush (v := 15) X.hx X.hb dX11_finds_124 (by decide) ?_
      refine r_iald X hP 10 (f := (sY_10 25)) rfl (vp_c rfl) dX11_finds_126 ?_
      refine W.eq (g2 := F0 m 127 ls [.int ((sY_10 25) 15)]) rfl ?_
      refine lv_if_lt (tgt := 134) X.hx X.hb dX11_finds_127 (by decide) (fun hc_11 => ?_) (fun hc_11 => ?_)
      · replace hf := if_t hf hc_11
        refine lv_iconst (v := 0) X.hx X.hb dX11_finds_134 (by decide) ?_
        cases hf
        subst hQ
        exact r_zret X hP hD hS (by decide) dX11_finds_135
      · replace hf := if_f hf hc_11
        refine lv_iconst (v := 1) X.hx X.hb dX11_finds_130 (by decide) ?_
        refine lv_goto (tgt := 135) X.hx X.hb dX11_finds_131 (by decide) ?_
        cases hf
        subst hQ
        exact r_zret X hP hD hS (by decide) dX11_finds_135
    have hlo_12 : ∀ (k : Nat) (sY_13 : Nat → Nat → Int32) (v1_14 : Int32) (v2_15 : Int32) (H : Heap) (locs : List Loc) (ls : Array Slot), f_X11_finds_42 N iY tY jY K_7 k sY_13 v1_14 v2_15 = some (r, sY') → va_P G.1 vwCl (gY G uY iY sY_13 tY jY) H → va_D A (gY G uY iY sY_13 tY jY) → va_S A s.heap H locs → lv_has ls 4 [(0, .ref (uY 0)), (1, .int v1_14), (2, .int v2_15)] → W p l e (RM 1) s m args below meth c H locs 0 0 QQ (F0 m 42 ls []) := by
      intro k
      induction k with
      | zero => intro sY_13 v1_14 v2_15 H locs ls hf; exact absurd hf (by intro q; cases q)
      | succ k ih =>
        intro sY_13 v1_14 v2_15 H locs ls hf hP hD hS hl
        unfold f_X11_finds_42 at hf
        refine lv_iload_n X.hx X.hb dX11_finds_42 rfl (lv_at hl 2 rfl) ?_
        refine lv_iload_n X.hx X.hb dX11_finds_43 rfl (lv_at hl 1 rfl) ?_
        refine lv_icmp_ge (tgt := 120) X.hx X.hb dX11_finds_44 (by decide) (fun hc_16 => ?_) (fun hc_16 => ?_)
        · replace hf := if_t hf hc_16
          exact hj_8 _ _ _ _ hf hP hD hS (lv_sub hl [0] rfl)
        · replace hf := if_f hf hc_16
          refine lv_iconst (v := 0) X.hx X.hb dX11_finds_47 (by decide) ?_
          refine lv_istore_n (lv' := [(3, .int 0), (0, .ref (uY 0)), (1, .int v1_14), (2, .int v2_15)]) X.hx X.hb dX11_finds_48 rfl hl (by decide) rfl (fun ls hl => ?_)
          obtain ⟨K_17, eK_19, hf⟩ := jn_i hf
          have hj_18 : ∀ (x1_20 : Int32) (sY_21 : Nat → Nat → Int32) (H : Heap) (locs : List Loc) (ls : Array Slot), K_17 (x1_20, sY_21) = some (r, sY') → va_P G.1 vwCl (gY G uY iY sY_21 tY jY) H → va_D A (gY G uY iY sY_21 tY jY) → va_S A s.heap H locs → lv_has ls 4 [(0, .ref (uY 0)), (1, .int x1_20), (2, .int v2_15)] → W p l e (RM 1) s m args below meth c H locs 0 0 QQ (F0 m 114 ls []) := by
            intro x1_20 sY_21 H locs ls hf hP hD hS hl
            rw [eK_19] at hf
            try dsimp only at hf
            refine lv_iinc (v := (v2_15 + 1)) (lv' := [(2, .int (v2_15 + 1)), (0, .ref (uY 0)), (1, .int x1_20)]) X.hx X.hb dX11_finds_114 hl (k := 2) rfl rfl (by decide) rfl (fun ls hl => ?_)
            refine lv_goto (tgt := 42) X.hx X.hb dX11_finds_117 (by decide) ?_
            exact ih _ _ _ _ _ _ hf hP hD hS (lv_sub hl [1, 2, 0] rfl)
          have hlo_22 : ∀ (k : Nat) (sY_23 : Nat → Nat → Int32) (v1_24 : Int32) (v3_25 : Int32) (H : Heap) (locs : List Loc) (ls : Array Slot), f_X11_finds_49 N iY tY jY v2_15 K_17 K_7 k sY_23 v1_24 v3_25 = some (r, sY') → va_P G.1 vwCl (gY G uY iY sY_23 tY jY) H → va_D A (gY G uY iY sY_23 tY jY) → va_S A s.heap H locs → lv_has ls 4 [(0, .ref (uY 0)), (1, .int v1_24), (2, .int v2_15), (3, .int v3_25)] → W p l e (RM 1) s m args below meth c H locs 0 0 QQ (F0 m 49 ls []) := by
            intro k
            induction k with
            | zero => intro sY_23 v1_24 v3_25 H locs ls hf; exact absurd hf (by intro q; cases q)
            | succ k ih =>
              intro sY_23 v1_24 v3_25 H locs ls hf hP hD hS hl
              unfold f_X11_finds_49 at hf
              refine lv_iload_n X.hx X.hb dX11_finds_49 rfl (lv_at hl 3 rfl) ?_
              refine lv_bipush (v := 16) X.hx X.hb dX11_finds_50 (by decide) ?_
              refine lv_icmp_ge (tgt := 114) X.hx X.hb dX11_finds_52 (by decide) (fun hc_26 => ?_) (fun hc_26 => ?_)
              · replace hf := if_t hf hc_26
                exact hj_18 _ _ _ _ _ hf hP hD hS (lv_sub hl [0, 1, 2] rfl)
              · replace hf := if_f hf hc_26
                refine lv_aload_n X.hx X.hb dX11_finds_55 rfl (lv_at hl 0 rfl) ?_
                refine gf_X11_59 X hP 0 rfl (v := .ref (uY 26)) rfl dX11_finds_56 ?_
                refine lv_iload_n X.hx X.hb dX11_finds_59 rfl (lv_at hl 3 rfl) ?_
                obtain ⟨hi_27, hf⟩ := ck_i hf
                refine r_iald X hP 10 (f := (sY_23 25)) rfl hi_27 dX11_finds_60 ?_
                obtain ⟨K_28, eK_30, hf⟩ := jn_i hf
                have hj_29 : ∀ (x1_31 : Int32) (sY_32 : Nat → Nat → Int32) (H : Heap) (locs : List Loc) (ls : Array Slot), K_28 (x1_31, sY_32) = some (r, sY') → va_P G.1 vwCl (gY G uY iY sY_32 tY jY) H → va_D A (gY G uY iY sY_32 tY jY) → va_S A s.heap H locs → lv_has ls 4 [(0, .ref (uY 0)), (1, .int x1_31), (2, .int v2_15), (3, .int v3_25)] → W p l e (RM 1) s m args below meth c H locs 0 0 QQ (F0 m 108 ls []) := by
                  intro x1_31 sY_32 H locs ls hf hP hD hS hl
                  rw [eK_30] at hf
                  try dsimp only at hf
                  refine lv_iinc (v := (v3_25 + 1)) (lv' := [(3, .int (v3_25 + 1)), (0, .ref (uY 0)), (1, .int x1_31), (2, .int v2_15)]) X.hx X.hb dX11_finds_108 hl (k := 3) rfl rfl (by decide) rfl (fun ls hl => ?_)
                  refine lv_goto (tgt := 49) X.hx X.hb dX11_finds_111 (by decide) ?_
                  exact ih _ _ _ _ _ _ hf hP hD hS (lv_sub hl [1, 2, 3, 0] rfl)
                refine lv_if_ge (tgt := 108) X.hx X.hb dX11_finds_61 (by decide) (fun hc_33 => ?_) (fun hc_33 => ?_)
                · replace hf := if_t hf hc_33
                  exact hj_29 _ _ _ _ _ hf hP hD hS (lv_sub hl [0, 1, 2, 3] rfl)
                · replace hf := if_f hf hc_33
                  refine lv_aload_n X.hx X.hb dX11_finds_64 rfl (lv_at hl 0 rfl) ?_
                  refine gf_X11_56 X hP 0 rfl (v := .ref (uY 25)) rfl dX11_finds_65 ?_
                  refine lv_bipush (v := 16) X.hx X.hb dX11_finds_68 (by decide) ?_
                  refine lv_aload_n X.hx X.hb dX11_finds_70 rfl (lv_at hl 0 rfl) ?_
                  refine gf_X11_62 X hP 0 rfl (v := .ref (uY 27)) rfl dX11_finds_71 ?_
                  refine lv_iload_n X.hx X.hb dX11_finds_74 rfl (lv_at hl 2 rfl) ?_
                  obtain ⟨hi_34, hf⟩ := ck_i hf
                  refine r_iald X hP 11 (f := (sY_23 26)) rfl hi_34 dX11_finds_75 ?_
                  refine lv_imul X.hx X.hb dX11_finds_76 ?_
                  refine lv_iload_n X.hx X.hb dX11_finds_77 rfl (lv_at hl 3 rfl) ?_
                  refine lv_iadd X.hx X.hb dX11_finds_78 ?_
                  obtain ⟨hi_35, hf⟩ := ck_i hf
                  refine r_iald X hP 9 (f := (sY_23 24)) rfl hi_35 dX11_finds_79 ?_
                  refine lv_if_ne (tgt := 86) X.hx X.hb dX11_finds_80 (by decide) (fun hc_36 => ?_) (fun hc_36 => ?_)
                  · replace hf := if_f hf hc_36
                    refine lv_aload_n X.hx X.hb dX11_finds_86 rfl (lv_at hl 0 rfl) ?_
                    refine gf_X11_59 X hP 0 rfl (v := .ref (uY 26)) rfl dX11_finds_87 ?_
                    refine lv_iload_n X.hx X.hb dX11_finds_90 rfl (lv_at hl 3 rfl) ?_
                    refine lv_aload_n X.hx X.hb dX11_finds_91 rfl (lv_at hl 0 rfl) ?_
                    refine gf_X11_62 X hP 0 rfl (v := .ref (uY 27)) rfl dX11_finds_92 ?_
                    refine lv_iload_n X.hx X.hb dX11_finds_95 rfl (lv_at hl 2 rfl) ?_
                    obtain ⟨hi_37, hf⟩ := ck_i hf
                    refine r_iald X hP 11 (f := (sY_23 26)) rfl hi_37 dX11_finds_96 ?_
                    obtain ⟨hi_38, hf⟩ := ck_i hf
                    obtain ⟨g_39, eg_39, hf⟩ := nv_i hf
                    refine r_iast X hP hD hS 10 (f := (sY_23 25)) rfl hi_38 (wo := (gY G uY iY (va_up sY_23 25 g_39) tY jY)) (by subst eg_39; rfl) dX11_finds_97 (fun H locs hP hD hS => ?_)
                    refine lv_aload_n X.hx X.hb dX11_finds_98 rfl (lv_at hl 0 rfl) ?_
                    refine gf_X11_62 X hP 0 rfl (v := .ref (uY 27)) rfl dX11_finds_99 ?_
                    refine lv_iload_n X.hx X.hb dX11_finds_102 rfl (lv_at hl 1 rfl) ?_
                    refine lv_iload_n X.hx X.hb dX11_finds_103 rfl (lv_at hl 3 rfl) ?_
                    obtain ⟨hi_40, hf⟩ := ck_i hf
                    obtain ⟨g_41, eg_41, hf⟩ := nv_i hf
                    refine r_iast X hP hD hS 11 (f := (sY_23 26)) rfl hi_40 (wo := (gY G uY iY (va_up (va_up sY_23 25 g_39) 26 g_41) tY jY)) (by subst eg_41; rfl) dX11_finds_104 (fun H locs hP hD hS => ?_)
                    refine lv_iinc (v := (v1_24 + 1)) (lv' := [(1, .int (v1_24 + 1)), (0, .ref (uY 0)), (2, .int v2_15), (3, .int v3_25)]) X.hx X.hb dX11_finds_105 hl (k := 1) rfl rfl (by decide) rfl (fun ls hl => ?_)
                    exact hj_29 _ _ _ _ _ hf hP hD hS (lv_sub hl [1, 0, 2, 3] rfl)
                  · replace hf := if_t hf hc_36
                    refine lv_goto (tgt := 108) X.hx X.hb dX11_finds_83 (by decide) ?_
                    exact hj_29 _ _ _ _ _ hf hP hD hS (lv_sub hl [0, 1, 2, 3] rfl)
          exact hlo_22 N _ _ _ _ _ _ hf hP hD hS (lv_sub hl [1, 2, 3, 0] rfl)
    exact hlo_12 N _ _ _ _ _ _ hf hP hD hS (lv_sub hl [2, 1, 0] rfl)
  have hlo_100 : ∀ (k : Nat) (sY_101 : Nat → Nat → Int32) (v1_102 : Int32) (H : Heap) (locs : List Loc) (ls : Array Slot), f_X11_finds_2 N iY tY jY K_1 k sY_101 v1_102 = some (r, sY') → va_P G.1 vwCl (gY G uY iY sY_101 tY jY) H → va_D A (gY G uY iY sY_101 tY jY) → va_S A s.heap H locs → lv_has ls 4 [(0, .ref (uY 0)), (1, .int v1_102)] → W p l e (RM 1) s m args below meth c H locs 0 0 QQ (F0 m 2 ls []) := by
    intro k
    induction k with
    | zero => intro sY_101 v1_102 H locs ls hf; exact absurd hf (by intro q; cases q)
    | succ k ih =>
      intro sY_101 v1_102 H locs ls hf hP hD hS hl
      unfold f_X11_finds_2 at hf
      refine lv_iload_n X.hx X.hb dX11_finds_2 rfl (lv_at hl 1 rfl) ?_
      refine lv_bipush (v := 16) X.hx X.hb dX11_finds_3 (by decide) ?_
      refine lv_icmp_ge (tgt := 21) X.hx X.hb dX11_finds_5 (by decide) (fun hc_103 => ?_) (fun hc_103 => ?_)
      · replace hf := if_t hf hc_103
        exact hj_2 _ _ _ _ hf hP hD hS (lv_sub hl [0] rfl)
      · replace hf := if_f hf hc_103
        refine lv_aload_n X.hx X.hb dX11_finds_8 rfl (lv_at hl 0 rfl) ?_
        refine gf_X11_59 X hP 0 rfl (v := .ref (uY 26)) rfl dX11_finds_9 ?_
        refine lv_iload_n X.hx X.hb dX11_finds_12 rfl (lv_at hl 1 rfl) ?_
        refine lv_iconst (v := (-1)) X.hx X.hb dX11_finds_13 (by decide) ?_
        obtain ⟨hi_104, hf⟩ := ck_i hf
        obtain ⟨g_105, eg_105, hf⟩ := nv_i hf
        refine r_iast X hP hD hS 10 (f := (sY_101 25)) rfl hi_104 (wo := (gY G uY iY (va_up sY_101 25 g_105) tY jY)) (by subst eg_105; rfl) dX11_finds_14 (fun H locs hP hD hS => ?_)
        refine lv_iinc (v := (v1_102 + 1)) (lv' := [(1, .int (v1_102 + 1)), (0, .ref (uY 0))]) X.hx X.hb dX11_finds_15 hl (k := 1) rfl rfl (by decide) rfl (fun ls hl => ?_)
        refine lv_goto (tgt := 2) X.hx X.hb dX11_finds_18 (by decide) ?_
        exact ih _ _ _ _ _ hf hP hD hS (lv_sub hl [1, 0] rfl)
  exact hlo_100 N _ _ _ _ _ hf hP hD hS (lv_sub hl [1, 0] rfl)

def f_X11_dealsLeft (N : Nat) (iY : Nat → Int32) (sY : Nat → Nat → Int32) (tY : Nat → Nat → Int64) (jY : Nat → Int64) (p1 : Int32) (p2 : Int32) : Option (Int32) :=
  bd (f_X11_mayBy N iY sY tY jY p1) (fun r_1 => bd (f_X11_bitOf N r_1 p2) (fun r_3 => (if r_3 = 0 then some 0 else ck ((124 : Int32) + p1) 457 (bd (f_X11_bitOf N ((sY 6) (ix ((124 : Int32) + p1))) p2) (fun r_7 => (if r_7 = 0 then ck (((227 : Int32) + ((7 : Int32) * p1)) + p2) 457 (bd (f_X11_greater N 0 (((sY 6) 2) - ((sY 6) (ix (((227 : Int32) + ((7 : Int32) * p1)) + p2))))) (fun r_11 => some r_11)) else some 1000000))))))
set_option maxHeartbeats 4000000 in
set_option maxRecDepth 100000 in
theorem c_X11_dealsLeft (l : Launch) (G : GT) (N : Nat) (uY : Nat → Nat) (iY : Nat → Int32) (sY : Nat → Nat → Int32) (tY : Nat → Nat → Int64) (jY : Nat → Int64) (p1 : Int32) (p2 : Int32) {r : Int32} (hf : f_X11_dealsLeft N iY sY tY jY p1 p2 = some r) : CI l G yX11_dealsLeft cX11_dealsLeft 3 .int 3 [.ref (uY 0), .int p1, .int p2] (gY G uY iY sY tY jY) r (gY G uY iY sY tY jY) := by
  refine CI.of (by decide) (Nat.le_of_ble_eq_true rfl) ?_
  intro p e s m args below meth c A X hA hP hD hS ls hl
  have hl : lv_has ls 3 [(0, .ref (uY 0)), (1, .int p1), (2, .int p2)] := hl
  generalize hQ : MQ below (QI G A r (gY G uY iY sY tY jY)) args s 0 0 A = QQ
  unfold f_X11_dealsLeft at hf
  refine lv_aload_n X.hx X.hb dX11_dealsLeft_0 rfl (lv_at hl 0 rfl) ?_
  refine lv_iload_n X.hx X.hb dX11_dealsLeft_1 rfl (lv_at hl 1 rfl) ?_
  obtain ⟨r_1, hc_2, hf⟩ := bd_i hf
  refine r_wvi (As := [.int p1]) (rest := []) X sm_X11_278 (c_X11_mayBy l G N uY iY sY tY jY p1 hc_2) hP hD hS hA 0 rfl rfl rfl hl.1 (lv_room (Nat.le_of_ble_eq_true rfl)) ⟨Nat.le_of_ble_eq_true rfl, Nat.le_of_ble_eq_true rfl⟩ ⟨Nat.zero_le _, Nat.zero_le _⟩ dX11_dealsLeft_2 (fun H locs hP hD hS => ?_)
  refine lv_iload_n X.hx X.hb dX11_dealsLeft_5 rfl (lv_at hl 2 rfl) ?_
  obtain ⟨r_3, hc_4, hf⟩ := bd_i hf
  refine r_cs0 (As := [.int r_1, .int p2]) (rest := []) X sm_X11_214 (c_X11_bitOf l G N r_1 p2 hc_4) hP hD hS hA rfl hl.1 (lv_room (Nat.le_of_ble_eq_true rfl)) ⟨Nat.le_of_ble_eq_true rfl, Nat.le_of_ble_eq_true rfl⟩ ⟨Nat.zero_le _, Nat.zero_le _⟩ dX11_dealsLeft_6 (fun H locs hP hD hS => ?_)
  refine lv_if_ne (tgt := 16) X.hx X.hb dX11_dealsLeft_9 (by decide) (fun hc_5 => ?_) (fun hc_5 => ?_)
  · replace hf := if_f hf hc_5
    refine lv_aload_n X.hx X.hb dX11_dealsLeft_16 rfl (lv_at hl 0 rfl) ?_
    refine gf_X11_33 X hP 0 rfl (v := .ref (uY 7)) rfl dX11_dealsLeft_17 ?_
    refine lv_bipush (v := 124) X.hx X.hb dX11_dealsLeft_20 (by decide) ?_
    refine lv_iload_n X.hx X.hb dX11_dealsLeft_22 rfl (lv_at hl 1 rfl) ?_
    refine lv_iadd X.hx X.hb dX11_dealsLeft_23 ?_
    obtain ⟨hi_6, hf⟩ := ck_i hf
    refine r_iald X hP 2 (f := (sY 6)) rfl hi_6 dX11_dealsLeft_24 ?_
    refine lv_iload_n X.hx X.hb dX11_dealsLeft_25 rfl (lv_at hl 2 rfl) ?_
    obtain ⟨r_7, hc_8, hf⟩ := bd_i hf
    refine r_cs0 (As := [.int ((sY 6) (ix ((124 : Int32) + p1))), .int p2]) (rest := []) X sm_X11_214 (c_X11_bitOf l G N ((sY 6) (ix ((124 : Int32) + p1))) p2 hc_8) hP hD hS hA rfl hl.1 (lv_room (Nat.le_of_ble_eq_true rfl)) ⟨Nat.le_of_ble_eq_true rfl, Nat.le_of_ble_eq_true rfl⟩ ⟨Nat.zero_le _, Nat.zero_le _⟩ dX11_dealsLeft_26 (fun H locs hP hD hS => ?_)
    refine lv_if_eq (tgt := 38) X.hx X.hb dX11_dealsLeft_29 (by decide) (fun hc_9 => ?_) (fun hc_9 => ?_)
    · replace hf := if_t hf hc_9
      refine lv_iconst (v := 0) X.hx X.hb dX11_dealsLeft_38 (by decide) ?_
      refine lv_aload_n X.hx X.hb dX11_dealsLeft_39 rfl (lv_at hl 0 rfl) ?_
      refine gf_X11_33 X hP 0 rfl (v := .ref (uY 7)) rfl dX11_dealsLeft_40 ?_
      refine lv_iconst (v := 2) X.hx X.hb dX11_dealsLeft_43 (by decide) ?_
      refine r_iald X hP 2 (f := (sY 6)) rfl (vp_c rfl) dX11_dealsLeft_44 ?_
      refine W.eq (g2 := F0 m 45 ls [.int ((sY 6) 2), .int 0]) rfl ?_
      refine lv_aload_n X.hx X.hb dX11_dealsLeft_45 rfl (lv_at hl 0 rfl) ?_
      refine gf_X11_33 X hP 0 rfl (v := .ref (uY 7)) rfl dX11_dealsLeft_46 ?_
      refine lv_sipush (v := 227) X.hx X.hb dX11_dealsLeft_49 (by decide) ?_
      refine lv_bipush (v := 7) X.hx X.hb dX11_dealsLeft_52 (by decide) ?_
      refine lv_iload_n X.hx X.hb dX11_dealsLeft_54 rfl (lv_at hl 1 rfl) ?_
      refine lv_imul X.hx X.hb dX11_dealsLeft_55 ?_
      refine lv_iadd X.hx X.hb dX11_dealsLeft_56 ?_
      refine lv_iload_n X.hx X.hb dX11_dealsLeft_57 rfl (lv_at hl 2 rfl) ?_
      refine lv_iadd X.hx X.hb dX11_dealsLeft_58 ?_
      obtain ⟨hi_10, hf⟩ := ck_i hf
      refine r_iald X hP 2 (f := (sY 6)) rfl hi_10 dX11_dealsLeft_59 ?_
      refine lv_isub X.hx X.hb dX11_dealsLeft_60 ?_
      obtain ⟨r_11, hc_12, hf⟩ := bd_i hf
      refine r_cs0 (As := [.int 0, .int (((sY 6) 2) - ((sY 6) (ix (((227 : Int32) + ((7 : Int32) * p1)) + p2))))]) (rest := []) X sm_X11_336 (c_X11_greater l G N 0 (((sY 6) 2) - ((sY 6) (ix (((227 : Int32) + ((7 : Int32) * p1)) + p2)))) hc_12) hP hD hS hA rfl hl.1 (lv_room (Nat.le_of_ble_eq_true rfl)) ⟨Nat.le_of_ble_eq_true rfl, Nat.le_of_ble_eq_true rfl⟩ ⟨Nat.zero_le _, Nat.zero_le _⟩ dX11_dealsLeft_61 (fun H locs hP hD hS => ?_)
      cases hf
      subst hQ
      exact r_iret X hP hD hS dX11_dealsLeft_64
    · replace hf := if_f hf hc_9
      refine lv_ldcw (v := 1000000) X.hx X.hb X.hown (X.hts _ tw_1718) dX11_dealsLeft_32 ?_
      refine lv_goto (tgt := 64) X.hx X.hb dX11_dealsLeft_35 (by decide) ?_
      cases hf
      subst hQ
      exact r_iret X hP hD hS dX11_dealsLeft_64
  · replace hf := if_t hf hc_5
    refine lv_iconst (v := 0) X.hx X.hb dX11_dealsLeft_12 (by decide) ?_
    refine lv_goto (tgt := 64) X.hx X.hb dX11_dealsLeft_13 (by decide) ?_
    cases hf
    subst hQ
    exact r_iret X hP hD hS dX11_dealsLeft_64

def f_X11_most_214 (N : Nat) (iY : Nat → Int32) (tY : Nat → Nat → Int64) (jY : Nat → Int64) (v2 : Int32) (v3 : Int32) (K_23 : ((Nat → Nat → Int32)) → Option (Int32 × (Nat → Int32) × (Nat → Nat → Int32))) : Nat → (Nat → Nat → Int32) → (Int32) → Option (Int32 × (Nat → Int32) × (Nat → Nat → Int32))
  | 0, _, _ => none
  | k + 1, sY, v4 => (if v4 = 14 then K_23 sY else ck v4 16 (ck (((16 : Int32) * ((sY 25) (ix v4))) + v4) 256 (ck (((16 : Int32) * ((sY 25) (ix v4))) + v4) 256 (nv (upd (sY 24) (ix (((16 : Int32) * ((sY 25) (ix v4))) + v4)) (((sY 24) (ix (((16 : Int32) * ((sY 25) (ix v4))) + v4))) - v3)) (fun g_45 => ck v4 16 (ck (((16 : Int32) * v4) + ((sY 25) (ix v4))) 256 (ck (((16 : Int32) * v4) + ((sY 25) (ix v4))) 256 (nv (upd g_45 (ix (((16 : Int32) * v4) + ((sY 25) (ix v4)))) ((g_45 (ix (((16 : Int32) * v4) + ((sY 25) (ix v4))))) + v3)) (fun g_49 => ck v4 16 (f_X11_most_214 N iY tY jY v2 v3 K_23 k (va_up sY 24 g_49) ((sY 25) (ix v4))))))))))))
def f_X11_most_168 (N : Nat) (iY : Nat → Int32) (sY : Nat → Nat → Int32) (tY : Nat → Nat → Int64) (jY : Nat → Int64) (v2 : Int32) (K_19 : ((Int32)) → Option (Int32 × (Nat → Int32) × (Nat → Nat → Int32))) : Nat → (Int32) → (Int32) → Option (Int32 × (Nat → Int32) × (Nat → Nat → Int32))
  | 0, _, _ => none
  | k + 1, v3, v4 => (if v4 = 14 then K_19 v3 else ck v4 16 (ck (((16 : Int32) * ((sY 25) (ix v4))) + v4) 256 (bd (f_X11_lesser N v3 ((sY 24) (ix (((16 : Int32) * ((sY 25) (ix v4))) + v4)))) (fun r_64 => ck v4 16 (f_X11_most_168 N iY sY tY jY v2 K_19 k r_64 ((sY 25) (ix v4)))))))
def f_X11_most_153 (N : Nat) (iY : Nat → Int32) (tY : Nat → Nat → Int64) (jY : Nat → Int64) : Nat → (Nat → Nat → Int32) → (Int32) → Option (Int32 × (Nat → Int32) × (Nat → Nat → Int32))
  | 0, _, _ => none
  | k + 1, sY, v2 => bd (f_X11_finds N iY sY tY jY) (fun (r_67, sY_68) => (if r_67 = 0 then some (v2, iY, sY_68) else jn (fun (z : (Int32)) => match z with | x3_74 => jn (fun (z : (Nat → Nat → Int32)) => match z with | sY_78 => f_X11_most_153 N iY tY jY k sY_78 (v2 + x3_74)) (fun K_75 => f_X11_most_214 N iY tY jY v2 x3_74 K_75 N sY_68 15)) (fun K_71 => f_X11_most_168 N iY sY_68 tY jY v2 K_71 N 1000000 15)))
def f_X11_most_104 (N : Nat) (iY : Nat → Int32) (tY : Nat → Nat → Int64) (jY : Nat → Int64) (v1 : Int32) (v2 : Int32) (K_129 : ((Nat → Nat → Int32)) → Option (Int32 × (Nat → Int32) × (Nat → Nat → Int32))) (K_8 : ((Nat → Nat → Int32)) → Option (Int32 × (Nat → Int32) × (Nat → Nat → Int32))) : Nat → (Nat → Nat → Int32) → (Int32) → Option (Int32 × (Nat → Int32) × (Nat → Nat → Int32))
  | 0, _, _ => none
  | k + 1, sY, v3 => (if ((sY 6) 0) ≤ v3 then K_129 sY else jn (fun (z : (Nat → Nat → Int32)) => match z with | sY_150 => f_X11_most_104 N iY tY jY v1 v2 K_129 K_8 k sY_150 (v3 + 1)) (fun K_147 => (if v3 = v2 then K_147 sY else bd (f_X11_dealsLeft N iY sY tY jY v2 v3) (fun r_152 => ck ((((16 : Int32) * v2) + 7) + v3) 256 (nv (upd (sY 24) (ix ((((16 : Int32) * v2) + 7) + v3)) r_152) (fun g_155 => K_147 (va_up sY 24 g_155)))))))
def f_X11_most_39 (N : Nat) (iY : Nat → Int32) (tY : Nat → Nat → Int64) (jY : Nat → Int64) (v1 : Int32) (K_8 : ((Nat → Nat → Int32)) → Option (Int32 × (Nat → Int32) × (Nat → Nat → Int32))) : Nat → (Nat → Nat → Int32) → (Int32) → Option (Int32 × (Nat → Int32) × (Nat → Nat → Int32))
  | 0, _, _ => none
  | k + 1, sY, v2 => (if ((sY 6) 0) ≤ v2 then K_8 sY else ck (((143 : Int32) + ((5 : Int32) * v2)) + v1) 457 (ck ((224 : Int32) + v2) 256 (nv (upd (sY 24) (ix ((224 : Int32) + v2)) ((sY 6) (ix (((143 : Int32) + ((5 : Int32) * v2)) + v1)))) (fun g_159 => ck (((178 : Int32) + ((5 : Int32) * v2)) + v1) 457 (ck (((16 : Int32) * ((7 : Int32) + v2)) + 15) 256 (nv (upd g_159 (ix (((16 : Int32) * ((7 : Int32) + v2)) + 15)) ((sY 6) (ix (((178 : Int32) + ((5 : Int32) * v2)) + v1)))) (fun g_162 => jn (fun (z : (Nat → Nat → Int32)) => match z with | sY_166 => f_X11_most_39 N iY tY jY v1 K_8 k sY_166 (v2 + 1)) (fun K_163 => f_X11_most_104 N iY tY jY v1 v2 K_163 K_8 N (va_up sY 24 g_162) 0))))))))
def f_X11_most_17 (N : Nat) (iY : Nat → Int32) (tY : Nat → Nat → Int64) (jY : Nat → Int64) (v1 : Int32) (K_4 : ((Nat → Nat → Int32)) → Option (Int32 × (Nat → Int32) × (Nat → Nat → Int32))) : Nat → (Nat → Nat → Int32) → (Int32) → Option (Int32 × (Nat → Int32) × (Nat → Nat → Int32))
  | 0, _, _ => none
  | k + 1, sY, v2 => (if (256 : Int32) ≤ v2 then K_4 sY else ck v2 256 (nv (upd (sY 24) (ix v2) 0) (fun g_198 => f_X11_most_17 N iY tY jY v1 K_4 k (va_up sY 24 g_198) (v2 + 1))))
def f_X11_most (N : Nat) (iY : Nat → Int32) (sY : Nat → Nat → Int32) (tY : Nat → Nat → Int64) (jY : Nat → Int64) (p1 : Int32) : Option (Int32 × (Nat → Int32) × (Nat → Nat → Int32)) :=
  bd (f_X11_isGood N (va_up iY 0 0) sY tY jY p1) (fun r_1 => (if r_1 = 0 then some ((-1), (va_up iY 0 0), sY) else jn (fun (z : (Nat → Nat → Int32)) => match z with | sY_7 => jn (fun (z : (Nat → Nat → Int32)) => match z with | sY_11 => f_X11_most_153 N (va_up iY 0 0) tY jY N sY_11 0) (fun K_8 => f_X11_most_39 N (va_up iY 0 0) tY jY p1 K_8 N sY_7 0)) (fun K_4 => f_X11_most_17 N (va_up iY 0 0) tY jY p1 K_4 N sY 0)))
set_option maxHeartbeats 4000000 in
set_option maxRecDepth 100000 in
theorem c_X11_most (l : Launch) (G : GT) (N : Nat) (uY : Nat → Nat) (iY : Nat → Int32) (sY : Nat → Nat → Int32) (tY : Nat → Nat → Int64) (jY : Nat → Int64) (p1 : Int32) {r : Int32} {iY' : Nat → Int32} {sY' : Nat → Nat → Int32} (hf : f_X11_most N iY sY tY jY p1 = some (r, iY', sY')) : CI l G yX11_most cX11_most 5 .int 4 [.ref (uY 0), .int p1] (gY G uY iY sY tY jY) r (gY G uY iY' sY' tY jY) := by
  refine CI.of (by decide) (Nat.le_of_ble_eq_true rfl) ?_
  intro p e s m args below meth c A X hA hP hD hS ls hl
  have hl : lv_has ls 5 [(0, .ref (uY 0)), (1, .int p1)] := hl
  generalize hQ : MQ below (QI G A r (gY G uY iY' sY' tY jY)) args s 0 0 A = QQ
  unfold f_X11_most at hf
  refine lv_aload_n X.hx X.hb dX11_most_0 rfl (lv_at hl 0 rfl) ?_
  refine lv_iconst (v := 0) X.hx X.hb dX11_most_1 (by decide) ?_
  refine pf_X11_1 X hP hD hS 0 rfl rfl rfl (Nat.le_of_ble_eq_true rfl) (wo := (gY G uY (va_up iY 0 0) sY tY jY)) rfl dX11_most_2 (fun H locs hP hD hS => ?_)
  refine lv_aload_n X.hx X.hb dX11_most_5 rfl (lv_at hl 0 rfl) ?_
  refine lv_iload_n X.hx X.hb dX11_most_6 rfl (lv_at hl 1 rfl) ?_
  obtain ⟨r_1, hc_2, hf⟩ := bd_i hf
  refine r_wvi (As := [.int p1]) (rest := []) X sm_X11_281 (c_X11_isGood l G N uY (va_up iY 0 0) sY tY jY p1 hc_2) hP hD hS hA 0 rfl rfl rfl hl.1 (lv_room (Nat.le_of_ble_eq_true rfl)) ⟨Nat.le_of_ble_eq_true rfl, Nat.le_of_ble_eq_true rfl⟩ ⟨Nat.zero_le _, Nat.zero_le _⟩ dX11_most_7 (fun H locs hP hD hS => ?_)
  refine lv_if_ne (tgt := 15) X.hx X.hb dX11_most_10 (by decide) (fun hc_3 => ?_) (fun hc_3 => ?_)
  · replace hf := if_f hf hc_3
    refine lv_iconst (v := 0) X.hx X.hb dX11_most_15 (by decide) ?_
    refine lv_istore_n (lv' := [(2, .int 0), (0, .ref (uY 0)), (1, .int p1)]) X.hx X.hb dX11_most_16 rfl hl (by decide) rfl (fun ls hl => ?_)
    obtain ⟨K_4, eK_6, hf⟩ := jn_i hf
    have hj_5 : ∀ (sY_7 : Nat → Nat → Int32) (H : Heap) (locs : List Loc) (ls : Array Slot), K_4 sY_7 = some (r, iY', sY') → va_P G.1 vwCl (gY G uY (va_up iY 0 0) sY_7 tY jY) H → va_D A (gY G uY (va_up iY 0 0) sY_7 tY jY) → va_S A s.heap H locs → lv_has ls 5 [(0, .ref (uY 0)), (1, .int p1)] → W p l e (RM 4) s m args below meth c H locs 0 0 QQ (F0 m 37 ls []) := by
      intro sY_7 H locs ls hf hP hD hS hl
      rw [eK_6] at hf
      try dsimp only at hf
      refine lv_iconst (v := 0) X.hx X.hb dX11_most_37 (by decide) ?_
      refine lv_istore_n (lv' := [(2, .int 0), (0, .ref (uY 0)), (1, .int p1)]) X.hx X.hb dX11_most_38 rfl hl (by decide) rfl (fun ls hl => ?_)
      obtain ⟨K_8, eK_10, hf⟩ := jn_i hf
      have hj_9 : ∀ (sY_11 : Nat → Nat → Int32) (H : Heap) (locs : List Loc) (ls : Array Slot), K_8 sY_11 = some (r, iY', sY') → va_P G.1 vwCl (gY G uY (va_up iY 0 0) sY_11 tY jY) H → va_D A (gY G uY (va_up iY 0 0) sY_11 tY jY) → va_S A s.heap H locs → lv_has ls 5 [(0, .ref (uY 0))] → W p l e (RM 4) s m args below meth c H locs 0 0 QQ (F0 m 151 ls []) := by
        intro sY_11 H locs ls hf hP hD hS hl
        rw [eK_10] at hf
        try dsimp only at hf
        refine lv_iconst (v := 0) X.hx X.hb dX11_most_151 (by decide) ?_
        refine lv_istore_n (lv' := [(2, .int 0), (0, .ref (uY 0))]) X.hx X.hb dX11_most_152 rfl hl (by decide) rfl (fun ls hl => ?_)
        have hlo_12 : ∀ (k : Nat) (sY_13 : Nat → Nat → Int32) (v2_14 : Int32) (H : Heap) (locs : List Loc) (ls : Array Slot), f_X11_most_153 N (va_up iY 0 0) tY jY k sY_13 v2_14 = some (r, iY', sY') → va_P G.1 vwCl (gY G uY (va_up iY 0 0) sY_13 tY jY) H → va_D A (gY G uY (va_up iY 0 0) sY_13 tY jY) → va_S A s.heap H locs → lv_has ls 5 [(0, .ref (uY 0)), (2, .int v2_14)] → W p l e (RM 4) s m args below meth c H locs 0 0 QQ (F0 m 153 ls []) := by
          intro k
          induction k with
          | zero => intro sY_13 v2_14 H locs ls hf; exact absurd hf (by intro q; cases q)
          | succ k ih =>
            intro sY_13 v2_14 H locs ls hf hP hD hS hl
            unfold f_X11_most_153 at hf
            refine lv_aload_n X.hx X.hb dX11_most_153 rfl (lv_at hl 0 rfl) ?_
            obtain ⟨⟨r_15, sY_16⟩, hc_17, hf⟩ := bd_i hf
            refine r_wvi (As := []) (rest := []) X sm_X11_342 (c_X11_finds l G N uY (va_up iY 0 0) sY_13 tY jY hc_17) hP hD hS hA 0 rfl rfl rfl hl.1 (lv_room (Nat.le_of_ble_eq_true rfl)) ⟨Nat.le_of_ble_eq_true rfl, Nat.le_of_ble_eq_true rfl⟩ ⟨Nat.zero_le _, Nat.zero_le _⟩ dX11_most_154 (fun H locs hP hD hS => ?_)
            refine lv_if_eq (tgt := 284) X.hx X.hb dX11_most_157 (by decide) (fun hc_18 => ?_) (fun hc_18 => ?_)
            · replace hf := if_t hf hc_18
              refine lv_iload_n X.hx X.hb dX11_most_284 rfl (lv_at hl 1 rfl) ?_
              cases hf
              subst hQ
              exact r_iret X hP hD hS dX11_most_285
            · replace hf := if_f hf hc_18
              refine lv_ldcw (v := 1000000) X.hx X.hb X.hown (X.hts _ tw_1718) dX11_most_160 ?_
              refine lv_istore_n (lv' := [(3, .int 1000000), (0, .ref (uY 0)), (2, .int v2_14)]) X.hx X.hb dX11_most_163 rfl hl (by decide) rfl (fun ls hl => ?_)
              refine lv_bipush (v := 15) X.hx X.hb dX11_most_164 (by decide) ?_
              refine lv_istore (lv' := [(4, .int 15), (3, .int 1000000), (0, .ref (uY 0)), (2, .int v2_14)]) X.hx X.hb dX11_most_166 hl (by decide) rfl (fun ls hl => ?_)
              obtain ⟨K_19, eK_21, hf⟩ := jn_i hf
              have hj_20 : ∀ (x3_22 : Int32) (H : Heap) (locs : List Loc) (ls : Array Slot), K_19 x3_22 = some (r, iY', sY') → va_P G.1 vwCl (gY G uY (va_up iY 0 0) sY_16 tY jY) H → va_D A (gY G uY (va_up iY 0 0) sY_16 tY jY) → va_S A s.heap H locs → lv_has ls 5 [(0, .ref (uY 0)), (2, .int v2_14), (3, .int x3_22)] → W p l e (RM 4) s m args below meth c H locs 0 0 QQ (F0 m 210 ls []) := by
                intro x3_22 H locs ls hf hP hD hS hl
                rw [eK_21] at hf
                try dsimp only at hf
                refine lv_bipush (v := 15) X.hx X.hb dX11_most_210 (by decide) ?_
                refine lv_istore (lv' := [(4, .int 15), (0, .ref (uY 0)), (2, .int v2_14), (3, .int x3_22)]) X.hx X.hb dX11_most_212 hl (by decide) rfl (fun ls hl => ?_)
                obtain ⟨K_23, eK_25, hf⟩ := jn_i hf
                have hj_24 : ∀ (sY_26 : Nat → Nat → Int32) (H : Heap) (locs : List Loc) (ls : Array Slot), K_23 sY_26 = some (r, iY', sY') → va_P G.1 vwCl (gY G uY (va_up iY 0 0) sY_26 tY jY) H → va_D A (gY G uY (va_up iY 0 0) sY_26 tY jY) → va_S A s.heap H locs → lv_has ls 5 [(0, .ref (uY 0)), (2, .int v2_14), (3, .int x3_22)] → W p l e (RM 4) s m args below meth c H locs 0 0 QQ (F0 m 277 ls []) := by
                  intro sY_26 H locs ls hf hP hD hS hl
                  rw [eK_25] at hf
                  try dsimp only at hf
                  refine lv_iload_n X.hx X.hb dX11_most_277 rfl (lv_at hl 1 rfl) ?_
                  refine lv_iload_n X.hx X.hb dX11_most_278 rfl (lv_at hl 2 rfl) ?_
                  refine lv_iadd X.hx X.hb dX11_most_279 ?_
                  refine lv_istore_n (lv' := [(2, .int (v2_14 + x3_22)), (0, .ref (uY 0)), (3, .int x3_22)]) X.hx X.hb dX11_most_280 rfl hl (by decide) rfl (fun ls hl => ?_)
                  refine lv_goto (tgt := 153) X.hx X.hb dX11_most_281 (by decide) ?_
                  exact ih _ _ _ _ _ hf hP hD hS (lv_sub hl [1, 0] rfl)
                have hlo_27 : ∀ (k : Nat) (sY_28 : Nat → Nat → Int32) (v4_29 : Int32) (H : Heap) (locs : List Loc) (ls : Array Slot), f_X11_most_214 N (va_up iY 0 0) tY jY v2_14 x3_22 K_23 k sY_28 v4_29 = some (r, iY', sY') → va_P G.1 vwCl (gY G uY (va_up iY 0 0) sY_28 tY jY) H → va_D A (gY G uY (va_up iY 0 0) sY_28 tY jY) → va_S A s.heap H locs → lv_has ls 5 [(0, .ref (uY 0)), (2, .int v2_14), (3, .int x3_22), (4, .int v4_29)] → W p l e (RM 4) s m args below meth c H locs 0 0 QQ (F0 m 214 ls []) := by
                  intro k
                  induction k with
                  | zero => intro sY_28 v4_29 H locs ls hf; exact absurd hf (by intro q; cases q)
                  | succ k ih =>
                    intro sY_28 v4_29 H locs ls hf hP hD hS hl
                    unfold f_X11_most_214 at hf
                    refine lv_iload X.hx X.hb dX11_most_214 (lv_at hl 3 rfl) ?_
                    refine lv_bipush (v := 14) X.hx X.hb dX11_most_216 (by decide) ?_
                    refine lv_icmp_eq (tgt := 277) X.hx X.hb dX11_most_218 (by decide) (fun hc_30 => ?_) (fun hc_30 => ?_)
                    · replace hf := if_t hf hc_30
                      exact hj_24 _ _ _ _ hf hP hD hS (lv_sub hl [0, 1, 2] rfl)
                    · replace hf := if_f hf hc_30
                      refine lv_aload_n X.hx X.hb dX11_most_221 rfl (lv_at hl 0 rfl) ?_
                      refine gf_X11_56 X hP 0 rfl (v := .ref (uY 25)) rfl dX11_most_222 ?_
                      refine lv_bipush (v := 16) X.hx X.hb dX11_most_225 (by decide) ?_
                      refine lv_aload_n X.hx X.hb dX11_most_227 rfl (lv_at hl 0 rfl) ?_
                      refine gf_X11_59 X hP 0 rfl (v := .ref (uY 26)) rfl dX11_most_228 ?_
                      refine lv_iload X.hx X.hb dX11_most_231 (lv_at hl 3 rfl) ?_
                      obtain ⟨hi_31, hf⟩ := ck_i hf
                      refine r_iald X hP 10 (f := (sY_28 25)) rfl hi_31 dX11_most_233 ?_
                      refine lv_imul X.hx X.hb dX11_most_234 ?_
                      refine lv_iload X.hx X.hb dX11_most_235 (lv_at hl 3 rfl) ?_
                      refine lv_iadd X.hx X.hb dX11_most_237 ?_
                      refine lv_dup2_11 X.hx X.hb dX11_most_238 rfl rfl ?_
                      obtain ⟨hi_32, hf⟩ := ck_i hf
                      refine r_iald X hP 9 (f := (sY_28 24)) rfl hi_32 dX11_most_239 ?_
                      refine lv_iload_n X.hx X.hb dX11_most_240 rfl (lv_at hl 2 rfl) ?_
                      refine lv_isub X.hx X.hb dX11_most_241 ?_
                      obtain ⟨hi_33, hf⟩ := ck_i hf
                      obtain ⟨g_34, eg_34, hf⟩ := nv_i hf
                      refine r_iast X hP hD hS 9 (f := (sY_28 24)) rfl hi_33 (wo := (gY G uY (va_up iY 0 0) (va_up sY_28 24 g_34) tY jY)) (by subst eg_34; rfl) dX11_most_242 (fun H locs hP hD hS => ?_)
                      refine lv_aload_n X.hx X.hb dX11_most_243 rfl (lv_at hl 0 rfl) ?_
                      refine gf_X11_56 X hP 0 rfl (v := .ref (uY 25)) rfl dX11_most_244 ?_
                      refine lv_bipush (v := 16) X.hx X.hb dX11_most_247 (by decide) ?_
                      refine lv_iload X.hx X.hb dX11_most_249 (lv_at hl 3 rfl) ?_
                      refine lv_imul X.hx X.hb dX11_most_251 ?_
                      refine lv_aload_n X.hx X.hb dX11_most_252 rfl (lv_at hl 0 rfl) ?_
                      refine gf_X11_59 X hP 0 rfl (v := .ref (uY 26)) rfl dX11_most_253 ?_
                      refine lv_iload X.hx X.hb dX11_most_256 (lv_at hl 3 rfl) ?_
                      obtain ⟨hi_35, hf⟩ := ck_i hf
                      refine r_iald X hP 10 (f := (sY_28 25)) rfl hi_35 dX11_most_258 ?_
                      refine lv_iadd X.hx X.hb dX11_most_259 ?_
                      refine lv_dup2_11 X.hx X.hb dX11_most_260 rfl rfl ?_
                      obtain ⟨hi_36, hf⟩ := ck_i hf
                      refine r_iald X hP 9 (f := g_34) rfl hi_36 dX11_most_261 ?_
                      refine lv_iload_n X.hx X.hb dX11_most_262 rfl (lv_at hl 2 rfl) ?_
                      refine lv_iadd X.hx X.hb dX11_most_263 ?_
                      obtain ⟨hi_37, hf⟩ := ck_i hf
                      obtain ⟨g_38, eg_38, hf⟩ := nv_i hf
                      refine r_iast X hP hD hS 9 (f := g_34) rfl hi_37 (wo := (gY G uY (va_up iY 0 0) (va_up sY_28 24 g_38) tY jY)) (by subst eg_38; rfl) dX11_most_264 (fun H locs hP hD hS => ?_)
                      refine lv_aload_n X.hx X.hb dX11_most_265 rfl (lv_at hl 0 rfl) ?_
                      refine gf_X11_59 X hP 0 rfl (v := .ref (uY 26)) rfl dX11_most_266 ?_
                      refine lv_iload X.hx X.hb dX11_most_269 (lv_at hl 3 rfl) ?_
                      obtain ⟨hi_39, hf⟩ := ck_i hf
                      refine r_iald X hP 10 (f := (sY_28 25)) rfl hi_39 dX11_most_271 ?_
                      obtain ⟨n_40, en_40, hf⟩ := nv_i hf
                      refine r_nm en_40 ?_
                      refine lv_istore (lv' := [(4, .int n_40), (0, .ref (uY 0)), (2, .int v2_14), (3, .int x3_22)]) X.hx X.hb dX11_most_272 hl (by decide) rfl (fun ls hl => ?_)
                      refine lv_goto (tgt := 214) X.hx X.hb dX11_most_274 (by decide) ?_
                      exact ih _ _ _ _ _ hf hP hD hS (lv_sub hl [1, 2, 3, 0] rfl)
                exact hlo_27 N _ _ _ _ _ hf hP hD hS (lv_sub hl [1, 2, 3, 0] rfl)
              have hlo_51 : ∀ (k : Nat) (v3_52 : Int32) (v4_53 : Int32) (H : Heap) (locs : List Loc) (ls : Array Slot), f_X11_most_168 N (va_up iY 0 0) sY_16 tY jY v2_14 K_19 k v3_52 v4_53 = some (r, iY', sY') → va_P G.1 vwCl (gY G uY (va_up iY 0 0) sY_16 tY jY) H → va_D A (gY G uY (va_up iY 0 0) sY_16 tY jY) → va_S A s.heap H locs → lv_has ls 5 [(0, .ref (uY 0)), (2, .int v2_14), (3, .int v3_52), (4, .int v4_53)] → W p l e (RM 4) s m args below meth c H locs 0 0 QQ (F0 m 168 ls []) := by
                intro k
                induction k with
                | zero => intro v3_52 v4_53 H locs ls hf; exact absurd hf (by intro q; cases q)
                | succ k ih =>
                  intro v3_52 v4_53 H locs ls hf hP hD hS hl
                  unfold f_X11_most_168 at hf
                  refine lv_iload X.hx X.hb dX11_most_168 (lv_at hl 3 rfl) ?_
                  refine lv_bipush (v := 14) X.hx X.hb dX11_most_170 (by decide) ?_
                  refine lv_icmp_eq (tgt := 210) X.hx X.hb dX11_most_172 (by decide) (fun hc_54 => ?_) (fun hc_54 => ?_)
                  · replace hf := if_t hf hc_54
                    exact hj_20 _ _ _ _ hf hP hD hS (lv_sub hl [0, 1, 2] rfl)
                  · replace hf := if_f hf hc_54
                    refine lv_iload_n X.hx X.hb dX11_most_175 rfl (lv_at hl 2 rfl) ?_
                    refine lv_aload_n X.hx X.hb dX11_most_176 rfl (lv_at hl 0 rfl) ?_
                    refine gf_X11_56 X hP 0 rfl (v := .ref (uY 25)) rfl dX11_most_177 ?_
                    refine lv_bipush (v := 16) X.hx X.hb dX11_most_180 (by decide) ?_
                    refine lv_aload_n X.hx X.hb dX11_most_182 rfl (lv_at hl 0 rfl) ?_
                    refine gf_X11_59 X hP 0 rfl (v := .ref (uY 26)) rfl dX11_most_183 ?_
                    refine lv_iload X.hx X.hb dX11_most_186 (lv_at hl 3 rfl) ?_
                    obtain ⟨hi_55, hf⟩ := ck_i hf
                    refine r_iald X hP 10 (f := (sY_16 25)) rfl hi_55 dX11_most_188 ?_
                    refine lv_imul X.hx X.hb dX11_most_189 ?_
                    refine lv_iload X.hx X.hb dX11_most_190 (lv_at hl 3 rfl) ?_
                    refine lv_iadd X.hx X.hb dX11_most_192 ?_
                    obtain ⟨hi_56, hf⟩ := ck_i hf
                    refine r_iald X hP 9 (f := (sY_16 24)) rfl hi_56 dX11_most_193 ?_
                    obtain ⟨r_57, hc_58, hf⟩ := bd_i hf
                    refine r_cs0 (As := [.int v3_52, .int ((sY_16 24) (ix (((16 : Int32) * ((sY_16 25) (ix v4_53))) + v4_53)))]) (rest := []) X sm_X11_300 (c_X11_lesser l G N v3_52 ((sY_16 24) (ix (((16 : Int32) * ((sY_16 25) (ix v4_53))) + v4_53))) hc_58) hP hD hS hA rfl hl.1 (lv_room (Nat.le_of_ble_eq_true rfl)) ⟨Nat.le_of_ble_eq_true rfl, Nat.le_of_ble_eq_true rfl⟩ ⟨Nat.zero_le _, Nat.zero_le _⟩ dX11_most_194 (fun H locs hP hD hS => ?_)
                    refine lv_istore_n (lv' := [(3, .int r_57), (0, .ref (uY 0)), (2, .int v2_14), (4, .int v4_53)]) X.hx X.hb dX11_most_197 rfl hl (by decide) rfl (fun ls hl => ?_)
                    refine lv_aload_n X.hx X.hb dX11_most_198 rfl (lv_at hl 1 rfl) ?_
                    refine gf_X11_59 X hP 0 rfl (v := .ref (uY 26)) rfl dX11_most_199 ?_
                    refine lv_iload X.hx X.hb dX11_most_202 (lv_at hl 3 rfl) ?_
                    obtain ⟨hi_59, hf⟩ := ck_i hf
                    refine r_iald X hP 10 (f := (sY_16 25)) rfl hi_59 dX11_most_204 ?_
                    obtain ⟨n_60, en_60, hf⟩ := nv_i hf
                    refine r_nm en_60 ?_
                    refine lv_istore (lv' := [(4, .int n_60), (3, .int r_57), (0, .ref (uY 0)), (2, .int v2_14)]) X.hx X.hb dX11_most_205 hl (by decide) rfl (fun ls hl => ?_)
                    refine lv_goto (tgt := 168) X.hx X.hb dX11_most_207 (by decide) ?_
                    exact ih _ _ _ _ _ hf hP hD hS (lv_sub hl [2, 3, 1, 0] rfl)
              exact hlo_51 N _ _ _ _ _ hf hP hD hS (lv_sub hl [2, 3, 1, 0] rfl)
        exact hlo_12 N _ _ _ _ _ hf hP hD hS (lv_sub hl [1, 0] rfl)
      have hlo_119 : ∀ (k : Nat) (sY_120 : Nat → Nat → Int32) (v2_121 : Int32) (H : Heap) (locs : List Loc) (ls : Array Slot), f_X11_most_39 N (va_up iY 0 0) tY jY p1 K_8 k sY_120 v2_121 = some (r, iY', sY') → va_P G.1 vwCl (gY G uY (va_up iY 0 0) sY_120 tY jY) H → va_D A (gY G uY (va_up iY 0 0) sY_120 tY jY) → va_S A s.heap H locs → lv_has ls 5 [(0, .ref (uY 0)), (1, .int p1), (2, .int v2_121)] → W p l e (RM 4) s m args below meth c H locs 0 0 QQ (F0 m 39 ls []) := by
        intro k
        induction k with
        | zero => intro sY_120 v2_121 H locs ls hf; exact absurd hf (by intro q; cases q)
        | succ k ih =>
          intro sY_120 v2_121 H locs ls hf hP hD hS hl
          unfold f_X11_most_39 at hf
          refine lv_iload_n X.hx X.hb dX11_most_39 rfl (lv_at hl 2 rfl) ?_
          refine lv_aload_n X.hx X.hb dX11_most_40 rfl (lv_at hl 0 rfl) ?_
          refine gf_X11_33 X hP 0 rfl (v := .ref (uY 7)) rfl dX11_most_41 ?_
          refine lv_iconst (v := 0) X.hx X.hb dX11_most_44 (by decide) ?_
          refine r_iald X hP 2 (f := (sY_120 6)) rfl (vp_c rfl) dX11_most_45 ?_
          refine W.eq (g2 := F0 m 46 ls [.int ((sY_120 6) 0), .int v2_121]) rfl ?_
          refine lv_icmp_ge (tgt := 151) X.hx X.hb dX11_most_46 (by decide) (fun hc_122 => ?_) (fun hc_122 => ?_)
          · replace hf := if_t hf hc_122
            exact hj_9 _ _ _ _ hf hP hD hS (lv_sub hl [0] rfl)
          · replace hf := if_f hf hc_122
            refine lv_aload_n X.hx X.hb dX11_most_49 rfl (lv_at hl 0 rfl) ?_
            refine gf_X11_56 X hP 0 rfl (v := .ref (uY 25)) rfl dX11_most_50 ?_
            refine lv_sipush (v := 224) X.hx X.hb dX11_most_53 (by decide) ?_
            refine lv_iload_n X.hx X.hb dX11_most_56 rfl (lv_at hl 2 rfl) ?_
            refine lv_iadd X.hx X.hb dX11_most_57 ?_
            refine lv_aload_n X.hx X.hb dX11_most_58 rfl (lv_at hl 0 rfl) ?_
            refine gf_X11_33 X hP 0 rfl (v := .ref (uY 7)) rfl dX11_most_59 ?_
            refine lv_sipush (v := 143) X.hx X.hb dX11_most_62 (by decide) ?_
            refine lv_iconst (v := 5) X.hx X.hb dX11_most_65 (by decide) ?_
            refine lv_iload_n X.hx X.hb dX11_most_66 rfl (lv_at hl 2 rfl) ?_
            refine lv_imul X.hx X.hb dX11_most_67 ?_
            refine lv_iadd X.hx X.hb dX11_most_68 ?_
            refine lv_iload_n X.hx X.hb dX11_most_69 rfl (lv_at hl 1 rfl) ?_
            refine lv_iadd X.hx X.hb dX11_most_70 ?_
            obtain ⟨hi_123, hf⟩ := ck_i hf
            refine r_iald X hP 2 (f := (sY_120 6)) rfl hi_123 dX11_most_71 ?_
            obtain ⟨hi_124, hf⟩ := ck_i hf
            obtain ⟨g_125, eg_125, hf⟩ := nv_i hf
            refine r_iast X hP hD hS 9 (f := (sY_120 24)) rfl hi_124 (wo := (gY G uY (va_up iY 0 0) (va_up sY_120 24 g_125) tY jY)) (by subst eg_125; rfl) dX11_most_72 (fun H locs hP hD hS => ?_)
            refine lv_aload_n X.hx X.hb dX11_most_73 rfl (lv_at hl 0 rfl) ?_
            refine gf_X11_56 X hP 0 rfl (v := .ref (uY 25)) rfl dX11_most_74 ?_
            refine lv_bipush (v := 16) X.hx X.hb dX11_most_77 (by decide) ?_
            refine lv_bipush (v := 7) X.hx X.hb dX11_most_79 (by decide) ?_
            refine lv_iload_n X.hx X.hb dX11_most_81 rfl (lv_at hl 2 rfl) ?_
            refine lv_iadd X.hx X.hb dX11_most_82 ?_
            refine lv_imul X.hx X.hb dX11_most_83 ?_
            refine lv_bipush (v := 15) X.hx X.hb dX11_most_84 (by decide) ?_
            refine lv_iadd X.hx X.hb dX11_most_86 ?_
            refine lv_aload_n X.hx X.hb dX11_most_87 rfl (lv_at hl 0 rfl) ?_
            refine gf_X11_33 X hP 0 rfl (v := .ref (uY 7)) rfl dX11_most_88 ?_
            refine lv_sipush (v := 178) X.hx X.hb dX11_most_91 (by decide) ?_
            refine lv_iconst (v := 5) X.hx X.hb dX11_most_94 (by decide) ?_
            refine lv_iload_n X.hx X.hb dX11_most_95 rfl (lv_at hl 2 rfl) ?_
            refine lv_imul X.hx X.hb dX11_most_96 ?_
            refine lv_iadd X.hx X.hb dX11_most_97 ?_
            refine lv_iload_n X.hx X.hb dX11_most_98 rfl (lv_at hl 1 rfl) ?_
            refine lv_iadd X.hx X.hb dX11_most_99 ?_
            obtain ⟨hi_126, hf⟩ := ck_i hf
            refine r_iald X hP 2 (f := (sY_120 6)) rfl hi_126 dX11_most_100 ?_
            obtain ⟨hi_127, hf⟩ := ck_i hf
            obtain ⟨g_128, eg_128, hf⟩ := nv_i hf
            refine r_iast X hP hD hS 9 (f := g_125) rfl hi_127 (wo := (gY G uY (va_up iY 0 0) (va_up sY_120 24 g_128) tY jY)) (by subst eg_128; rfl) dX11_most_101 (fun H locs hP hD hS => ?_)
            refine lv_iconst (v := 0) X.hx X.hb dX11_most_102 (by decide) ?_
            refine lv_istore_n (lv' := [(3, .int 0), (0, .ref (uY 0)), (1, .int p1), (2, .int v2_121)]) X.hx X.hb dX11_most_103 rfl hl (by decide) rfl (fun ls hl => ?_)
            obtain ⟨K_129, eK_131, hf⟩ := jn_i hf
            have hj_130 : ∀ (sY_132 : Nat → Nat → Int32) (H : Heap) (locs : List Loc) (ls : Array Slot), K_129 sY_132 = some (r, iY', sY') → va_P G.1 vwCl (gY G uY (va_up iY 0 0) sY_132 tY jY) H → va_D A (gY G uY (va_up iY 0 0) sY_132 tY jY) → va_S A s.heap H locs → lv_has ls 5 [(0, .ref (uY 0)), (1, .int p1), (2, .int v2_121)] → W p l e (RM 4) s m args below meth c H locs 0 0 QQ (F0 m 145 ls []) := by
              intro sY_132 H locs ls hf hP hD hS hl
              rw [eK_131] at hf
              try dsimp only at hf
              refine lv_iinc (v := (v2_121 + 1)) (lv' := [(2, .int (v2_121 + 1)), (0, .ref (uY 0)), (1, .int p1)]) X.hx X.hb dX11_most_145 hl (k := 2) rfl rfl (by decide) rfl (fun ls hl => ?_)
              refine lv_goto (tgt := 39) X.hx X.hb dX11_most_148 (by decide) ?_
              exact ih _ _ _ _ _ hf hP hD hS (lv_sub hl [1, 2, 0] rfl)
            have hlo_133 : ∀ (k : Nat) (sY_134 : Nat → Nat → Int32) (v3_135 : Int32) (H : Heap) (locs : List Loc) (ls : Array Slot), f_X11_most_104 N (va_up iY 0 0) tY jY p1 v2_121 K_129 K_8 k sY_134 v3_135 = some (r, iY', sY') → va_P G.1 vwCl (gY G uY (va_up iY 0 0) sY_134 tY jY) H → va_D A (gY G uY (va_up iY 0 0) sY_134 tY jY) → va_S A s.heap H locs → lv_has ls 5 [(0, .ref (uY 0)), (1, .int p1), (2, .int v2_121), (3, .int v3_135)] → W p l e (RM 4) s m args below meth c H locs 0 0 QQ (F0 m 104 ls []) := by
              intro k
              induction k with
              | zero => intro sY_134 v3_135 H locs ls hf; exact absurd hf (by intro q; cases q)
              | succ k ih =>
                intro sY_134 v3_135 H locs ls hf hP hD hS hl
                unfold f_X11_most_104 at hf
                refine lv_iload_n X.hx X.hb dX11_most_104 rfl (lv_at hl 3 rfl) ?_
                refine lv_aload_n X.hx X.hb dX11_most_105 rfl (lv_at hl 0 rfl) ?_
                refine gf_X11_33 X hP 0 rfl (v := .ref (uY 7)) rfl dX11_most_106 ?_
                refine lv_iconst (v := 0) X.hx X.hb dX11_most_109 (by decide) ?_
                refine r_iald X hP 2 (f := (sY_134 6)) rfl (vp_c rfl) dX11_most_110 ?_
                refine W.eq (g2 := F0 m 111 ls [.int ((sY_134 6) 0), .int v3_135]) rfl ?_
                refine lv_icmp_ge (tgt := 145) X.hx X.hb dX11_most_111 (by decide) (fun hc_136 => ?_) (fun hc_136 => ?_)
                · replace hf := if_t hf hc_136
                  exact hj_130 _ _ _ _ hf hP hD hS (lv_sub hl [0, 1, 2] rfl)
                · replace hf := if_f hf hc_136
                  refine lv_iload_n X.hx X.hb dX11_most_114 rfl (lv_at hl 3 rfl) ?_
                  refine lv_iload_n X.hx X.hb dX11_most_115 rfl (lv_at hl 2 rfl) ?_
                  obtain ⟨K_137, eK_139, hf⟩ := jn_i hf
                  have hj_138 : ∀ (sY_140 : Nat → Nat → Int32) (H : Heap) (locs : List Loc) (ls : Array Slot), K_137 sY_140 = some (r, iY', sY') → va_P G.1 vwCl (gY G uY (va_up iY 0 0) sY_140 tY jY) H → va_D A (gY G uY (va_up iY 0 0) sY_140 tY jY) → va_S A s.heap H locs → lv_has ls 5 [(0, .ref (uY 0)), (1, .int p1), (2, .int v2_121), (3, .int v3_135)] → W p l e (RM 4) s m args below meth c H locs 0 0 QQ (F0 m 139 ls []) := by
                    intro sY_140 H locs ls hf hP hD hS hl
                    rw [eK_139] at hf
                    try dsimp only at hf
                    refine lv_iinc (v := (v3_135 + 1)) (lv' := [(3, .int (v3_135 + 1)), (0, .ref (uY 0)), (1, .int p1), (2, .int v2_121)]) X.hx X.hb dX11_most_139 hl (k := 3) rfl rfl (by decide) rfl (fun ls hl => ?_)
                    refine lv_goto (tgt := 104) X.hx X.hb dX11_most_142 (by decide) ?_
                    exact ih _ _ _ _ _ hf hP hD hS (lv_sub hl [1, 2, 3, 0] rfl)
                  refine lv_icmp_eq (tgt := 139) X.hx X.hb dX11_most_116 (by decide) (fun hc_141 => ?_) (fun hc_141 => ?_)
                  · replace hf := if_t hf hc_141
                    exact hj_138 _ _ _ _ hf hP hD hS (lv_sub hl [0, 1, 2, 3] rfl)
                  · replace hf := if_f hf hc_141
                    refine lv_aload_n X.hx X.hb dX11_most_119 rfl (lv_at hl 0 rfl) ?_
                    refine gf_X11_56 X hP 0 rfl (v := .ref (uY 25)) rfl dX11_most_120 ?_
                    refine lv_bipush (v := 16) X.hx X.hb dX11_most_123 (by decide) ?_
                    refine lv_iload_n X.hx X.hb dX11_most_125 rfl (lv_at hl 2 rfl) ?_
                    refine lv_imul X.hx X.hb dX11_most_126 ?_
                    refine lv_bipush (v := 7) X.hx X.hb dX11_most_127 (by decide) ?_
                    refine lv_iadd X.hx X.hb dX11_most_129 ?_
                    refine lv_iload_n X.hx X.hb dX11_most_130 rfl (lv_at hl 3 rfl) ?_
                    refine lv_iadd X.hx X.hb dX11_most_131 ?_
                    refine lv_aload_n X.hx X.hb dX11_most_132 rfl (lv_at hl 0 rfl) ?_
                    refine lv_iload_n X.hx X.hb dX11_most_133 rfl (lv_at hl 2 rfl) ?_
                    refine lv_iload_n X.hx X.hb dX11_most_134 rfl (lv_at hl 3 rfl) ?_
                    obtain ⟨r_142, hc_143, hf⟩ := bd_i hf
                    refine r_wvi (As := [.int v2_121, .int v3_135]) (rest := [.int ((((16 : Int32) * v2_121) + 7) + v3_135), .ref (uY 25)]) X sm_X11_339 (c_X11_dealsLeft l G N uY (va_up iY 0 0) sY_134 tY jY v2_121 v3_135 hc_143) hP hD hS hA 0 rfl rfl rfl hl.1 (lv_room (Nat.le_of_ble_eq_true rfl)) ⟨Nat.le_of_ble_eq_true rfl, Nat.le_of_ble_eq_true rfl⟩ ⟨Nat.zero_le _, Nat.zero_le _⟩ dX11_most_135 (fun H locs hP hD hS => ?_)
                    obtain ⟨hi_144, hf⟩ := ck_i hf
                    obtain ⟨g_145, eg_145, hf⟩ := nv_i hf
                    refine r_iast X hP hD hS 9 (f := (sY_134 24)) rfl hi_144 (wo := (gY G uY (va_up iY 0 0) (va_up sY_134 24 g_145) tY jY)) (by subst eg_145; rfl) dX11_most_138 (fun H locs hP hD hS => ?_)
                    exact hj_138 _ _ _ _ hf hP hD hS (lv_sub hl [0, 1, 2, 3] rfl)
            exact hlo_133 N _ _ _ _ _ hf hP hD hS (lv_sub hl [1, 2, 3, 0] rfl)
      exact hlo_119 N _ _ _ _ _ hf hP hD hS (lv_sub hl [1, 2, 0] rfl)
    have hlo_190 : ∀ (k : Nat) (sY_191 : Nat → Nat → Int32) (v2_192 : Int32) (H : Heap) (locs : List Loc) (ls : Array Slot), f_X11_most_17 N (va_up iY 0 0) tY jY p1 K_4 k sY_191 v2_192 = some (r, iY', sY') → va_P G.1 vwCl (gY G uY (va_up iY 0 0) sY_191 tY jY) H → va_D A (gY G uY (va_up iY 0 0) sY_191 tY jY) → va_S A s.heap H locs → lv_has ls 5 [(0, .ref (uY 0)), (1, .int p1), (2, .int v2_192)] → W p l e (RM 4) s m args below meth c H locs 0 0 QQ (F0 m 17 ls []) := by
      intro k
      induction k with
      | zero => intro sY_191 v2_192 H locs ls hf; exact absurd hf (by intro q; cases q)
      | succ k ih =>
        intro sY_191 v2_192 H locs ls hf hP hD hS hl
        unfold f_X11_most_17 at hf
        refine lv_iload_n X.hx X.hb dX11_most_17 rfl (lv_at hl 2 rfl) ?_
        refine lv_sipush (v := 256) X.hx X.hb dX11_most_18 (by decide) ?_
        refine lv_icmp_ge (tgt := 37) X.hx X.hb dX11_most_21 (by decide) (fun hc_193 => ?_) (fun hc_193 => ?_)
        · replace hf := if_t hf hc_193
          exact hj_5 _ _ _ _ hf hP hD hS (lv_sub hl [0, 1] rfl)
        · replace hf := if_f hf hc_193
          refine lv_aload_n X.hx X.hb dX11_most_24 rfl (lv_at hl 0 rfl) ?_
          refine gf_X11_56 X hP 0 rfl (v := .ref (uY 25)) rfl dX11_most_25 ?_
          refine lv_iload_n X.hx X.hb dX11_most_28 rfl (lv_at hl 2 rfl) ?_
          refine lv_iconst (v := 0) X.hx X.hb dX11_most_29 (by decide) ?_
          obtain ⟨hi_194, hf⟩ := ck_i hf
          obtain ⟨g_195, eg_195, hf⟩ := nv_i hf
          refine r_iast X hP hD hS 9 (f := (sY_191 24)) rfl hi_194 (wo := (gY G uY (va_up iY 0 0) (va_up sY_191 24 g_195) tY jY)) (by subst eg_195; rfl) dX11_most_30 (fun H locs hP hD hS => ?_)
          refine lv_iinc (v := (v2_192 + 1)) (lv' := [(2, .int (v2_192 + 1)), (0, .ref (uY 0)), (1, .int p1)]) X.hx X.hb dX11_most_31 hl (k := 2) rfl rfl (by decide) rfl (fun ls hl => ?_)
          refine lv_goto (tgt := 17) X.hx X.hb dX11_most_34 (by decide) ?_
          exact ih _ _ _ _ _ hf hP hD hS (lv_sub hl [1, 2, 0] rfl)
    exact hlo_190 N _ _ _ _ _ hf hP hD hS (lv_sub hl [1, 2, 0] rfl)
  · replace hf := if_t hf hc_3
    refine lv_iconst (v := (-1)) X.hx X.hb dX11_most_13 (by decide) ?_
    cases hf
    subst hQ
    exact r_iret X hP hD hS dX11_most_14

def f_X11_isMask_4 (N : Nat) (iY : Nat → Int32) (sY : Nat → Nat → Int32) (tY : Nat → Nat → Int64) (jY : Nat → Int64) (v1 : Int32) : Nat → (Int32) → (Int32) → Option (Int32)
  | 0, _, _ => none
  | k + 1, v2, v3 => (if (iY 3) ≤ v3 then zb v2 (some v2) else jn (fun (z : (Int32)) => match z with | y_36 => f_X11_isMask_4 N iY sY tY jY v1 k y_36 (v3 + 2)) (fun K_33 => jn (fun (z : Unit) => match z with | () => K_33 0) (fun K_37 => (if v2 = 0 then K_37 () else bd (f_X11_octet N iY sY tY jY v3) (fun r_41 => (if r_41 = v1 then K_37 () else bd (f_X11_mayBy N iY sY tY jY v1) (fun r_44 => bd (f_X11_octet N iY sY tY jY v3) (fun r_46 => bd (f_X11_bitOf N r_44 r_46) (fun r_48 => bd (f_X11_octet N iY sY tY jY (v3 + 1)) (fun r_50 => jn (fun (z : (Int32)) => match z with | y_55 => (if r_48 = y_55 then K_33 1 else K_37 ())) (fun K_52 => (if r_50 = 1 then K_52 1 else K_52 0))))))))))))
def f_X11_isMask (N : Nat) (iY : Nat → Int32) (sY : Nat → Nat → Int32) (tY : Nat → Nat → Int64) (jY : Nat → Int64) (p1 : Int32) : Option (Int32) :=
  f_X11_isMask_4 N iY sY tY jY p1 N 1 0
set_option maxHeartbeats 4000000 in
set_option maxRecDepth 100000 in
theorem c_X11_isMask (l : Launch) (G : GT) (N : Nat) (uY : Nat → Nat) (iY : Nat → Int32) (sY : Nat → Nat → Int32) (tY : Nat → Nat → Int64) (jY : Nat → Int64) (p1 : Int32) {r : Int32} (hf : f_X11_isMask N iY sY tY jY p1 = some r) : CI l G yX11_isMask cX11_isMask 4 .boolean 3 [.ref (uY 0), .int p1] (gY G uY iY sY tY jY) r (gY G uY iY sY tY jY) := by
  refine CI.of (by decide) (Nat.le_of_ble_eq_true rfl) ?_
  intro p e s m args below meth c A X hA hP hD hS ls hl
  have hl : lv_has ls 4 [(0, .ref (uY 0)), (1, .int p1)] := hl
  generalize hQ : MQ below (QI G A r (gY G uY iY sY tY jY)) args s 0 0 A = QQ
  unfold f_X11_isMask at hf
  refine lv_iconst (v := 1) X.hx X.hb dX11_isMask_0 (by decide) ?_
  refine lv_istore_n (lv' := [(2, .int 1), (0, .ref (uY 0)), (1, .int p1)]) X.hx X.hb dX11_isMask_1 rfl hl (by decide) rfl (fun ls hl => ?_)
  refine lv_iconst (v := 0) X.hx X.hb dX11_isMask_2 (by decide) ?_
  refine lv_istore_n (lv' := [(3, .int 0), (2, .int 1), (0, .ref (uY 0)), (1, .int p1)]) X.hx X.hb dX11_isMask_3 rfl hl (by decide) rfl (fun ls hl => ?_)
  have hlo_1 : ∀ (k : Nat) (v2_2 : Int32) (v3_3 : Int32) (H : Heap) (locs : List Loc) (ls : Array Slot), f_X11_isMask_4 N iY sY tY jY p1 k v2_2 v3_3 = some r → va_P G.1 vwCl (gY G uY iY sY tY jY) H → va_D A (gY G uY iY sY tY jY) → va_S A s.heap H locs → lv_has ls 4 [(0, .ref (uY 0)), (1, .int p1), (2, .int v2_2), (3, .int v3_3)] → W p l e (RM 3) s m args below meth c H locs 0 0 QQ (F0 m 4 ls []) := by
    intro k
    induction k with
    | zero => intro v2_2 v3_3 H locs ls hf; exact absurd hf (by intro q; cases q)
    | succ k ih =>
      intro v2_2 v3_3 H locs ls hf hP hD hS hl
      unfold f_X11_isMask_4 at hf
      refine lv_iload_n X.hx X.hb dX11_isMask_4 rfl (lv_at hl 3 rfl) ?_
      refine lv_aload_n X.hx X.hb dX11_isMask_5 rfl (lv_at hl 0 rfl) ?_
      refine gf_X11_18 X hP 0 rfl (v := .int (iY 3)) rfl dX11_isMask_6 ?_
      refine lv_icmp_ge (tgt := 69) X.hx X.hb dX11_isMask_9 (by decide) (fun hc_4 => ?_) (fun hc_4 => ?_)
      · replace hf := if_t hf hc_4
        refine lv_iload_n X.hx X.hb dX11_isMask_69 rfl (lv_at hl 2 rfl) ?_
        obtain ⟨hb_5, hf⟩ := zb_i hf
        cases hf
        subst hQ
        exact r_zret X hP hD hS hb_5 dX11_isMask_70
      · replace hf := if_f hf hc_4
        refine lv_iload_n X.hx X.hb dX11_isMask_12 rfl (lv_at hl 2 rfl) ?_
        obtain ⟨K_6, eK_8, hf⟩ := jn_i hf
        have hj_7 : ∀ (y_9 : Int32) (H : Heap) (locs : List Loc) (ls : Array Slot), K_6 y_9 = some r → va_P G.1 vwCl (gY G uY iY sY tY jY) H → va_D A (gY G uY iY sY tY jY) → va_S A s.heap H locs → lv_has ls 4 [(0, .ref (uY 0)), (1, .int p1), (3, .int v3_3)] → W p l e (RM 3) s m args below meth c H locs 0 0 QQ (F0 m 62 ls [.int y_9]) := by
          intro y_9 H locs ls hf hP hD hS hl
          rw [eK_8] at hf
          try dsimp only at hf
          refine lv_istore_n (lv' := [(2, .int y_9), (0, .ref (uY 0)), (1, .int p1), (3, .int v3_3)]) X.hx X.hb dX11_isMask_62 rfl hl (by decide) rfl (fun ls hl => ?_)
          refine lv_iinc (v := (v3_3 + 2)) (lv' := [(3, .int (v3_3 + 2)), (2, .int y_9), (0, .ref (uY 0)), (1, .int p1)]) X.hx X.hb dX11_isMask_63 hl (k := 3) rfl rfl (by decide) rfl (fun ls hl => ?_)
          refine lv_goto (tgt := 4) X.hx X.hb dX11_isMask_66 (by decide) ?_
          exact ih _ _ _ _ _ hf hP hD hS (lv_sub hl [2, 3, 1, 0] rfl)
        obtain ⟨K_10, eK_12, hf⟩ := jn_i hf
        have hj_11 : ∀ (H : Heap) (locs : List Loc) (ls : Array Slot), K_10 () = some r → va_P G.1 vwCl (gY G uY iY sY tY jY) H → va_D A (gY G uY iY sY tY jY) → va_S A s.heap H locs → lv_has ls 4 [(0, .ref (uY 0)), (1, .int p1), (3, .int v3_3)] → W p l e (RM 3) s m args below meth c H locs 0 0 QQ (F0 m 61 ls []) := by
          intro  H locs ls hf hP hD hS hl
          rw [eK_12] at hf
          try dsimp only at hf
          refine lv_iconst (v := 0) X.hx X.hb dX11_isMask_61 (by decide) ?_
          exact hj_7 _ _ _ _ hf hP hD hS (lv_sub hl [0, 1, 2] rfl)
        refine lv_if_eq (tgt := 61) X.hx X.hb dX11_isMask_13 (by decide) (fun hc_13 => ?_) (fun hc_13 => ?_)
        · replace hf := if_t hf hc_13
          exact hj_11 _ _ _ hf hP hD hS (lv_sub hl [0, 1, 3] rfl)
        · replace hf := if_f hf hc_13
          refine lv_aload_n X.hx X.hb dX11_isMask_16 rfl (lv_at hl 0 rfl) ?_
          refine lv_iload_n X.hx X.hb dX11_isMask_17 rfl (lv_at hl 3 rfl) ?_
          obtain ⟨r_14, hc_15, hf⟩ := bd_i hf
          refine r_wvi (As := [.int v3_3]) (rest := []) X sm_X11_345 (c_X11_octet l G N uY iY sY tY jY v3_3 hc_15) hP hD hS hA 0 rfl rfl rfl hl.1 (lv_room (Nat.le_of_ble_eq_true rfl)) ⟨Nat.le_of_ble_eq_true rfl, Nat.le_of_ble_eq_true rfl⟩ ⟨Nat.zero_le _, Nat.zero_le _⟩ dX11_isMask_18 (fun H locs hP hD hS => ?_)
          refine lv_iload_n X.hx X.hb dX11_isMask_21 rfl (lv_at hl 1 rfl) ?_
          refine lv_icmp_eq (tgt := 61) X.hx X.hb dX11_isMask_22 (by decide) (fun hc_16 => ?_) (fun hc_16 => ?_)
          · replace hf := if_t hf hc_16
            exact hj_11 _ _ _ hf hP hD hS (lv_sub hl [0, 1, 3] rfl)
          · replace hf := if_f hf hc_16
            refine lv_aload_n X.hx X.hb dX11_isMask_25 rfl (lv_at hl 0 rfl) ?_
            refine lv_iload_n X.hx X.hb dX11_isMask_26 rfl (lv_at hl 1 rfl) ?_
            obtain ⟨r_17, hc_18, hf⟩ := bd_i hf
            refine r_wvi (As := [.int p1]) (rest := []) X sm_X11_278 (c_X11_mayBy l G N uY iY sY tY jY p1 hc_18) hP hD hS hA 0 rfl rfl rfl hl.1 (lv_room (Nat.le_of_ble_eq_true rfl)) ⟨Nat.le_of_ble_eq_true rfl, Nat.le_of_ble_eq_true rfl⟩ ⟨Nat.zero_le _, Nat.zero_le _⟩ dX11_isMask_27 (fun H locs hP hD hS => ?_)
            refine lv_aload_n X.hx X.hb dX11_isMask_30 rfl (lv_at hl 0 rfl) ?_
            refine lv_iload_n X.hx X.hb dX11_isMask_31 rfl (lv_at hl 3 rfl) ?_
            obtain ⟨r_19, hc_20, hf⟩ := bd_i hf
            refine r_wvi (As := [.int v3_3]) (rest := [.int r_17]) X sm_X11_345 (c_X11_octet l G N uY iY sY tY jY v3_3 hc_20) hP hD hS hA 0 rfl rfl rfl hl.1 (lv_room (Nat.le_of_ble_eq_true rfl)) ⟨Nat.le_of_ble_eq_true rfl, Nat.le_of_ble_eq_true rfl⟩ ⟨Nat.zero_le _, Nat.zero_le _⟩ dX11_isMask_32 (fun H locs hP hD hS => ?_)
            obtain ⟨r_21, hc_22, hf⟩ := bd_i hf
            refine r_cs0 (As := [.int r_17, .int r_19]) (rest := []) X sm_X11_214 (c_X11_bitOf l G N r_17 r_19 hc_22) hP hD hS hA rfl hl.1 (lv_room (Nat.le_of_ble_eq_true rfl)) ⟨Nat.le_of_ble_eq_true rfl, Nat.le_of_ble_eq_true rfl⟩ ⟨Nat.zero_le _, Nat.zero_le _⟩ dX11_isMask_35 (fun H locs hP hD hS => ?_)
            refine lv_aload_n X.hx X.hb dX11_isMask_38 rfl (lv_at hl 0 rfl) ?_
            refine lv_iload_n X.hx X.hb dX11_isMask_39 rfl (lv_at hl 3 rfl) ?_
            refine lv_iconst (v := 1) X.hx X.hb dX11_isMask_40 (by decide) ?_
            refine lv_iadd X.hx X.hb dX11_isMask_41 ?_
            obtain ⟨r_23, hc_24, hf⟩ := bd_i hf
            refine r_wvi (As := [.int (v3_3 + 1)]) (rest := [.int r_21]) X sm_X11_345 (c_X11_octet l G N uY iY sY tY jY (v3_3 + 1) hc_24) hP hD hS hA 0 rfl rfl rfl hl.1 (lv_room (Nat.le_of_ble_eq_true rfl)) ⟨Nat.le_of_ble_eq_true rfl, Nat.le_of_ble_eq_true rfl⟩ ⟨Nat.zero_le _, Nat.zero_le _⟩ dX11_isMask_42 (fun H locs hP hD hS => ?_)
            refine lv_iconst (v := 1) X.hx X.hb dX11_isMask_45 (by decide) ?_
            obtain ⟨K_25, eK_27, hf⟩ := jn_i hf
            have hj_26 : ∀ (y_28 : Int32) (H : Heap) (locs : List Loc) (ls : Array Slot), K_25 y_28 = some r → va_P G.1 vwCl (gY G uY iY sY tY jY) H → va_D A (gY G uY iY sY tY jY) → va_S A s.heap H locs → lv_has ls 4 [(0, .ref (uY 0)), (1, .int p1), (3, .int v3_3)] → W p l e (RM 3) s m args below meth c H locs 0 0 QQ (F0 m 54 ls [.int y_28, .int r_21]) := by
              intro y_28 H locs ls hf hP hD hS hl
              rw [eK_27] at hf
              try dsimp only at hf
              refine lv_icmp_ne (tgt := 61) X.hx X.hb dX11_isMask_54 (by decide) (fun hc_29 => ?_) (fun hc_29 => ?_)
              · replace hf := if_f hf hc_29
                exact hj_11 _ _ _ hf hP hD hS (lv_sub hl [0, 1, 2] rfl)
              · replace hf := if_t hf hc_29
                refine lv_iconst (v := 1) X.hx X.hb dX11_isMask_57 (by decide) ?_
                refine lv_goto (tgt := 62) X.hx X.hb dX11_isMask_58 (by decide) ?_
                exact hj_7 _ _ _ _ hf hP hD hS (lv_sub hl [0, 1, 2] rfl)
            refine lv_icmp_ne (tgt := 53) X.hx X.hb dX11_isMask_46 (by decide) (fun hc_30 => ?_) (fun hc_30 => ?_)
            · replace hf := if_f hf hc_30
              refine lv_iconst (v := 0) X.hx X.hb dX11_isMask_53 (by decide) ?_
              exact hj_26 _ _ _ _ hf hP hD hS (lv_sub hl [0, 1, 3] rfl)
            · replace hf := if_t hf hc_30
              refine lv_iconst (v := 1) X.hx X.hb dX11_isMask_49 (by decide) ?_
              refine lv_goto (tgt := 54) X.hx X.hb dX11_isMask_50 (by decide) ?_
              exact hj_26 _ _ _ _ hf hP hD hS (lv_sub hl [0, 1, 3] rfl)
  exact hlo_1 N _ _ _ _ _ hf hP hD hS (lv_sub hl [2, 3, 1, 0] rfl)

def f_X11_who_133 (N : Nat) (sY : Nat → Nat → Int32) (tY : Nat → Nat → Int64) (jY : Nat → Int64) (v1 : Int32) : Nat → (Nat → Int32) → (Int32) → (Int32) → Option (Int32 × (Nat → Int32))
  | 0, _, _, _ => none
  | k + 1, iY, v2, v3 => (if ((sY 6) 0) ≤ v3 then some (v1, iY) else bd (f_X11_mayBy N iY sY tY jY v3) (fun r_35 => bd (f_X11_bits N (v1 &&& r_35)) (fun r_37 => bd (f_X11_bits N v1) (fun r_39 => bd (f_X11_greater N r_37 (r_39 - r_37)) (fun r_41 => jn (fun (z : (Int32) × (Nat → Int32)) => match z with | (x2_46, iY_47) => f_X11_who_133 N sY tY jY v1 k iY_47 x2_46 (v3 + 1)) (fun K_43 => (if r_41 < v2 then K_43 (r_41, (va_up iY 27 v3)) else K_43 (v2, iY))))))))
def f_X11_who_82 (N : Nat) (iY : Nat → Int32) (sY : Nat → Nat → Int32) (tY : Nat → Nat → Int64) (jY : Nat → Int64) (K_10 : ((Int32)) → Option (Int32 × (Nat → Int32))) : Nat → (Int32) → (Int32) → Option (Int32 × (Nat → Int32))
  | 0, _, _ => none
  | k + 1, v1, v2 => (if ((sY 6) 0) ≤ v2 then K_10 v1 else bd (f_X11_isMask N iY sY tY jY v2) (fun r_61 => jn (fun (z : (Int32)) => match z with | y_66 => f_X11_who_82 N iY sY tY jY K_10 k (v1 ||| y_66) (v2 + 1)) (fun K_63 => (if r_61 = 0 then K_63 0 else K_63 ((1 : Int32) <<< (v2 &&& 31))))))
def f_X11_who_39 (N : Nat) (iY : Nat → Int32) (sY : Nat → Nat → Int32) (tY : Nat → Nat → Int64) (jY : Nat → Int64) (K_7 : (Unit) → Option (Int32 × (Nat → Int32))) : Nat → (Int32) → Option (Int32 × (Nat → Int32))
  | 0, _ => none
  | k + 1, v1 => (if (iY 3) ≤ v1 then K_7 () else bd (f_X11_octet N iY sY tY jY v1) (fun r_80 => bd (f_X11_isPerson N iY sY tY jY r_80) (fun r_82 => (if r_82 = 0 then some ((-1), iY) else bd (f_X11_octet N iY sY tY jY (v1 + 1)) (fun r_85 => (if r_85 ≤ 1 then f_X11_who_39 N iY sY tY jY K_7 k (v1 + 2) else some ((-1), iY)))))))
def f_X11_who (N : Nat) (iY : Nat → Int32) (sY : Nat → Nat → Int32) (tY : Nat → Nat → Int64) (jY : Nat → Int64) : Option (Int32 × (Nat → Int32)) :=
  bd (f_X11_taken N (va_up iY 0 0) sY tY jY 940) (fun iY_1 => bd (f_X11_isIn N (iY_1 3) 2 16) (fun r_3 => (if r_3 = 0 then some ((-1), iY_1) else (if ((iY_1 3) - (iY_1 3) / 2 * 2) = 1 then some ((-1), iY_1) else jn (fun (z : Unit) => match z with | () => jn (fun (z : (Int32)) => match z with | x1_13 => (if x1_13 = 0 then some (0, iY_1) else f_X11_who_133 N sY tY jY x1_13 N (va_up iY_1 28 1) 1000000 0)) (fun K_10 => f_X11_who_82 N iY_1 sY tY jY K_10 N 0 0)) (fun K_7 => f_X11_who_39 N iY_1 sY tY jY K_7 N 0)))))
set_option maxHeartbeats 4000000 in
set_option maxRecDepth 100000 in
theorem c_X11_who (l : Launch) (G : GT) (N : Nat) (uY : Nat → Nat) (iY : Nat → Int32) (sY : Nat → Nat → Int32) (tY : Nat → Nat → Int64) (jY : Nat → Int64) {r : Int32} {iY' : Nat → Int32} (hf : f_X11_who N iY sY tY jY = some (r, iY')) : CI l G yX11_who cX11_who 6 .int 4 [.ref (uY 0)] (gY G uY iY sY tY jY) r (gY G uY iY' sY tY jY) := by
  refine CI.of (by decide) (Nat.le_of_ble_eq_true rfl) ?_
  intro p e s m args below meth c A X hA hP hD hS ls hl
  have hl : lv_has ls 6 [(0, .ref (uY 0))] := hl
  generalize hQ : MQ below (QI G A r (gY G uY iY' sY tY jY)) args s 0 0 A = QQ
  unfold f_X11_who at hf
  refine lv_aload_n X.hx X.hb dX11_who_0 rfl (lv_at hl 0 rfl) ?_
  refine lv_iconst (v := 0) X.hx X.hb dX11_who_1 (by decide) ?_
  refine pf_X11_1 X hP hD hS 0 rfl rfl rfl (Nat.le_of_ble_eq_true rfl) (wo := (gY G uY (va_up iY 0 0) sY tY jY)) rfl dX11_who_2 (fun H locs hP hD hS => ?_)
  refine lv_aload_n X.hx X.hb dX11_who_5 rfl (lv_at hl 0 rfl) ?_
  refine lv_sipush (v := 940) X.hx X.hb dX11_who_6 (by decide) ?_
  obtain ⟨iY_1, hc_2, hf⟩ := bd_i hf
  refine r_wvv (As := [.int 940]) (rest := []) X sm_X11_247 (c_X11_taken l G N uY (va_up iY 0 0) sY tY jY 940 hc_2) hP hD hS hA 0 rfl rfl rfl hl.1 (lv_room (Nat.le_of_ble_eq_true rfl)) ⟨Nat.le_of_ble_eq_true rfl, Nat.le_of_ble_eq_true rfl⟩ ⟨Nat.zero_le _, Nat.zero_le _⟩ dX11_who_9 (fun H locs hP hD hS => ?_)
  refine lv_aload_n X.hx X.hb dX11_who_12 rfl (lv_at hl 0 rfl) ?_
  refine gf_X11_18 X hP 0 rfl (v := .int (iY_1 3)) rfl dX11_who_13 ?_
  refine lv_iconst (v := 2) X.hx X.hb dX11_who_16 (by decide) ?_
  refine lv_bipush (v := 16) X.hx X.hb dX11_who_17 (by decide) ?_
  obtain ⟨r_3, hc_4, hf⟩ := bd_i hf
  refine r_cs0 (As := [.int (iY_1 3), .int 2, .int 16]) (rest := []) X sm_X11_189 (c_X11_isIn l G N (iY_1 3) 2 16 hc_4) hP hD hS hA rfl hl.1 (lv_room (Nat.le_of_ble_eq_true rfl)) ⟨Nat.le_of_ble_eq_true rfl, Nat.le_of_ble_eq_true rfl⟩ ⟨Nat.zero_le _, Nat.zero_le _⟩ dX11_who_19 (fun H locs hP hD hS => ?_)
  refine lv_if_eq (tgt := 35) X.hx X.hb dX11_who_22 (by decide) (fun hc_5 => ?_) (fun hc_5 => ?_)
  · replace hf := if_t hf hc_5
    refine lv_iconst (v := (-1)) X.hx X.hb dX11_who_35 (by decide) ?_
    cases hf
    subst hQ
    exact r_iret X hP hD hS dX11_who_36
  · replace hf := if_f hf hc_5
    refine lv_aload_n X.hx X.hb dX11_who_25 rfl (lv_at hl 0 rfl) ?_
    refine gf_X11_18 X hP 0 rfl (v := .int (iY_1 3)) rfl dX11_who_26 ?_
    refine lv_iconst (v := 2) X.hx X.hb dX11_who_29 (by decide) ?_
    refine lv_irem X.hx X.hb dX11_who_30 (by decide) ?_
    refine lv_iconst (v := 1) X.hx X.hb dX11_who_31 (by decide) ?_
    refine lv_icmp_ne (tgt := 37) X.hx X.hb dX11_who_32 (by decide) (fun hc_6 => ?_) (fun hc_6 => ?_)
    · replace hf := if_f hf hc_6
      refine lv_iconst (v := 0) X.hx X.hb dX11_who_37 (by decide) ?_
      refine lv_istore_n (lv' := [(1, .int 0), (0, .ref (uY 0))]) X.hx X.hb dX11_who_38 rfl hl (by decide) rfl (fun ls hl => ?_)
      obtain ⟨K_7, eK_9, hf⟩ := jn_i hf
      have hj_8 : ∀ (H : Heap) (locs : List Loc) (ls : Array Slot), K_7 () = some (r, iY') → va_P G.1 vwCl (gY G uY iY_1 sY tY jY) H → va_D A (gY G uY iY_1 sY tY jY) → va_S A s.heap H locs → lv_has ls 6 [(0, .ref (uY 0))] → W p l e (RM 4) s m args below meth c H locs 0 0 QQ (F0 m 78 ls []) := by
        intro  H locs ls hf hP hD hS hl
        rw [eK_9] at hf
        try dsimp only at hf
        refine lv_iconst (v := 0) X.hx X.hb dX11_who_78 (by decide) ?_
        refine lv_istore_n (lv' := [(1, .int 0), (0, .ref (uY 0))]) X.hx X.hb dX11_who_79 rfl hl (by decide) rfl (fun ls hl => ?_)
        refine lv_iconst (v := 0) X.hx X.hb dX11_who_80 (by decide) ?_
        refine lv_istore_n (lv' := [(2, .int 0), (1, .int 0), (0, .ref (uY 0))]) X.hx X.hb dX11_who_81 rfl hl (by decide) rfl (fun ls hl => ?_)
        obtain ⟨K_10, eK_12, hf⟩ := jn_i hf
        have hj_11 : ∀ (x1_13 : Int32) (H : Heap) (locs : List Loc) (ls : Array Slot), K_10 x1_13 = some (r, iY') → va_P G.1 vwCl (gY G uY iY_1 sY tY jY) H → va_D A (gY G uY iY_1 sY tY jY) → va_S A s.heap H locs → lv_has ls 6 [(0, .ref (uY 0)), (1, .int x1_13)] → W p l e (RM 4) s m args below meth c H locs 0 0 QQ (F0 m 116 ls []) := by
          intro x1_13 H locs ls hf hP hD hS hl
          rw [eK_12] at hf
          try dsimp only at hf
          refine lv_iload_n X.hx X.hb dX11_who_116 rfl (lv_at hl 1 rfl) ?_
          refine lv_if_ne (tgt := 122) X.hx X.hb dX11_who_117 (by decide) (fun hc_14 => ?_) (fun hc_14 => ?_)
          · replace hf := if_f hf hc_14
            refine lv_aload_n X.hx X.hb dX11_who_122 rfl (lv_at hl 0 rfl) ?_
            refine lv_iconst (v := 1) X.hx X.hb dX11_who_123 (by decide) ?_
            refine pf_X11_351 X hP hD hS 0 rfl (by decide) (by decide) (Nat.le_of_ble_eq_true rfl) (wo := (gY G uY (va_up iY_1 28 1) sY tY jY)) rfl dX11_who_124 (fun H locs hP hD hS => ?_)
            refine lv_ldcw (v := 1000000) X.hx X.hb X.hown (X.hts _ tw_1718) dX11_who_127 ?_
            refine lv_istore_n (lv' := [(2, .int 1000000), (0, .ref (uY 0)), (1, .int x1_13)]) X.hx X.hb dX11_who_130 rfl hl (by decide) rfl (fun ls hl => ?_)
            refine lv_iconst (v := 0) X.hx X.hb dX11_who_131 (by decide) ?_
            refine lv_istore_n (lv' := [(3, .int 0), (2, .int 1000000), (0, .ref (uY 0)), (1, .int x1_13)]) X.hx X.hb dX11_who_132 rfl hl (by decide) rfl (fun ls hl => ?_)
            have hlo_15 : ∀ (k : Nat) (iY_16 : Nat → Int32) (v2_17 : Int32) (v3_18 : Int32) (H : Heap) (locs : List Loc) (ls : Array Slot), f_X11_who_133 N sY tY jY x1_13 k iY_16 v2_17 v3_18 = some (r, iY') → va_P G.1 vwCl (gY G uY iY_16 sY tY jY) H → va_D A (gY G uY iY_16 sY tY jY) → va_S A s.heap H locs → lv_has ls 6 [(0, .ref (uY 0)), (1, .int x1_13), (2, .int v2_17), (3, .int v3_18)] → W p l e (RM 4) s m args below meth c H locs 0 0 QQ (F0 m 133 ls []) := by
              intro k
              induction k with
              | zero => intro iY_16 v2_17 v3_18 H locs ls hf; exact absurd hf (by intro q; cases q)
              | succ k ih =>
                intro iY_16 v2_17 v3_18 H locs ls hf hP hD hS hl
                unfold f_X11_who_133 at hf
                refine lv_iload_n X.hx X.hb dX11_who_133 rfl (lv_at hl 3 rfl) ?_
                refine lv_aload_n X.hx X.hb dX11_who_134 rfl (lv_at hl 0 rfl) ?_
                refine gf_X11_33 X hP 0 rfl (v := .ref (uY 7)) rfl dX11_who_135 ?_
                refine lv_iconst (v := 0) X.hx X.hb dX11_who_138 (by decide) ?_
                refine r_iald X hP 2 (f := (sY 6)) rfl (vp_c rfl) dX11_who_139 ?_
                refine W.eq (g2 := F0 m 140 ls [.int ((sY 6) 0), .int v3_18]) rfl ?_
                refine lv_icmp_ge (tgt := 192) X.hx X.hb dX11_who_140 (by decide) (fun hc_19 => ?_) (fun hc_19 => ?_)
                · replace hf := if_t hf hc_19
                  refine lv_iload_n X.hx X.hb dX11_who_192 rfl (lv_at hl 1 rfl) ?_
                  cases hf
                  subst hQ
                  exact r_iret X hP hD hS dX11_who_193
                · replace hf := if_f hf hc_19
                  refine lv_iload_n X.hx X.hb dX11_who_143 rfl (lv_at hl 1 rfl) ?_
                  refine lv_aload_n X.hx X.hb dX11_who_144 rfl (lv_at hl 0 rfl) ?_
                  refine lv_iload_n X.hx X.hb dX11_who_145 rfl (lv_at hl 3 rfl) ?_
                  obtain ⟨r_20, hc_21, hf⟩ := bd_i hf
                  refine r_wvi (As := [.int v3_18]) (rest := [.int x1_13]) X sm_X11_278 (c_X11_mayBy l G N uY iY_16 sY tY jY v3_18 hc_21) hP hD hS hA 0 rfl rfl rfl hl.1 (lv_room (Nat.le_of_ble_eq_true rfl)) ⟨Nat.le_of_ble_eq_true rfl, Nat.le_of_ble_eq_true rfl⟩ ⟨Nat.zero_le _, Nat.zero_le _⟩ dX11_who_146 (fun H locs hP hD hS => ?_)
                  refine lv_iand X.hx X.hb dX11_who_149 ?_
                  obtain ⟨r_22, hc_23, hf⟩ := bd_i hf
                  refine r_cs0 (As := [.int (x1_13 &&& r_20)]) (rest := []) X sm_X11_284 (c_X11_bits l G N (x1_13 &&& r_20) hc_23) hP hD hS hA rfl hl.1 (lv_room (Nat.le_of_ble_eq_true rfl)) ⟨Nat.le_of_ble_eq_true rfl, Nat.le_of_ble_eq_true rfl⟩ ⟨Nat.zero_le _, Nat.zero_le _⟩ dX11_who_150 (fun H locs hP hD hS => ?_)
                  refine lv_istore (lv' := [(4, .int r_22), (0, .ref (uY 0)), (1, .int x1_13), (2, .int v2_17), (3, .int v3_18)]) X.hx X.hb dX11_who_153 hl (by decide) rfl (fun ls hl => ?_)
                  refine lv_iload X.hx X.hb dX11_who_155 (lv_at hl 0 rfl) ?_
                  refine lv_iload_n X.hx X.hb dX11_who_157 rfl (lv_at hl 2 rfl) ?_
                  obtain ⟨r_24, hc_25, hf⟩ := bd_i hf
                  refine r_cs0 (As := [.int x1_13]) (rest := [.int r_22]) X sm_X11_284 (c_X11_bits l G N x1_13 hc_25) hP hD hS hA rfl hl.1 (lv_room (Nat.le_of_ble_eq_true rfl)) ⟨Nat.le_of_ble_eq_true rfl, Nat.le_of_ble_eq_true rfl⟩ ⟨Nat.zero_le _, Nat.zero_le _⟩ dX11_who_158 (fun H locs hP hD hS => ?_)
                  refine lv_iload X.hx X.hb dX11_who_161 (lv_at hl 0 rfl) ?_
                  refine lv_isub X.hx X.hb dX11_who_163 ?_
                  obtain ⟨r_26, hc_27, hf⟩ := bd_i hf
                  refine r_cs0 (As := [.int r_22, .int (r_24 - r_22)]) (rest := []) X sm_X11_336 (c_X11_greater l G N r_22 (r_24 - r_22) hc_27) hP hD hS hA rfl hl.1 (lv_room (Nat.le_of_ble_eq_true rfl)) ⟨Nat.le_of_ble_eq_true rfl, Nat.le_of_ble_eq_true rfl⟩ ⟨Nat.zero_le _, Nat.zero_le _⟩ dX11_who_164 (fun H locs hP hD hS => ?_)
                  refine lv_istore (lv' := [(5, .int r_26), (4, .int r_22), (0, .ref (uY 0)), (1, .int x1_13), (2, .int v2_17), (3, .int v3_18)]) X.hx X.hb dX11_who_167 hl (by decide) rfl (fun ls hl => ?_)
                  refine lv_iload X.hx X.hb dX11_who_169 (lv_at hl 0 rfl) ?_
                  refine lv_iload_n X.hx X.hb dX11_who_171 rfl (lv_at hl 4 rfl) ?_
                  obtain ⟨K_28, eK_30, hf⟩ := jn_i hf
                  have hj_29 : ∀ (x2_31 : Int32) (iY_32 : Nat → Int32) (H : Heap) (locs : List Loc) (ls : Array Slot), K_28 (x2_31, iY_32) = some (r, iY') → va_P G.1 vwCl (gY G uY iY_32 sY tY jY) H → va_D A (gY G uY iY_32 sY tY jY) → va_S A s.heap H locs → lv_has ls 6 [(0, .ref (uY 0)), (1, .int x1_13), (2, .int x2_31), (3, .int v3_18)] → W p l e (RM 4) s m args below meth c H locs 0 0 QQ (F0 m 186 ls []) := by
                    intro x2_31 iY_32 H locs ls hf hP hD hS hl
                    rw [eK_30] at hf
                    try dsimp only at hf
                    refine lv_iinc (v := (v3_18 + 1)) (lv' := [(3, .int (v3_18 + 1)), (0, .ref (uY 0)), (1, .int x1_13), (2, .int x2_31)]) X.hx X.hb dX11_who_186 hl (k := 3) rfl rfl (by decide) rfl (fun ls hl => ?_)
                    refine lv_goto (tgt := 133) X.hx X.hb dX11_who_189 (by decide) ?_
                    exact ih _ _ _ _ _ _ hf hP hD hS (lv_sub hl [1, 2, 3, 0] rfl)
                  refine lv_icmp_lt (tgt := 178) X.hx X.hb dX11_who_172 (by decide) (fun hc_33 => ?_) (fun hc_33 => ?_)
                  · replace hf := if_t hf hc_33
                    refine lv_iload X.hx X.hb dX11_who_178 (lv_at hl 0 rfl) ?_
                    refine lv_istore_n (lv' := [(2, .int r_26), (5, .int r_26), (4, .int r_22), (0, .ref (uY 0)), (1, .int x1_13), (3, .int v3_18)]) X.hx X.hb dX11_who_180 rfl hl (by decide) rfl (fun ls hl => ?_)
                    refine lv_aload_n X.hx X.hb dX11_who_181 rfl (lv_at hl 3 rfl) ?_
                    refine lv_iload_n X.hx X.hb dX11_who_182 rfl (lv_at hl 5 rfl) ?_
                    refine pf_X11_355 X hP hD hS 0 rfl rfl rfl (Nat.le_of_ble_eq_true rfl) (wo := (gY G uY (va_up iY_16 27 v3_18) sY tY jY)) rfl dX11_who_183 (fun H locs hP hD hS => ?_)
                    exact hj_29 _ _ _ _ _ hf hP hD hS (lv_sub hl [3, 4, 0, 5] rfl)
                  · replace hf := if_f hf hc_33
                    refine lv_goto (tgt := 186) X.hx X.hb dX11_who_175 (by decide) ?_
                    exact hj_29 _ _ _ _ _ hf hP hD hS (lv_sub hl [2, 3, 4, 5] rfl)
            exact hlo_15 N _ _ _ _ _ _ hf hP hD hS (lv_sub hl [2, 3, 1, 0] rfl)
          · replace hf := if_t hf hc_14
            refine lv_iconst (v := 0) X.hx X.hb dX11_who_120 (by decide) ?_
            cases hf
            subst hQ
            exact r_iret X hP hD hS dX11_who_121
        have hlo_49 : ∀ (k : Nat) (v1_50 : Int32) (v2_51 : Int32) (H : Heap) (locs : List Loc) (ls : Array Slot), f_X11_who_82 N iY_1 sY tY jY K_10 k v1_50 v2_51 = some (r, iY') → va_P G.1 vwCl (gY G uY iY_1 sY tY jY) H → va_D A (gY G uY iY_1 sY tY jY) → va_S A s.heap H locs → lv_has ls 6 [(0, .ref (uY 0)), (1, .int v1_50), (2, .int v2_51)] → W p l e (RM 4) s m args below meth c H locs 0 0 QQ (F0 m 82 ls []) := by
          intro k
          induction k with
          | zero => intro v1_50 v2_51 H locs ls hf; exact absurd hf (by intro q; cases q)
          | succ k ih =>
            intro v1_50 v2_51 H locs ls hf hP hD hS hl
            unfold f_X11_who_82 at hf
            refine lv_iload_n X.hx X.hb dX11_who_82 rfl (lv_at hl 2 rfl) ?_
            refine lv_aload_n X.hx X.hb dX11_who_83 rfl (lv_at hl 0 rfl) ?_
            refine gf_X11_33 X hP 0 rfl (v := .ref (uY 7)) rfl dX11_who_84 ?_
            refine lv_iconst (v := 0) X.hx X.hb dX11_who_87 (by decide) ?_
            refine r_iald X hP 2 (f := (sY 6)) rfl (vp_c rfl) dX11_who_88 ?_
            refine W.eq (g2 := F0 m 89 ls [.int ((sY 6) 0), .int v2_51]) rfl ?_
            refine lv_icmp_ge (tgt := 116) X.hx X.hb dX11_who_89 (by decide) (fun hc_52 => ?_) (fun hc_52 => ?_)
            · replace hf := if_t hf hc_52
              exact hj_11 _ _ _ _ hf hP hD hS (lv_sub hl [0, 1] rfl)
            · replace hf := if_f hf hc_52
              refine lv_iload_n X.hx X.hb dX11_who_92 rfl (lv_at hl 1 rfl) ?_
              refine lv_aload_n X.hx X.hb dX11_who_93 rfl (lv_at hl 0 rfl) ?_
              refine lv_iload_n X.hx X.hb dX11_who_94 rfl (lv_at hl 2 rfl) ?_
              obtain ⟨r_53, hc_54, hf⟩ := bd_i hf
              refine r_wvi (As := [.int v2_51]) (rest := [.int v1_50]) X sm_X11_348 (c_X11_isMask l G N uY iY_1 sY tY jY v2_51 hc_54) hP hD hS hA 0 rfl rfl rfl hl.1 (lv_room (Nat.le_of_ble_eq_true rfl)) ⟨Nat.le_of_ble_eq_true rfl, Nat.le_of_ble_eq_true rfl⟩ ⟨Nat.zero_le _, Nat.zero_le _⟩ dX11_who_95 (fun H locs hP hD hS => ?_)
              obtain ⟨K_55, eK_57, hf⟩ := jn_i hf
              have hj_56 : ∀ (y_58 : Int32) (H : Heap) (locs : List Loc) (ls : Array Slot), K_55 y_58 = some (r, iY') → va_P G.1 vwCl (gY G uY iY_1 sY tY jY) H → va_D A (gY G uY iY_1 sY tY jY) → va_S A s.heap H locs → lv_has ls 6 [(0, .ref (uY 0)), (2, .int v2_51)] → W p l e (RM 4) s m args below meth c H locs 0 0 QQ (F0 m 108 ls [.int y_58, .int v1_50]) := by
                intro y_58 H locs ls hf hP hD hS hl
                rw [eK_57] at hf
                try dsimp only at hf
                refine lv_ior X.hx X.hb dX11_who_108 ?_
                refine lv_istore_n (lv' := [(1, .int (v1_50 ||| y_58)), (0, .ref (uY 0)), (2, .int v2_51)]) X.hx X.hb dX11_who_109 rfl hl (by decide) rfl (fun ls hl => ?_)
                refine lv_iinc (v := (v2_51 + 1)) (lv' := [(2, .int (v2_51 + 1)), (1, .int (v1_50 ||| y_58)), (0, .ref (uY 0))]) X.hx X.hb dX11_who_110 hl (k := 2) rfl rfl (by decide) rfl (fun ls hl => ?_)
                refine lv_goto (tgt := 82) X.hx X.hb dX11_who_113 (by decide) ?_
                exact ih _ _ _ _ _ hf hP hD hS (lv_sub hl [2, 1, 0] rfl)
              refine lv_if_eq (tgt := 107) X.hx X.hb dX11_who_98 (by decide) (fun hc_59 => ?_) (fun hc_59 => ?_)
              · replace hf := if_t hf hc_59
                refine lv_iconst (v := 0) X.hx X.hb dX11_who_107 (by decide) ?_
                exact hj_56 _ _ _ _ hf hP hD hS (lv_sub hl [0, 2] rfl)
              · replace hf := if_f hf hc_59
                refine lv_iconst (v := 1) X.hx X.hb dX11_who_101 (by decide) ?_
                refine lv_iload_n X.hx X.hb dX11_who_102 rfl (lv_at hl 2 rfl) ?_
                refine lv_ishl X.hx X.hb dX11_who_103 ?_
                refine lv_goto (tgt := 108) X.hx X.hb dX11_who_104 (by decide) ?_
                exact hj_56 _ _ _ _ hf hP hD hS (lv_sub hl [0, 2] rfl)
        exact hlo_49 N _ _ _ _ _ hf hP hD hS (lv_sub hl [2, 1, 0] rfl)
      have hlo_68 : ∀ (k : Nat) (v1_69 : Int32) (H : Heap) (locs : List Loc) (ls : Array Slot), f_X11_who_39 N iY_1 sY tY jY K_7 k v1_69 = some (r, iY') → va_P G.1 vwCl (gY G uY iY_1 sY tY jY) H → va_D A (gY G uY iY_1 sY tY jY) → va_S A s.heap H locs → lv_has ls 6 [(0, .ref (uY 0)), (1, .int v1_69)] → W p l e (RM 4) s m args below meth c H locs 0 0 QQ (F0 m 39 ls []) := by
        intro k
        induction k with
        | zero => intro v1_69 H locs ls hf; exact absurd hf (by intro q; cases q)
        | succ k ih =>
          intro v1_69 H locs ls hf hP hD hS hl
          unfold f_X11_who_39 at hf
          refine lv_iload_n X.hx X.hb dX11_who_39 rfl (lv_at hl 1 rfl) ?_
          refine lv_aload_n X.hx X.hb dX11_who_40 rfl (lv_at hl 0 rfl) ?_
          refine gf_X11_18 X hP 0 rfl (v := .int (iY_1 3)) rfl dX11_who_41 ?_
          refine lv_icmp_ge (tgt := 78) X.hx X.hb dX11_who_44 (by decide) (fun hc_70 => ?_) (fun hc_70 => ?_)
          · replace hf := if_t hf hc_70
            exact hj_8 _ _ _ hf hP hD hS (lv_sub hl [0] rfl)
          · replace hf := if_f hf hc_70
            refine lv_aload_n X.hx X.hb dX11_who_47 rfl (lv_at hl 0 rfl) ?_
            refine lv_aload_n X.hx X.hb dX11_who_48 rfl (lv_at hl 0 rfl) ?_
            refine lv_iload_n X.hx X.hb dX11_who_49 rfl (lv_at hl 1 rfl) ?_
            obtain ⟨r_71, hc_72, hf⟩ := bd_i hf
            refine r_wvi (As := [.int v1_69]) (rest := [.ref (uY 0)]) X sm_X11_345 (c_X11_octet l G N uY iY_1 sY tY jY v1_69 hc_72) hP hD hS hA 0 rfl rfl rfl hl.1 (lv_room (Nat.le_of_ble_eq_true rfl)) ⟨Nat.le_of_ble_eq_true rfl, Nat.le_of_ble_eq_true rfl⟩ ⟨Nat.zero_le _, Nat.zero_le _⟩ dX11_who_50 (fun H locs hP hD hS => ?_)
            obtain ⟨r_73, hc_74, hf⟩ := bd_i hf
            refine r_wvi (As := [.int r_71]) (rest := []) X sm_X11_272 (c_X11_isPerson l G N uY iY_1 sY tY jY r_71 hc_74) hP hD hS hA 0 rfl rfl rfl hl.1 (lv_room (Nat.le_of_ble_eq_true rfl)) ⟨Nat.le_of_ble_eq_true rfl, Nat.le_of_ble_eq_true rfl⟩ ⟨Nat.zero_le _, Nat.zero_le _⟩ dX11_who_53 (fun H locs hP hD hS => ?_)
            refine lv_if_eq (tgt := 70) X.hx X.hb dX11_who_56 (by decide) (fun hc_75 => ?_) (fun hc_75 => ?_)
            · replace hf := if_t hf hc_75
              refine lv_iconst (v := (-1)) X.hx X.hb dX11_who_70 (by decide) ?_
              cases hf
              subst hQ
              exact r_iret X hP hD hS dX11_who_71
            · replace hf := if_f hf hc_75
              refine lv_aload_n X.hx X.hb dX11_who_59 rfl (lv_at hl 0 rfl) ?_
              refine lv_iload_n X.hx X.hb dX11_who_60 rfl (lv_at hl 1 rfl) ?_
              refine lv_iconst (v := 1) X.hx X.hb dX11_who_61 (by decide) ?_
              refine lv_iadd X.hx X.hb dX11_who_62 ?_
              obtain ⟨r_76, hc_77, hf⟩ := bd_i hf
              refine r_wvi (As := [.int (v1_69 + 1)]) (rest := []) X sm_X11_345 (c_X11_octet l G N uY iY_1 sY tY jY (v1_69 + 1) hc_77) hP hD hS hA 0 rfl rfl rfl hl.1 (lv_room (Nat.le_of_ble_eq_true rfl)) ⟨Nat.le_of_ble_eq_true rfl, Nat.le_of_ble_eq_true rfl⟩ ⟨Nat.zero_le _, Nat.zero_le _⟩ dX11_who_63 (fun H locs hP hD hS => ?_)
              refine lv_iconst (v := 1) X.hx X.hb dX11_who_66 (by decide) ?_
              refine lv_icmp_le (tgt := 72) X.hx X.hb dX11_who_67 (by decide) (fun hc_78 => ?_) (fun hc_78 => ?_)
              · replace hf := if_t hf hc_78
                refine lv_iinc (v := (v1_69 + 2)) (lv' := [(1, .int (v1_69 + 2)), (0, .ref (uY 0))]) X.hx X.hb dX11_who_72 hl (k := 1) rfl rfl (by decide) rfl (fun ls hl => ?_)
                refine lv_goto (tgt := 39) X.hx X.hb dX11_who_75 (by decide) ?_
                exact ih _ _ _ _ hf hP hD hS (lv_sub hl [1, 0] rfl)
              · replace hf := if_f hf hc_78
                refine lv_iconst (v := (-1)) X.hx X.hb dX11_who_70 (by decide) ?_
                cases hf
                subst hQ
                exact r_iret X hP hD hS dX11_who_71
      exact hlo_68 N _ _ _ _ hf hP hD hS (lv_sub hl [1, 0] rfl)
    · replace hf := if_t hf hc_6
      refine lv_iconst (v := (-1)) X.hx X.hb dX11_who_35 (by decide) ?_
      cases hf
      subst hQ
      exact r_iret X hP hD hS dX11_who_36

