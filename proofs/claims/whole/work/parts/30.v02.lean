def f_X11_county_147 (N : Nat) (iY : Nat → Int32) (tY : Nat → Nat → Int64) (jY : Nat → Int64) (K_23 : ((Nat → Nat → Int32)) → Option (Int32 × (Nat → Int32) × (Nat → Nat → Int32) × (Nat → Nat → Int64) × (Nat → Int64))) : Nat → (Nat → Nat → Int32) → (Int32) → Option (Int32 × (Nat → Int32) × (Nat → Nat → Int32) × (Nat → Nat → Int64) × (Nat → Int64))
  | 0, _, _ => none
  | k + 1, sY, v1 => (if (7 : Int32) ≤ v1 then K_23 sY else ck ((5 : Int32) + v1) 457 (ck ((136 : Int32) + v1) 457 (nv (upd (sY 6) (ix ((136 : Int32) + v1)) ((sY 6) (ix ((5 : Int32) + v1)))) (fun g_39 => f_X11_county_147 N iY tY jY K_23 k (va_up sY 6 g_39) (v1 + 1)))))
def f_X11_county_118 (N : Nat) (iY : Nat → Int32) (sY : Nat → Nat → Int32) (jY : Nat → Int64) (K_19 : ((Nat → Nat → Int64)) → Option (Int32 × (Nat → Int32) × (Nat → Nat → Int32) × (Nat → Nat → Int64) × (Nat → Int64))) : Nat → (Nat → Nat → Int64) → (Int32) → Option (Int32 × (Nat → Int32) × (Nat → Nat → Int32) × (Nat → Nat → Int64) × (Nat → Int64))
  | 0, _, _ => none
  | k + 1, tY, v1 => (if (12 : Int32) ≤ v1 then K_19 tY else ck ((12 : Int32) + v1) 24 (ck v1 24 (nv (vp_updL (tY 9) (ix v1) ((tY 9) (ix ((12 : Int32) + v1)))) (fun g_50 => f_X11_county_118 N iY sY jY K_19 k (va_up tY 9 g_50) (v1 + 1)))))
def f_X11_county_80 (N : Nat) (iY : Nat → Int32) (tY : Nat → Nat → Int64) (jY : Nat → Int64) (K_15 : ((Nat → Nat → Int32)) → Option (Int32 × (Nat → Int32) × (Nat → Nat → Int32) × (Nat → Nat → Int64) × (Nat → Int64))) : Nat → (Nat → Nat → Int32) → (Int32) → Option (Int32 × (Nat → Int32) × (Nat → Nat → Int32) × (Nat → Nat → Int64) × (Nat → Int64))
  | 0, _, _ => none
  | k + 1, sY, v1 => (if (457 : Int32) ≤ v1 then K_15 sY else jn (fun (z : (Int32)) => match z with | y_67 => ck v1 457 (nv (upd (sY 6) (ix v1) y_67) (fun g_69 => f_X11_county_80 N iY tY jY K_15 k (va_up sY 6 g_69) (v1 + 1)))) (fun K_64 => (if (131 : Int32) ≤ v1 then K_64 0 else ck v1 131 (K_64 ((sY 7) (ix v1))))))
def f_X11_county_35 (N : Nat) (K_72 : ((Nat → Int32) × (Nat → Nat → Int32) × (Nat → Nat → Int64) × (Nat → Int64)) → Option (Int32 × (Nat → Int32) × (Nat → Nat → Int32) × (Nat → Nat → Int64) × (Nat → Int64))) (K_8 : ((Nat → Int32) × (Nat → Nat → Int32) × (Nat → Nat → Int64) × (Nat → Int64)) → Option (Int32 × (Nat → Int32) × (Nat → Nat → Int32) × (Nat → Nat → Int64) × (Nat → Int64))) : Nat → (Nat → Int32) → (Nat → Nat → Int32) → (Nat → Nat → Int64) → (Nat → Int64) → Option (Int32 × (Nat → Int32) × (Nat → Nat → Int32) × (Nat → Nat → Int64) × (Nat → Int64))
  | 0, _, _, _, _ => none
  | k + 1, iY, sY, tY, jY => (if (iY 11) = 0 then K_8 (iY, sY, tY, jY) else bd (f_X11_line N iY sY tY jY) (fun (r_98, iY_99, sY_100, tY_101, jY_102) => (if r_98 = 0 then K_72 (iY_99, sY_100, tY_101, jY_102) else bd (f_X11_sign N iY_99 sY_100 tY_101 jY_102 59) (fun (r_105, iY_106, jY_107) => (if r_105 = 0 then K_72 (iY_106, sY_100, tY_101, jY_107) else f_X11_county_35 N K_72 K_8 k (va_up iY_106 19 ((iY_106 19) + 1)) sY_100 tY_101 jY_107)))))
def f_X11_county (N : Nat) (iY : Nat → Int32) (sY : Nat → Nat → Int32) (tY : Nat → Nat → Int64) (jY : Nat → Int64) : Option (Int32 × (Nat → Int32) × (Nat → Nat → Int32) × (Nat → Nat → Int64) × (Nat → Int64)) :=
  bd (f_X11_taken N (va_up iY 0 0) sY tY jY 900) (fun iY_1 => bd (f_X11_clears N (va_up (va_up (va_up iY_1 15 0) 19 0) 20 0) sY tY jY) (fun sY_3 => bd (f_X11_next N (va_up (va_up (va_up iY_1 15 0) 19 0) 20 0) sY_3 tY jY) (fun (iY_5, jY_6) => jn (fun (z : (Nat → Int32) × (Nat → Nat → Int32) × (Nat → Nat → Int64) × (Nat → Int64)) => match z with | (iY_11, sY_12, tY_13, jY_14) => jn (fun (z : (Nat → Nat → Int32)) => match z with | sY_18 => jn (fun (z : (Nat → Nat → Int64)) => match z with | tY_22 => jn (fun (z : (Nat → Nat → Int32)) => match z with | sY_26 => bd (f_X11_morning N iY_11 sY_26 tY_22 jY_14) (fun sY_27 => some ((iY_11 19), (va_up iY_11 23 0), sY_27, tY_22, jY_14))) (fun K_23 => f_X11_county_147 N iY_11 tY_22 jY_14 K_23 N sY_18 0)) (fun K_19 => f_X11_county_118 N iY_11 sY_18 jY_14 K_19 N tY_13 0)) (fun K_15 => f_X11_county_80 N iY_11 tY_13 jY_14 K_15 N sY_12 0)) (fun K_8 => jn (fun (z : (Nat → Int32) × (Nat → Nat → Int32) × (Nat → Nat → Int64) × (Nat → Int64)) => match z with | (iY_75, sY_76, tY_77, jY_78) => some (((-1 : Int32) - (iY_75 16)), iY_75, sY_76, tY_77, jY_78)) (fun K_72 => f_X11_county_35 N K_72 K_8 N iY_5 sY_3 tY jY_6)))))
set_option maxHeartbeats 4000000 in
set_option maxRecDepth 100000 in
theorem c_X11_county (l : Launch) (G : GT) (N : Nat) (uY : Nat → Nat) (iY : Nat → Int32) (sY : Nat → Nat → Int32) (tY : Nat → Nat → Int64) (jY : Nat → Int64) {r : Int32} {iY' : Nat → Int32} {sY' : Nat → Nat → Int32} {tY' : Nat → Nat → Int64} {jY' : Nat → Int64} (hf : f_X11_county N iY sY tY jY = some (r, iY', sY', tY', jY')) : CI l G yX11_county cX11_county 2 .int 7 [.ref (uY 0)] (gY G uY iY sY tY jY) r (gY G uY iY' sY' tY' jY') := by
  refine CI.of (by decide) (Nat.le_of_ble_eq_true rfl) ?_
  intro p e s m args below meth c A X hA hP hD hS ls hl
  have hl : lv_has ls 2 [(0, .ref (uY 0))] := hl
  generalize hQ : MQ below (QI G A r (gY G uY iY' sY' tY' jY')) args s 0 0 A = QQ
  unfold f_X11_county at hf
  refine lv_aload_n X.hx X.hb dX11_county_0 rfl (lv_at hl 0 rfl) ?_
  refine lv_iconst (v := 0) X.hx X.hb dX11_county_1 (by decide) ?_
  refine pf_X11_1 X hP hD hS 0 rfl rfl rfl (Nat.le_of_ble_eq_true rfl) (wo := (gY G uY (va_up iY 0 0) sY tY jY)) rfl dX11_county_2 (fun H locs hP hD hS => ?_)
  refine lv_aload_n X.hx X.hb dX11_county_5 rfl (lv_at hl 0 rfl) ?_
  refine lv_sipush (v := 900) X.hx X.hb dX11_county_6 (by decide) ?_
  obtain ⟨iY_1, hc_2, hf⟩ := bd_i hf
  refine r_wvv (As := [.int 900]) (rest := []) X sm_X11_247 (c_X11_taken l G N uY (va_up iY 0 0) sY tY jY 900 hc_2) hP hD hS hA 0 rfl rfl rfl hl.1 (lv_room (Nat.le_of_ble_eq_true rfl)) ⟨Nat.le_of_ble_eq_true rfl, Nat.le_of_ble_eq_true rfl⟩ ⟨Nat.zero_le _, Nat.zero_le _⟩ dX11_county_9 (fun H locs hP hD hS => ?_)
  refine lv_aload_n X.hx X.hb dX11_county_12 rfl (lv_at hl 0 rfl) ?_
  refine lv_iconst (v := 0) X.hx X.hb dX11_county_13 (by decide) ?_
  refine pf_X11_174 X hP hD hS 0 rfl rfl rfl (Nat.le_of_ble_eq_true rfl) (wo := (gY G uY (va_up iY_1 15 0) sY tY jY)) rfl dX11_county_14 (fun H locs hP hD hS => ?_)
  refine lv_aload_n X.hx X.hb dX11_county_17 rfl (lv_at hl 0 rfl) ?_
  refine lv_iconst (v := 0) X.hx X.hb dX11_county_18 (by decide) ?_
  refine pf_X11_250 X hP hD hS 0 rfl rfl rfl (Nat.le_of_ble_eq_true rfl) (wo := (gY G uY (va_up (va_up iY_1 15 0) 19 0) sY tY jY)) rfl dX11_county_19 (fun H locs hP hD hS => ?_)
  refine lv_aload_n X.hx X.hb dX11_county_22 rfl (lv_at hl 0 rfl) ?_
  refine lv_iconst (v := 0) X.hx X.hb dX11_county_23 (by decide) ?_
  refine pf_X11_211 X hP hD hS 0 rfl rfl rfl (Nat.le_of_ble_eq_true rfl) (wo := (gY G uY (va_up (va_up (va_up iY_1 15 0) 19 0) 20 0) sY tY jY)) rfl dX11_county_24 (fun H locs hP hD hS => ?_)
  refine lv_aload_n X.hx X.hb dX11_county_27 rfl (lv_at hl 0 rfl) ?_
  obtain ⟨sY_3, hc_4, hf⟩ := bd_i hf
  refine r_wvv (As := []) (rest := []) X sm_X11_144 (c_X11_clears l G N uY (va_up (va_up (va_up iY_1 15 0) 19 0) 20 0) sY tY jY hc_4) hP hD hS hA 0 rfl rfl rfl hl.1 (lv_room (Nat.le_of_ble_eq_true rfl)) ⟨Nat.le_of_ble_eq_true rfl, Nat.le_of_ble_eq_true rfl⟩ ⟨Nat.zero_le _, Nat.zero_le _⟩ dX11_county_28 (fun H locs hP hD hS => ?_)
  refine lv_aload_n X.hx X.hb dX11_county_31 rfl (lv_at hl 0 rfl) ?_
  obtain ⟨⟨iY_5, jY_6⟩, hc_7, hf⟩ := bd_i hf
  refine r_wvv (As := []) (rest := []) X sm_X11_186 (c_X11_next l G N uY (va_up (va_up (va_up iY_1 15 0) 19 0) 20 0) sY_3 tY jY hc_7) hP hD hS hA 0 rfl rfl rfl hl.1 (lv_room (Nat.le_of_ble_eq_true rfl)) ⟨Nat.le_of_ble_eq_true rfl, Nat.le_of_ble_eq_true rfl⟩ ⟨Nat.zero_le _, Nat.zero_le _⟩ dX11_county_32 (fun H locs hP hD hS => ?_)
  obtain ⟨K_8, eK_10, hf⟩ := jn_i hf
  have hj_9 : ∀ (iY_11 : Nat → Int32) (sY_12 : Nat → Nat → Int32) (tY_13 : Nat → Nat → Int64) (jY_14 : Nat → Int64) (H : Heap) (locs : List Loc) (ls : Array Slot), K_8 (iY_11, sY_12, tY_13, jY_14) = some (r, iY', sY', tY', jY') → va_P G.1 vwCl (gY G uY iY_11 sY_12 tY_13 jY_14) H → va_D A (gY G uY iY_11 sY_12 tY_13 jY_14) → va_S A s.heap H locs → lv_has ls 2 [(0, .ref (uY 0))] → W p l e (RM 7) s m args below meth c H locs 0 0 QQ (F0 m 78 ls []) := by
    intro iY_11 sY_12 tY_13 jY_14 H locs ls hf hP hD hS hl
    rw [eK_10] at hf
    try dsimp only at hf
    refine lv_iconst (v := 0) X.hx X.hb dX11_county_78 (by decide) ?_
    refine lv_istore_n (lv' := [(1, .int 0), (0, .ref (uY 0))]) X.hx X.hb dX11_county_79 rfl hl (by decide) rfl (fun ls hl => ?_)
    obtain ⟨K_15, eK_17, hf⟩ := jn_i hf
    have hj_16 : ∀ (sY_18 : Nat → Nat → Int32) (H : Heap) (locs : List Loc) (ls : Array Slot), K_15 sY_18 = some (r, iY', sY', tY', jY') → va_P G.1 vwCl (gY G uY iY_11 sY_18 tY_13 jY_14) H → va_D A (gY G uY iY_11 sY_18 tY_13 jY_14) → va_S A s.heap H locs → lv_has ls 2 [(0, .ref (uY 0))] → W p l e (RM 7) s m args below meth c H locs 0 0 QQ (F0 m 116 ls []) := by
      intro sY_18 H locs ls hf hP hD hS hl
      rw [eK_17] at hf
      try dsimp only at hf
      refine lv_iconst (v := 0) X.hx X.hb dX11_county_116 (by decide) ?_
      refine lv_istore_n (lv' := [(1, .int 0), (0, .ref (uY 0))]) X.hx X.hb dX11_county_117 rfl hl (by decide) rfl (fun ls hl => ?_)
      obtain ⟨K_19, eK_21, hf⟩ := jn_i hf
      have hj_20 : ∀ (tY_22 : Nat → Nat → Int64) (H : Heap) (locs : List Loc) (ls : Array Slot), K_19 tY_22 = some (r, iY', sY', tY', jY') → va_P G.1 vwCl (gY G uY iY_11 sY_18 tY_22 jY_14) H → va_D A (gY G uY iY_11 sY_18 tY_22 jY_14) → va_S A s.heap H locs → lv_has ls 2 [(0, .ref (uY 0))] → W p l e (RM 7) s m args below meth c H locs 0 0 QQ (F0 m 145 ls []) := by
        intro tY_22 H locs ls hf hP hD hS hl
        rw [eK_21] at hf
        try dsimp only at hf
        refine lv_iconst (v := 0) X.hx X.hb dX11_county_145 (by decide) ?_
        refine lv_istore_n (lv' := [(1, .int 0), (0, .ref (uY 0))]) X.hx X.hb dX11_county_146 rfl hl (by decide) rfl (fun ls hl => ?_)
        obtain ⟨K_23, eK_25, hf⟩ := jn_i hf
        have hj_24 : ∀ (sY_26 : Nat → Nat → Int32) (H : Heap) (locs : List Loc) (ls : Array Slot), K_23 sY_26 = some (r, iY', sY', tY', jY') → va_P G.1 vwCl (gY G uY iY_11 sY_26 tY_22 jY_14) H → va_D A (gY G uY iY_11 sY_26 tY_22 jY_14) → va_S A s.heap H locs → lv_has ls 2 [(0, .ref (uY 0))] → W p l e (RM 7) s m args below meth c H locs 0 0 QQ (F0 m 177 ls []) := by
          intro sY_26 H locs ls hf hP hD hS hl
          rw [eK_25] at hf
          try dsimp only at hf
          refine lv_aload_n X.hx X.hb dX11_county_177 rfl (lv_at hl 0 rfl) ?_
          obtain ⟨sY_27, hc_28, hf⟩ := bd_i hf
          refine r_wvv (As := []) (rest := []) X sm_X11_259 (c_X11_morning l G N uY iY_11 sY_26 tY_22 jY_14 hc_28) hP hD hS hA 0 rfl rfl rfl hl.1 (lv_room (Nat.le_of_ble_eq_true rfl)) ⟨Nat.le_of_ble_eq_true rfl, Nat.le_of_ble_eq_true rfl⟩ ⟨Nat.zero_le _, Nat.zero_le _⟩ dX11_county_178 (fun H locs hP hD hS => ?_)
          refine lv_aload_n X.hx X.hb dX11_county_181 rfl (lv_at hl 0 rfl) ?_
          refine lv_iconst (v := 0) X.hx X.hb dX11_county_182 (by decide) ?_
          refine pf_X11_262 X hP hD hS 0 rfl rfl rfl (Nat.le_of_ble_eq_true rfl) (wo := (gY G uY (va_up iY_11 23 0) sY_27 tY_22 jY_14)) rfl dX11_county_183 (fun H locs hP hD hS => ?_)
          refine lv_aload_n X.hx X.hb dX11_county_186 rfl (lv_at hl 0 rfl) ?_
          refine gf_X11_250 X hP 0 rfl (v := .int (iY_11 19)) rfl dX11_county_187 ?_
          cases hf
          subst hQ
          exact r_iret X hP hD hS dX11_county_190
        have hlo_29 : ∀ (k : Nat) (sY_30 : Nat → Nat → Int32) (v1_31 : Int32) (H : Heap) (locs : List Loc) (ls : Array Slot), f_X11_county_147 N iY_11 tY_22 jY_14 K_23 k sY_30 v1_31 = some (r, iY', sY', tY', jY') → va_P G.1 vwCl (gY G uY iY_11 sY_30 tY_22 jY_14) H → va_D A (gY G uY iY_11 sY_30 tY_22 jY_14) → va_S A s.heap H locs → lv_has ls 2 [(0, .ref (uY 0)), (1, .int v1_31)] → W p l e (RM 7) s m args below meth c H locs 0 0 QQ (F0 m 147 ls []) := by
          intro k
          induction k with
          | zero => intro sY_30 v1_31 H locs ls hf; exact absurd hf (by intro q; cases q)
          | succ k ih =>
            intro sY_30 v1_31 H locs ls hf hP hD hS hl
            unfold f_X11_county_147 at hf
            refine lv_iload_n X.hx X.hb dX11_county_147 rfl (lv_at hl 1 rfl) ?_
            refine lv_bipush (v := 7) X.hx X.hb dX11_county_148 (by decide) ?_
            refine lv_icmp_ge (tgt := 177) X.hx X.hb dX11_county_150 (by decide) (fun hc_32 => ?_) (fun hc_32 => ?_)
            · replace hf := if_t hf hc_32
              exact hj_24 _ _ _ _ hf hP hD hS (lv_sub hl [0] rfl)
            · replace hf := if_f hf hc_32
              refine lv_aload_n X.hx X.hb dX11_county_153 rfl (lv_at hl 0 rfl) ?_
              refine gf_X11_33 X hP 0 rfl (v := .ref (uY 7)) rfl dX11_county_154 ?_
              refine lv_sipush (v := 136) X.hx X.hb dX11_county_157 (by decide) ?_
              refine lv_iload_n X.hx X.hb dX11_county_160 rfl (lv_at hl 1 rfl) ?_
              refine lv_iadd X.hx X.hb dX11_county_161 ?_
              refine lv_aload_n X.hx X.hb dX11_county_162 rfl (lv_at hl 0 rfl) ?_
              refine gf_X11_33 X hP 0 rfl (v := .ref (uY 7)) rfl dX11_county_163 ?_
              refine lv_iconst (v := 5) X.hx X.hb dX11_county_166 (by decide) ?_
              refine lv_iload_n X.hx X.hb dX11_county_167 rfl (lv_at hl 1 rfl) ?_
              refine lv_iadd X.hx X.hb dX11_county_168 ?_
              obtain ⟨hi_33, hf⟩ := ck_i hf
              refine r_iald X hP 2 (f := (sY_30 6)) rfl hi_33 dX11_county_169 ?_
              obtain ⟨hi_34, hf⟩ := ck_i hf
              obtain ⟨g_35, eg_35, hf⟩ := nv_i hf
              refine r_iast X hP hD hS 2 (f := (sY_30 6)) rfl hi_34 (wo := (gY G uY iY_11 (va_up sY_30 6 g_35) tY_22 jY_14)) (by subst eg_35; rfl) dX11_county_170 (fun H locs hP hD hS => ?_)
              refine lv_iinc (v := (v1_31 + 1)) (lv' := [(1, .int (v1_31 + 1)), (0, .ref (uY 0))]) X.hx X.hb dX11_county_171 hl (k := 1) rfl rfl (by decide) rfl (fun ls hl => ?_)
              refine lv_goto (tgt := 147) X.hx X.hb dX11_county_174 (by decide) ?_
              exact ih _ _ _ _ _ hf hP hD hS (lv_sub hl [1, 0] rfl)
        exact hlo_29 N _ _ _ _ _ hf hP hD hS (lv_sub hl [1, 0] rfl)
      have hlo_40 : ∀ (k : Nat) (tY_41 : Nat → Nat → Int64) (v1_42 : Int32) (H : Heap) (locs : List Loc) (ls : Array Slot), f_X11_county_118 N iY_11 sY_18 jY_14 K_19 k tY_41 v1_42 = some (r, iY', sY', tY', jY') → va_P G.1 vwCl (gY G uY iY_11 sY_18 tY_41 jY_14) H → va_D A (gY G uY iY_11 sY_18 tY_41 jY_14) → va_S A s.heap H locs → lv_has ls 2 [(0, .ref (uY 0)), (1, .int v1_42)] → W p l e (RM 7) s m args below meth c H locs 0 0 QQ (F0 m 118 ls []) := by
        intro k
        induction k with
        | zero => intro tY_41 v1_42 H locs ls hf; exact absurd hf (by intro q; cases q)
        | succ k ih =>
          intro tY_41 v1_42 H locs ls hf hP hD hS hl
          unfold f_X11_county_118 at hf
          refine lv_iload_n X.hx X.hb dX11_county_118 rfl (lv_at hl 1 rfl) ?_
          refine lv_bipush (v := 12) X.hx X.hb dX11_county_119 (by decide) ?_
          refine lv_icmp_ge (tgt := 145) X.hx X.hb dX11_county_121 (by decide) (fun hc_43 => ?_) (fun hc_43 => ?_)
          · replace hf := if_t hf hc_43
            exact hj_20 _ _ _ _ hf hP hD hS (lv_sub hl [0] rfl)
          · replace hf := if_f hf hc_43
            refine lv_aload_n X.hx X.hb dX11_county_124 rfl (lv_at hl 0 rfl) ?_
            refine gf_X11_43 X hP 0 rfl (v := .ref (uY 10)) rfl dX11_county_125 ?_
            refine lv_iload_n X.hx X.hb dX11_county_128 rfl (lv_at hl 1 rfl) ?_
            refine lv_aload_n X.hx X.hb dX11_county_129 rfl (lv_at hl 0 rfl) ?_
            refine gf_X11_43 X hP 0 rfl (v := .ref (uY 10)) rfl dX11_county_130 ?_
            refine lv_bipush (v := 12) X.hx X.hb dX11_county_133 (by decide) ?_
            refine lv_iload_n X.hx X.hb dX11_county_135 rfl (lv_at hl 1 rfl) ?_
            refine lv_iadd X.hx X.hb dX11_county_136 ?_
            obtain ⟨hi_44, hf⟩ := ck_i hf
            refine r_lald X hP 5 (f := (tY_41 9)) rfl hi_44 dX11_county_137 ?_
            obtain ⟨hi_45, hf⟩ := ck_i hf
            obtain ⟨g_46, eg_46, hf⟩ := nv_i hf
            refine r_last X hP hD hS 5 (f := (tY_41 9)) rfl hi_45 (wo := (gY G uY iY_11 sY_18 (va_up tY_41 9 g_46) jY_14)) (by subst eg_46; rfl) dX11_county_138 (fun H locs hP hD hS => ?_)
            refine lv_iinc (v := (v1_42 + 1)) (lv' := [(1, .int (v1_42 + 1)), (0, .ref (uY 0))]) X.hx X.hb dX11_county_139 hl (k := 1) rfl rfl (by decide) rfl (fun ls hl => ?_)
            refine lv_goto (tgt := 118) X.hx X.hb dX11_county_142 (by decide) ?_
            exact ih _ _ _ _ _ hf hP hD hS (lv_sub hl [1, 0] rfl)
      exact hlo_40 N _ _ _ _ _ hf hP hD hS (lv_sub hl [1, 0] rfl)
    have hlo_51 : ∀ (k : Nat) (sY_52 : Nat → Nat → Int32) (v1_53 : Int32) (H : Heap) (locs : List Loc) (ls : Array Slot), f_X11_county_80 N iY_11 tY_13 jY_14 K_15 k sY_52 v1_53 = some (r, iY', sY', tY', jY') → va_P G.1 vwCl (gY G uY iY_11 sY_52 tY_13 jY_14) H → va_D A (gY G uY iY_11 sY_52 tY_13 jY_14) → va_S A s.heap H locs → lv_has ls 2 [(0, .ref (uY 0)), (1, .int v1_53)] → W p l e (RM 7) s m args below meth c H locs 0 0 QQ (F0 m 80 ls []) := by
      intro k
      induction k with
      | zero => intro sY_52 v1_53 H locs ls hf; exact absurd hf (by intro q; cases q)
      | succ k ih =>
        intro sY_52 v1_53 H locs ls hf hP hD hS hl
        unfold f_X11_county_80 at hf
        refine lv_iload_n X.hx X.hb dX11_county_80 rfl (lv_at hl 1 rfl) ?_
        refine lv_sipush (v := 457) X.hx X.hb dX11_county_81 (by decide) ?_
        refine lv_icmp_ge (tgt := 116) X.hx X.hb dX11_county_84 (by decide) (fun hc_54 => ?_) (fun hc_54 => ?_)
        · replace hf := if_t hf hc_54
          exact hj_16 _ _ _ _ hf hP hD hS (lv_sub hl [0] rfl)
        · replace hf := if_f hf hc_54
          refine lv_aload_n X.hx X.hb dX11_county_87 rfl (lv_at hl 0 rfl) ?_
          refine gf_X11_33 X hP 0 rfl (v := .ref (uY 7)) rfl dX11_county_88 ?_
          refine lv_iload_n X.hx X.hb dX11_county_91 rfl (lv_at hl 1 rfl) ?_
          refine lv_iload_n X.hx X.hb dX11_county_92 rfl (lv_at hl 1 rfl) ?_
          refine lv_sipush (v := 131) X.hx X.hb dX11_county_93 (by decide) ?_
          obtain ⟨K_55, eK_57, hf⟩ := jn_i hf
          have hj_56 : ∀ (y_58 : Int32) (H : Heap) (locs : List Loc) (ls : Array Slot), K_55 y_58 = some (r, iY', sY', tY', jY') → va_P G.1 vwCl (gY G uY iY_11 sY_52 tY_13 jY_14) H → va_D A (gY G uY iY_11 sY_52 tY_13 jY_14) → va_S A s.heap H locs → lv_has ls 2 [(0, .ref (uY 0)), (1, .int v1_53)] → W p l e (RM 7) s m args below meth c H locs 0 0 QQ (F0 m 109 ls [.int y_58, .int v1_53, .ref (uY 7)]) := by
            intro y_58 H locs ls hf hP hD hS hl
            rw [eK_57] at hf
            try dsimp only at hf
            obtain ⟨hi_59, hf⟩ := ck_i hf
            obtain ⟨g_60, eg_60, hf⟩ := nv_i hf
            refine r_iast X hP hD hS 2 (f := (sY_52 6)) rfl hi_59 (wo := (gY G uY iY_11 (va_up sY_52 6 g_60) tY_13 jY_14)) (by subst eg_60; rfl) dX11_county_109 (fun H locs hP hD hS => ?_)
            refine lv_iinc (v := (v1_53 + 1)) (lv' := [(1, .int (v1_53 + 1)), (0, .ref (uY 0))]) X.hx X.hb dX11_county_110 hl (k := 1) rfl rfl (by decide) rfl (fun ls hl => ?_)
            refine lv_goto (tgt := 80) X.hx X.hb dX11_county_113 (by decide) ?_
            exact ih _ _ _ _ _ hf hP hD hS (lv_sub hl [1, 0] rfl)
          refine lv_icmp_ge (tgt := 108) X.hx X.hb dX11_county_96 (by decide) (fun hc_61 => ?_) (fun hc_61 => ?_)
          · replace hf := if_t hf hc_61
            refine lv_iconst (v := 0) X.hx X.hb dX11_county_108 (by decide) ?_
            exact hj_56 _ _ _ _ hf hP hD hS (lv_sub hl [0, 1] rfl)
          · replace hf := if_f hf hc_61
            refine lv_aload_n X.hx X.hb dX11_county_99 rfl (lv_at hl 0 rfl) ?_
            refine gf_X11_37 X hP 0 rfl (v := .ref (uY 8)) rfl dX11_county_100 ?_
            refine lv_iload_n X.hx X.hb dX11_county_103 rfl (lv_at hl 1 rfl) ?_
            obtain ⟨hi_62, hf⟩ := ck_i hf
            refine r_iald X hP 3 (f := (sY_52 7)) rfl hi_62 dX11_county_104 ?_
            refine lv_goto (tgt := 109) X.hx X.hb dX11_county_105 (by decide) ?_
            exact hj_56 _ _ _ _ hf hP hD hS (lv_sub hl [0, 1] rfl)
    exact hlo_51 N _ _ _ _ _ hf hP hD hS (lv_sub hl [1, 0] rfl)
  obtain ⟨K_72, eK_74, hf⟩ := jn_i hf
  have hj_73 : ∀ (iY_75 : Nat → Int32) (sY_76 : Nat → Nat → Int32) (tY_77 : Nat → Nat → Int64) (jY_78 : Nat → Int64) (H : Heap) (locs : List Loc) (ls : Array Slot), K_72 (iY_75, sY_76, tY_77, jY_78) = some (r, iY', sY', tY', jY') → va_P G.1 vwCl (gY G uY iY_75 sY_76 tY_77 jY_78) H → va_D A (gY G uY iY_75 sY_76 tY_77 jY_78) → va_S A s.heap H locs → lv_has ls 2 [(0, .ref (uY 0))] → W p l e (RM 7) s m args below meth c H locs 0 0 QQ (F0 m 58 ls []) := by
    intro iY_75 sY_76 tY_77 jY_78 H locs ls hf hP hD hS hl
    rw [eK_74] at hf
    try dsimp only at hf
    refine lv_iconst (v := (-1)) X.hx X.hb dX11_county_58 (by decide) ?_
    refine lv_aload_n X.hx X.hb dX11_county_59 rfl (lv_at hl 0 rfl) ?_
    refine gf_X11_177 X hP 0 rfl (v := .int (iY_75 16)) rfl dX11_county_60 ?_
    refine lv_isub X.hx X.hb dX11_county_63 ?_
    obtain ⟨rfl, he_0⟩ := Prod.mk.inj (Option.some.inj hf)
    obtain ⟨rfl, he_1⟩ := Prod.mk.inj he_0
    obtain ⟨rfl, he_2⟩ := Prod.mk.inj he_1
    obtain ⟨rfl, he_3⟩ := Prod.mk.inj he_2
    subst he_3
    subst hQ
    exact r_iret X hP hD hS dX11_county_64
  have hlo_79 : ∀ (k : Nat) (iY_80 : Nat → Int32) (sY_81 : Nat → Nat → Int32) (tY_82 : Nat → Nat → Int64) (jY_83 : Nat → Int64) (H : Heap) (locs : List Loc) (ls : Array Slot), f_X11_county_35 N K_72 K_8 k iY_80 sY_81 tY_82 jY_83 = some (r, iY', sY', tY', jY') → va_P G.1 vwCl (gY G uY iY_80 sY_81 tY_82 jY_83) H → va_D A (gY G uY iY_80 sY_81 tY_82 jY_83) → va_S A s.heap H locs → lv_has ls 2 [(0, .ref (uY 0))] → W p l e (RM 7) s m args below meth c H locs 0 0 QQ (F0 m 35 ls []) := by
    intro k
    induction k with
    | zero => intro iY_80 sY_81 tY_82 jY_83 H locs ls hf; exact absurd hf (by intro q; cases q)
    | succ k ih =>
      intro iY_80 sY_81 tY_82 jY_83 H locs ls hf hP hD hS hl
      unfold f_X11_county_35 at hf
      refine lv_aload_n X.hx X.hb dX11_county_35 rfl (lv_at hl 0 rfl) ?_
      refine gf_X11_157 X hP 0 rfl (v := .int (iY_80 11)) rfl dX11_county_36 ?_
      refine lv_if_eq (tgt := 78) X.hx X.hb dX11_county_39 (by decide) (fun hc_84 => ?_) (fun hc_84 => ?_)
      · replace hf := if_t hf hc_84
        exact hj_9 _ _ _ _ _ _ _ hf hP hD hS (lv_sub hl [0] rfl)
      · replace hf := if_f hf hc_84
        refine lv_aload_n X.hx X.hb dX11_county_42 rfl (lv_at hl 0 rfl) ?_
        obtain ⟨⟨r_85, iY_86, sY_87, tY_88, jY_89⟩, hc_90, hf⟩ := bd_i hf
        refine r_wvi (As := []) (rest := []) X sm_X11_253 (c_X11_line l G N uY iY_80 sY_81 tY_82 jY_83 hc_90) hP hD hS hA 0 rfl rfl rfl hl.1 (lv_room (Nat.le_of_ble_eq_true rfl)) ⟨Nat.le_of_ble_eq_true rfl, Nat.le_of_ble_eq_true rfl⟩ ⟨Nat.zero_le _, Nat.zero_le _⟩ dX11_county_43 (fun H locs hP hD hS => ?_)
        refine lv_if_eq (tgt := 58) X.hx X.hb dX11_county_46 (by decide) (fun hc_91 => ?_) (fun hc_91 => ?_)
        · replace hf := if_t hf hc_91
          exact hj_73 _ _ _ _ _ _ _ hf hP hD hS (lv_sub hl [0] rfl)
        · replace hf := if_f hf hc_91
          refine lv_aload_n X.hx X.hb dX11_county_49 rfl (lv_at hl 0 rfl) ?_
          refine lv_bipush (v := 59) X.hx X.hb dX11_county_50 (by decide) ?_
          obtain ⟨⟨r_92, iY_93, jY_94⟩, hc_95, hf⟩ := bd_i hf
          refine r_wvi (As := [.int 59]) (rest := []) X sm_X11_256 (c_X11_sign l G N uY iY_86 sY_87 tY_88 jY_89 59 hc_95) hP hD hS hA 0 rfl rfl rfl hl.1 (lv_room (Nat.le_of_ble_eq_true rfl)) ⟨Nat.le_of_ble_eq_true rfl, Nat.le_of_ble_eq_true rfl⟩ ⟨Nat.zero_le _, Nat.zero_le _⟩ dX11_county_52 (fun H locs hP hD hS => ?_)
          refine lv_if_ne (tgt := 65) X.hx X.hb dX11_county_55 (by decide) (fun hc_96 => ?_) (fun hc_96 => ?_)
          · replace hf := if_f hf hc_96
            refine lv_aload_n X.hx X.hb dX11_county_65 rfl (lv_at hl 0 rfl) ?_
            refine lv_dup X.hx X.hb dX11_county_66 rfl ?_
            refine gf_X11_250 X hP 0 rfl (v := .int (iY_93 19)) rfl dX11_county_67 ?_
            refine lv_iconst (v := 1) X.hx X.hb dX11_county_70 (by decide) ?_
            refine lv_iadd X.hx X.hb dX11_county_71 ?_
            refine pf_X11_250 X hP hD hS 0 rfl rfl rfl (Nat.le_of_ble_eq_true rfl) (wo := (gY G uY (va_up iY_93 19 ((iY_93 19) + 1)) sY_87 tY_88 jY_94)) rfl dX11_county_72 (fun H locs hP hD hS => ?_)
            refine lv_goto (tgt := 35) X.hx X.hb dX11_county_75 (by decide) ?_
            exact ih _ _ _ _ _ _ _ hf hP hD hS (lv_sub hl [0] rfl)
          · replace hf := if_t hf hc_96
            exact hj_73 _ _ _ _ _ _ _ hf hP hD hS (lv_sub hl [0] rfl)
  exact hlo_79 N _ _ _ _ _ _ _ hf hP hD hS (lv_sub hl [0] rfl)

def f_X11_fault (N : Nat) (iY : Nat → Int32) (sY : Nat → Nat → Int32) (tY : Nat → Nat → Int64) (jY : Nat → Int64) : Option (Int32 × (Nat → Int32)) :=
  some ((iY 15), (va_up iY 0 0))
set_option maxHeartbeats 4000000 in
set_option maxRecDepth 100000 in
theorem c_X11_fault (l : Launch) (G : GT) (N : Nat) (uY : Nat → Nat) (iY : Nat → Int32) (sY : Nat → Nat → Int32) (tY : Nat → Nat → Int64) (jY : Nat → Int64) {r : Int32} {iY' : Nat → Int32} (hf : f_X11_fault N iY sY tY jY = some (r, iY')) : CI l G yX11_fault cX11_fault 1 .int 1 [.ref (uY 0)] (gY G uY iY sY tY jY) r (gY G uY iY' sY tY jY) := by
  refine CI.of (by decide) (Nat.le_of_ble_eq_true rfl) ?_
  intro p e s m args below meth c A X hA hP hD hS ls hl
  have hl : lv_has ls 1 [(0, .ref (uY 0))] := hl
  generalize hQ : MQ below (QI G A r (gY G uY iY' sY tY jY)) args s 0 0 A = QQ
  unfold f_X11_fault at hf
  refine lv_aload_n X.hx X.hb dX11_fault_0 rfl (lv_at hl 0 rfl) ?_
  refine lv_iconst (v := 0) X.hx X.hb dX11_fault_1 (by decide) ?_
  refine pf_X11_1 X hP hD hS 0 rfl rfl rfl (Nat.le_of_ble_eq_true rfl) (wo := (gY G uY (va_up iY 0 0) sY tY jY)) rfl dX11_fault_2 (fun H locs hP hD hS => ?_)
  refine lv_aload_n X.hx X.hb dX11_fault_5 rfl (lv_at hl 0 rfl) ?_
  refine gf_X11_174 X hP 0 rfl (v := .int (iY 15)) rfl dX11_fault_6 ?_
  cases hf
  subst hQ
  exact r_iret X hP hD hS dX11_fault_9

def f_X11_isPerson (N : Nat) (iY : Nat → Int32) (sY : Nat → Nat → Int32) (tY : Nat → Nat → Int64) (jY : Nat → Int64) (p1 : Int32) : Option (Int32) :=
  bd (f_X11_isIn N p1 0 (((sY 6) 0) - 1)) (fun r_1 => zb r_1 (some r_1))
set_option maxHeartbeats 4000000 in
set_option maxRecDepth 100000 in
theorem c_X11_isPerson (l : Launch) (G : GT) (N : Nat) (uY : Nat → Nat) (iY : Nat → Int32) (sY : Nat → Nat → Int32) (tY : Nat → Nat → Int64) (jY : Nat → Int64) (p1 : Int32) {r : Int32} (hf : f_X11_isPerson N iY sY tY jY p1 = some r) : CI l G yX11_isPerson cX11_isPerson 2 .boolean 2 [.ref (uY 0), .int p1] (gY G uY iY sY tY jY) r (gY G uY iY sY tY jY) := by
  refine CI.of (by decide) (Nat.le_of_ble_eq_true rfl) ?_
  intro p e s m args below meth c A X hA hP hD hS ls hl
  have hl : lv_has ls 2 [(0, .ref (uY 0)), (1, .int p1)] := hl
  generalize hQ : MQ below (QI G A r (gY G uY iY sY tY jY)) args s 0 0 A = QQ
  unfold f_X11_isPerson at hf
  refine lv_iload_n X.hx X.hb dX11_isPerson_0 rfl (lv_at hl 1 rfl) ?_
  refine lv_iconst (v := 0) X.hx X.hb dX11_isPerson_1 (by decide) ?_
  refine lv_aload_n X.hx X.hb dX11_isPerson_2 rfl (lv_at hl 0 rfl) ?_
  refine gf_X11_33 X hP 0 rfl (v := .ref (uY 7)) rfl dX11_isPerson_3 ?_
  refine lv_iconst (v := 0) X.hx X.hb dX11_isPerson_6 (by decide) ?_
  refine r_iald X hP 2 (f := (sY 6)) rfl (vp_c rfl) dX11_isPerson_7 ?_
  refine W.eq (g2 := F0 m 8 ls [.int ((sY 6) 0), .int 0, .int p1]) rfl ?_
  refine lv_iconst (v := 1) X.hx X.hb dX11_isPerson_8 (by decide) ?_
  refine lv_isub X.hx X.hb dX11_isPerson_9 ?_
  obtain ⟨r_1, hc_2, hf⟩ := bd_i hf
  refine r_cs0 (As := [.int p1, .int 0, .int (((sY 6) 0) - 1)]) (rest := []) X sm_X11_189 (c_X11_isIn l G N p1 0 (((sY 6) 0) - 1) hc_2) hP hD hS hA rfl hl.1 (lv_room (Nat.le_of_ble_eq_true rfl)) ⟨Nat.le_of_ble_eq_true rfl, Nat.le_of_ble_eq_true rfl⟩ ⟨Nat.zero_le _, Nat.zero_le _⟩ dX11_isPerson_10 (fun H locs hP hD hS => ?_)
  obtain ⟨hb_3, hf⟩ := zb_i hf
  cases hf
  subst hQ
  exact r_zret X hP hD hS hb_3 dX11_isPerson_13

def f_X11_isGood (N : Nat) (iY : Nat → Int32) (sY : Nat → Nat → Int32) (tY : Nat → Nat → Int64) (jY : Nat → Int64) (p1 : Int32) : Option (Int32) :=
  bd (f_X11_isIn N p1 0 (((sY 6) 1) - 1)) (fun r_1 => zb r_1 (some r_1))
set_option maxHeartbeats 4000000 in
set_option maxRecDepth 100000 in
theorem c_X11_isGood (l : Launch) (G : GT) (N : Nat) (uY : Nat → Nat) (iY : Nat → Int32) (sY : Nat → Nat → Int32) (tY : Nat → Nat → Int64) (jY : Nat → Int64) (p1 : Int32) {r : Int32} (hf : f_X11_isGood N iY sY tY jY p1 = some r) : CI l G yX11_isGood cX11_isGood 2 .boolean 2 [.ref (uY 0), .int p1] (gY G uY iY sY tY jY) r (gY G uY iY sY tY jY) := by
  refine CI.of (by decide) (Nat.le_of_ble_eq_true rfl) ?_
  intro p e s m args below meth c A X hA hP hD hS ls hl
  have hl : lv_has ls 2 [(0, .ref (uY 0)), (1, .int p1)] := hl
  generalize hQ : MQ below (QI G A r (gY G uY iY sY tY jY)) args s 0 0 A = QQ
  unfold f_X11_isGood at hf
  refine lv_iload_n X.hx X.hb dX11_isGood_0 rfl (lv_at hl 1 rfl) ?_
  refine lv_iconst (v := 0) X.hx X.hb dX11_isGood_1 (by decide) ?_
  refine lv_aload_n X.hx X.hb dX11_isGood_2 rfl (lv_at hl 0 rfl) ?_
  refine gf_X11_33 X hP 0 rfl (v := .ref (uY 7)) rfl dX11_isGood_3 ?_
  refine lv_iconst (v := 1) X.hx X.hb dX11_isGood_6 (by decide) ?_
  refine r_iald X hP 2 (f := (sY 6)) rfl (vp_c rfl) dX11_isGood_7 ?_
  refine W.eq (g2 := F0 m 8 ls [.int ((sY 6) 1), .int 0, .int p1]) rfl ?_
  refine lv_iconst (v := 1) X.hx X.hb dX11_isGood_8 (by decide) ?_
  refine lv_isub X.hx X.hb dX11_isGood_9 ?_
  obtain ⟨r_1, hc_2, hf⟩ := bd_i hf
  refine r_cs0 (As := [.int p1, .int 0, .int (((sY 6) 1) - 1)]) (rest := []) X sm_X11_189 (c_X11_isIn l G N p1 0 (((sY 6) 1) - 1) hc_2) hP hD hS hA rfl hl.1 (lv_room (Nat.le_of_ble_eq_true rfl)) ⟨Nat.le_of_ble_eq_true rfl, Nat.le_of_ble_eq_true rfl⟩ ⟨Nat.zero_le _, Nat.zero_le _⟩ dX11_isGood_10 (fun H locs hP hD hS => ?_)
  obtain ⟨hb_3, hf⟩ := zb_i hf
  cases hf
  subst hQ
  exact r_zret X hP hD hS hb_3 dX11_isGood_13

def f_X11_knownBy (N : Nat) (iY : Nat → Int32) (sY : Nat → Nat → Int32) (tY : Nat → Nat → Int64) (jY : Nat → Int64) (p1 : Int32) : Option (Int32) :=
  ck ((117 : Int32) + p1) 457 (ck ((220 : Int32) + p1) 457 (some (((sY 6) (ix ((117 : Int32) + p1))) ||| ((sY 6) (ix ((220 : Int32) + p1))))))
set_option maxHeartbeats 4000000 in
set_option maxRecDepth 100000 in
theorem c_X11_knownBy (l : Launch) (G : GT) (N : Nat) (uY : Nat → Nat) (iY : Nat → Int32) (sY : Nat → Nat → Int32) (tY : Nat → Nat → Int64) (jY : Nat → Int64) (p1 : Int32) {r : Int32} (hf : f_X11_knownBy N iY sY tY jY p1 = some r) : CI l G yX11_knownBy cX11_knownBy 2 .int 1 [.ref (uY 0), .int p1] (gY G uY iY sY tY jY) r (gY G uY iY sY tY jY) := by
  refine CI.of (by decide) (Nat.le_of_ble_eq_true rfl) ?_
  intro p e s m args below meth c A X hA hP hD hS ls hl
  have hl : lv_has ls 2 [(0, .ref (uY 0)), (1, .int p1)] := hl
  generalize hQ : MQ below (QI G A r (gY G uY iY sY tY jY)) args s 0 0 A = QQ
  unfold f_X11_knownBy at hf
  refine lv_aload_n X.hx X.hb dX11_knownBy_0 rfl (lv_at hl 0 rfl) ?_
  refine gf_X11_33 X hP 0 rfl (v := .ref (uY 7)) rfl dX11_knownBy_1 ?_
  refine lv_bipush (v := 117) X.hx X.hb dX11_knownBy_4 (by decide) ?_
  refine lv_iload_n X.hx X.hb dX11_knownBy_6 rfl (lv_at hl 1 rfl) ?_
  refine lv_iadd X.hx X.hb dX11_knownBy_7 ?_
  obtain ⟨hi_1, hf⟩ := ck_i hf
  refine r_iald X hP 2 (f := (sY 6)) rfl hi_1 dX11_knownBy_8 ?_
  refine lv_aload_n X.hx X.hb dX11_knownBy_9 rfl (lv_at hl 0 rfl) ?_
  refine gf_X11_33 X hP 0 rfl (v := .ref (uY 7)) rfl dX11_knownBy_10 ?_
  refine lv_sipush (v := 220) X.hx X.hb dX11_knownBy_13 (by decide) ?_
  refine lv_iload_n X.hx X.hb dX11_knownBy_16 rfl (lv_at hl 1 rfl) ?_
  refine lv_iadd X.hx X.hb dX11_knownBy_17 ?_
  obtain ⟨hi_2, hf⟩ := ck_i hf
  refine r_iald X hP 2 (f := (sY 6)) rfl hi_2 dX11_knownBy_18 ?_
  refine lv_ior X.hx X.hb dX11_knownBy_19 ?_
  cases hf
  subst hQ
  exact r_iret X hP hD hS dX11_knownBy_20

def f_X11_mayBy (N : Nat) (iY : Nat → Int32) (sY : Nat → Nat → Int32) (tY : Nat → Nat → Int64) (jY : Nat → Int64) (p1 : Int32) : Option (Int32) :=
  bd (f_X11_knownBy N iY sY tY jY p1) (fun r_1 => ck ((124 : Int32) + p1) 457 (some (((((1 : Int32) <<< (((sY 6) 0) &&& 31)) - 1) &&& (((1 : Int32) <<< (p1 &&& 31)) ^^^ (-1))) &&& ((r_1 ^^^ (-1)) ||| ((sY 6) (ix ((124 : Int32) + p1)))))))
set_option maxHeartbeats 4000000 in
set_option maxRecDepth 100000 in
theorem c_X11_mayBy (l : Launch) (G : GT) (N : Nat) (uY : Nat → Nat) (iY : Nat → Int32) (sY : Nat → Nat → Int32) (tY : Nat → Nat → Int64) (jY : Nat → Int64) (p1 : Int32) {r : Int32} (hf : f_X11_mayBy N iY sY tY jY p1 = some r) : CI l G yX11_mayBy cX11_mayBy 2 .int 2 [.ref (uY 0), .int p1] (gY G uY iY sY tY jY) r (gY G uY iY sY tY jY) := by
  refine CI.of (by decide) (Nat.le_of_ble_eq_true rfl) ?_
  intro p e s m args below meth c A X hA hP hD hS ls hl
  have hl : lv_has ls 2 [(0, .ref (uY 0)), (1, .int p1)] := hl
  generalize hQ : MQ below (QI G A r (gY G uY iY sY tY jY)) args s 0 0 A = QQ
  unfold f_X11_mayBy at hf
  refine lv_iconst (v := 1) X.hx X.hb dX11_mayBy_0 (by decide) ?_
  refine lv_aload_n X.hx X.hb dX11_mayBy_1 rfl (lv_at hl 0 rfl) ?_
  refine gf_X11_33 X hP 0 rfl (v := .ref (uY 7)) rfl dX11_mayBy_2 ?_
  refine lv_iconst (v := 0) X.hx X.hb dX11_mayBy_5 (by decide) ?_
  refine r_iald X hP 2 (f := (sY 6)) rfl (vp_c rfl) dX11_mayBy_6 ?_
  refine W.eq (g2 := F0 m 7 ls [.int ((sY 6) 0), .int 1]) rfl ?_
  refine lv_ishl X.hx X.hb dX11_mayBy_7 ?_
  refine lv_iconst (v := 1) X.hx X.hb dX11_mayBy_8 (by decide) ?_
  refine lv_isub X.hx X.hb dX11_mayBy_9 ?_
  refine lv_iconst (v := 1) X.hx X.hb dX11_mayBy_10 (by decide) ?_
  refine lv_iload_n X.hx X.hb dX11_mayBy_11 rfl (lv_at hl 1 rfl) ?_
  refine lv_ishl X.hx X.hb dX11_mayBy_12 ?_
  refine lv_iconst (v := (-1)) X.hx X.hb dX11_mayBy_13 (by decide) ?_
  refine lv_ixor X.hx X.hb dX11_mayBy_14 ?_
  refine lv_iand X.hx X.hb dX11_mayBy_15 ?_
  refine lv_aload_n X.hx X.hb dX11_mayBy_16 rfl (lv_at hl 0 rfl) ?_
  refine lv_iload_n X.hx X.hb dX11_mayBy_17 rfl (lv_at hl 1 rfl) ?_
  obtain ⟨r_1, hc_2, hf⟩ := bd_i hf
  refine r_wvi (As := [.int p1]) (rest := [.int ((((1 : Int32) <<< (((sY 6) 0) &&& 31)) - 1) &&& (((1 : Int32) <<< (p1 &&& 31)) ^^^ (-1)))]) X sm_X11_265 (c_X11_knownBy l G N uY iY sY tY jY p1 hc_2) hP hD hS hA 0 rfl rfl rfl hl.1 (lv_room (Nat.le_of_ble_eq_true rfl)) ⟨Nat.le_of_ble_eq_true rfl, Nat.le_of_ble_eq_true rfl⟩ ⟨Nat.zero_le _, Nat.zero_le _⟩ dX11_mayBy_18 (fun H locs hP hD hS => ?_)
  refine lv_iconst (v := (-1)) X.hx X.hb dX11_mayBy_21 (by decide) ?_
  refine lv_ixor X.hx X.hb dX11_mayBy_22 ?_
  refine lv_aload_n X.hx X.hb dX11_mayBy_23 rfl (lv_at hl 0 rfl) ?_
  refine gf_X11_33 X hP 0 rfl (v := .ref (uY 7)) rfl dX11_mayBy_24 ?_
  refine lv_bipush (v := 124) X.hx X.hb dX11_mayBy_27 (by decide) ?_
  refine lv_iload_n X.hx X.hb dX11_mayBy_29 rfl (lv_at hl 1 rfl) ?_
  refine lv_iadd X.hx X.hb dX11_mayBy_30 ?_
  obtain ⟨hi_3, hf⟩ := ck_i hf
  refine r_iald X hP 2 (f := (sY 6)) rfl hi_3 dX11_mayBy_31 ?_
  refine lv_ior X.hx X.hb dX11_mayBy_32 ?_
  refine lv_iand X.hx X.hb dX11_mayBy_33 ?_
  cases hf
  subst hQ
  exact r_iret X hP hD hS dX11_mayBy_34

def f_X11_isHome (N : Nat) (iY : Nat → Int32) (sY : Nat → Nat → Int32) (tY : Nat → Nat → Int64) (jY : Nat → Int64) (p1 : Int32) : Option (Int32) :=
  bd (f_X11_bitOf N ((sY 6) 133) p1) (fun r_1 => zb r_1 (some r_1))
set_option maxHeartbeats 4000000 in
set_option maxRecDepth 100000 in
theorem c_X11_isHome (l : Launch) (G : GT) (N : Nat) (uY : Nat → Nat) (iY : Nat → Int32) (sY : Nat → Nat → Int32) (tY : Nat → Nat → Int64) (jY : Nat → Int64) (p1 : Int32) {r : Int32} (hf : f_X11_isHome N iY sY tY jY p1 = some r) : CI l G yX11_isHome cX11_isHome 2 .boolean 2 [.ref (uY 0), .int p1] (gY G uY iY sY tY jY) r (gY G uY iY sY tY jY) := by
  refine CI.of (by decide) (Nat.le_of_ble_eq_true rfl) ?_
  intro p e s m args below meth c A X hA hP hD hS ls hl
  have hl : lv_has ls 2 [(0, .ref (uY 0)), (1, .int p1)] := hl
  generalize hQ : MQ below (QI G A r (gY G uY iY sY tY jY)) args s 0 0 A = QQ
  unfold f_X11_isHome at hf
  refine lv_aload_n X.hx X.hb dX11_isHome_0 rfl (lv_at hl 0 rfl) ?_
  refine gf_X11_33 X hP 0 rfl (v := .ref (uY 7)) rfl dX11_isHome_1 ?_
  refine lv_sipush (v := 133) X.hx X.hb dX11_isHome_4 (by decide) ?_
  refine r_iald X hP 2 (f := (sY 6)) rfl (vp_c rfl) dX11_isHome_7 ?_
  refine W.eq (g2 := F0 m 8 ls [.int ((sY 6) 133)]) rfl ?_
  refine lv_iload_n X.hx X.hb dX11_isHome_8 rfl (lv_at hl 1 rfl) ?_
  obtain ⟨r_1, hc_2, hf⟩ := bd_i hf
  refine r_cs0 (As := [.int ((sY 6) 133), .int p1]) (rest := []) X sm_X11_214 (c_X11_bitOf l G N ((sY 6) 133) p1 hc_2) hP hD hS hA rfl hl.1 (lv_room (Nat.le_of_ble_eq_true rfl)) ⟨Nat.le_of_ble_eq_true rfl, Nat.le_of_ble_eq_true rfl⟩ ⟨Nat.zero_le _, Nat.zero_le _⟩ dX11_isHome_9 (fun H locs hP hD hS => ?_)
  obtain ⟨hb_3, hf⟩ := zb_i hf
  cases hf
  subst hQ
  exact r_zret X hP hD hS hb_3 dX11_isHome_12

def f_X11_isVeiled (N : Nat) (iY : Nat → Int32) (sY : Nat → Nat → Int32) (tY : Nat → Nat → Int64) (jY : Nat → Int64) (p1 : Int32) : Option (Int32) :=
  bd (f_X11_bitOf N ((sY 6) 134) p1) (fun r_1 => zb r_1 (some r_1))
set_option maxHeartbeats 4000000 in
set_option maxRecDepth 100000 in
theorem c_X11_isVeiled (l : Launch) (G : GT) (N : Nat) (uY : Nat → Nat) (iY : Nat → Int32) (sY : Nat → Nat → Int32) (tY : Nat → Nat → Int64) (jY : Nat → Int64) (p1 : Int32) {r : Int32} (hf : f_X11_isVeiled N iY sY tY jY p1 = some r) : CI l G yX11_isVeiled cX11_isVeiled 2 .boolean 2 [.ref (uY 0), .int p1] (gY G uY iY sY tY jY) r (gY G uY iY sY tY jY) := by
  refine CI.of (by decide) (Nat.le_of_ble_eq_true rfl) ?_
  intro p e s m args below meth c A X hA hP hD hS ls hl
  have hl : lv_has ls 2 [(0, .ref (uY 0)), (1, .int p1)] := hl
  generalize hQ : MQ below (QI G A r (gY G uY iY sY tY jY)) args s 0 0 A = QQ
  unfold f_X11_isVeiled at hf
  refine lv_aload_n X.hx X.hb dX11_isVeiled_0 rfl (lv_at hl 0 rfl) ?_
  refine gf_X11_33 X hP 0 rfl (v := .ref (uY 7)) rfl dX11_isVeiled_1 ?_
  refine lv_sipush (v := 134) X.hx X.hb dX11_isVeiled_4 (by decide) ?_
  refine r_iald X hP 2 (f := (sY 6)) rfl (vp_c rfl) dX11_isVeiled_7 ?_
  refine W.eq (g2 := F0 m 8 ls [.int ((sY 6) 134)]) rfl ?_
  refine lv_iload_n X.hx X.hb dX11_isVeiled_8 rfl (lv_at hl 1 rfl) ?_
  obtain ⟨r_1, hc_2, hf⟩ := bd_i hf
  refine r_cs0 (As := [.int ((sY 6) 134), .int p1]) (rest := []) X sm_X11_214 (c_X11_bitOf l G N ((sY 6) 134) p1 hc_2) hP hD hS hA rfl hl.1 (lv_room (Nat.le_of_ble_eq_true rfl)) ⟨Nat.le_of_ble_eq_true rfl, Nat.le_of_ble_eq_true rfl⟩ ⟨Nat.zero_le _, Nat.zero_le _⟩ dX11_isVeiled_9 (fun H locs hP hD hS => ?_)
  obtain ⟨hb_3, hf⟩ := zb_i hf
  cases hf
  subst hQ
  exact r_zret X hP hD hS hb_3 dX11_isVeiled_12

def f_X11_wantsOf_4 (N : Nat) (iY : Nat → Int32) (sY : Nat → Nat → Int32) (tY : Nat → Nat → Int64) (jY : Nat → Int64) (v1 : Int32) : Nat → (Int32) → (Int32) → Option (Int32)
  | 0, _, _ => none
  | k + 1, v2, v3 => (if ((sY 6) 1) ≤ v3 then some v2 else ck (((178 : Int32) + ((5 : Int32) * v1)) + v3) 457 (nv (v2 + ((sY 6) (ix (((178 : Int32) + ((5 : Int32) * v1)) + v3)))) (fun n_9 => f_X11_wantsOf_4 N iY sY tY jY v1 k n_9 (v3 + 1))))
def f_X11_wantsOf (N : Nat) (iY : Nat → Int32) (sY : Nat → Nat → Int32) (tY : Nat → Nat → Int64) (jY : Nat → Int64) (p1 : Int32) : Option (Int32) :=
  f_X11_wantsOf_4 N iY sY tY jY p1 N 0 0
set_option maxHeartbeats 4000000 in
set_option maxRecDepth 100000 in
theorem c_X11_wantsOf (l : Launch) (G : GT) (N : Nat) (uY : Nat → Nat) (iY : Nat → Int32) (sY : Nat → Nat → Int32) (tY : Nat → Nat → Int64) (jY : Nat → Int64) (p1 : Int32) {r : Int32} (hf : f_X11_wantsOf N iY sY tY jY p1 = some r) : CI l G yX11_wantsOf cX11_wantsOf 4 .int 1 [.ref (uY 0), .int p1] (gY G uY iY sY tY jY) r (gY G uY iY sY tY jY) := by
  refine CI.of (by decide) (Nat.le_of_ble_eq_true rfl) ?_
  intro p e s m args below meth c A X hA hP hD hS ls hl
  have hl : lv_has ls 4 [(0, .ref (uY 0)), (1, .int p1)] := hl
  generalize hQ : MQ below (QI G A r (gY G uY iY sY tY jY)) args s 0 0 A = QQ
  unfold f_X11_wantsOf at hf
  refine lv_iconst (v := 0) X.hx X.hb dX11_wantsOf_0 (by decide) ?_
  refine lv_istore_n (lv' := [(2, .int 0), (0, .ref (uY 0)), (1, .int p1)]) X.hx X.hb dX11_wantsOf_1 rfl hl (by decide) rfl (fun ls hl => ?_)
  refine lv_iconst (v := 0) X.hx X.hb dX11_wantsOf_2 (by decide) ?_
  refine lv_istore_n (lv' := [(3, .int 0), (2, .int 0), (0, .ref (uY 0)), (1, .int p1)]) X.hx X.hb dX11_wantsOf_3 rfl hl (by decide) rfl (fun ls hl => ?_)
  have hlo_1 : ∀ (k : Nat) (v2_2 : Int32) (v3_3 : Int32) (H : Heap) (locs : List Loc) (ls : Array Slot), f_X11_wantsOf_4 N iY sY tY jY p1 k v2_2 v3_3 = some r → va_P G.1 vwCl (gY G uY iY sY tY jY) H → va_D A (gY G uY iY sY tY jY) → va_S A s.heap H locs → lv_has ls 4 [(0, .ref (uY 0)), (1, .int p1), (2, .int v2_2), (3, .int v3_3)] → W p l e (RM 1) s m args below meth c H locs 0 0 QQ (F0 m 4 ls []) := by
    intro k
    induction k with
    | zero => intro v2_2 v3_3 H locs ls hf; exact absurd hf (by intro q; cases q)
    | succ k ih =>
      intro v2_2 v3_3 H locs ls hf hP hD hS hl
      unfold f_X11_wantsOf_4 at hf
      refine lv_iload_n X.hx X.hb dX11_wantsOf_4 rfl (lv_at hl 3 rfl) ?_
      refine lv_aload_n X.hx X.hb dX11_wantsOf_5 rfl (lv_at hl 0 rfl) ?_
      refine gf_X11_33 X hP 0 rfl (v := .ref (uY 7)) rfl dX11_wantsOf_6 ?_
      refine lv_iconst (v := 1) X.hx X.hb dX11_wantsOf_9 (by decide) ?_
      refine r_iald X hP 2 (f := (sY 6)) rfl (vp_c rfl) dX11_wantsOf_10 ?_
      refine W.eq (g2 := F0 m 11 ls [.int ((sY 6) 1), .int v3_3]) rfl ?_
      refine lv_icmp_ge (tgt := 37) X.hx X.hb dX11_wantsOf_11 (by decide) (fun hc_4 => ?_) (fun hc_4 => ?_)
      · replace hf := if_t hf hc_4
        refine lv_iload_n X.hx X.hb dX11_wantsOf_37 rfl (lv_at hl 2 rfl) ?_
        cases hf
        subst hQ
        exact r_iret X hP hD hS dX11_wantsOf_38
      · replace hf := if_f hf hc_4
        refine lv_iload_n X.hx X.hb dX11_wantsOf_14 rfl (lv_at hl 2 rfl) ?_
        refine lv_aload_n X.hx X.hb dX11_wantsOf_15 rfl (lv_at hl 0 rfl) ?_
        refine gf_X11_33 X hP 0 rfl (v := .ref (uY 7)) rfl dX11_wantsOf_16 ?_
        refine lv_sipush (v := 178) X.hx X.hb dX11_wantsOf_19 (by decide) ?_
        refine lv_iconst (v := 5) X.hx X.hb dX11_wantsOf_22 (by decide) ?_
        refine lv_iload_n X.hx X.hb dX11_wantsOf_23 rfl (lv_at hl 1 rfl) ?_
        refine lv_imul X.hx X.hb dX11_wantsOf_24 ?_
        refine lv_iadd X.hx X.hb dX11_wantsOf_25 ?_
        refine lv_iload_n X.hx X.hb dX11_wantsOf_26 rfl (lv_at hl 3 rfl) ?_
        refine lv_iadd X.hx X.hb dX11_wantsOf_27 ?_
        obtain ⟨hi_5, hf⟩ := ck_i hf
        refine r_iald X hP 2 (f := (sY 6)) rfl hi_5 dX11_wantsOf_28 ?_
        refine lv_iadd X.hx X.hb dX11_wantsOf_29 ?_
        obtain ⟨n_6, en_6, hf⟩ := nv_i hf
        refine r_nm en_6 ?_
        refine lv_istore_n (lv' := [(2, .int n_6), (0, .ref (uY 0)), (1, .int p1), (3, .int v3_3)]) X.hx X.hb dX11_wantsOf_30 rfl hl (by decide) rfl (fun ls hl => ?_)
        refine lv_iinc (v := (v3_3 + 1)) (lv' := [(3, .int (v3_3 + 1)), (2, .int n_6), (0, .ref (uY 0)), (1, .int p1)]) X.hx X.hb dX11_wantsOf_31 hl (k := 3) rfl rfl (by decide) rfl (fun ls hl => ?_)
        refine lv_goto (tgt := 4) X.hx X.hb dX11_wantsOf_34 (by decide) ?_
        exact ih _ _ _ _ _ hf hP hD hS (lv_sub hl [2, 3, 1, 0] rfl)
  exact hlo_1 N _ _ _ _ _ hf hP hD hS (lv_sub hl [2, 3, 1, 0] rfl)

def f_X11_fed_4 (N : Nat) (iY : Nat → Int32) (sY : Nat → Nat → Int32) (tY : Nat → Nat → Int64) (jY : Nat → Int64) : Nat → (Int32) → (Int32) → Option (Int32)
  | 0, _, _ => none
  | k + 1, v1, v2 => (if ((sY 6) 0) ≤ v2 then some v1 else bd (f_X11_wantsOf N iY sY tY jY v2) (fun r_13 => jn (fun (z : (Int32)) => match z with | y_18 => f_X11_fed_4 N iY sY tY jY k (v1 ||| y_18) (v2 + 1)) (fun K_15 => (if r_13 = 0 then K_15 ((1 : Int32) <<< (v2 &&& 31)) else K_15 0))))
def f_X11_fed (N : Nat) (iY : Nat → Int32) (sY : Nat → Nat → Int32) (tY : Nat → Nat → Int64) (jY : Nat → Int64) : Option (Int32) :=
  f_X11_fed_4 N iY sY tY jY N 0 0
set_option maxHeartbeats 4000000 in
set_option maxRecDepth 100000 in
theorem c_X11_fed (l : Launch) (G : GT) (N : Nat) (uY : Nat → Nat) (iY : Nat → Int32) (sY : Nat → Nat → Int32) (tY : Nat → Nat → Int64) (jY : Nat → Int64) {r : Int32} (hf : f_X11_fed N iY sY tY jY = some r) : CI l G yX11_fed cX11_fed 3 .int 2 [.ref (uY 0)] (gY G uY iY sY tY jY) r (gY G uY iY sY tY jY) := by
  refine CI.of (by decide) (Nat.le_of_ble_eq_true rfl) ?_
  intro p e s m args below meth c A X hA hP hD hS ls hl
  have hl : lv_has ls 3 [(0, .ref (uY 0))] := hl
  generalize hQ : MQ below (QI G A r (gY G uY iY sY tY jY)) args s 0 0 A = QQ
  unfold f_X11_fed at hf
  refine lv_iconst (v := 0) X.hx X.hb dX11_fed_0 (by decide) ?_
  refine lv_istore_n (lv' := [(1, .int 0), (0, .ref (uY 0))]) X.hx X.hb dX11_fed_1 rfl hl (by decide) rfl (fun ls hl => ?_)
  refine lv_iconst (v := 0) X.hx X.hb dX11_fed_2 (by decide) ?_
  refine lv_istore_n (lv' := [(2, .int 0), (1, .int 0), (0, .ref (uY 0))]) X.hx X.hb dX11_fed_3 rfl hl (by decide) rfl (fun ls hl => ?_)
  have hlo_1 : ∀ (k : Nat) (v1_2 : Int32) (v2_3 : Int32) (H : Heap) (locs : List Loc) (ls : Array Slot), f_X11_fed_4 N iY sY tY jY k v1_2 v2_3 = some r → va_P G.1 vwCl (gY G uY iY sY tY jY) H → va_D A (gY G uY iY sY tY jY) → va_S A s.heap H locs → lv_has ls 3 [(0, .ref (uY 0)), (1, .int v1_2), (2, .int v2_3)] → W p l e (RM 2) s m args below meth c H locs 0 0 QQ (F0 m 4 ls []) := by
    intro k
    induction k with
    | zero => intro v1_2 v2_3 H locs ls hf; exact absurd hf (by intro q; cases q)
    | succ k ih =>
      intro v1_2 v2_3 H locs ls hf hP hD hS hl
      unfold f_X11_fed_4 at hf
      refine lv_iload_n X.hx X.hb dX11_fed_4 rfl (lv_at hl 2 rfl) ?_
      refine lv_aload_n X.hx X.hb dX11_fed_5 rfl (lv_at hl 0 rfl) ?_
      refine gf_X11_33 X hP 0 rfl (v := .ref (uY 7)) rfl dX11_fed_6 ?_
      refine lv_iconst (v := 0) X.hx X.hb dX11_fed_9 (by decide) ?_
      refine r_iald X hP 2 (f := (sY 6)) rfl (vp_c rfl) dX11_fed_10 ?_
      refine W.eq (g2 := F0 m 11 ls [.int ((sY 6) 0), .int v2_3]) rfl ?_
      refine lv_icmp_ge (tgt := 38) X.hx X.hb dX11_fed_11 (by decide) (fun hc_4 => ?_) (fun hc_4 => ?_)
      · replace hf := if_t hf hc_4
        refine lv_iload_n X.hx X.hb dX11_fed_38 rfl (lv_at hl 1 rfl) ?_
        cases hf
        subst hQ
        exact r_iret X hP hD hS dX11_fed_39
      · replace hf := if_f hf hc_4
        refine lv_iload_n X.hx X.hb dX11_fed_14 rfl (lv_at hl 1 rfl) ?_
        refine lv_aload_n X.hx X.hb dX11_fed_15 rfl (lv_at hl 0 rfl) ?_
        refine lv_iload_n X.hx X.hb dX11_fed_16 rfl (lv_at hl 2 rfl) ?_
        obtain ⟨r_5, hc_6, hf⟩ := bd_i hf
        refine r_wvi (As := [.int v2_3]) (rest := [.int v1_2]) X sm_X11_269 (c_X11_wantsOf l G N uY iY sY tY jY v2_3 hc_6) hP hD hS hA 0 rfl rfl rfl hl.1 (lv_room (Nat.le_of_ble_eq_true rfl)) ⟨Nat.le_of_ble_eq_true rfl, Nat.le_of_ble_eq_true rfl⟩ ⟨Nat.zero_le _, Nat.zero_le _⟩ dX11_fed_17 (fun H locs hP hD hS => ?_)
        obtain ⟨K_7, eK_9, hf⟩ := jn_i hf
        have hj_8 : ∀ (y_10 : Int32) (H : Heap) (locs : List Loc) (ls : Array Slot), K_7 y_10 = some r → va_P G.1 vwCl (gY G uY iY sY tY jY) H → va_D A (gY G uY iY sY tY jY) → va_S A s.heap H locs → lv_has ls 3 [(0, .ref (uY 0)), (2, .int v2_3)] → W p l e (RM 2) s m args below meth c H locs 0 0 QQ (F0 m 30 ls [.int y_10, .int v1_2]) := by
          intro y_10 H locs ls hf hP hD hS hl
          rw [eK_9] at hf
          try dsimp only at hf
          refine lv_ior X.hx X.hb dX11_fed_30 ?_
          refine lv_istore_n (lv' := [(1, .int (v1_2 ||| y_10)), (0, .ref (uY 0)), (2, .int v2_3)]) X.hx X.hb dX11_fed_31 rfl hl (by decide) rfl (fun ls hl => ?_)
          refine lv_iinc (v := (v2_3 + 1)) (lv' := [(2, .int (v2_3 + 1)), (1, .int (v1_2 ||| y_10)), (0, .ref (uY 0))]) X.hx X.hb dX11_fed_32 hl (k := 2) rfl rfl (by decide) rfl (fun ls hl => ?_)
          refine lv_goto (tgt := 4) X.hx X.hb dX11_fed_35 (by decide) ?_
          exact ih _ _ _ _ _ hf hP hD hS (lv_sub hl [2, 1, 0] rfl)
        refine lv_if_ne (tgt := 29) X.hx X.hb dX11_fed_20 (by decide) (fun hc_11 => ?_) (fun hc_11 => ?_)
        · replace hf := if_f hf hc_11
          refine lv_iconst (v := 0) X.hx X.hb dX11_fed_29 (by decide) ?_
          exact hj_8 _ _ _ _ hf hP hD hS (lv_sub hl [0, 2] rfl)
        · replace hf := if_t hf hc_11
          refine lv_iconst (v := 1) X.hx X.hb dX11_fed_23 (by decide) ?_
          refine lv_iload_n X.hx X.hb dX11_fed_24 rfl (lv_at hl 2 rfl) ?_
          refine lv_ishl X.hx X.hb dX11_fed_25 ?_
          refine lv_goto (tgt := 30) X.hx X.hb dX11_fed_26 (by decide) ?_
          exact hj_8 _ _ _ _ hf hP hD hS (lv_sub hl [0, 2] rfl)
  exact hlo_1 N _ _ _ _ _ hf hP hD hS (lv_sub hl [2, 1, 0] rfl)

def f_X11_person (N : Nat) (iY : Nat → Int32) (sY : Nat → Nat → Int32) (tY : Nat → Nat → Int64) (jY : Nat → Int64) (p1 : Int32) (p2 : Int32) : Option (Int32 × (Nat → Int32)) :=
  bd (f_X11_isPerson N iY sY tY jY p1) (fun r_1 => jn (fun (z : (Int32)) => match z with | y_6 => bd (f_X11_throwsIf N iY sY tY jY y_6) (fun (r_7, iY_8) => (if r_7 = 0 then (if p2 = 0 then ck ((136 : Int32) + p1) 457 (some (((sY 6) (ix ((136 : Int32) + p1))), iY_8)) else (if p2 = 1 then bd (f_X11_knownBy N iY_8 sY tY jY p1) (fun r_14 => some (r_14, iY_8)) else (if p2 = 2 then ck ((124 : Int32) + p1) 457 (some (((sY 6) (ix ((124 : Int32) + p1))), iY_8)) else (if p2 = 3 then bd (f_X11_mayBy N iY_8 sY tY jY p1) (fun r_19 => some (r_19, iY_8)) else (if p2 = 4 then some (((((sY 6) 133) >>> (p1 &&& 31)) &&& 1), iY_8) else (if p2 = 5 then some (((((sY 6) 134) >>> (p1 &&& 31)) &&& 1), iY_8) else (if p2 = 6 then ck ((213 : Int32) + p1) 457 (some (((sY 6) (ix ((213 : Int32) + p1))), iY_8)) else bd (f_X11_wantsOf N iY_8 sY tY jY p1) (fun r_25 => some (r_25, iY_8))))))))) else some (0, iY_8)))) (fun K_3 => jn (fun (z : Unit) => match z with | () => K_3 1) (fun K_27 => (if r_1 = 0 then K_27 () else bd (f_X11_isIn N p2 0 7) (fun r_31 => (if r_31 = 0 then K_27 () else K_3 0))))))
set_option maxHeartbeats 4000000 in
set_option maxRecDepth 100000 in
theorem c_X11_person (l : Launch) (G : GT) (N : Nat) (uY : Nat → Nat) (iY : Nat → Int32) (sY : Nat → Nat → Int32) (tY : Nat → Nat → Int64) (jY : Nat → Int64) (p1 : Int32) (p2 : Int32) {r : Int32} {iY' : Nat → Int32} (hf : f_X11_person N iY sY tY jY p1 p2 = some (r, iY')) : CI l G yX11_person cX11_person 3 .int 3 [.ref (uY 0), .int p1, .int p2] (gY G uY iY sY tY jY) r (gY G uY iY' sY tY jY) := by
  refine CI.of (by decide) (Nat.le_of_ble_eq_true rfl) ?_
  intro p e s m args below meth c A X hA hP hD hS ls hl
  have hl : lv_has ls 3 [(0, .ref (uY 0)), (1, .int p1), (2, .int p2)] := hl
  generalize hQ : MQ below (QI G A r (gY G uY iY' sY tY jY)) args s 0 0 A = QQ
  unfold f_X11_person at hf
  refine lv_aload_n X.hx X.hb dX11_person_0 rfl (lv_at hl 0 rfl) ?_
  refine lv_aload_n X.hx X.hb dX11_person_1 rfl (lv_at hl 0 rfl) ?_
  refine lv_iload_n X.hx X.hb dX11_person_2 rfl (lv_at hl 1 rfl) ?_
  obtain ⟨r_1, hc_2, hf⟩ := bd_i hf
  refine r_wvi (As := [.int p1]) (rest := [.ref (uY 0)]) X sm_X11_272 (c_X11_isPerson l G N uY iY sY tY jY p1 hc_2) hP hD hS hA 0 rfl rfl rfl hl.1 (lv_room (Nat.le_of_ble_eq_true rfl)) ⟨Nat.le_of_ble_eq_true rfl, Nat.le_of_ble_eq_true rfl⟩ ⟨Nat.zero_le _, Nat.zero_le _⟩ dX11_person_3 (fun H locs hP hD hS => ?_)
  obtain ⟨K_3, eK_5, hf⟩ := jn_i hf
  have hj_4 : ∀ (y_6 : Int32) (H : Heap) (locs : List Loc) (ls : Array Slot), K_3 y_6 = some (r, iY') → va_P G.1 vwCl (gY G uY iY sY tY jY) H → va_D A (gY G uY iY sY tY jY) → va_S A s.heap H locs → lv_has ls 3 [(0, .ref (uY 0)), (1, .int p1), (2, .int p2)] → W p l e (RM 3) s m args below meth c H locs 0 0 QQ (F0 m 24 ls [.int y_6, .ref (uY 0)]) := by
    intro y_6 H locs ls hf hP hD hS hl
    rw [eK_5] at hf
    try dsimp only at hf
    obtain ⟨⟨r_7, iY_8⟩, hc_9, hf⟩ := bd_i hf
    refine r_wvi (As := [.int y_6]) (rest := []) X sm_X11_275 (c_X11_throwsIf l G N uY iY sY tY jY y_6 hc_9) hP hD hS hA 0 rfl rfl rfl hl.1 (lv_room (Nat.le_of_ble_eq_true rfl)) ⟨Nat.le_of_ble_eq_true rfl, Nat.le_of_ble_eq_true rfl⟩ ⟨Nat.zero_le _, Nat.zero_le _⟩ dX11_person_24 (fun H locs hP hD hS => ?_)
    refine lv_if_eq (tgt := 32) X.hx X.hb dX11_person_27 (by decide) (fun hc_10 => ?_) (fun hc_10 => ?_)
    · replace hf := if_t hf hc_10
      refine lv_iload_n X.hx X.hb dX11_person_32 rfl (lv_at hl 2 rfl) ?_
      by_cases hc_11 : p2 = 0
      · replace hf := if_t hf hc_11
        refine lv_tableIn (tgt := 76) X.hx X.hb dX11_person_33 (by rw [hc_11]; decide) (by rw [hc_11]; decide) (by rw [hc_11]; rfl) (by decide) ?_
        refine lv_aload_n X.hx X.hb dX11_person_76 rfl (lv_at hl 0 rfl) ?_
        refine gf_X11_33 X hP 0 rfl (v := .ref (uY 7)) rfl dX11_person_77 ?_
        refine lv_sipush (v := 136) X.hx X.hb dX11_person_80 (by decide) ?_
        refine lv_iload_n X.hx X.hb dX11_person_83 rfl (lv_at hl 1 rfl) ?_
        refine lv_iadd X.hx X.hb dX11_person_84 ?_
        obtain ⟨hi_12, hf⟩ := ck_i hf
        refine r_iald X hP 2 (f := (sY 6)) rfl hi_12 dX11_person_85 ?_
        cases hf
        subst hQ
        exact r_iret X hP hD hS dX11_person_86
      replace hf := if_f hf hc_11
      by_cases hc_13 : p2 = 1
      · replace hf := if_t hf hc_13
        refine lv_tableIn (tgt := 87) X.hx X.hb dX11_person_33 (by rw [hc_13]; decide) (by rw [hc_13]; decide) (by rw [hc_13]; rfl) (by decide) ?_
        refine lv_aload_n X.hx X.hb dX11_person_87 rfl (lv_at hl 0 rfl) ?_
        refine lv_iload_n X.hx X.hb dX11_person_88 rfl (lv_at hl 1 rfl) ?_
        obtain ⟨r_14, hc_15, hf⟩ := bd_i hf
        refine r_wvi (As := [.int p1]) (rest := []) X sm_X11_265 (c_X11_knownBy l G N uY iY_8 sY tY jY p1 hc_15) hP hD hS hA 0 rfl rfl rfl hl.1 (lv_room (Nat.le_of_ble_eq_true rfl)) ⟨Nat.le_of_ble_eq_true rfl, Nat.le_of_ble_eq_true rfl⟩ ⟨Nat.zero_le _, Nat.zero_le _⟩ dX11_person_89 (fun H locs hP hD hS => ?_)
        cases hf
        subst hQ
        exact r_iret X hP hD hS dX11_person_92
      replace hf := if_f hf hc_13
      by_cases hc_16 : p2 = 2
      · replace hf := if_t hf hc_16
        refine lv_tableIn (tgt := 93) X.hx X.hb dX11_person_33 (by rw [hc_16]; decide) (by rw [hc_16]; decide) (by rw [hc_16]; rfl) (by decide) ?_
        refine lv_aload_n X.hx X.hb dX11_person_93 rfl (lv_at hl 0 rfl) ?_
        refine gf_X11_33 X hP 0 rfl (v := .ref (uY 7)) rfl dX11_person_94 ?_
        refine lv_bipush (v := 124) X.hx X.hb dX11_person_97 (by decide) ?_
        refine lv_iload_n X.hx X.hb dX11_person_99 rfl (lv_at hl 1 rfl) ?_
        refine lv_iadd X.hx X.hb dX11_person_100 ?_
        obtain ⟨hi_17, hf⟩ := ck_i hf
        refine r_iald X hP 2 (f := (sY 6)) rfl hi_17 dX11_person_101 ?_
        cases hf
        subst hQ
        exact r_iret X hP hD hS dX11_person_102
      replace hf := if_f hf hc_16
      by_cases hc_18 : p2 = 3
      · replace hf := if_t hf hc_18
        refine lv_tableIn (tgt := 103) X.hx X.hb dX11_person_33 (by rw [hc_18]; decide) (by rw [hc_18]; decide) (by rw [hc_18]; rfl) (by decide) ?_
        refine lv_aload_n X.hx X.hb dX11_person_103 rfl (lv_at hl 0 rfl) ?_
        refine lv_iload_n X.hx X.hb dX11_person_104 rfl (lv_at hl 1 rfl) ?_
        obtain ⟨r_19, hc_20, hf⟩ := bd_i hf
        refine r_wvi (As := [.int p1]) (rest := []) X sm_X11_278 (c_X11_mayBy l G N uY iY_8 sY tY jY p1 hc_20) hP hD hS hA 0 rfl rfl rfl hl.1 (lv_room (Nat.le_of_ble_eq_true rfl)) ⟨Nat.le_of_ble_eq_true rfl, Nat.le_of_ble_eq_true rfl⟩ ⟨Nat.zero_le _, Nat.zero_le _⟩ dX11_person_105 (fun H locs hP hD hS => ?_)
        cases hf
        subst hQ
        exact r_iret X hP hD hS dX11_person_108
      replace hf := if_f hf hc_18
      by_cases hc_21 : p2 = 4
      · replace hf := if_t hf hc_21
        refine lv_tableIn (tgt := 109) X.hx X.hb dX11_person_33 (by rw [hc_21]; decide) (by rw [hc_21]; decide) (by rw [hc_21]; rfl) (by decide) ?_
        refine lv_aload_n X.hx X.hb dX11_person_109 rfl (lv_at hl 0 rfl) ?_
        refine gf_X11_33 X hP 0 rfl (v := .ref (uY 7)) rfl dX11_person_110 ?_
        refine lv_sipush (v := 133) X.hx X.hb dX11_person_113 (by decide) ?_
        refine r_iald X hP 2 (f := (sY 6)) rfl (vp_c rfl) dX11_person_116 ?_
        refine W.eq (g2 := F0 m 117 ls [.int ((sY 6) 133)]) rfl ?_
        refine lv_iload_n X.hx X.hb dX11_person_117 rfl (lv_at hl 1 rfl) ?_
        refine lv_ishr X.hx X.hb dX11_person_118 ?_
        refine lv_iconst (v := 1) X.hx X.hb dX11_person_119 (by decide) ?_
        refine lv_iand X.hx X.hb dX11_person_120 ?_
        cases hf
        subst hQ
        exact r_iret X hP hD hS dX11_person_121
      replace hf := if_f hf hc_21
      by_cases hc_22 : p2 = 5
      · replace hf := if_t hf hc_22
        refine lv_tableIn (tgt := 122) X.hx X.hb dX11_person_33 (by rw [hc_22]; decide) (by rw [hc_22]; decide) (by rw [hc_22]; rfl) (by decide) ?_
        refine lv_aload_n X.hx X.hb dX11_person_122 rfl (lv_at hl 0 rfl) ?_
        refine gf_X11_33 X hP 0 rfl (v := .ref (uY 7)) rfl dX11_person_123 ?_
        refine lv_sipush (v := 134) X.hx X.hb dX11_person_126 (by decide) ?_
        refine r_iald X hP 2 (f := (sY 6)) rfl (vp_c rfl) dX11_person_129 ?_
        refine W.eq (g2 := F0 m 130 ls [.int ((sY 6) 134)]) rfl ?_
        refine lv_iload_n X.hx X.hb dX11_person_130 rfl (lv_at hl 1 rfl) ?_
        refine lv_ishr X.hx X.hb dX11_person_131 ?_
        refine lv_iconst (v := 1) X.hx X.hb dX11_person_132 (by decide) ?_
        refine lv_iand X.hx X.hb dX11_person_133 ?_
        cases hf
        subst hQ
        exact r_iret X hP hD hS dX11_person_134
      replace hf := if_f hf hc_22
      by_cases hc_23 : p2 = 6
      · replace hf := if_t hf hc_23
        refine lv_tableIn (tgt := 135) X.hx X.hb dX11_person_33 (by rw [hc_23]; decide) (by rw [hc_23]; decide) (by rw [hc_23]; rfl) (by decide) ?_
        refine lv_aload_n X.hx X.hb dX11_person_135 rfl (lv_at hl 0 rfl) ?_
        refine gf_X11_33 X hP 0 rfl (v := .ref (uY 7)) rfl dX11_person_136 ?_
        refine lv_sipush (v := 213) X.hx X.hb dX11_person_139 (by decide) ?_
        refine lv_iload_n X.hx X.hb dX11_person_142 rfl (lv_at hl 1 rfl) ?_
        refine lv_iadd X.hx X.hb dX11_person_143 ?_
        obtain ⟨hi_24, hf⟩ := ck_i hf
        refine r_iald X hP 2 (f := (sY 6)) rfl hi_24 dX11_person_144 ?_
        cases hf
        subst hQ
        exact r_iret X hP hD hS dX11_person_145
      replace hf := if_f hf hc_23
      refine r_tbd (tgt := 146) X.hx X.hb dX11_person_33 [0, 1, 2, 3, 4, 5, 6] (by decide) (List.forall_mem_cons.mpr ⟨lv_neT hc_11 rfl, List.forall_mem_cons.mpr ⟨lv_neT hc_13 rfl, List.forall_mem_cons.mpr ⟨lv_neT hc_16 rfl, List.forall_mem_cons.mpr ⟨lv_neT hc_18 rfl, List.forall_mem_cons.mpr ⟨lv_neT hc_21 rfl, List.forall_mem_cons.mpr ⟨lv_neT hc_22 rfl, List.forall_mem_cons.mpr ⟨lv_neT hc_23 rfl, fun _ h => absurd h List.not_mem_nil⟩⟩⟩⟩⟩⟩⟩) (by decide) ?_
      refine lv_aload_n X.hx X.hb dX11_person_146 rfl (lv_at hl 0 rfl) ?_
      refine lv_iload_n X.hx X.hb dX11_person_147 rfl (lv_at hl 1 rfl) ?_
      obtain ⟨r_25, hc_26, hf⟩ := bd_i hf
      refine r_wvi (As := [.int p1]) (rest := []) X sm_X11_269 (c_X11_wantsOf l G N uY iY_8 sY tY jY p1 hc_26) hP hD hS hA 0 rfl rfl rfl hl.1 (lv_room (Nat.le_of_ble_eq_true rfl)) ⟨Nat.le_of_ble_eq_true rfl, Nat.le_of_ble_eq_true rfl⟩ ⟨Nat.zero_le _, Nat.zero_le _⟩ dX11_person_148 (fun H locs hP hD hS => ?_)
      cases hf
      subst hQ
      exact r_iret X hP hD hS dX11_person_151
    · replace hf := if_f hf hc_10
      refine lv_iconst (v := 0) X.hx X.hb dX11_person_30 (by decide) ?_
      cases hf
      subst hQ
      exact r_iret X hP hD hS dX11_person_31
  obtain ⟨K_27, eK_29, hf⟩ := jn_i hf
  have hj_28 : ∀ (H : Heap) (locs : List Loc) (ls : Array Slot), K_27 () = some (r, iY') → va_P G.1 vwCl (gY G uY iY sY tY jY) H → va_D A (gY G uY iY sY tY jY) → va_S A s.heap H locs → lv_has ls 3 [(0, .ref (uY 0)), (1, .int p1), (2, .int p2)] → W p l e (RM 3) s m args below meth c H locs 0 0 QQ (F0 m 19 ls [.ref (uY 0)]) := by
    intro  H locs ls hf hP hD hS hl
    rw [eK_29] at hf
    try dsimp only at hf
    refine lv_iconst (v := 1) X.hx X.hb dX11_person_19 (by decide) ?_
    refine lv_goto (tgt := 24) X.hx X.hb dX11_person_20 (by decide) ?_
    exact hj_4 _ _ _ _ hf hP hD hS (lv_sub hl [0, 1, 2] rfl)
  refine lv_if_eq (tgt := 19) X.hx X.hb dX11_person_6 (by decide) (fun hc_30 => ?_) (fun hc_30 => ?_)
  · replace hf := if_t hf hc_30
    exact hj_28 _ _ _ hf hP hD hS (lv_sub hl [0, 1, 2] rfl)
  · replace hf := if_f hf hc_30
    refine lv_iload_n X.hx X.hb dX11_person_9 rfl (lv_at hl 2 rfl) ?_
    refine lv_iconst (v := 0) X.hx X.hb dX11_person_10 (by decide) ?_
    refine lv_bipush (v := 7) X.hx X.hb dX11_person_11 (by decide) ?_
    obtain ⟨r_31, hc_32, hf⟩ := bd_i hf
    refine r_cs0 (As := [.int p2, .int 0, .int 7]) (rest := [.ref (uY 0)]) X sm_X11_189 (c_X11_isIn l G N p2 0 7 hc_32) hP hD hS hA rfl hl.1 (lv_room (Nat.le_of_ble_eq_true rfl)) ⟨Nat.le_of_ble_eq_true rfl, Nat.le_of_ble_eq_true rfl⟩ ⟨Nat.zero_le _, Nat.zero_le _⟩ dX11_person_13 (fun H locs hP hD hS => ?_)
    refine lv_if_ne (tgt := 23) X.hx X.hb dX11_person_16 (by decide) (fun hc_33 => ?_) (fun hc_33 => ?_)
    · replace hf := if_f hf hc_33
      refine lv_iconst (v := 0) X.hx X.hb dX11_person_23 (by decide) ?_
      exact hj_4 _ _ _ _ hf hP hD hS (lv_sub hl [0, 1, 2] rfl)
    · replace hf := if_t hf hc_33
      exact hj_28 _ _ _ hf hP hD hS (lv_sub hl [0, 1, 2] rfl)

def f_X11_good (N : Nat) (iY : Nat → Int32) (sY : Nat → Nat → Int32) (tY : Nat → Nat → Int64) (jY : Nat → Int64) (p1 : Int32) (p2 : Int32) (p3 : Int32) : Option (Int32 × (Nat → Int32)) :=
  bd (f_X11_isPerson N (va_up iY 0 0) sY tY jY p1) (fun r_1 => (if r_1 = 0 then some ((-1), (va_up iY 0 0)) else bd (f_X11_isGood N (va_up iY 0 0) sY tY jY p2) (fun r_4 => (if r_4 = 0 then some ((-1), (va_up iY 0 0)) else nv (((5 : Int32) * p1) + p2) (fun n_7 => (if p3 = 0 then ck ((143 : Int32) + n_7) 457 (some (((sY 6) (ix ((143 : Int32) + n_7))), (va_up iY 0 0))) else (if p3 = 1 then ck ((178 : Int32) + n_7) 457 (some (((sY 6) (ix ((178 : Int32) + n_7))), (va_up iY 0 0))) else (if p3 = 2 then ck ((47 : Int32) + n_7) 457 (some ((((sY 6) (ix ((47 : Int32) + n_7))) - 1), (va_up iY 0 0))) else some ((-1), (va_up iY 0 0))))))))))
set_option maxHeartbeats 4000000 in
set_option maxRecDepth 100000 in
theorem c_X11_good (l : Launch) (G : GT) (N : Nat) (uY : Nat → Nat) (iY : Nat → Int32) (sY : Nat → Nat → Int32) (tY : Nat → Nat → Int64) (jY : Nat → Int64) (p1 : Int32) (p2 : Int32) (p3 : Int32) {r : Int32} {iY' : Nat → Int32} (hf : f_X11_good N iY sY tY jY p1 p2 p3 = some (r, iY')) : CI l G yX11_good cX11_good 5 .int 3 [.ref (uY 0), .int p1, .int p2, .int p3] (gY G uY iY sY tY jY) r (gY G uY iY' sY tY jY) := by
  refine CI.of (by decide) (Nat.le_of_ble_eq_true rfl) ?_
  intro p e s m args below meth c A X hA hP hD hS ls hl
  have hl : lv_has ls 5 [(0, .ref (uY 0)), (1, .int p1), (2, .int p2), (3, .int p3)] := hl
  generalize hQ : MQ below (QI G A r (gY G uY iY' sY tY jY)) args s 0 0 A = QQ
  unfold f_X11_good at hf
  refine lv_aload_n X.hx X.hb dX11_good_0 rfl (lv_at hl 0 rfl) ?_
  refine lv_iconst (v := 0) X.hx X.hb dX11_good_1 (by decide) ?_
  refine pf_X11_1 X hP hD hS 0 rfl rfl rfl (Nat.le_of_ble_eq_true rfl) (wo := (gY G uY (va_up iY 0 0) sY tY jY)) rfl dX11_good_2 (fun H locs hP hD hS => ?_)
  refine lv_aload_n X.hx X.hb dX11_good_5 rfl (lv_at hl 0 rfl) ?_
  refine lv_iload_n X.hx X.hb dX11_good_6 rfl (lv_at hl 1 rfl) ?_
  obtain ⟨r_1, hc_2, hf⟩ := bd_i hf
  refine r_wvi (As := [.int p1]) (rest := []) X sm_X11_272 (c_X11_isPerson l G N uY (va_up iY 0 0) sY tY jY p1 hc_2) hP hD hS hA 0 rfl rfl rfl hl.1 (lv_room (Nat.le_of_ble_eq_true rfl)) ⟨Nat.le_of_ble_eq_true rfl, Nat.le_of_ble_eq_true rfl⟩ ⟨Nat.zero_le _, Nat.zero_le _⟩ dX11_good_7 (fun H locs hP hD hS => ?_)
  refine lv_if_eq (tgt := 21) X.hx X.hb dX11_good_10 (by decide) (fun hc_3 => ?_) (fun hc_3 => ?_)
  · replace hf := if_t hf hc_3
    refine lv_iconst (v := (-1)) X.hx X.hb dX11_good_21 (by decide) ?_
    cases hf
    subst hQ
    exact r_iret X hP hD hS dX11_good_22
  · replace hf := if_f hf hc_3
    refine lv_aload_n X.hx X.hb dX11_good_13 rfl (lv_at hl 0 rfl) ?_
    refine lv_iload_n X.hx X.hb dX11_good_14 rfl (lv_at hl 2 rfl) ?_
    obtain ⟨r_4, hc_5, hf⟩ := bd_i hf
    refine r_wvi (As := [.int p2]) (rest := []) X sm_X11_281 (c_X11_isGood l G N uY (va_up iY 0 0) sY tY jY p2 hc_5) hP hD hS hA 0 rfl rfl rfl hl.1 (lv_room (Nat.le_of_ble_eq_true rfl)) ⟨Nat.le_of_ble_eq_true rfl, Nat.le_of_ble_eq_true rfl⟩ ⟨Nat.zero_le _, Nat.zero_le _⟩ dX11_good_15 (fun H locs hP hD hS => ?_)
    refine lv_if_ne (tgt := 23) X.hx X.hb dX11_good_18 (by decide) (fun hc_6 => ?_) (fun hc_6 => ?_)
    · replace hf := if_f hf hc_6
      refine lv_iconst (v := 5) X.hx X.hb dX11_good_23 (by decide) ?_
      refine lv_iload_n X.hx X.hb dX11_good_24 rfl (lv_at hl 1 rfl) ?_
      refine lv_imul X.hx X.hb dX11_good_25 ?_
      refine lv_iload_n X.hx X.hb dX11_good_26 rfl (lv_at hl 2 rfl) ?_
      refine lv_iadd X.hx X.hb dX11_good_27 ?_
      obtain ⟨n_7, en_7, hf⟩ := nv_i hf
      refine r_nm en_7 ?_
      refine lv_istore (lv' := [(4, .int n_7), (0, .ref (uY 0)), (1, .int p1), (2, .int p2), (3, .int p3)]) X.hx X.hb dX11_good_28 hl (by decide) rfl (fun ls hl => ?_)
      refine lv_iload_n X.hx X.hb dX11_good_30 rfl (lv_at hl 4 rfl) ?_
      refine lv_if_ne (tgt := 48) X.hx X.hb dX11_good_31 (by decide) (fun hc_8 => ?_) (fun hc_8 => ?_)
      · replace hf := if_f hf hc_8
        refine lv_iload_n X.hx X.hb dX11_good_48 rfl (lv_at hl 4 rfl) ?_
        refine lv_iconst (v := 1) X.hx X.hb dX11_good_49 (by decide) ?_
        refine lv_icmp_ne (tgt := 67) X.hx X.hb dX11_good_50 (by decide) (fun hc_9 => ?_) (fun hc_9 => ?_)
        · replace hf := if_f hf hc_9
          refine lv_iload_n X.hx X.hb dX11_good_67 rfl (lv_at hl 4 rfl) ?_
          refine lv_iconst (v := 2) X.hx X.hb dX11_good_68 (by decide) ?_
          refine lv_icmp_ne (tgt := 87) X.hx X.hb dX11_good_69 (by decide) (fun hc_10 => ?_) (fun hc_10 => ?_)
          · replace hf := if_f hf hc_10
            refine lv_iconst (v := (-1)) X.hx X.hb dX11_good_87 (by decide) ?_
            cases hf
            subst hQ
            exact r_iret X hP hD hS dX11_good_88
          · replace hf := if_t hf hc_10
            refine lv_aload_n X.hx X.hb dX11_good_72 rfl (lv_at hl 1 rfl) ?_
            refine gf_X11_33 X hP 0 rfl (v := .ref (uY 7)) rfl dX11_good_73 ?_
            refine lv_bipush (v := 47) X.hx X.hb dX11_good_76 (by decide) ?_
            refine lv_iload X.hx X.hb dX11_good_78 (lv_at hl 0 rfl) ?_
            refine lv_iadd X.hx X.hb dX11_good_80 ?_
            obtain ⟨hi_11, hf⟩ := ck_i hf
            refine r_iald X hP 2 (f := (sY 6)) rfl hi_11 dX11_good_81 ?_
            refine lv_iconst (v := 1) X.hx X.hb dX11_good_82 (by decide) ?_
            refine lv_isub X.hx X.hb dX11_good_83 ?_
            refine lv_goto (tgt := 88) X.hx X.hb dX11_good_84 (by decide) ?_
            cases hf
            subst hQ
            exact r_iret X hP hD hS dX11_good_88
        · replace hf := if_t hf hc_9
          refine lv_aload_n X.hx X.hb dX11_good_53 rfl (lv_at hl 1 rfl) ?_
          refine gf_X11_33 X hP 0 rfl (v := .ref (uY 7)) rfl dX11_good_54 ?_
          refine lv_sipush (v := 178) X.hx X.hb dX11_good_57 (by decide) ?_
          refine lv_iload X.hx X.hb dX11_good_60 (lv_at hl 0 rfl) ?_
          refine lv_iadd X.hx X.hb dX11_good_62 ?_
          obtain ⟨hi_12, hf⟩ := ck_i hf
          refine r_iald X hP 2 (f := (sY 6)) rfl hi_12 dX11_good_63 ?_
          refine lv_goto (tgt := 88) X.hx X.hb dX11_good_64 (by decide) ?_
          cases hf
          subst hQ
          exact r_iret X hP hD hS dX11_good_88
      · replace hf := if_t hf hc_8
        refine lv_aload_n X.hx X.hb dX11_good_34 rfl (lv_at hl 1 rfl) ?_
        refine gf_X11_33 X hP 0 rfl (v := .ref (uY 7)) rfl dX11_good_35 ?_
        refine lv_sipush (v := 143) X.hx X.hb dX11_good_38 (by decide) ?_
        refine lv_iload X.hx X.hb dX11_good_41 (lv_at hl 0 rfl) ?_
        refine lv_iadd X.hx X.hb dX11_good_43 ?_
        obtain ⟨hi_13, hf⟩ := ck_i hf
        refine r_iald X hP 2 (f := (sY 6)) rfl hi_13 dX11_good_44 ?_
        refine lv_goto (tgt := 88) X.hx X.hb dX11_good_45 (by decide) ?_
        cases hf
        subst hQ
        exact r_iret X hP hD hS dX11_good_88
    · replace hf := if_t hf hc_6
      refine lv_iconst (v := (-1)) X.hx X.hb dX11_good_21 (by decide) ?_
      cases hf
      subst hQ
      exact r_iret X hP hD hS dX11_good_22

def f_X11_deals (N : Nat) (iY : Nat → Int32) (sY : Nat → Nat → Int32) (tY : Nat → Nat → Int64) (jY : Nat → Int64) (p1 : Int32) (p2 : Int32) : Option (Int32 × (Nat → Int32)) :=
  bd (f_X11_isPerson N (va_up iY 0 0) sY tY jY p1) (fun r_1 => (if r_1 = 0 then some ((-1), (va_up iY 0 0)) else bd (f_X11_isPerson N (va_up iY 0 0) sY tY jY p2) (fun r_4 => (if r_4 = 0 then some ((-1), (va_up iY 0 0)) else (if p1 = p2 then some ((-1), (va_up iY 0 0)) else ck (((227 : Int32) + ((7 : Int32) * p1)) + p2) 457 (some (((sY 6) (ix (((227 : Int32) + ((7 : Int32) * p1)) + p2))), (va_up iY 0 0))))))))
set_option maxHeartbeats 4000000 in
set_option maxRecDepth 100000 in
theorem c_X11_deals (l : Launch) (G : GT) (N : Nat) (uY : Nat → Nat) (iY : Nat → Int32) (sY : Nat → Nat → Int32) (tY : Nat → Nat → Int64) (jY : Nat → Int64) (p1 : Int32) (p2 : Int32) {r : Int32} {iY' : Nat → Int32} (hf : f_X11_deals N iY sY tY jY p1 p2 = some (r, iY')) : CI l G yX11_deals cX11_deals 3 .int 3 [.ref (uY 0), .int p1, .int p2] (gY G uY iY sY tY jY) r (gY G uY iY' sY tY jY) := by
  refine CI.of (by decide) (Nat.le_of_ble_eq_true rfl) ?_
  intro p e s m args below meth c A X hA hP hD hS ls hl
  have hl : lv_has ls 3 [(0, .ref (uY 0)), (1, .int p1), (2, .int p2)] := hl
  generalize hQ : MQ below (QI G A r (gY G uY iY' sY tY jY)) args s 0 0 A = QQ
  unfold f_X11_deals at hf
  refine lv_aload_n X.hx X.hb dX11_deals_0 rfl (lv_at hl 0 rfl) ?_
  refine lv_iconst (v := 0) X.hx X.hb dX11_deals_1 (by decide) ?_
  refine pf_X11_1 X hP hD hS 0 rfl rfl rfl (Nat.le_of_ble_eq_true rfl) (wo := (gY G uY (va_up iY 0 0) sY tY jY)) rfl dX11_deals_2 (fun H locs hP hD hS => ?_)
  refine lv_aload_n X.hx X.hb dX11_deals_5 rfl (lv_at hl 0 rfl) ?_
  refine lv_iload_n X.hx X.hb dX11_deals_6 rfl (lv_at hl 1 rfl) ?_
  obtain ⟨r_1, hc_2, hf⟩ := bd_i hf
  refine r_wvi (As := [.int p1]) (rest := []) X sm_X11_272 (c_X11_isPerson l G N uY (va_up iY 0 0) sY tY jY p1 hc_2) hP hD hS hA 0 rfl rfl rfl hl.1 (lv_room (Nat.le_of_ble_eq_true rfl)) ⟨Nat.le_of_ble_eq_true rfl, Nat.le_of_ble_eq_true rfl⟩ ⟨Nat.zero_le _, Nat.zero_le _⟩ dX11_deals_7 (fun H locs hP hD hS => ?_)
  refine lv_if_eq (tgt := 44) X.hx X.hb dX11_deals_10 (by decide) (fun hc_3 => ?_) (fun hc_3 => ?_)
  · replace hf := if_t hf hc_3
    refine lv_iconst (v := (-1)) X.hx X.hb dX11_deals_44 (by decide) ?_
    cases hf
    subst hQ
    exact r_iret X hP hD hS dX11_deals_45
  · replace hf := if_f hf hc_3
    refine lv_aload_n X.hx X.hb dX11_deals_13 rfl (lv_at hl 0 rfl) ?_
    refine lv_iload_n X.hx X.hb dX11_deals_14 rfl (lv_at hl 2 rfl) ?_
    obtain ⟨r_4, hc_5, hf⟩ := bd_i hf
    refine r_wvi (As := [.int p2]) (rest := []) X sm_X11_272 (c_X11_isPerson l G N uY (va_up iY 0 0) sY tY jY p2 hc_5) hP hD hS hA 0 rfl rfl rfl hl.1 (lv_room (Nat.le_of_ble_eq_true rfl)) ⟨Nat.le_of_ble_eq_true rfl, Nat.le_of_ble_eq_true rfl⟩ ⟨Nat.zero_le _, Nat.zero_le _⟩ dX11_deals_15 (fun H locs hP hD hS => ?_)
    refine lv_if_eq (tgt := 44) X.hx X.hb dX11_deals_18 (by decide) (fun hc_6 => ?_) (fun hc_6 => ?_)
    · replace hf := if_t hf hc_6
      refine lv_iconst (v := (-1)) X.hx X.hb dX11_deals_44 (by decide) ?_
      cases hf
      subst hQ
      exact r_iret X hP hD hS dX11_deals_45
    · replace hf := if_f hf hc_6
      refine lv_iload_n X.hx X.hb dX11_deals_21 rfl (lv_at hl 1 rfl) ?_
      refine lv_iload_n X.hx X.hb dX11_deals_22 rfl (lv_at hl 2 rfl) ?_
      refine lv_icmp_eq (tgt := 44) X.hx X.hb dX11_deals_23 (by decide) (fun hc_7 => ?_) (fun hc_7 => ?_)
      · replace hf := if_t hf hc_7
        refine lv_iconst (v := (-1)) X.hx X.hb dX11_deals_44 (by decide) ?_
        cases hf
        subst hQ
        exact r_iret X hP hD hS dX11_deals_45
      · replace hf := if_f hf hc_7
        refine lv_aload_n X.hx X.hb dX11_deals_26 rfl (lv_at hl 0 rfl) ?_
        refine gf_X11_33 X hP 0 rfl (v := .ref (uY 7)) rfl dX11_deals_27 ?_
        refine lv_sipush (v := 227) X.hx X.hb dX11_deals_30 (by decide) ?_
        refine lv_bipush (v := 7) X.hx X.hb dX11_deals_33 (by decide) ?_
        refine lv_iload_n X.hx X.hb dX11_deals_35 rfl (lv_at hl 1 rfl) ?_
        refine lv_imul X.hx X.hb dX11_deals_36 ?_
        refine lv_iadd X.hx X.hb dX11_deals_37 ?_
        refine lv_iload_n X.hx X.hb dX11_deals_38 rfl (lv_at hl 2 rfl) ?_
        refine lv_iadd X.hx X.hb dX11_deals_39 ?_
        obtain ⟨hi_8, hf⟩ := ck_i hf
        refine r_iald X hP 2 (f := (sY 6)) rfl hi_8 dX11_deals_40 ?_
        refine lv_goto (tgt := 45) X.hx X.hb dX11_deals_41 (by decide) ?_
        cases hf
        subst hQ
        exact r_iret X hP hD hS dX11_deals_45

def f_X11_now_12 (N : Nat) (iY : Nat → Int32) (sY : Nat → Nat → Int32) (tY : Nat → Nat → Int64) (jY : Nat → Int64) (v1 : Int32) (K_1 : ((Int32) × (Int32)) → Option (Int32 × (Nat → Int32))) : Nat → (Int32) → (Int32) → (Int32) → Option (Int32 × (Nat → Int32))
  | 0, _, _, _ => none
  | k + 1, v2, v3, v4 => (if ((sY 6) 0) ≤ v4 then K_1 (v2, v3) else ck ((220 : Int32) + v4) 457 (bd (f_X11_bits N ((sY 6) (ix ((220 : Int32) + v4)))) (fun r_28 => ck ((213 : Int32) + v4) 457 (nv (v3 + ((sY 6) (ix ((213 : Int32) + v4)))) (fun n_31 => f_X11_now_12 N iY sY tY jY v1 K_1 k (v2 + r_28) n_31 (v4 + 1))))))
def f_X11_now (N : Nat) (iY : Nat → Int32) (sY : Nat → Nat → Int32) (tY : Nat → Nat → Int64) (jY : Nat → Int64) (p1 : Int32) : Option (Int32 × (Nat → Int32)) :=
  jn (fun (z : (Int32) × (Int32)) => match z with | (x2_4, x3_5) => (if p1 = 0 then some (((sY 6) 131), (va_up iY 0 0)) else (if p1 = 1 then some (((sY 6) 133), (va_up iY 0 0)) else (if p1 = 2 then some (((sY 6) 134), (va_up iY 0 0)) else (if p1 = 3 then bd (f_X11_fed N (va_up iY 0 0) sY tY jY) (fun r_10 => some (r_10, (va_up iY 0 0))) else (if p1 = 4 then some (((sY 6) 135), (va_up iY 0 0)) else (if p1 = 5 then some (((sY 6) 132), (va_up iY 0 0)) else (if p1 = 6 then some ((x2_4 / 2), (va_up iY 0 0)) else (if p1 = 7 then some (x3_5, (va_up iY 0 0)) else some ((-1), (va_up iY 0 0))))))))))) (fun K_1 => f_X11_now_12 N (va_up iY 0 0) sY tY jY p1 K_1 N 0 0 0)
set_option maxHeartbeats 4000000 in
set_option maxRecDepth 100000 in
theorem c_X11_now (l : Launch) (G : GT) (N : Nat) (uY : Nat → Nat) (iY : Nat → Int32) (sY : Nat → Nat → Int32) (tY : Nat → Nat → Int64) (jY : Nat → Int64) (p1 : Int32) {r : Int32} {iY' : Nat → Int32} (hf : f_X11_now N iY sY tY jY p1 = some (r, iY')) : CI l G yX11_now cX11_now 5 .int 3 [.ref (uY 0), .int p1] (gY G uY iY sY tY jY) r (gY G uY iY' sY tY jY) := by
  refine CI.of (by decide) (Nat.le_of_ble_eq_true rfl) ?_
  intro p e s m args below meth c A X hA hP hD hS ls hl
  have hl : lv_has ls 5 [(0, .ref (uY 0)), (1, .int p1)] := hl
  generalize hQ : MQ below (QI G A r (gY G uY iY' sY tY jY)) args s 0 0 A = QQ
  unfold f_X11_now at hf
  refine lv_aload_n X.hx X.hb dX11_now_0 rfl (lv_at hl 0 rfl) ?_
  refine lv_iconst (v := 0) X.hx X.hb dX11_now_1 (by decide) ?_
  refine pf_X11_1 X hP hD hS 0 rfl rfl rfl (Nat.le_of_ble_eq_true rfl) (wo := (gY G uY (va_up iY 0 0) sY tY jY)) rfl dX11_now_2 (fun H locs hP hD hS => ?_)
  refine lv_iconst (v := 0) X.hx X.hb dX11_now_5 (by decide) ?_
  refine lv_istore_n (lv' := [(2, .int 0), (0, .ref (uY 0)), (1, .int p1)]) X.hx X.hb dX11_now_6 rfl hl (by decide) rfl (fun ls hl => ?_)
  refine lv_iconst (v := 0) X.hx X.hb dX11_now_7 (by decide) ?_
  refine lv_istore_n (lv' := [(3, .int 0), (2, .int 0), (0, .ref (uY 0)), (1, .int p1)]) X.hx X.hb dX11_now_8 rfl hl (by decide) rfl (fun ls hl => ?_)
  refine lv_iconst (v := 0) X.hx X.hb dX11_now_9 (by decide) ?_
  refine lv_istore (lv' := [(4, .int 0), (3, .int 0), (2, .int 0), (0, .ref (uY 0)), (1, .int p1)]) X.hx X.hb dX11_now_10 hl (by decide) rfl (fun ls hl => ?_)
  obtain ⟨K_1, eK_3, hf⟩ := jn_i hf
  have hj_2 : ∀ (x2_4 : Int32) (x3_5 : Int32) (H : Heap) (locs : List Loc) (ls : Array Slot), K_1 (x2_4, x3_5) = some (r, iY') → va_P G.1 vwCl (gY G uY (va_up iY 0 0) sY tY jY) H → va_D A (gY G uY (va_up iY 0 0) sY tY jY) → va_S A s.heap H locs → lv_has ls 5 [(0, .ref (uY 0)), (1, .int p1), (2, .int x2_4), (3, .int x3_5)] → W p l e (RM 3) s m args below meth c H locs 0 0 QQ (F0 m 60 ls []) := by
    intro x2_4 x3_5 H locs ls hf hP hD hS hl
    rw [eK_3] at hf
    try dsimp only at hf
    refine lv_iload_n X.hx X.hb dX11_now_60 rfl (lv_at hl 1 rfl) ?_
    by_cases hc_6 : p1 = 0
    · replace hf := if_t hf hc_6
      refine lv_tableIn (tgt := 108) X.hx X.hb dX11_now_61 (by rw [hc_6]; decide) (by rw [hc_6]; decide) (by rw [hc_6]; rfl) (by decide) ?_
      refine lv_aload_n X.hx X.hb dX11_now_108 rfl (lv_at hl 0 rfl) ?_
      refine gf_X11_33 X hP 0 rfl (v := .ref (uY 7)) rfl dX11_now_109 ?_
      refine lv_sipush (v := 131) X.hx X.hb dX11_now_112 (by decide) ?_
      refine r_iald X hP 2 (f := (sY 6)) rfl (vp_c rfl) dX11_now_115 ?_
      refine W.eq (g2 := F0 m 116 ls [.int ((sY 6) 131)]) rfl ?_
      cases hf
      subst hQ
      exact r_iret X hP hD hS dX11_now_116
    replace hf := if_f hf hc_6
    by_cases hc_7 : p1 = 1
    · replace hf := if_t hf hc_7
      refine lv_tableIn (tgt := 117) X.hx X.hb dX11_now_61 (by rw [hc_7]; decide) (by rw [hc_7]; decide) (by rw [hc_7]; rfl) (by decide) ?_
      refine lv_aload_n X.hx X.hb dX11_now_117 rfl (lv_at hl 0 rfl) ?_
      refine gf_X11_33 X hP 0 rfl (v := .ref (uY 7)) rfl dX11_now_118 ?_
      refine lv_sipush (v := 133) X.hx X.hb dX11_now_121 (by decide) ?_
      refine r_iald X hP 2 (f := (sY 6)) rfl (vp_c rfl) dX11_now_124 ?_
      refine W.eq (g2 := F0 m 125 ls [.int ((sY 6) 133)]) rfl ?_
      cases hf
      subst hQ
      exact r_iret X hP hD hS dX11_now_125
    replace hf := if_f hf hc_7
    by_cases hc_8 : p1 = 2
    · replace hf := if_t hf hc_8
      refine lv_tableIn (tgt := 126) X.hx X.hb dX11_now_61 (by rw [hc_8]; decide) (by rw [hc_8]; decide) (by rw [hc_8]; rfl) (by decide) ?_
      refine lv_aload_n X.hx X.hb dX11_now_126 rfl (lv_at hl 0 rfl) ?_
      refine gf_X11_33 X hP 0 rfl (v := .ref (uY 7)) rfl dX11_now_127 ?_
      refine lv_sipush (v := 134) X.hx X.hb dX11_now_130 (by decide) ?_
      refine r_iald X hP 2 (f := (sY 6)) rfl (vp_c rfl) dX11_now_133 ?_
      refine W.eq (g2 := F0 m 134 ls [.int ((sY 6) 134)]) rfl ?_
      cases hf
      subst hQ
      exact r_iret X hP hD hS dX11_now_134
    replace hf := if_f hf hc_8
    by_cases hc_9 : p1 = 3
    · replace hf := if_t hf hc_9
      refine lv_tableIn (tgt := 135) X.hx X.hb dX11_now_61 (by rw [hc_9]; decide) (by rw [hc_9]; decide) (by rw [hc_9]; rfl) (by decide) ?_
      refine lv_aload_n X.hx X.hb dX11_now_135 rfl (lv_at hl 0 rfl) ?_
      obtain ⟨r_10, hc_11, hf⟩ := bd_i hf
      refine r_wvi (As := []) (rest := []) X sm_X11_287 (c_X11_fed l G N uY (va_up iY 0 0) sY tY jY hc_11) hP hD hS hA 0 rfl rfl rfl hl.1 (lv_room (Nat.le_of_ble_eq_true rfl)) ⟨Nat.le_of_ble_eq_true rfl, Nat.le_of_ble_eq_true rfl⟩ ⟨Nat.zero_le _, Nat.zero_le _⟩ dX11_now_136 (fun H locs hP hD hS => ?_)
      cases hf
      subst hQ
      exact r_iret X hP hD hS dX11_now_139
    replace hf := if_f hf hc_9
    by_cases hc_12 : p1 = 4
    · replace hf := if_t hf hc_12
      refine lv_tableIn (tgt := 140) X.hx X.hb dX11_now_61 (by rw [hc_12]; decide) (by rw [hc_12]; decide) (by rw [hc_12]; rfl) (by decide) ?_
      refine lv_aload_n X.hx X.hb dX11_now_140 rfl (lv_at hl 0 rfl) ?_
      refine gf_X11_33 X hP 0 rfl (v := .ref (uY 7)) rfl dX11_now_141 ?_
      refine lv_sipush (v := 135) X.hx X.hb dX11_now_144 (by decide) ?_
      refine r_iald X hP 2 (f := (sY 6)) rfl (vp_c rfl) dX11_now_147 ?_
      refine W.eq (g2 := F0 m 148 ls [.int ((sY 6) 135)]) rfl ?_
      cases hf
      subst hQ
      exact r_iret X hP hD hS dX11_now_148
    replace hf := if_f hf hc_12
    by_cases hc_13 : p1 = 5
    · replace hf := if_t hf hc_13
      refine lv_tableIn (tgt := 149) X.hx X.hb dX11_now_61 (by rw [hc_13]; decide) (by rw [hc_13]; decide) (by rw [hc_13]; rfl) (by decide) ?_
      refine lv_aload_n X.hx X.hb dX11_now_149 rfl (lv_at hl 0 rfl) ?_
      refine gf_X11_33 X hP 0 rfl (v := .ref (uY 7)) rfl dX11_now_150 ?_
      refine lv_sipush (v := 132) X.hx X.hb dX11_now_153 (by decide) ?_
      refine r_iald X hP 2 (f := (sY 6)) rfl (vp_c rfl) dX11_now_156 ?_
      refine W.eq (g2 := F0 m 157 ls [.int ((sY 6) 132)]) rfl ?_
      cases hf
      subst hQ
      exact r_iret X hP hD hS dX11_now_157
    replace hf := if_f hf hc_13
    by_cases hc_14 : p1 = 6
    · replace hf := if_t hf hc_14
      refine lv_tableIn (tgt := 158) X.hx X.hb dX11_now_61 (by rw [hc_14]; decide) (by rw [hc_14]; decide) (by rw [hc_14]; rfl) (by decide) ?_
      refine lv_iload_n X.hx X.hb dX11_now_158 rfl (lv_at hl 2 rfl) ?_
      refine lv_iconst (v := 2) X.hx X.hb dX11_now_159 (by decide) ?_
      refine lv_idiv X.hx X.hb dX11_now_160 (by decide) ?_
      cases hf
      subst hQ
      exact r_iret X hP hD hS dX11_now_161
    replace hf := if_f hf hc_14
    by_cases hc_15 : p1 = 7
    · replace hf := if_t hf hc_15
      refine lv_tableIn (tgt := 162) X.hx X.hb dX11_now_61 (by rw [hc_15]; decide) (by rw [hc_15]; decide) (by rw [hc_15]; rfl) (by decide) ?_
      refine lv_iload_n X.hx X.hb dX11_now_162 rfl (lv_at hl 3 rfl) ?_
      cases hf
      subst hQ
      exact r_iret X hP hD hS dX11_now_163
    replace hf := if_f hf hc_15
    refine r_tbd (tgt := 164) X.hx X.hb dX11_now_61 [0, 1, 2, 3, 4, 5, 6, 7] (by decide) (List.forall_mem_cons.mpr ⟨lv_neT hc_6 rfl, List.forall_mem_cons.mpr ⟨lv_neT hc_7 rfl, List.forall_mem_cons.mpr ⟨lv_neT hc_8 rfl, List.forall_mem_cons.mpr ⟨lv_neT hc_9 rfl, List.forall_mem_cons.mpr ⟨lv_neT hc_12 rfl, List.forall_mem_cons.mpr ⟨lv_neT hc_13 rfl, List.forall_mem_cons.mpr ⟨lv_neT hc_14 rfl, List.forall_mem_cons.mpr ⟨lv_neT hc_15 rfl, fun _ h => absurd h List.not_mem_nil⟩⟩⟩⟩⟩⟩⟩⟩) (by decide) ?_
    refine lv_iconst (v := (-1)) X.hx X.hb dX11_now_164 (by decide) ?_
    cases hf
    subst hQ
    exact r_iret X hP hD hS dX11_now_165
  have hlo_16 : ∀ (k : Nat) (v2_17 : Int32) (v3_18 : Int32) (v4_19 : Int32) (H : Heap) (locs : List Loc) (ls : Array Slot), f_X11_now_12 N (va_up iY 0 0) sY tY jY p1 K_1 k v2_17 v3_18 v4_19 = some (r, iY') → va_P G.1 vwCl (gY G uY (va_up iY 0 0) sY tY jY) H → va_D A (gY G uY (va_up iY 0 0) sY tY jY) → va_S A s.heap H locs → lv_has ls 5 [(0, .ref (uY 0)), (1, .int p1), (2, .int v2_17), (3, .int v3_18), (4, .int v4_19)] → W p l e (RM 3) s m args below meth c H locs 0 0 QQ (F0 m 12 ls []) := by
    intro k
    induction k with
    | zero => intro v2_17 v3_18 v4_19 H locs ls hf; exact absurd hf (by intro q; cases q)
    | succ k ih =>
      intro v2_17 v3_18 v4_19 H locs ls hf hP hD hS hl
      unfold f_X11_now_12 at hf
      refine lv_iload X.hx X.hb dX11_now_12 (lv_at hl 4 rfl) ?_
      refine lv_aload_n X.hx X.hb dX11_now_14 rfl (lv_at hl 0 rfl) ?_
      refine gf_X11_33 X hP 0 rfl (v := .ref (uY 7)) rfl dX11_now_15 ?_
      refine lv_iconst (v := 0) X.hx X.hb dX11_now_18 (by decide) ?_
      refine r_iald X hP 2 (f := (sY 6)) rfl (vp_c rfl) dX11_now_19 ?_
      refine W.eq (g2 := F0 m 20 ls [.int ((sY 6) 0), .int v4_19]) rfl ?_
      refine lv_icmp_ge (tgt := 60) X.hx X.hb dX11_now_20 (by decide) (fun hc_20 => ?_) (fun hc_20 => ?_)
      · replace hf := if_t hf hc_20
        exact hj_2 _ _ _ _ _ hf hP hD hS (lv_sub hl [0, 1, 2, 3] rfl)
      · replace hf := if_f hf hc_20
        refine lv_iload_n X.hx X.hb dX11_now_23 rfl (lv_at hl 2 rfl) ?_
        refine lv_aload_n X.hx X.hb dX11_now_24 rfl (lv_at hl 0 rfl) ?_
        refine gf_X11_33 X hP 0 rfl (v := .ref (uY 7)) rfl dX11_now_25 ?_
        refine lv_sipush (v := 220) X.hx X.hb dX11_now_28 (by decide) ?_
        refine lv_iload X.hx X.hb dX11_now_31 (lv_at hl 4 rfl) ?_
        refine lv_iadd X.hx X.hb dX11_now_33 ?_
        obtain ⟨hi_21, hf⟩ := ck_i hf
        refine r_iald X hP 2 (f := (sY 6)) rfl hi_21 dX11_now_34 ?_
        obtain ⟨r_22, hc_23, hf⟩ := bd_i hf
        refine r_cs0 (As := [.int ((sY 6) (ix ((220 : Int32) + v4_19)))]) (rest := [.int v2_17]) X sm_X11_284 (c_X11_bits l G N ((sY 6) (ix ((220 : Int32) + v4_19))) hc_23) hP hD hS hA rfl hl.1 (lv_room (Nat.le_of_ble_eq_true rfl)) ⟨Nat.le_of_ble_eq_true rfl, Nat.le_of_ble_eq_true rfl⟩ ⟨Nat.zero_le _, Nat.zero_le _⟩ dX11_now_35 (fun H locs hP hD hS => ?_)
        refine lv_iadd X.hx X.hb dX11_now_38 ?_
        refine lv_istore_n (lv' := [(2, .int (v2_17 + r_22)), (0, .ref (uY 0)), (1, .int p1), (3, .int v3_18), (4, .int v4_19)]) X.hx X.hb dX11_now_39 rfl hl (by decide) rfl (fun ls hl => ?_)
        refine lv_iload_n X.hx X.hb dX11_now_40 rfl (lv_at hl 3 rfl) ?_
        refine lv_aload_n X.hx X.hb dX11_now_41 rfl (lv_at hl 1 rfl) ?_
        refine gf_X11_33 X hP 0 rfl (v := .ref (uY 7)) rfl dX11_now_42 ?_
        refine lv_sipush (v := 213) X.hx X.hb dX11_now_45 (by decide) ?_
        refine lv_iload X.hx X.hb dX11_now_48 (lv_at hl 4 rfl) ?_
        refine lv_iadd X.hx X.hb dX11_now_50 ?_
        obtain ⟨hi_24, hf⟩ := ck_i hf
        refine r_iald X hP 2 (f := (sY 6)) rfl hi_24 dX11_now_51 ?_
        refine lv_iadd X.hx X.hb dX11_now_52 ?_
        obtain ⟨n_25, en_25, hf⟩ := nv_i hf
        refine r_nm en_25 ?_
        refine lv_istore_n (lv' := [(3, .int n_25), (2, .int (v2_17 + r_22)), (0, .ref (uY 0)), (1, .int p1), (4, .int v4_19)]) X.hx X.hb dX11_now_53 rfl hl (by decide) rfl (fun ls hl => ?_)
        refine lv_iinc (v := (v4_19 + 1)) (lv' := [(4, .int (v4_19 + 1)), (3, .int n_25), (2, .int (v2_17 + r_22)), (0, .ref (uY 0)), (1, .int p1)]) X.hx X.hb dX11_now_54 hl (k := 4) rfl rfl (by decide) rfl (fun ls hl => ?_)
        refine lv_goto (tgt := 12) X.hx X.hb dX11_now_57 (by decide) ?_
        exact ih _ _ _ _ _ _ hf hP hD hS (lv_sub hl [3, 4, 2, 1, 0] rfl)
  exact hlo_16 N _ _ _ _ _ _ hf hP hD hS (lv_sub hl [3, 4, 2, 1, 0] rfl)

def f_X11_meets (N : Nat) (iY : Nat → Int32) (sY : Nat → Nat → Int32) (tY : Nat → Nat → Int64) (jY : Nat → Int64) (p1 : Int32) (p2 : Int32) : Option ((Nat → Nat → Int32)) :=
  ck ((220 : Int32) + p1) 457 (ck ((220 : Int32) + p1) 457 (nv (upd (sY 6) (ix ((220 : Int32) + p1)) (((sY 6) (ix ((220 : Int32) + p1))) ||| ((1 : Int32) <<< (p2 &&& 31)))) (fun g_3 => ck ((220 : Int32) + p2) 457 (ck ((220 : Int32) + p2) 457 (nv (upd g_3 (ix ((220 : Int32) + p2)) ((g_3 (ix ((220 : Int32) + p2))) ||| ((1 : Int32) <<< (p1 &&& 31)))) (fun g_6 => some (va_up sY 6 g_6)))))))
set_option maxHeartbeats 4000000 in
set_option maxRecDepth 100000 in
theorem c_X11_meets (l : Launch) (G : GT) (N : Nat) (uY : Nat → Nat) (iY : Nat → Int32) (sY : Nat → Nat → Int32) (tY : Nat → Nat → Int64) (jY : Nat → Int64) (p1 : Int32) (p2 : Int32) {sY' : Nat → Nat → Int32} (hf : f_X11_meets N iY sY tY jY p1 p2 = some sY') : CV l G yX11_meets cX11_meets 3 1 [.ref (uY 0), .int p1, .int p2] (gY G uY iY sY tY jY) (gY G uY iY sY' tY jY) := by
  refine CV.of (by decide) (Nat.le_of_ble_eq_true rfl) ?_
  intro p e s m args below meth c A X hA hP hD hS ls hl
  have hl : lv_has ls 3 [(0, .ref (uY 0)), (1, .int p1), (2, .int p2)] := hl
  generalize hQ : MQ below (QV G A (gY G uY iY sY' tY jY)) args s 0 0 A = QQ
  unfold f_X11_meets at hf
  refine lv_aload_n X.hx X.hb dX11_meets_0 rfl (lv_at hl 0 rfl) ?_
  refine gf_X11_33 X hP 0 rfl (v := .ref (uY 7)) rfl dX11_meets_1 ?_
  refine lv_sipush (v := 220) X.hx X.hb dX11_meets_4 (by decide) ?_
  refine lv_iload_n X.hx X.hb dX11_meets_7 rfl (lv_at hl 1 rfl) ?_
  refine lv_iadd X.hx X.hb dX11_meets_8 ?_
  refine lv_dup2_11 X.hx X.hb dX11_meets_9 rfl rfl ?_
  obtain ⟨hi_1, hf⟩ := ck_i hf
  refine r_iald X hP 2 (f := (sY 6)) rfl hi_1 dX11_meets_10 ?_
  refine lv_iconst (v := 1) X.hx X.hb dX11_meets_11 (by decide) ?_
  refine lv_iload_n X.hx X.hb dX11_meets_12 rfl (lv_at hl 2 rfl) ?_
  refine lv_ishl X.hx X.hb dX11_meets_13 ?_
  refine lv_ior X.hx X.hb dX11_meets_14 ?_
  obtain ⟨hi_2, hf⟩ := ck_i hf
  obtain ⟨g_3, eg_3, hf⟩ := nv_i hf
  refine r_iast X hP hD hS 2 (f := (sY 6)) rfl hi_2 (wo := (gY G uY iY (va_up sY 6 g_3) tY jY)) (by subst eg_3; rfl) dX11_meets_15 (fun H locs hP hD hS => ?_)
  refine lv_aload_n X.hx X.hb dX11_meets_16 rfl (lv_at hl 0 rfl) ?_
  refine gf_X11_33 X hP 0 rfl (v := .ref (uY 7)) rfl dX11_meets_17 ?_
  refine lv_sipush (v := 220) X.hx X.hb dX11_meets_20 (by decide) ?_
  refine lv_iload_n X.hx X.hb dX11_meets_23 rfl (lv_at hl 2 rfl) ?_
  refine lv_iadd X.hx X.hb dX11_meets_24 ?_
  refine lv_dup2_11 X.hx X.hb dX11_meets_25 rfl rfl ?_
  obtain ⟨hi_4, hf⟩ := ck_i hf
  refine r_iald X hP 2 (f := g_3) rfl hi_4 dX11_meets_26 ?_
  refine lv_iconst (v := 1) X.hx X.hb dX11_meets_27 (by decide) ?_
  refine lv_iload_n X.hx X.hb dX11_meets_28 rfl (lv_at hl 1 rfl) ?_
  refine lv_ishl X.hx X.hb dX11_meets_29 ?_
  refine lv_ior X.hx X.hb dX11_meets_30 ?_
  obtain ⟨hi_5, hf⟩ := ck_i hf
  obtain ⟨g_6, eg_6, hf⟩ := nv_i hf
  refine r_iast X hP hD hS 2 (f := g_3) rfl hi_5 (wo := (gY G uY iY (va_up sY 6 g_6) tY jY)) (by subst eg_6; rfl) dX11_meets_31 (fun H locs hP hD hS => ?_)
  cases hf
  subst hQ
  exact r_vret X hP hD hS dX11_meets_32

def f_X11_whyBuy (N : Nat) (iY : Nat → Int32) (sY : Nat → Nat → Int32) (tY : Nat → Nat → Int64) (jY : Nat → Int64) (p1 : Int32) (p2 : Int32) (p3 : Int32) : Option (Int32) :=
  (if p1 = p3 then some 1 else bd (f_X11_isHome N iY sY tY jY p1) (fun r_2 => (if r_2 = 0 then bd (f_X11_isHome N iY sY tY jY p3) (fun r_5 => (if r_5 = 0 then bd (f_X11_mayBy N iY sY tY jY p1) (fun r_8 => bd (f_X11_bitOf N r_8 p3) (fun r_10 => jn (fun (z : Unit) => match z with | () => nv (((5 : Int32) * p3) + p2) (fun n_15 => ck ((143 : Int32) + n_15) 457 ((if ((sY 6) (ix ((143 : Int32) + n_15))) = 0 then some 4 else ck ((47 : Int32) + n_15) 457 (ck ((136 : Int32) + p1) 457 ((if (((sY 6) (ix ((47 : Int32) + n_15))) - 1) ≤ ((sY 6) (ix ((136 : Int32) + p1))) then ck (((178 : Int32) + ((5 : Int32) * p1)) + p2) 457 ((if ((sY 6) (ix (((178 : Int32) + ((5 : Int32) * p1)) + p2))) = 0 then some 6 else some 0)) else some 5))))))) (fun K_12 => (if r_10 = 0 then bd (f_X11_isVeiled N iY sY tY jY p1) (fun r_24 => (if r_24 = 0 then bd (f_X11_isVeiled N iY sY tY jY p3) (fun r_27 => (if r_27 = 0 then some 3 else K_12 ())) else K_12 ())) else K_12 ())))) else some 2)) else some 2)))
set_option maxHeartbeats 4000000 in
set_option maxRecDepth 100000 in
theorem c_X11_whyBuy (l : Launch) (G : GT) (N : Nat) (uY : Nat → Nat) (iY : Nat → Int32) (sY : Nat → Nat → Int32) (tY : Nat → Nat → Int64) (jY : Nat → Int64) (p1 : Int32) (p2 : Int32) (p3 : Int32) {r : Int32} (hf : f_X11_whyBuy N iY sY tY jY p1 p2 p3 = some r) : CI l G yX11_whyBuy cX11_whyBuy 5 .int 3 [.ref (uY 0), .int p1, .int p2, .int p3] (gY G uY iY sY tY jY) r (gY G uY iY sY tY jY) := by
  refine CI.of (by decide) (Nat.le_of_ble_eq_true rfl) ?_
  intro p e s m args below meth c A X hA hP hD hS ls hl
  have hl : lv_has ls 5 [(0, .ref (uY 0)), (1, .int p1), (2, .int p2), (3, .int p3)] := hl
  generalize hQ : MQ below (QI G A r (gY G uY iY sY tY jY)) args s 0 0 A = QQ
  unfold f_X11_whyBuy at hf
  refine lv_iload_n X.hx X.hb dX11_whyBuy_0 rfl (lv_at hl 1 rfl) ?_
  refine lv_iload_n X.hx X.hb dX11_whyBuy_1 rfl (lv_at hl 3 rfl) ?_
  refine lv_icmp_ne (tgt := 7) X.hx X.hb dX11_whyBuy_2 (by decide) (fun hc_1 => ?_) (fun hc_1 => ?_)
  · replace hf := if_f hf hc_1
    refine lv_aload_n X.hx X.hb dX11_whyBuy_7 rfl (lv_at hl 0 rfl) ?_
    refine lv_iload_n X.hx X.hb dX11_whyBuy_8 rfl (lv_at hl 1 rfl) ?_
    obtain ⟨r_2, hc_3, hf⟩ := bd_i hf
    refine r_wvi (As := [.int p1]) (rest := []) X sm_X11_290 (c_X11_isHome l G N uY iY sY tY jY p1 hc_3) hP hD hS hA 0 rfl rfl rfl hl.1 (lv_room (Nat.le_of_ble_eq_true rfl)) ⟨Nat.le_of_ble_eq_true rfl, Nat.le_of_ble_eq_true rfl⟩ ⟨Nat.zero_le _, Nat.zero_le _⟩ dX11_whyBuy_9 (fun H locs hP hD hS => ?_)
    refine lv_if_ne (tgt := 23) X.hx X.hb dX11_whyBuy_12 (by decide) (fun hc_4 => ?_) (fun hc_4 => ?_)
    · replace hf := if_f hf hc_4
      refine lv_iconst (v := 2) X.hx X.hb dX11_whyBuy_23 (by decide) ?_
      cases hf
      subst hQ
      exact r_iret X hP hD hS dX11_whyBuy_24
    · replace hf := if_t hf hc_4
      refine lv_aload_n X.hx X.hb dX11_whyBuy_15 rfl (lv_at hl 0 rfl) ?_
      refine lv_iload_n X.hx X.hb dX11_whyBuy_16 rfl (lv_at hl 3 rfl) ?_
      obtain ⟨r_5, hc_6, hf⟩ := bd_i hf
      refine r_wvi (As := [.int p3]) (rest := []) X sm_X11_290 (c_X11_isHome l G N uY iY sY tY jY p3 hc_6) hP hD hS hA 0 rfl rfl rfl hl.1 (lv_room (Nat.le_of_ble_eq_true rfl)) ⟨Nat.le_of_ble_eq_true rfl, Nat.le_of_ble_eq_true rfl⟩ ⟨Nat.zero_le _, Nat.zero_le _⟩ dX11_whyBuy_17 (fun H locs hP hD hS => ?_)
      refine lv_if_eq (tgt := 25) X.hx X.hb dX11_whyBuy_20 (by decide) (fun hc_7 => ?_) (fun hc_7 => ?_)
      · replace hf := if_t hf hc_7
        refine lv_aload_n X.hx X.hb dX11_whyBuy_25 rfl (lv_at hl 0 rfl) ?_
        refine lv_iload_n X.hx X.hb dX11_whyBuy_26 rfl (lv_at hl 1 rfl) ?_
        obtain ⟨r_8, hc_9, hf⟩ := bd_i hf
        refine r_wvi (As := [.int p1]) (rest := []) X sm_X11_278 (c_X11_mayBy l G N uY iY sY tY jY p1 hc_9) hP hD hS hA 0 rfl rfl rfl hl.1 (lv_room (Nat.le_of_ble_eq_true rfl)) ⟨Nat.le_of_ble_eq_true rfl, Nat.le_of_ble_eq_true rfl⟩ ⟨Nat.zero_le _, Nat.zero_le _⟩ dX11_whyBuy_27 (fun H locs hP hD hS => ?_)
        refine lv_iload_n X.hx X.hb dX11_whyBuy_30 rfl (lv_at hl 3 rfl) ?_
        obtain ⟨r_10, hc_11, hf⟩ := bd_i hf
        refine r_cs0 (As := [.int r_8, .int p3]) (rest := []) X sm_X11_214 (c_X11_bitOf l G N r_8 p3 hc_11) hP hD hS hA rfl hl.1 (lv_room (Nat.le_of_ble_eq_true rfl)) ⟨Nat.le_of_ble_eq_true rfl, Nat.le_of_ble_eq_true rfl⟩ ⟨Nat.zero_le _, Nat.zero_le _⟩ dX11_whyBuy_31 (fun H locs hP hD hS => ?_)
        obtain ⟨K_12, eK_14, hf⟩ := jn_i hf
        have hj_13 : ∀ (H : Heap) (locs : List Loc) (ls : Array Slot), K_12 () = some r → va_P G.1 vwCl (gY G uY iY sY tY jY) H → va_D A (gY G uY iY sY tY jY) → va_S A s.heap H locs → lv_has ls 5 [(0, .ref (uY 0)), (1, .int p1), (2, .int p2), (3, .int p3)] → W p l e (RM 3) s m args below meth c H locs 0 0 QQ (F0 m 55 ls []) := by
          intro  H locs ls hf hP hD hS hl
          rw [eK_14] at hf
          try dsimp only at hf
          refine lv_iconst (v := 5) X.hx X.hb dX11_whyBuy_55 (by decide) ?_
          refine lv_iload_n X.hx X.hb dX11_whyBuy_56 rfl (lv_at hl 3 rfl) ?_
          refine lv_imul X.hx X.hb dX11_whyBuy_57 ?_
          refine lv_iload_n X.hx X.hb dX11_whyBuy_58 rfl (lv_at hl 2 rfl) ?_
          refine lv_iadd X.hx X.hb dX11_whyBuy_59 ?_
          obtain ⟨n_15, en_15, hf⟩ := nv_i hf
          refine r_nm en_15 ?_
          refine lv_istore (lv' := [(4, .int n_15), (0, .ref (uY 0)), (1, .int p1), (2, .int p2), (3, .int p3)]) X.hx X.hb dX11_whyBuy_60 hl (by decide) rfl (fun ls hl => ?_)
          refine lv_aload_n X.hx X.hb dX11_whyBuy_62 rfl (lv_at hl 1 rfl) ?_
          refine gf_X11_33 X hP 0 rfl (v := .ref (uY 7)) rfl dX11_whyBuy_63 ?_
          refine lv_sipush (v := 143) X.hx X.hb dX11_whyBuy_66 (by decide) ?_
          refine lv_iload X.hx X.hb dX11_whyBuy_69 (lv_at hl 0 rfl) ?_
          refine lv_iadd X.hx X.hb dX11_whyBuy_71 ?_
          obtain ⟨hi_16, hf⟩ := ck_i hf
          refine r_iald X hP 2 (f := (sY 6)) rfl hi_16 dX11_whyBuy_72 ?_
          refine lv_if_ne (tgt := 78) X.hx X.hb dX11_whyBuy_73 (by decide) (fun hc_17 => ?_) (fun hc_17 => ?_)
          · replace hf := if_f hf hc_17
            refine lv_aload_n X.hx X.hb dX11_whyBuy_78 rfl (lv_at hl 1 rfl) ?_
            refine gf_X11_33 X hP 0 rfl (v := .ref (uY 7)) rfl dX11_whyBuy_79 ?_
            refine lv_bipush (v := 47) X.hx X.hb dX11_whyBuy_82 (by decide) ?_
            refine lv_iload X.hx X.hb dX11_whyBuy_84 (lv_at hl 0 rfl) ?_
            refine lv_iadd X.hx X.hb dX11_whyBuy_86 ?_
            obtain ⟨hi_18, hf⟩ := ck_i hf
            refine r_iald X hP 2 (f := (sY 6)) rfl hi_18 dX11_whyBuy_87 ?_
            refine lv_iconst (v := 1) X.hx X.hb dX11_whyBuy_88 (by decide) ?_
            refine lv_isub X.hx X.hb dX11_whyBuy_89 ?_
            refine lv_aload_n X.hx X.hb dX11_whyBuy_90 rfl (lv_at hl 1 rfl) ?_
            refine gf_X11_33 X hP 0 rfl (v := .ref (uY 7)) rfl dX11_whyBuy_91 ?_
            refine lv_sipush (v := 136) X.hx X.hb dX11_whyBuy_94 (by decide) ?_
            refine lv_iload_n X.hx X.hb dX11_whyBuy_97 rfl (lv_at hl 2 rfl) ?_
            refine lv_iadd X.hx X.hb dX11_whyBuy_98 ?_
            obtain ⟨hi_19, hf⟩ := ck_i hf
            refine r_iald X hP 2 (f := (sY 6)) rfl hi_19 dX11_whyBuy_99 ?_
            refine lv_icmp_le (tgt := 105) X.hx X.hb dX11_whyBuy_100 (by decide) (fun hc_20 => ?_) (fun hc_20 => ?_)
            · replace hf := if_t hf hc_20
              refine lv_aload_n X.hx X.hb dX11_whyBuy_105 rfl (lv_at hl 1 rfl) ?_
              refine gf_X11_33 X hP 0 rfl (v := .ref (uY 7)) rfl dX11_whyBuy_106 ?_
              refine lv_sipush (v := 178) X.hx X.hb dX11_whyBuy_109 (by decide) ?_
              refine lv_iconst (v := 5) X.hx X.hb dX11_whyBuy_112 (by decide) ?_
              refine lv_iload_n X.hx X.hb dX11_whyBuy_113 rfl (lv_at hl 2 rfl) ?_
              refine lv_imul X.hx X.hb dX11_whyBuy_114 ?_
              refine lv_iadd X.hx X.hb dX11_whyBuy_115 ?_
              refine lv_iload_n X.hx X.hb dX11_whyBuy_116 rfl (lv_at hl 3 rfl) ?_
              refine lv_iadd X.hx X.hb dX11_whyBuy_117 ?_
              obtain ⟨hi_21, hf⟩ := ck_i hf
              refine r_iald X hP 2 (f := (sY 6)) rfl hi_21 dX11_whyBuy_118 ?_
              refine lv_if_ne (tgt := 127) X.hx X.hb dX11_whyBuy_119 (by decide) (fun hc_22 => ?_) (fun hc_22 => ?_)
              · replace hf := if_f hf hc_22
                refine lv_iconst (v := 0) X.hx X.hb dX11_whyBuy_127 (by decide) ?_
                cases hf
                subst hQ
                exact r_iret X hP hD hS dX11_whyBuy_128
              · replace hf := if_t hf hc_22
                refine lv_bipush (v := 6) X.hx X.hb dX11_whyBuy_122 (by decide) ?_
                refine lv_goto (tgt := 128) X.hx X.hb dX11_whyBuy_124 (by decide) ?_
                cases hf
                subst hQ
                exact r_iret X hP hD hS dX11_whyBuy_128
            · replace hf := if_f hf hc_20
              refine lv_iconst (v := 5) X.hx X.hb dX11_whyBuy_103 (by decide) ?_
              cases hf
              subst hQ
              exact r_iret X hP hD hS dX11_whyBuy_104
          · replace hf := if_t hf hc_17
            refine lv_iconst (v := 4) X.hx X.hb dX11_whyBuy_76 (by decide) ?_
            cases hf
            subst hQ
            exact r_iret X hP hD hS dX11_whyBuy_77
        refine lv_if_ne (tgt := 55) X.hx X.hb dX11_whyBuy_34 (by decide) (fun hc_23 => ?_) (fun hc_23 => ?_)
        · replace hf := if_f hf hc_23
          exact hj_13 _ _ _ hf hP hD hS (lv_sub hl [0, 1, 2, 3] rfl)
        · replace hf := if_t hf hc_23
          refine lv_aload_n X.hx X.hb dX11_whyBuy_37 rfl (lv_at hl 0 rfl) ?_
          refine lv_iload_n X.hx X.hb dX11_whyBuy_38 rfl (lv_at hl 1 rfl) ?_
          obtain ⟨r_24, hc_25, hf⟩ := bd_i hf
          refine r_wvi (As := [.int p1]) (rest := []) X sm_X11_293 (c_X11_isVeiled l G N uY iY sY tY jY p1 hc_25) hP hD hS hA 0 rfl rfl rfl hl.1 (lv_room (Nat.le_of_ble_eq_true rfl)) ⟨Nat.le_of_ble_eq_true rfl, Nat.le_of_ble_eq_true rfl⟩ ⟨Nat.zero_le _, Nat.zero_le _⟩ dX11_whyBuy_39 (fun H locs hP hD hS => ?_)
          refine lv_if_ne (tgt := 55) X.hx X.hb dX11_whyBuy_42 (by decide) (fun hc_26 => ?_) (fun hc_26 => ?_)
          · replace hf := if_f hf hc_26
            exact hj_13 _ _ _ hf hP hD hS (lv_sub hl [0, 1, 2, 3] rfl)
          · replace hf := if_t hf hc_26
            refine lv_aload_n X.hx X.hb dX11_whyBuy_45 rfl (lv_at hl 0 rfl) ?_
            refine lv_iload_n X.hx X.hb dX11_whyBuy_46 rfl (lv_at hl 3 rfl) ?_
            obtain ⟨r_27, hc_28, hf⟩ := bd_i hf
            refine r_wvi (As := [.int p3]) (rest := []) X sm_X11_293 (c_X11_isVeiled l G N uY iY sY tY jY p3 hc_28) hP hD hS hA 0 rfl rfl rfl hl.1 (lv_room (Nat.le_of_ble_eq_true rfl)) ⟨Nat.le_of_ble_eq_true rfl, Nat.le_of_ble_eq_true rfl⟩ ⟨Nat.zero_le _, Nat.zero_le _⟩ dX11_whyBuy_47 (fun H locs hP hD hS => ?_)
            refine lv_if_ne (tgt := 55) X.hx X.hb dX11_whyBuy_50 (by decide) (fun hc_29 => ?_) (fun hc_29 => ?_)
            · replace hf := if_f hf hc_29
              exact hj_13 _ _ _ hf hP hD hS (lv_sub hl [0, 1, 2, 3] rfl)
            · replace hf := if_t hf hc_29
              refine lv_iconst (v := 3) X.hx X.hb dX11_whyBuy_53 (by decide) ?_
              cases hf
              subst hQ
              exact r_iret X hP hD hS dX11_whyBuy_54
      · replace hf := if_f hf hc_7
        refine lv_iconst (v := 2) X.hx X.hb dX11_whyBuy_23 (by decide) ?_
        cases hf
        subst hQ
        exact r_iret X hP hD hS dX11_whyBuy_24
  · replace hf := if_t hf hc_1
    refine lv_iconst (v := 1) X.hx X.hb dX11_whyBuy_5 (by decide) ?_
    cases hf
    subst hQ
    exact r_iret X hP hD hS dX11_whyBuy_6

