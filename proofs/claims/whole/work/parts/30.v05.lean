def f_X11_who_133 (N : Nat) (sY : Nat → Nat → Int32) (tY : Nat → Nat → Int64) (jY : Nat → Int64) (v1 : Int32) : Nat → (Nat → Int32) → (Int32) → (Int32) → Option (Int32 × (Nat → Int32))
  | 0, _, _, _ => none
  | k + 1, iY, v2, v3 => (if ((sY 6) 0) ≤ v3 then some (v1, iY) else bd (f_X11_mayBy N iY sY tY jY v3) (fun r_35 => bd (f_X11_bits N (v1 &&& r_35)) (fun r_37 => bd (f_X11_bits N v1) (fun r_39 => bd (f_X11_greater N r_37 (r_39 - r_37)) (fun r_41 => jn (fun (z : (Int32) × (Nat → Int32)) => match z with | (x2_46, iY_47) => f_X11_who_133 N sY tY jY v1 k iY_47 x2_46 (v3 + 1)) (fun K_43 => (if r_41 < v2 then K_43 (r_41, (va_up iY 27 v3)) else K_43 (v2, iY))))))))
def f_X11_who_82 (N : Nat) (iY : Nat → Int32) (sY : Nat → Nat → Int32) (tY : Nat → Nat → Int64) (jY : Nat → Int64) (K_10 : ((Int32)) → Option (Int32 × (Nat → Int32))) : Nat → (Int32) → (Int32) → Option (Int32 × (Nat → Int32))
  | 0, _, _ => none
  | k + 1, v1, v2 => (if ((sY 6) 0) ≤ v2 then K_10 v1 else bd (f_X11_isMask N iY sY tY jY v2) (fun r_61 => jn (fun (z : (Int32)) => match z with | y_66 => f_X11_who_82 N iY sY tY jY K_10 k (v1 ||| y_66) (v2 + 1)) (fun K_63 => (if r_61 = 0 then K_63 0 else K_63 ((1 : Int32) <<< (v2 &&& 31))))))
def f_X11_who_39 (N : Nat) (iY : Nat → Int32) (sY : Nat → Nat → Int32) (tY : Nat → Nat → Int64) (jY : Nat → Int64) (K_7 : (Unit) → Option (Int32 × (Nat → Int32))) : Nat → (Int32) → Option (Int32 × (Nat → Int32))
  | 0, _ => none
  | k + 1, v1 => (if (iY 3) ≤ v1 then K_7 () else bd (f_X11_octet N iY sY tY jY v1) (fun r_80 => bd (f_X11_isPerson N iY sY tY jY r_80) (fun r_82 => (if r_82 = 0 then some ((-1), iY) else bd (f_X11_octet N iY sY tY jY (v1 + 1)) (fun r_85 => (if r_85 ≤ 1 then f_X11_who_39 N iY sY tY jY K_7 k (v1 + 2) else some ((-1), iY)))))))
def f_X11_who (N : Nat) (iY : Nat → Int32) (sY : Nat → Nat → Int32) (tY : Nat → Nat → Int64) (jY : Nat → Int64) : Option (Int32 × (Nat → Int32)) :=
  bd (f_X11_taken N (va_up iY 0 0) sY tY jY 940) (fun iY_1 => bd (f_X11_isIn N (iY_1 3) 2 16) (fun r_3 => (if r_3 = 0 then some ((-1), iY_1) else (if ((iY_1 3) - (iY_1 3) / 2 * 2) = 1 then some ((-1), iY_1) else jn (fun (z : Unit) => match z with | () => jn (fun (z : (Int32)) => match z with | x1_13 => (if x1_13 = 0 then some (0, iY_1) else f_X11_who_133 N sY tY jY x1_13 N (va_up iY_1 28 1) 1000000 0)) (fun K_10 => f_X11_who_82 N iY_1 sY tY jY K_10 N 0 0)) (fun K_7 => f_X11_who_39 N iY_1 sY tY jY K_7 N 0)))))
set_option maxHeartbeats 4000000 in
set_option maxRecDepth 100000 in
theorem c_X11_who (l : Launch) (G : GT) (N : Nat) (uY : Nat → Nat) (iY : Nat → Int32) (sY : Nat → Nat → Int32) (tY : Nat → Nat → Int64) (jY : Nat → Int64) {r : Int32} {iY' : Nat → Int32} (hf : f_X11_who N iY sY tY jY = some (r, iY')) : CI l G yX11_who cX11_who 6 .int 4 [.ref (uY 0)] (gY G uY iY sY tY jY) r (gY G uY iY' sY tY jY) := by
  refine CI.of (by decide) (Nat.le_of_ble_eq_true rfl) ?_
  intro p e s m args below meth c A X hA hP hD hS ls hl
  have hl : lv_has ls 6 [(0, .ref (uY 0))] := hl
  generalize hQ : MQ below (QI G A r (gY G uY iY' sY tY jY)) args s 0 0 A = QQ
  unfold f_X11_who at hf
  refine lv_aload_n X.hx X.hb dX11_who_0 rfl (lv_at hl 0 rfl) ?_
  refine lv_iconst (v := 0) X.hx X.hb dX11_who_1 (by decide) ?_
  refine pf_X11_1 X hP hD hS 0 rfl rfl rfl (Nat.le_of_ble_eq_true rfl) (wo := (gY G uY (va_up iY 0 0) sY tY jY)) rfl dX11_who_2 (fun H locs hP hD hS => ?_)
  refine lv_aload_n X.hx X.hb dX11_who_5 rfl (lv_at hl 0 rfl) ?_
  refine lv_sipush (v := 940) X.hx X.hb dX11_who_6 (by decide) ?_
  obtain ⟨iY_1, hc_2, hf⟩ := bd_i hf
  refine r_cvv (As := [.int 940]) (rest := []) X sm_X11_247 (c_X11_taken l G N uY (va_up iY 0 0) sY tY jY 940 hc_2) hP hD hS hA 0 rfl rfl [0, 1, 2, 3, 4, 5, 6, 7, 8, 9, 10, 11, 12, 13, 14, 15, 16, 17, 18, 19, 20] rfl rfl rfl (wo := (gY G uY iY_1 sY tY jY)) rfl rfl hl.1 (lv_room (Nat.le_of_ble_eq_true rfl)) ⟨Nat.le_of_ble_eq_true rfl, Nat.le_of_ble_eq_true rfl⟩ ⟨Nat.zero_le _, Nat.zero_le _⟩ dX11_who_9 (fun H locs hP hD hS => ?_)
  refine lv_aload_n X.hx X.hb dX11_who_12 rfl (lv_at hl 0 rfl) ?_
  refine gf_X11_18 X hP 0 rfl (v := .int (iY_1 3)) rfl dX11_who_13 ?_
  refine lv_iconst (v := 2) X.hx X.hb dX11_who_16 (by decide) ?_
  refine lv_bipush (v := 16) X.hx X.hb dX11_who_17 (by decide) ?_
  obtain ⟨r_3, hc_4, hf⟩ := bd_i hf
  refine r_cs0 (As := [.int (iY_1 3), .int 2, .int 16]) (rest := []) X sm_X11_189 (c_X11_isIn l G N (iY_1 3) 2 16 hc_4) hP hD hS hA rfl hl.1 (lv_room (Nat.le_of_ble_eq_true rfl)) ⟨Nat.le_of_ble_eq_true rfl, Nat.le_of_ble_eq_true rfl⟩ ⟨Nat.zero_le _, Nat.zero_le _⟩ dX11_who_19 (fun H locs hP hD hS => ?_)
  refine lv_if_eq (tgt := 35) X.hx X.hb dX11_who_22 (by decide) (fun hc_5 => ?_) (fun hc_5 => ?_)
  · replace hf := if_t hf hc_5
    refine lv_iconst (v := (-1)) X.hx X.hb dX11_who_35 (by decide) ?_
    cases hf
    subst hQ
    exact r_iret X hP hD hS dX11_who_36
  · replace hf := if_f hf hc_5
    refine lv_aload_n X.hx X.hb dX11_who_25 rfl (lv_at hl 0 rfl) ?_
    refine gf_X11_18 X hP 0 rfl (v := .int (iY_1 3)) rfl dX11_who_26 ?_
    refine lv_iconst (v := 2) X.hx X.hb dX11_who_29 (by decide) ?_
    refine lv_irem X.hx X.hb dX11_who_30 (by decide) ?_
    refine lv_iconst (v := 1) X.hx X.hb dX11_who_31 (by decide) ?_
    refine lv_icmp_ne (tgt := 37) X.hx X.hb dX11_who_32 (by decide) (fun hc_6 => ?_) (fun hc_6 => ?_)
    · replace hf := if_f hf hc_6
      refine lv_iconst (v := 0) X.hx X.hb dX11_who_37 (by decide) ?_
      refine lv_istore_n (lv' := [(1, .int 0), (0, .ref (uY 0))]) X.hx X.hb dX11_who_38 rfl hl (by decide) rfl (fun ls hl => ?_)
      obtain ⟨K_7, eK_9, hf⟩ := jn_i hf
      have hj_8 : ∀ (H : Heap) (locs : List Loc) (ls : Array Slot), K_7 () = some (r, iY') → va_P G.1 vwCl (gY G uY iY_1 sY tY jY) H → va_D A (gY G uY iY_1 sY tY jY) → va_S A s.heap H locs → lv_has ls 6 [(0, .ref (uY 0))] → W p l e (RM 4) s m args below meth c H locs 0 0 QQ (F0 m 78 ls []) := by
        intro  H locs ls hf hP hD hS hl
        rw [eK_9] at hf
        try dsimp only at hf
        refine lv_iconst (v := 0) X.hx X.hb dX11_who_78 (by decide) ?_
        refine lv_istore_n (lv' := [(1, .int 0), (0, .ref (uY 0))]) X.hx X.hb dX11_who_79 rfl hl (by decide) rfl (fun ls hl => ?_)
        refine lv_iconst (v := 0) X.hx X.hb dX11_who_80 (by decide) ?_
        refine lv_istore_n (lv' := [(2, .int 0), (1, .int 0), (0, .ref (uY 0))]) X.hx X.hb dX11_who_81 rfl hl (by decide) rfl (fun ls hl => ?_)
        obtain ⟨K_10, eK_12, hf⟩ := jn_i hf
        have hj_11 : ∀ (x1_13 : Int32) (H : Heap) (locs : List Loc) (ls : Array Slot), K_10 x1_13 = some (r, iY') → va_P G.1 vwCl (gY G uY iY_1 sY tY jY) H → va_D A (gY G uY iY_1 sY tY jY) → va_S A s.heap H locs → lv_has ls 6 [(0, .ref (uY 0)), (1, .int x1_13)] → W p l e (RM 4) s m args below meth c H locs 0 0 QQ (F0 m 116 ls []) := by
          intro x1_13 H locs ls hf hP hD hS hl
          rw [eK_12] at hf
          try dsimp only at hf
          refine lv_iload_n X.hx X.hb dX11_who_116 rfl (lv_at hl 1 rfl) ?_
          refine lv_if_ne (tgt := 122) X.hx X.hb dX11_who_117 (by decide) (fun hc_14 => ?_) (fun hc_14 => ?_)
          · replace hf := if_f hf hc_14
            refine lv_aload_n X.hx X.hb dX11_who_122 rfl (lv_at hl 0 rfl) ?_
            refine lv_iconst (v := 1) X.hx X.hb dX11_who_123 (by decide) ?_
            refine pf_X11_351 X hP hD hS 0 rfl (by decide) (by decide) (Nat.le_of_ble_eq_true rfl) (wo := (gY G uY (va_up iY_1 28 1) sY tY jY)) rfl dX11_who_124 (fun H locs hP hD hS => ?_)
            refine lv_ldcw (v := 1000000) X.hx X.hb X.hown (X.hts _ tw_1710) dX11_who_127 ?_
            refine lv_istore_n (lv' := [(2, .int 1000000), (0, .ref (uY 0)), (1, .int x1_13)]) X.hx X.hb dX11_who_130 rfl hl (by decide) rfl (fun ls hl => ?_)
            refine lv_iconst (v := 0) X.hx X.hb dX11_who_131 (by decide) ?_
            refine lv_istore_n (lv' := [(3, .int 0), (2, .int 1000000), (0, .ref (uY 0)), (1, .int x1_13)]) X.hx X.hb dX11_who_132 rfl hl (by decide) rfl (fun ls hl => ?_)
            have hlo_15 : ∀ (k : Nat) (iY_16 : Nat → Int32) (v2_17 : Int32) (v3_18 : Int32) (H : Heap) (locs : List Loc) (ls : Array Slot), f_X11_who_133 N sY tY jY x1_13 k iY_16 v2_17 v3_18 = some (r, iY') → va_P G.1 vwCl (gY G uY iY_16 sY tY jY) H → va_D A (gY G uY iY_16 sY tY jY) → va_S A s.heap H locs → lv_has ls 6 [(0, .ref (uY 0)), (1, .int x1_13), (2, .int v2_17), (3, .int v3_18)] → W p l e (RM 4) s m args below meth c H locs 0 0 QQ (F0 m 133 ls []) := by
              intro k
              induction k with
              | zero => intro iY_16 v2_17 v3_18 H locs ls hf; exact absurd hf (by intro q; cases q)
              | succ k ih =>
                intro iY_16 v2_17 v3_18 H locs ls hf hP hD hS hl
                unfold f_X11_who_133 at hf
                refine lv_iload_n X.hx X.hb dX11_who_133 rfl (lv_at hl 3 rfl) ?_
                refine lv_aload_n X.hx X.hb dX11_who_134 rfl (lv_at hl 0 rfl) ?_
                refine gf_X11_33 X hP 0 rfl (v := .ref (uY 7)) rfl dX11_who_135 ?_
                refine lv_iconst (v := 0) X.hx X.hb dX11_who_138 (by decide) ?_
                refine r_iald X hP 2 (f := (sY 6)) rfl (vp_c rfl) dX11_who_139 ?_
                refine W.eq (g2 := F0 m 140 ls [.int ((sY 6) 0), .int v3_18]) rfl ?_
                refine lv_icmp_ge (tgt := 192) X.hx X.hb dX11_who_140 (by decide) (fun hc_19 => ?_) (fun hc_19 => ?_)
                · replace hf := if_t hf hc_19
                  refine lv_iload_n X.hx X.hb dX11_who_192 rfl (lv_at hl 1 rfl) ?_
                  cases hf
                  subst hQ
                  exact r_iret X hP hD hS dX11_who_193
                · replace hf := if_f hf hc_19
                  refine lv_iload_n X.hx X.hb dX11_who_143 rfl (lv_at hl 1 rfl) ?_
                  refine lv_aload_n X.hx X.hb dX11_who_144 rfl (lv_at hl 0 rfl) ?_
                  refine lv_iload_n X.hx X.hb dX11_who_145 rfl (lv_at hl 3 rfl) ?_
                  obtain ⟨r_20, hc_21, hf⟩ := bd_i hf
                  refine r_cvi (As := [.int v3_18]) (rest := [.int x1_13]) X sm_X11_278 (c_X11_mayBy l G N uY iY_16 sY tY jY v3_18 hc_21) hP hD hS hA 0 rfl rfl [0, 1, 2, 3, 4, 5, 6, 7, 8, 9, 10, 11, 12, 13, 14, 15, 16, 17, 18, 19, 20] rfl rfl rfl (wo := (gY G uY iY_16 sY tY jY)) rfl rfl hl.1 (lv_room (Nat.le_of_ble_eq_true rfl)) ⟨Nat.le_of_ble_eq_true rfl, Nat.le_of_ble_eq_true rfl⟩ ⟨Nat.zero_le _, Nat.zero_le _⟩ dX11_who_146 (fun H locs hP hD hS => ?_)
                  refine lv_iand X.hx X.hb dX11_who_149 ?_
                  obtain ⟨r_22, hc_23, hf⟩ := bd_i hf
                  refine r_cs0 (As := [.int (x1_13 &&& r_20)]) (rest := []) X sm_X11_284 (c_X11_bits l G N (x1_13 &&& r_20) hc_23) hP hD hS hA rfl hl.1 (lv_room (Nat.le_of_ble_eq_true rfl)) ⟨Nat.le_of_ble_eq_true rfl, Nat.le_of_ble_eq_true rfl⟩ ⟨Nat.zero_le _, Nat.zero_le _⟩ dX11_who_150 (fun H locs hP hD hS => ?_)
                  refine lv_istore (lv' := [(4, .int r_22), (0, .ref (uY 0)), (1, .int x1_13), (2, .int v2_17), (3, .int v3_18)]) X.hx X.hb dX11_who_153 hl (by decide) rfl (fun ls hl => ?_)
                  refine lv_iload X.hx X.hb dX11_who_155 (lv_at hl 0 rfl) ?_
                  refine lv_iload_n X.hx X.hb dX11_who_157 rfl (lv_at hl 2 rfl) ?_
                  obtain ⟨r_24, hc_25, hf⟩ := bd_i hf
                  refine r_cs0 (As := [.int x1_13]) (rest := [.int r_22]) X sm_X11_284 (c_X11_bits l G N x1_13 hc_25) hP hD hS hA rfl hl.1 (lv_room (Nat.le_of_ble_eq_true rfl)) ⟨Nat.le_of_ble_eq_true rfl, Nat.le_of_ble_eq_true rfl⟩ ⟨Nat.zero_le _, Nat.zero_le _⟩ dX11_who_158 (fun H locs hP hD hS => ?_)
                  refine lv_iload X.hx X.hb dX11_who_161 (lv_at hl 0 rfl) ?_
                  refine lv_isub X.hx X.hb dX11_who_163 ?_
                  obtain ⟨r_26, hc_27, hf⟩ := bd_i hf
                  refine r_cs0 (As := [.int r_22, .int (r_24 - r_22)]) (rest := []) X sm_X11_336 (c_X11_greater l G N r_22 (r_24 - r_22) hc_27) hP hD hS hA rfl hl.1 (lv_room (Nat.le_of_ble_eq_true rfl)) ⟨Nat.le_of_ble_eq_true rfl, Nat.le_of_ble_eq_true rfl⟩ ⟨Nat.zero_le _, Nat.zero_le _⟩ dX11_who_164 (fun H locs hP hD hS => ?_)
                  refine lv_istore (lv' := [(5, .int r_26), (4, .int r_22), (0, .ref (uY 0)), (1, .int x1_13), (2, .int v2_17), (3, .int v3_18)]) X.hx X.hb dX11_who_167 hl (by decide) rfl (fun ls hl => ?_)
                  refine lv_iload X.hx X.hb dX11_who_169 (lv_at hl 0 rfl) ?_
                  refine lv_iload_n X.hx X.hb dX11_who_171 rfl (lv_at hl 4 rfl) ?_
                  obtain ⟨K_28, eK_30, hf⟩ := jn_i hf
                  have hj_29 : ∀ (x2_31 : Int32) (iY_32 : Nat → Int32) (H : Heap) (locs : List Loc) (ls : Array Slot), K_28 (x2_31, iY_32) = some (r, iY') → va_P G.1 vwCl (gY G uY iY_32 sY tY jY) H → va_D A (gY G uY iY_32 sY tY jY) → va_S A s.heap H locs → lv_has ls 6 [(0, .ref (uY 0)), (1, .int x1_13), (2, .int x2_31), (3, .int v3_18)] → W p l e (RM 4) s m args below meth c H locs 0 0 QQ (F0 m 186 ls []) := by
                    intro x2_31 iY_32 H locs ls hf hP hD hS hl
                    rw [eK_30] at hf
                    try dsimp only at hf
                    refine lv_iinc (v := (v3_18 + 1)) (lv' := [(3, .int (v3_18 + 1)), (0, .ref (uY 0)), (1, .int x1_13), (2, .int x2_31)]) X.hx X.hb dX11_who_186 hl (k := 3) rfl rfl (by decide) rfl (fun ls hl => ?_)
                    refine lv_goto (tgt := 133) X.hx X.hb dX11_who_189 (by decide) ?_
                    exact ih _ _ _ _ _ _ hf hP hD hS (lv_sub hl [1, 2, 3, 0] rfl)
                  refine lv_icmp_lt (tgt := 178) X.hx X.hb dX11_who_172 (by decide) (fun hc_33 => ?_) (fun hc_33 => ?_)
                  · replace hf := if_t hf hc_33
                    refine lv_iload X.hx X.hb dX11_who_178 (lv_at hl 0 rfl) ?_
                    refine lv_istore_n (lv' := [(2, .int r_26), (5, .int r_26), (4, .int r_22), (0, .ref (uY 0)), (1, .int x1_13), (3, .int v3_18)]) X.hx X.hb dX11_who_180 rfl hl (by decide) rfl (fun ls hl => ?_)
                    refine lv_aload_n X.hx X.hb dX11_who_181 rfl (lv_at hl 3 rfl) ?_
                    refine lv_iload_n X.hx X.hb dX11_who_182 rfl (lv_at hl 5 rfl) ?_
                    refine pf_X11_355 X hP hD hS 0 rfl rfl rfl (Nat.le_of_ble_eq_true rfl) (wo := (gY G uY (va_up iY_16 27 v3_18) sY tY jY)) rfl dX11_who_183 (fun H locs hP hD hS => ?_)
                    exact hj_29 _ _ _ _ _ hf hP hD hS (lv_sub hl [3, 4, 0, 5] rfl)
                  · replace hf := if_f hf hc_33
                    refine lv_goto (tgt := 186) X.hx X.hb dX11_who_175 (by decide) ?_
                    exact hj_29 _ _ _ _ _ hf hP hD hS (lv_sub hl [2, 3, 4, 5] rfl)
            exact hlo_15 N _ _ _ _ _ _ hf hP hD hS (lv_sub hl [2, 3, 1, 0] rfl)
          · replace hf := if_t hf hc_14
            refine lv_iconst (v := 0) X.hx X.hb dX11_who_120 (by decide) ?_
            cases hf
            subst hQ
            exact r_iret X hP hD hS dX11_who_121
        have hlo_49 : ∀ (k : Nat) (v1_50 : Int32) (v2_51 : Int32) (H : Heap) (locs : List Loc) (ls : Array Slot), f_X11_who_82 N iY_1 sY tY jY K_10 k v1_50 v2_51 = some (r, iY') → va_P G.1 vwCl (gY G uY iY_1 sY tY jY) H → va_D A (gY G uY iY_1 sY tY jY) → va_S A s.heap H locs → lv_has ls 6 [(0, .ref (uY 0)), (1, .int v1_50), (2, .int v2_51)] → W p l e (RM 4) s m args below meth c H locs 0 0 QQ (F0 m 82 ls []) := by
          intro k
          induction k with
          | zero => intro v1_50 v2_51 H locs ls hf; exact absurd hf (by intro q; cases q)
          | succ k ih =>
            intro v1_50 v2_51 H locs ls hf hP hD hS hl
            unfold f_X11_who_82 at hf
            refine lv_iload_n X.hx X.hb dX11_who_82 rfl (lv_at hl 2 rfl) ?_
            refine lv_aload_n X.hx X.hb dX11_who_83 rfl (lv_at hl 0 rfl) ?_
            refine gf_X11_33 X hP 0 rfl (v := .ref (uY 7)) rfl dX11_who_84 ?_
            refine lv_iconst (v := 0) X.hx X.hb dX11_who_87 (by decide) ?_
            refine r_iald X hP 2 (f := (sY 6)) rfl (vp_c rfl) dX11_who_88 ?_
            refine W.eq (g2 := F0 m 89 ls [.int ((sY 6) 0), .int v2_51]) rfl ?_
            refine lv_icmp_ge (tgt := 116) X.hx X.hb dX11_who_89 (by decide) (fun hc_52 => ?_) (fun hc_52 => ?_)
            · replace hf := if_t hf hc_52
              exact hj_11 _ _ _ _ hf hP hD hS (lv_sub hl [0, 1] rfl)
            · replace hf := if_f hf hc_52
              refine lv_iload_n X.hx X.hb dX11_who_92 rfl (lv_at hl 1 rfl) ?_
              refine lv_aload_n X.hx X.hb dX11_who_93 rfl (lv_at hl 0 rfl) ?_
              refine lv_iload_n X.hx X.hb dX11_who_94 rfl (lv_at hl 2 rfl) ?_
              obtain ⟨r_53, hc_54, hf⟩ := bd_i hf
              refine r_cvi (As := [.int v2_51]) (rest := [.int v1_50]) X sm_X11_348 (c_X11_isMask l G N uY iY_1 sY tY jY v2_51 hc_54) hP hD hS hA 0 rfl rfl [0, 1, 2, 3, 4, 5, 6, 7, 8, 9, 10, 11, 12, 13, 14, 15, 16, 17, 18, 19, 20] rfl rfl rfl (wo := (gY G uY iY_1 sY tY jY)) rfl rfl hl.1 (lv_room (Nat.le_of_ble_eq_true rfl)) ⟨Nat.le_of_ble_eq_true rfl, Nat.le_of_ble_eq_true rfl⟩ ⟨Nat.zero_le _, Nat.zero_le _⟩ dX11_who_95 (fun H locs hP hD hS => ?_)
              obtain ⟨K_55, eK_57, hf⟩ := jn_i hf
              have hj_56 : ∀ (y_58 : Int32) (H : Heap) (locs : List Loc) (ls : Array Slot), K_55 y_58 = some (r, iY') → va_P G.1 vwCl (gY G uY iY_1 sY tY jY) H → va_D A (gY G uY iY_1 sY tY jY) → va_S A s.heap H locs → lv_has ls 6 [(0, .ref (uY 0)), (2, .int v2_51)] → W p l e (RM 4) s m args below meth c H locs 0 0 QQ (F0 m 108 ls [.int y_58, .int v1_50]) := by
                intro y_58 H locs ls hf hP hD hS hl
                rw [eK_57] at hf
                try dsimp only at hf
                refine lv_ior X.hx X.hb dX11_who_108 ?_
                refine lv_istore_n (lv' := [(1, .int (v1_50 ||| y_58)), (0, .ref (uY 0)), (2, .int v2_51)]) X.hx X.hb dX11_who_109 rfl hl (by decide) rfl (fun ls hl => ?_)
                refine lv_iinc (v := (v2_51 + 1)) (lv' := [(2, .int (v2_51 + 1)), (1, .int (v1_50 ||| y_58)), (0, .ref (uY 0))]) X.hx X.hb dX11_who_110 hl (k := 2) rfl rfl (by decide) rfl (fun ls hl => ?_)
                refine lv_goto (tgt := 82) X.hx X.hb dX11_who_113 (by decide) ?_
                exact ih _ _ _ _ _ hf hP hD hS (lv_sub hl [2, 1, 0] rfl)
              refine lv_if_eq (tgt := 107) X.hx X.hb dX11_who_98 (by decide) (fun hc_59 => ?_) (fun hc_59 => ?_)
              · replace hf := if_t hf hc_59
                refine lv_iconst (v := 0) X.hx X.hb dX11_who_107 (by decide) ?_
                exact hj_56 _ _ _ _ hf hP hD hS (lv_sub hl [0, 2] rfl)
              · replace hf := if_f hf hc_59
                refine lv_iconst (v := 1) X.hx X.hb dX11_who_101 (by decide) ?_
                refine lv_iload_n X.hx X.hb dX11_who_102 rfl (lv_at hl 2 rfl) ?_
                refine lv_ishl X.hx X.hb dX11_who_103 ?_
                refine lv_goto (tgt := 108) X.hx X.hb dX11_who_104 (by decide) ?_
                exact hj_56 _ _ _ _ hf hP hD hS (lv_sub hl [0, 2] rfl)
        exact hlo_49 N _ _ _ _ _ hf hP hD hS (lv_sub hl [2, 1, 0] rfl)
      have hlo_68 : ∀ (k : Nat) (v1_69 : Int32) (H : Heap) (locs : List Loc) (ls : Array Slot), f_X11_who_39 N iY_1 sY tY jY K_7 k v1_69 = some (r, iY') → va_P G.1 vwCl (gY G uY iY_1 sY tY jY) H → va_D A (gY G uY iY_1 sY tY jY) → va_S A s.heap H locs → lv_has ls 6 [(0, .ref (uY 0)), (1, .int v1_69)] → W p l e (RM 4) s m args below meth c H locs 0 0 QQ (F0 m 39 ls []) := by
        intro k
        induction k with
        | zero => intro v1_69 H locs ls hf; exact absurd hf (by intro q; cases q)
        | succ k ih =>
          intro v1_69 H locs ls hf hP hD hS hl
          unfold f_X11_who_39 at hf
          refine lv_iload_n X.hx X.hb dX11_who_39 rfl (lv_at hl 1 rfl) ?_
          refine lv_aload_n X.hx X.hb dX11_who_40 rfl (lv_at hl 0 rfl) ?_
          refine gf_X11_18 X hP 0 rfl (v := .int (iY_1 3)) rfl dX11_who_41 ?_
          refine lv_icmp_ge (tgt := 78) X.hx X.hb dX11_who_44 (by decide) (fun hc_70 => ?_) (fun hc_70 => ?_)
          · replace hf := if_t hf hc_70
            exact hj_8 _ _ _ hf hP hD hS (lv_sub hl [0] rfl)
          · replace hf := if_f hf hc_70
            refine lv_aload_n X.hx X.hb dX11_who_47 rfl (lv_at hl 0 rfl) ?_
            refine lv_aload_n X.hx X.hb dX11_who_48 rfl (lv_at hl 0 rfl) ?_
            refine lv_iload_n X.hx X.hb dX11_who_49 rfl (lv_at hl 1 rfl) ?_
            obtain ⟨r_71, hc_72, hf⟩ := bd_i hf
            refine r_cvi (As := [.int v1_69]) (rest := [.ref (uY 0)]) X sm_X11_345 (c_X11_octet l G N uY iY_1 sY tY jY v1_69 hc_72) hP hD hS hA 0 rfl rfl [0, 1, 2, 3, 4, 5, 6, 7, 8, 9, 10, 11, 12, 13, 14, 15, 16, 17, 18, 19, 20] rfl rfl rfl (wo := (gY G uY iY_1 sY tY jY)) rfl rfl hl.1 (lv_room (Nat.le_of_ble_eq_true rfl)) ⟨Nat.le_of_ble_eq_true rfl, Nat.le_of_ble_eq_true rfl⟩ ⟨Nat.zero_le _, Nat.zero_le _⟩ dX11_who_50 (fun H locs hP hD hS => ?_)
            obtain ⟨r_73, hc_74, hf⟩ := bd_i hf
            refine r_cvi (As := [.int r_71]) (rest := []) X sm_X11_272 (c_X11_isPerson l G N uY iY_1 sY tY jY r_71 hc_74) hP hD hS hA 0 rfl rfl [0, 1, 2, 3, 4, 5, 6, 7, 8, 9, 10, 11, 12, 13, 14, 15, 16, 17, 18, 19, 20] rfl rfl rfl (wo := (gY G uY iY_1 sY tY jY)) rfl rfl hl.1 (lv_room (Nat.le_of_ble_eq_true rfl)) ⟨Nat.le_of_ble_eq_true rfl, Nat.le_of_ble_eq_true rfl⟩ ⟨Nat.zero_le _, Nat.zero_le _⟩ dX11_who_53 (fun H locs hP hD hS => ?_)
            refine lv_if_eq (tgt := 70) X.hx X.hb dX11_who_56 (by decide) (fun hc_75 => ?_) (fun hc_75 => ?_)
            · replace hf := if_t hf hc_75
              refine lv_iconst (v := (-1)) X.hx X.hb dX11_who_70 (by decide) ?_
              cases hf
              subst hQ
              exact r_iret X hP hD hS dX11_who_71
            · replace hf := if_f hf hc_75
              refine lv_aload_n X.hx X.hb dX11_who_59 rfl (lv_at hl 0 rfl) ?_
              refine lv_iload_n X.hx X.hb dX11_who_60 rfl (lv_at hl 1 rfl) ?_
              refine lv_iconst (v := 1) X.hx X.hb dX11_who_61 (by decide) ?_
              refine lv_iadd X.hx X.hb dX11_who_62 ?_
              obtain ⟨r_76, hc_77, hf⟩ := bd_i hf
              refine r_cvi (As := [.int (v1_69 + 1)]) (rest := []) X sm_X11_345 (c_X11_octet l G N uY iY_1 sY tY jY (v1_69 + 1) hc_77) hP hD hS hA 0 rfl rfl [0, 1, 2, 3, 4, 5, 6, 7, 8, 9, 10, 11, 12, 13, 14, 15, 16, 17, 18, 19, 20] rfl rfl rfl (wo := (gY G uY iY_1 sY tY jY)) rfl rfl hl.1 (lv_room (Nat.le_of_ble_eq_true rfl)) ⟨Nat.le_of_ble_eq_true rfl, Nat.le_of_ble_eq_true rfl⟩ ⟨Nat.zero_le _, Nat.zero_le _⟩ dX11_who_63 (fun H locs hP hD hS => ?_)
              refine lv_iconst (v := 1) X.hx X.hb dX11_who_66 (by decide) ?_
              refine lv_icmp_le (tgt := 72) X.hx X.hb dX11_who_67 (by decide) (fun hc_78 => ?_) (fun hc_78 => ?_)
              · replace hf := if_t hf hc_78
                refine lv_iinc (v := (v1_69 + 2)) (lv' := [(1, .int (v1_69 + 2)), (0, .ref (uY 0))]) X.hx X.hb dX11_who_72 hl (k := 1) rfl rfl (by decide) rfl (fun ls hl => ?_)
                refine lv_goto (tgt := 39) X.hx X.hb dX11_who_75 (by decide) ?_
                exact ih _ _ _ _ hf hP hD hS (lv_sub hl [1, 0] rfl)
              · replace hf := if_f hf hc_78
                refine lv_iconst (v := (-1)) X.hx X.hb dX11_who_70 (by decide) ?_
                cases hf
                subst hQ
                exact r_iret X hP hD hS dX11_who_71
      exact hlo_68 N _ _ _ _ hf hP hD hS (lv_sub hl [1, 0] rfl)
    · replace hf := if_t hf hc_6
      refine lv_iconst (v := (-1)) X.hx X.hb dX11_who_35 (by decide) ?_
      cases hf
      subst hQ
      exact r_iret X hP hD hS dX11_who_36

def f_X11_ask (N : Nat) (iY : Nat → Int32) (sY : Nat → Nat → Int32) (tY : Nat → Nat → Int64) (jY : Nat → Int64) : Option (Int32 × (Nat → Int32)) :=
  (if (iY 28) = 0 then some ((-1), (va_up iY 0 0)) else some ((iY 27), (va_up iY 0 0)))
set_option maxHeartbeats 4000000 in
set_option maxRecDepth 100000 in
theorem c_X11_ask (l : Launch) (G : GT) (N : Nat) (uY : Nat → Nat) (iY : Nat → Int32) (sY : Nat → Nat → Int32) (tY : Nat → Nat → Int64) (jY : Nat → Int64) {r : Int32} {iY' : Nat → Int32} (hf : f_X11_ask N iY sY tY jY = some (r, iY')) : CI l G yX11_ask cX11_ask 1 .int 1 [.ref (uY 0)] (gY G uY iY sY tY jY) r (gY G uY iY' sY tY jY) := by
  refine CI.of (by decide) (Nat.le_of_ble_eq_true rfl) ?_
  intro p e s m args below meth c A X hA hP hD hS ls hl
  have hl : lv_has ls 1 [(0, .ref (uY 0))] := hl
  generalize hQ : MQ below (QI G A r (gY G uY iY' sY tY jY)) args s 0 0 A = QQ
  unfold f_X11_ask at hf
  refine lv_aload_n X.hx X.hb dX11_ask_0 rfl (lv_at hl 0 rfl) ?_
  refine lv_iconst (v := 0) X.hx X.hb dX11_ask_1 (by decide) ?_
  refine pf_X11_1 X hP hD hS 0 rfl rfl rfl (Nat.le_of_ble_eq_true rfl) (wo := (gY G uY (va_up iY 0 0) sY tY jY)) rfl dX11_ask_2 (fun H locs hP hD hS => ?_)
  refine lv_aload_n X.hx X.hb dX11_ask_5 rfl (lv_at hl 0 rfl) ?_
  refine gf_X11_351 X hP 0 rfl (v := .int (iY 28)) rfl dX11_ask_6 ?_
  refine lv_if_eq (tgt := 19) X.hx X.hb dX11_ask_9 (by decide) (fun hc_1 => ?_) (fun hc_1 => ?_)
  · replace hf := if_t hf hc_1
    refine lv_iconst (v := (-1)) X.hx X.hb dX11_ask_19 (by decide) ?_
    cases hf
    subst hQ
    exact r_iret X hP hD hS dX11_ask_20
  · replace hf := if_f hf hc_1
    refine lv_aload_n X.hx X.hb dX11_ask_12 rfl (lv_at hl 0 rfl) ?_
    refine gf_X11_355 X hP 0 rfl (v := .int (iY 27)) rfl dX11_ask_13 ?_
    refine lv_goto (tgt := 20) X.hx X.hb dX11_ask_16 (by decide) ?_
    cases hf
    subst hQ
    exact r_iret X hP hD hS dX11_ask_20

def f_X11_isServed_5 (N : Nat) (iY : Nat → Int32) (sY : Nat → Nat → Int32) (tY : Nat → Nat → Int64) (jY : Nat → Int64) (v1 : Int32) (v2 : Int32) : Nat → (Int32) → (Int32) → Option (Int32)
  | 0, _, _ => none
  | k + 1, v3, v4 => (if ((sY 6) 0) ≤ v4 then zb v3 (some v3) else jn (fun (z : (Int32)) => match z with | y_27 => f_X11_isServed_5 N iY sY tY jY v1 v2 k y_27 (v4 + 1)) (fun K_24 => jn (fun (z : Unit) => match z with | () => K_24 0) (fun K_28 => (if v3 = 0 then K_28 () else ck (((82 : Int32) + ((5 : Int32) * v4)) + v1) 457 (jn (fun (z : Unit) => match z with | () => K_24 1) (fun K_33 => (if ((sY 6) (ix (((82 : Int32) + ((5 : Int32) * v4)) + v1))) = 0 then K_33 () else bd (f_X11_mayBy N iY sY tY jY v4) (fun r_37 => (if (r_37 &&& v2) = 0 then K_28 () else K_33 ())))))))))
def f_X11_isServed (N : Nat) (iY : Nat → Int32) (sY : Nat → Nat → Int32) (tY : Nat → Nat → Int64) (jY : Nat → Int64) (p1 : Int32) (p2 : Int32) : Option (Int32) :=
  f_X11_isServed_5 N iY sY tY jY p1 p2 N 1 0
set_option maxHeartbeats 4000000 in
set_option maxRecDepth 100000 in
theorem c_X11_isServed (l : Launch) (G : GT) (N : Nat) (uY : Nat → Nat) (iY : Nat → Int32) (sY : Nat → Nat → Int32) (tY : Nat → Nat → Int64) (jY : Nat → Int64) (p1 : Int32) (p2 : Int32) {r : Int32} (hf : f_X11_isServed N iY sY tY jY p1 p2 = some r) : CI l G yX11_isServed cX11_isServed 5 .boolean 3 [.ref (uY 0), .int p1, .int p2] (gY G uY iY sY tY jY) r (gY G uY iY sY tY jY) := by
  refine CI.of (by decide) (Nat.le_of_ble_eq_true rfl) ?_
  intro p e s m args below meth c A X hA hP hD hS ls hl
  have hl : lv_has ls 5 [(0, .ref (uY 0)), (1, .int p1), (2, .int p2)] := hl
  generalize hQ : MQ below (QI G A r (gY G uY iY sY tY jY)) args s 0 0 A = QQ
  unfold f_X11_isServed at hf
  refine lv_iconst (v := 1) X.hx X.hb dX11_isServed_0 (by decide) ?_
  refine lv_istore_n (lv' := [(3, .int 1), (0, .ref (uY 0)), (1, .int p1), (2, .int p2)]) X.hx X.hb dX11_isServed_1 rfl hl (by decide) rfl (fun ls hl => ?_)
  refine lv_iconst (v := 0) X.hx X.hb dX11_isServed_2 (by decide) ?_
  refine lv_istore (lv' := [(4, .int 0), (3, .int 1), (0, .ref (uY 0)), (1, .int p1), (2, .int p2)]) X.hx X.hb dX11_isServed_3 hl (by decide) rfl (fun ls hl => ?_)
  have hlo_1 : ∀ (k : Nat) (v3_2 : Int32) (v4_3 : Int32) (H : Heap) (locs : List Loc) (ls : Array Slot), f_X11_isServed_5 N iY sY tY jY p1 p2 k v3_2 v4_3 = some r → va_P G.1 vwCl (gY G uY iY sY tY jY) H → va_D A (gY G uY iY sY tY jY) → va_S A s.heap H locs → lv_has ls 5 [(0, .ref (uY 0)), (1, .int p1), (2, .int p2), (3, .int v3_2), (4, .int v4_3)] → W p l e (RM 3) s m args below meth c H locs 0 0 QQ (F0 m 5 ls []) := by
    intro k
    induction k with
    | zero => intro v3_2 v4_3 H locs ls hf; exact absurd hf (by intro q; cases q)
    | succ k ih =>
      intro v3_2 v4_3 H locs ls hf hP hD hS hl
      unfold f_X11_isServed_5 at hf
      refine lv_iload X.hx X.hb dX11_isServed_5 (lv_at hl 4 rfl) ?_
      refine lv_aload_n X.hx X.hb dX11_isServed_7 rfl (lv_at hl 0 rfl) ?_
      refine gf_X11_33 X hP 0 rfl (v := .ref (uY 7)) rfl dX11_isServed_8 ?_
      refine lv_iconst (v := 0) X.hx X.hb dX11_isServed_11 (by decide) ?_
      refine r_iald X hP 2 (f := (sY 6)) rfl (vp_c rfl) dX11_isServed_12 ?_
      refine W.eq (g2 := F0 m 13 ls [.int ((sY 6) 0), .int v4_3]) rfl ?_
      refine lv_icmp_ge (tgt := 60) X.hx X.hb dX11_isServed_13 (by decide) (fun hc_4 => ?_) (fun hc_4 => ?_)
      · replace hf := if_t hf hc_4
        refine lv_iload_n X.hx X.hb dX11_isServed_60 rfl (lv_at hl 3 rfl) ?_
        obtain ⟨hb_5, hf⟩ := zb_i hf
        cases hf
        subst hQ
        exact r_zret X hP hD hS hb_5 dX11_isServed_61
      · replace hf := if_f hf hc_4
        refine lv_iload_n X.hx X.hb dX11_isServed_16 rfl (lv_at hl 3 rfl) ?_
        obtain ⟨K_6, eK_8, hf⟩ := jn_i hf
        have hj_7 : ∀ (y_9 : Int32) (H : Heap) (locs : List Loc) (ls : Array Slot), K_6 y_9 = some r → va_P G.1 vwCl (gY G uY iY sY tY jY) H → va_D A (gY G uY iY sY tY jY) → va_S A s.heap H locs → lv_has ls 5 [(0, .ref (uY 0)), (1, .int p1), (2, .int p2), (4, .int v4_3)] → W p l e (RM 3) s m args below meth c H locs 0 0 QQ (F0 m 53 ls [.int y_9]) := by
          intro y_9 H locs ls hf hP hD hS hl
          rw [eK_8] at hf
          try dsimp only at hf
          refine lv_istore_n (lv' := [(3, .int y_9), (0, .ref (uY 0)), (1, .int p1), (2, .int p2), (4, .int v4_3)]) X.hx X.hb dX11_isServed_53 rfl hl (by decide) rfl (fun ls hl => ?_)
          refine lv_iinc (v := (v4_3 + 1)) (lv' := [(4, .int (v4_3 + 1)), (3, .int y_9), (0, .ref (uY 0)), (1, .int p1), (2, .int p2)]) X.hx X.hb dX11_isServed_54 hl (k := 4) rfl rfl (by decide) rfl (fun ls hl => ?_)
          refine lv_goto (tgt := 5) X.hx X.hb dX11_isServed_57 (by decide) ?_
          exact ih _ _ _ _ _ hf hP hD hS (lv_sub hl [2, 3, 4, 1, 0] rfl)
        obtain ⟨K_10, eK_12, hf⟩ := jn_i hf
        have hj_11 : ∀ (H : Heap) (locs : List Loc) (ls : Array Slot), K_10 () = some r → va_P G.1 vwCl (gY G uY iY sY tY jY) H → va_D A (gY G uY iY sY tY jY) → va_S A s.heap H locs → lv_has ls 5 [(0, .ref (uY 0)), (1, .int p1), (2, .int p2), (4, .int v4_3)] → W p l e (RM 3) s m args below meth c H locs 0 0 QQ (F0 m 52 ls []) := by
          intro  H locs ls hf hP hD hS hl
          rw [eK_12] at hf
          try dsimp only at hf
          refine lv_iconst (v := 0) X.hx X.hb dX11_isServed_52 (by decide) ?_
          exact hj_7 _ _ _ _ hf hP hD hS (lv_sub hl [0, 1, 2, 3] rfl)
        refine lv_if_eq (tgt := 52) X.hx X.hb dX11_isServed_17 (by decide) (fun hc_13 => ?_) (fun hc_13 => ?_)
        · replace hf := if_t hf hc_13
          exact hj_11 _ _ _ hf hP hD hS (lv_sub hl [0, 1, 2, 4] rfl)
        · replace hf := if_f hf hc_13
          refine lv_aload_n X.hx X.hb dX11_isServed_20 rfl (lv_at hl 0 rfl) ?_
          refine gf_X11_33 X hP 0 rfl (v := .ref (uY 7)) rfl dX11_isServed_21 ?_
          refine lv_bipush (v := 82) X.hx X.hb dX11_isServed_24 (by decide) ?_
          refine lv_iconst (v := 5) X.hx X.hb dX11_isServed_26 (by decide) ?_
          refine lv_iload X.hx X.hb dX11_isServed_27 (lv_at hl 4 rfl) ?_
          refine lv_imul X.hx X.hb dX11_isServed_29 ?_
          refine lv_iadd X.hx X.hb dX11_isServed_30 ?_
          refine lv_iload_n X.hx X.hb dX11_isServed_31 rfl (lv_at hl 1 rfl) ?_
          refine lv_iadd X.hx X.hb dX11_isServed_32 ?_
          obtain ⟨hi_14, hf⟩ := ck_i hf
          refine r_iald X hP 2 (f := (sY 6)) rfl hi_14 dX11_isServed_33 ?_
          obtain ⟨K_15, eK_17, hf⟩ := jn_i hf
          have hj_16 : ∀ (H : Heap) (locs : List Loc) (ls : Array Slot), K_15 () = some r → va_P G.1 vwCl (gY G uY iY sY tY jY) H → va_D A (gY G uY iY sY tY jY) → va_S A s.heap H locs → lv_has ls 5 [(0, .ref (uY 0)), (1, .int p1), (2, .int p2), (4, .int v4_3)] → W p l e (RM 3) s m args below meth c H locs 0 0 QQ (F0 m 48 ls []) := by
            intro  H locs ls hf hP hD hS hl
            rw [eK_17] at hf
            try dsimp only at hf
            refine lv_iconst (v := 1) X.hx X.hb dX11_isServed_48 (by decide) ?_
            refine lv_goto (tgt := 53) X.hx X.hb dX11_isServed_49 (by decide) ?_
            exact hj_7 _ _ _ _ hf hP hD hS (lv_sub hl [0, 1, 2, 3] rfl)
          refine lv_if_eq (tgt := 48) X.hx X.hb dX11_isServed_34 (by decide) (fun hc_18 => ?_) (fun hc_18 => ?_)
          · replace hf := if_t hf hc_18
            exact hj_16 _ _ _ hf hP hD hS (lv_sub hl [0, 1, 2, 4] rfl)
          · replace hf := if_f hf hc_18
            refine lv_aload_n X.hx X.hb dX11_isServed_37 rfl (lv_at hl 0 rfl) ?_
            refine lv_iload X.hx X.hb dX11_isServed_38 (lv_at hl 4 rfl) ?_
            obtain ⟨r_19, hc_20, hf⟩ := bd_i hf
            refine r_cvi (As := [.int v4_3]) (rest := []) X sm_X11_278 (c_X11_mayBy l G N uY iY sY tY jY v4_3 hc_20) hP hD hS hA 0 rfl rfl [0, 1, 2, 3, 4, 5, 6, 7, 8, 9, 10, 11, 12, 13, 14, 15, 16, 17, 18, 19, 20] rfl rfl rfl (wo := (gY G uY iY sY tY jY)) rfl rfl hl.1 (lv_room (Nat.le_of_ble_eq_true rfl)) ⟨Nat.le_of_ble_eq_true rfl, Nat.le_of_ble_eq_true rfl⟩ ⟨Nat.zero_le _, Nat.zero_le _⟩ dX11_isServed_40 (fun H locs hP hD hS => ?_)
            refine lv_iload_n X.hx X.hb dX11_isServed_43 rfl (lv_at hl 2 rfl) ?_
            refine lv_iand X.hx X.hb dX11_isServed_44 ?_
            refine lv_if_eq (tgt := 52) X.hx X.hb dX11_isServed_45 (by decide) (fun hc_21 => ?_) (fun hc_21 => ?_)
            · replace hf := if_t hf hc_21
              exact hj_11 _ _ _ hf hP hD hS (lv_sub hl [0, 1, 2, 4] rfl)
            · replace hf := if_f hf hc_21
              exact hj_16 _ _ _ hf hP hD hS (lv_sub hl [0, 1, 2, 4] rfl)
  exact hlo_1 N _ _ _ _ _ hf hP hD hS (lv_sub hl [2, 3, 4, 1, 0] rfl)

def f_X11_serve_66 (N : Nat) (iY : Nat → Int32) (sY : Nat → Nat → Int32) (tY : Nat → Nat → Int64) (jY : Nat → Int64) (v1 : Int32) (v2 : Int32) (K_8 : ((Int32)) → Option (Int32 × (Nat → Int32))) : Nat → (Int32) → (Int32) → Option (Int32 × (Nat → Int32))
  | 0, _, _ => none
  | k + 1, v3, v4 => (if v2 < v4 then K_8 v3 else jn (fun (z : (Int32)) => match z with | x3_40 => f_X11_serve_66 N iY sY tY jY v1 v2 K_8 k x3_40 (v4 + 1)) (fun K_37 => (if (v4 &&& (v2 ^^^ (-1))) = 0 then jn (fun (z : Unit) => match z with | () => bd (f_X11_isServed N iY sY tY jY v1 v4) (fun r_45 => (if r_45 = 0 then K_37 v3 else K_37 v4))) (fun K_42 => (if v3 < 0 then K_42 () else bd (f_X11_bits N v4) (fun r_49 => bd (f_X11_bits N v3) (fun r_51 => (if r_51 ≤ r_49 then K_37 v3 else K_42 ()))))) else K_37 v3)))
def f_X11_serve_19 (N : Nat) (iY : Nat → Int32) (sY : Nat → Nat → Int32) (tY : Nat → Nat → Int64) (jY : Nat → Int64) (v1 : Int32) (K_4 : ((Int32)) → Option (Int32 × (Nat → Int32))) : Nat → (Int32) → (Int32) → Option (Int32 × (Nat → Int32))
  | 0, _, _ => none
  | k + 1, v2, v3 => (if ((sY 6) 0) ≤ v3 then K_4 v2 else ck (((47 : Int32) + ((5 : Int32) * v3)) + v1) 457 (jn (fun (z : (Int32)) => match z with | y_69 => f_X11_serve_19 N iY sY tY jY v1 K_4 k (v2 ||| y_69) (v3 + 1)) (fun K_66 => (if ((sY 6) (ix (((47 : Int32) + ((5 : Int32) * v3)) + v1))) ≤ 0 then K_66 0 else K_66 ((1 : Int32) <<< (v3 &&& 31))))))
def f_X11_serve (N : Nat) (iY : Nat → Int32) (sY : Nat → Nat → Int32) (tY : Nat → Nat → Int64) (jY : Nat → Int64) (p1 : Int32) : Option (Int32 × (Nat → Int32)) :=
  bd (f_X11_isGood N (va_up iY 0 0) sY tY jY p1) (fun r_1 => (if r_1 = 0 then some ((-1), (va_up iY 0 0)) else jn (fun (z : (Int32)) => match z with | x2_7 => jn (fun (z : (Int32)) => match z with | x3_11 => (if (0 : Int32) ≤ x3_11 then bd (f_X11_bits N x3_11) (fun r_13 => some (r_13, (va_up (va_up (va_up iY 0 0) 30 1) 29 x3_11))) else some ((-1), (va_up iY 0 0)))) (fun K_8 => f_X11_serve_66 N (va_up iY 0 0) sY tY jY p1 x2_7 K_8 N (-1) 0)) (fun K_4 => f_X11_serve_19 N (va_up iY 0 0) sY tY jY p1 K_4 N 0 0)))
set_option maxHeartbeats 4000000 in
set_option maxRecDepth 100000 in
theorem c_X11_serve (l : Launch) (G : GT) (N : Nat) (uY : Nat → Nat) (iY : Nat → Int32) (sY : Nat → Nat → Int32) (tY : Nat → Nat → Int64) (jY : Nat → Int64) (p1 : Int32) {r : Int32} {iY' : Nat → Int32} (hf : f_X11_serve N iY sY tY jY p1 = some (r, iY')) : CI l G yX11_serve cX11_serve 5 .int 4 [.ref (uY 0), .int p1] (gY G uY iY sY tY jY) r (gY G uY iY' sY tY jY) := by
  refine CI.of (by decide) (Nat.le_of_ble_eq_true rfl) ?_
  intro p e s m args below meth c A X hA hP hD hS ls hl
  have hl : lv_has ls 5 [(0, .ref (uY 0)), (1, .int p1)] := hl
  generalize hQ : MQ below (QI G A r (gY G uY iY' sY tY jY)) args s 0 0 A = QQ
  unfold f_X11_serve at hf
  refine lv_aload_n X.hx X.hb dX11_serve_0 rfl (lv_at hl 0 rfl) ?_
  refine lv_iconst (v := 0) X.hx X.hb dX11_serve_1 (by decide) ?_
  refine pf_X11_1 X hP hD hS 0 rfl rfl rfl (Nat.le_of_ble_eq_true rfl) (wo := (gY G uY (va_up iY 0 0) sY tY jY)) rfl dX11_serve_2 (fun H locs hP hD hS => ?_)
  refine lv_aload_n X.hx X.hb dX11_serve_5 rfl (lv_at hl 0 rfl) ?_
  refine lv_iload_n X.hx X.hb dX11_serve_6 rfl (lv_at hl 1 rfl) ?_
  obtain ⟨r_1, hc_2, hf⟩ := bd_i hf
  refine r_cvi (As := [.int p1]) (rest := []) X sm_X11_281 (c_X11_isGood l G N uY (va_up iY 0 0) sY tY jY p1 hc_2) hP hD hS hA 0 rfl rfl [0, 1, 2, 3, 4, 5, 6, 7, 8, 9, 10, 11, 12, 13, 14, 15, 16, 17, 18, 19, 20] rfl rfl rfl (wo := (gY G uY (va_up iY 0 0) sY tY jY)) rfl rfl hl.1 (lv_room (Nat.le_of_ble_eq_true rfl)) ⟨Nat.le_of_ble_eq_true rfl, Nat.le_of_ble_eq_true rfl⟩ ⟨Nat.zero_le _, Nat.zero_le _⟩ dX11_serve_7 (fun H locs hP hD hS => ?_)
  refine lv_if_ne (tgt := 15) X.hx X.hb dX11_serve_10 (by decide) (fun hc_3 => ?_) (fun hc_3 => ?_)
  · replace hf := if_f hf hc_3
    refine lv_iconst (v := 0) X.hx X.hb dX11_serve_15 (by decide) ?_
    refine lv_istore_n (lv' := [(2, .int 0), (0, .ref (uY 0)), (1, .int p1)]) X.hx X.hb dX11_serve_16 rfl hl (by decide) rfl (fun ls hl => ?_)
    refine lv_iconst (v := 0) X.hx X.hb dX11_serve_17 (by decide) ?_
    refine lv_istore_n (lv' := [(3, .int 0), (2, .int 0), (0, .ref (uY 0)), (1, .int p1)]) X.hx X.hb dX11_serve_18 rfl hl (by decide) rfl (fun ls hl => ?_)
    obtain ⟨K_4, eK_6, hf⟩ := jn_i hf
    have hj_5 : ∀ (x2_7 : Int32) (H : Heap) (locs : List Loc) (ls : Array Slot), K_4 x2_7 = some (r, iY') → va_P G.1 vwCl (gY G uY (va_up iY 0 0) sY tY jY) H → va_D A (gY G uY (va_up iY 0 0) sY tY jY) → va_S A s.heap H locs → lv_has ls 5 [(0, .ref (uY 0)), (1, .int p1), (2, .int x2_7)] → W p l e (RM 4) s m args below meth c H locs 0 0 QQ (F0 m 61 ls []) := by
      intro x2_7 H locs ls hf hP hD hS hl
      rw [eK_6] at hf
      try dsimp only at hf
      refine lv_iconst (v := (-1)) X.hx X.hb dX11_serve_61 (by decide) ?_
      refine lv_istore_n (lv' := [(3, .int (-1)), (0, .ref (uY 0)), (1, .int p1), (2, .int x2_7)]) X.hx X.hb dX11_serve_62 rfl hl (by decide) rfl (fun ls hl => ?_)
      refine lv_iconst (v := 0) X.hx X.hb dX11_serve_63 (by decide) ?_
      refine lv_istore (lv' := [(4, .int 0), (3, .int (-1)), (0, .ref (uY 0)), (1, .int p1), (2, .int x2_7)]) X.hx X.hb dX11_serve_64 hl (by decide) rfl (fun ls hl => ?_)
      obtain ⟨K_8, eK_10, hf⟩ := jn_i hf
      have hj_9 : ∀ (x3_11 : Int32) (H : Heap) (locs : List Loc) (ls : Array Slot), K_8 x3_11 = some (r, iY') → va_P G.1 vwCl (gY G uY (va_up iY 0 0) sY tY jY) H → va_D A (gY G uY (va_up iY 0 0) sY tY jY) → va_S A s.heap H locs → lv_has ls 5 [(0, .ref (uY 0)), (3, .int x3_11)] → W p l e (RM 4) s m args below meth c H locs 0 0 QQ (F0 m 116 ls []) := by
        intro x3_11 H locs ls hf hP hD hS hl
        rw [eK_10] at hf
        try dsimp only at hf
        refine lv_iload_n X.hx X.hb dX11_serve_116 rfl (lv_at hl 1 rfl) ?_
        refine lv_if_ge (tgt := 122) X.hx X.hb dX11_serve_117 (by decide) (fun hc_12 => ?_) (fun hc_12 => ?_)
        · replace hf := if_t hf hc_12
          refine lv_aload_n X.hx X.hb dX11_serve_122 rfl (lv_at hl 0 rfl) ?_
          refine lv_iconst (v := 1) X.hx X.hb dX11_serve_123 (by decide) ?_
          refine pf_X11_361 X hP hD hS 0 rfl (by decide) (by decide) (Nat.le_of_ble_eq_true rfl) (wo := (gY G uY (va_up (va_up iY 0 0) 30 1) sY tY jY)) rfl dX11_serve_124 (fun H locs hP hD hS => ?_)
          refine lv_aload_n X.hx X.hb dX11_serve_127 rfl (lv_at hl 0 rfl) ?_
          refine lv_iload_n X.hx X.hb dX11_serve_128 rfl (lv_at hl 1 rfl) ?_
          refine pf_X11_364 X hP hD hS 0 rfl rfl rfl (Nat.le_of_ble_eq_true rfl) (wo := (gY G uY (va_up (va_up (va_up iY 0 0) 30 1) 29 x3_11) sY tY jY)) rfl dX11_serve_129 (fun H locs hP hD hS => ?_)
          refine lv_iload_n X.hx X.hb dX11_serve_132 rfl (lv_at hl 1 rfl) ?_
          obtain ⟨r_13, hc_14, hf⟩ := bd_i hf
          refine r_cs0 (As := [.int x3_11]) (rest := []) X sm_X11_284 (c_X11_bits l G N x3_11 hc_14) hP hD hS hA rfl hl.1 (lv_room (Nat.le_of_ble_eq_true rfl)) ⟨Nat.le_of_ble_eq_true rfl, Nat.le_of_ble_eq_true rfl⟩ ⟨Nat.zero_le _, Nat.zero_le _⟩ dX11_serve_133 (fun H locs hP hD hS => ?_)
          cases hf
          subst hQ
          exact r_iret X hP hD hS dX11_serve_136
        · replace hf := if_f hf hc_12
          refine lv_iconst (v := (-1)) X.hx X.hb dX11_serve_120 (by decide) ?_
          cases hf
          subst hQ
          exact r_iret X hP hD hS dX11_serve_121
      have hlo_15 : ∀ (k : Nat) (v3_16 : Int32) (v4_17 : Int32) (H : Heap) (locs : List Loc) (ls : Array Slot), f_X11_serve_66 N (va_up iY 0 0) sY tY jY p1 x2_7 K_8 k v3_16 v4_17 = some (r, iY') → va_P G.1 vwCl (gY G uY (va_up iY 0 0) sY tY jY) H → va_D A (gY G uY (va_up iY 0 0) sY tY jY) → va_S A s.heap H locs → lv_has ls 5 [(0, .ref (uY 0)), (1, .int p1), (2, .int x2_7), (3, .int v3_16), (4, .int v4_17)] → W p l e (RM 4) s m args below meth c H locs 0 0 QQ (F0 m 66 ls []) := by
        intro k
        induction k with
        | zero => intro v3_16 v4_17 H locs ls hf; exact absurd hf (by intro q; cases q)
        | succ k ih =>
          intro v3_16 v4_17 H locs ls hf hP hD hS hl
          unfold f_X11_serve_66 at hf
          refine lv_iload X.hx X.hb dX11_serve_66 (lv_at hl 4 rfl) ?_
          refine lv_iload_n X.hx X.hb dX11_serve_68 rfl (lv_at hl 2 rfl) ?_
          refine lv_icmp_gt (tgt := 116) X.hx X.hb dX11_serve_69 (by decide) (fun hc_18 => ?_) (fun hc_18 => ?_)
          · replace hf := if_t hf hc_18
            exact hj_9 _ _ _ _ hf hP hD hS (lv_sub hl [0, 3] rfl)
          · replace hf := if_f hf hc_18
            refine lv_iload X.hx X.hb dX11_serve_72 (lv_at hl 4 rfl) ?_
            refine lv_iload_n X.hx X.hb dX11_serve_74 rfl (lv_at hl 2 rfl) ?_
            refine lv_iconst (v := (-1)) X.hx X.hb dX11_serve_75 (by decide) ?_
            refine lv_ixor X.hx X.hb dX11_serve_76 ?_
            refine lv_iand X.hx X.hb dX11_serve_77 ?_
            obtain ⟨K_19, eK_21, hf⟩ := jn_i hf
            have hj_20 : ∀ (x3_22 : Int32) (H : Heap) (locs : List Loc) (ls : Array Slot), K_19 x3_22 = some (r, iY') → va_P G.1 vwCl (gY G uY (va_up iY 0 0) sY tY jY) H → va_D A (gY G uY (va_up iY 0 0) sY tY jY) → va_S A s.heap H locs → lv_has ls 5 [(0, .ref (uY 0)), (1, .int p1), (2, .int x2_7), (3, .int x3_22), (4, .int v4_17)] → W p l e (RM 4) s m args below meth c H locs 0 0 QQ (F0 m 110 ls []) := by
              intro x3_22 H locs ls hf hP hD hS hl
              rw [eK_21] at hf
              try dsimp only at hf
              refine lv_iinc (v := (v4_17 + 1)) (lv' := [(4, .int (v4_17 + 1)), (0, .ref (uY 0)), (1, .int p1), (2, .int x2_7), (3, .int x3_22)]) X.hx X.hb dX11_serve_110 hl (k := 4) rfl rfl (by decide) rfl (fun ls hl => ?_)
              refine lv_goto (tgt := 66) X.hx X.hb dX11_serve_113 (by decide) ?_
              exact ih _ _ _ _ _ hf hP hD hS (lv_sub hl [1, 2, 3, 4, 0] rfl)
            refine lv_if_ne (tgt := 110) X.hx X.hb dX11_serve_78 (by decide) (fun hc_23 => ?_) (fun hc_23 => ?_)
            · replace hf := if_f hf hc_23
              exact hj_20 _ _ _ _ hf hP hD hS (lv_sub hl [0, 1, 2, 3, 4] rfl)
            · replace hf := if_t hf hc_23
              refine lv_iload_n X.hx X.hb dX11_serve_81 rfl (lv_at hl 3 rfl) ?_
              obtain ⟨K_24, eK_26, hf⟩ := jn_i hf
              have hj_25 : ∀ (H : Heap) (locs : List Loc) (ls : Array Slot), K_24 () = some (r, iY') → va_P G.1 vwCl (gY G uY (va_up iY 0 0) sY tY jY) H → va_D A (gY G uY (va_up iY 0 0) sY tY jY) → va_S A s.heap H locs → lv_has ls 5 [(0, .ref (uY 0)), (1, .int p1), (2, .int x2_7), (3, .int v3_16), (4, .int v4_17)] → W p l e (RM 4) s m args below meth c H locs 0 0 QQ (F0 m 97 ls []) := by
                intro  H locs ls hf hP hD hS hl
                rw [eK_26] at hf
                try dsimp only at hf
                refine lv_aload_n X.hx X.hb dX11_serve_97 rfl (lv_at hl 0 rfl) ?_
                refine lv_iload_n X.hx X.hb dX11_serve_98 rfl (lv_at hl 1 rfl) ?_
                refine lv_iload X.hx X.hb dX11_serve_99 (lv_at hl 4 rfl) ?_
                obtain ⟨r_27, hc_28, hf⟩ := bd_i hf
                refine r_cvi (As := [.int p1, .int v4_17]) (rest := []) X sm_X11_358 (c_X11_isServed l G N uY (va_up iY 0 0) sY tY jY p1 v4_17 hc_28) hP hD hS hA 0 rfl rfl [0, 1, 2, 3, 4, 5, 6, 7, 8, 9, 10, 11, 12, 13, 14, 15, 16, 17, 18, 19, 20] rfl rfl rfl (wo := (gY G uY (va_up iY 0 0) sY tY jY)) rfl rfl hl.1 (lv_room (Nat.le_of_ble_eq_true rfl)) ⟨Nat.le_of_ble_eq_true rfl, Nat.le_of_ble_eq_true rfl⟩ ⟨Nat.zero_le _, Nat.zero_le _⟩ dX11_serve_101 (fun H locs hP hD hS => ?_)
                refine lv_if_eq (tgt := 110) X.hx X.hb dX11_serve_104 (by decide) (fun hc_29 => ?_) (fun hc_29 => ?_)
                · replace hf := if_t hf hc_29
                  exact hj_20 _ _ _ _ hf hP hD hS (lv_sub hl [0, 1, 2, 3, 4] rfl)
                · replace hf := if_f hf hc_29
                  refine lv_iload X.hx X.hb dX11_serve_107 (lv_at hl 4 rfl) ?_
                  refine lv_istore_n (lv' := [(3, .int v4_17), (0, .ref (uY 0)), (1, .int p1), (2, .int x2_7), (4, .int v4_17)]) X.hx X.hb dX11_serve_109 rfl hl (by decide) rfl (fun ls hl => ?_)
                  exact hj_20 _ _ _ _ hf hP hD hS (lv_sub hl [1, 2, 3, 0, 4] rfl)
              refine lv_if_lt (tgt := 97) X.hx X.hb dX11_serve_82 (by decide) (fun hc_30 => ?_) (fun hc_30 => ?_)
              · replace hf := if_t hf hc_30
                exact hj_25 _ _ _ hf hP hD hS (lv_sub hl [0, 1, 2, 3, 4] rfl)
              · replace hf := if_f hf hc_30
                refine lv_iload X.hx X.hb dX11_serve_85 (lv_at hl 4 rfl) ?_
                obtain ⟨r_31, hc_32, hf⟩ := bd_i hf
                refine r_cs0 (As := [.int v4_17]) (rest := []) X sm_X11_284 (c_X11_bits l G N v4_17 hc_32) hP hD hS hA rfl hl.1 (lv_room (Nat.le_of_ble_eq_true rfl)) ⟨Nat.le_of_ble_eq_true rfl, Nat.le_of_ble_eq_true rfl⟩ ⟨Nat.zero_le _, Nat.zero_le _⟩ dX11_serve_87 (fun H locs hP hD hS => ?_)
                refine lv_iload_n X.hx X.hb dX11_serve_90 rfl (lv_at hl 3 rfl) ?_
                obtain ⟨r_33, hc_34, hf⟩ := bd_i hf
                refine r_cs0 (As := [.int v3_16]) (rest := [.int r_31]) X sm_X11_284 (c_X11_bits l G N v3_16 hc_34) hP hD hS hA rfl hl.1 (lv_room (Nat.le_of_ble_eq_true rfl)) ⟨Nat.le_of_ble_eq_true rfl, Nat.le_of_ble_eq_true rfl⟩ ⟨Nat.zero_le _, Nat.zero_le _⟩ dX11_serve_91 (fun H locs hP hD hS => ?_)
                refine lv_icmp_ge (tgt := 110) X.hx X.hb dX11_serve_94 (by decide) (fun hc_35 => ?_) (fun hc_35 => ?_)
                · replace hf := if_t hf hc_35
                  exact hj_20 _ _ _ _ hf hP hD hS (lv_sub hl [0, 1, 2, 3, 4] rfl)
                · replace hf := if_f hf hc_35
                  exact hj_25 _ _ _ hf hP hD hS (lv_sub hl [0, 1, 2, 3, 4] rfl)
      exact hlo_15 N _ _ _ _ _ hf hP hD hS (lv_sub hl [2, 3, 4, 1, 0] rfl)
    have hlo_54 : ∀ (k : Nat) (v2_55 : Int32) (v3_56 : Int32) (H : Heap) (locs : List Loc) (ls : Array Slot), f_X11_serve_19 N (va_up iY 0 0) sY tY jY p1 K_4 k v2_55 v3_56 = some (r, iY') → va_P G.1 vwCl (gY G uY (va_up iY 0 0) sY tY jY) H → va_D A (gY G uY (va_up iY 0 0) sY tY jY) → va_S A s.heap H locs → lv_has ls 5 [(0, .ref (uY 0)), (1, .int p1), (2, .int v2_55), (3, .int v3_56)] → W p l e (RM 4) s m args below meth c H locs 0 0 QQ (F0 m 19 ls []) := by
      intro k
      induction k with
      | zero => intro v2_55 v3_56 H locs ls hf; exact absurd hf (by intro q; cases q)
      | succ k ih =>
        intro v2_55 v3_56 H locs ls hf hP hD hS hl
        unfold f_X11_serve_19 at hf
        refine lv_iload_n X.hx X.hb dX11_serve_19 rfl (lv_at hl 3 rfl) ?_
        refine lv_aload_n X.hx X.hb dX11_serve_20 rfl (lv_at hl 0 rfl) ?_
        refine gf_X11_33 X hP 0 rfl (v := .ref (uY 7)) rfl dX11_serve_21 ?_
        refine lv_iconst (v := 0) X.hx X.hb dX11_serve_24 (by decide) ?_
        refine r_iald X hP 2 (f := (sY 6)) rfl (vp_c rfl) dX11_serve_25 ?_
        refine W.eq (g2 := F0 m 26 ls [.int ((sY 6) 0), .int v3_56]) rfl ?_
        refine lv_icmp_ge (tgt := 61) X.hx X.hb dX11_serve_26 (by decide) (fun hc_57 => ?_) (fun hc_57 => ?_)
        · replace hf := if_t hf hc_57
          exact hj_5 _ _ _ _ hf hP hD hS (lv_sub hl [0, 1, 2] rfl)
        · replace hf := if_f hf hc_57
          refine lv_iload_n X.hx X.hb dX11_serve_29 rfl (lv_at hl 2 rfl) ?_
          refine lv_aload_n X.hx X.hb dX11_serve_30 rfl (lv_at hl 0 rfl) ?_
          refine gf_X11_33 X hP 0 rfl (v := .ref (uY 7)) rfl dX11_serve_31 ?_
          refine lv_bipush (v := 47) X.hx X.hb dX11_serve_34 (by decide) ?_
          refine lv_iconst (v := 5) X.hx X.hb dX11_serve_36 (by decide) ?_
          refine lv_iload_n X.hx X.hb dX11_serve_37 rfl (lv_at hl 3 rfl) ?_
          refine lv_imul X.hx X.hb dX11_serve_38 ?_
          refine lv_iadd X.hx X.hb dX11_serve_39 ?_
          refine lv_iload_n X.hx X.hb dX11_serve_40 rfl (lv_at hl 1 rfl) ?_
          refine lv_iadd X.hx X.hb dX11_serve_41 ?_
          obtain ⟨hi_58, hf⟩ := ck_i hf
          refine r_iald X hP 2 (f := (sY 6)) rfl hi_58 dX11_serve_42 ?_
          obtain ⟨K_59, eK_61, hf⟩ := jn_i hf
          have hj_60 : ∀ (y_62 : Int32) (H : Heap) (locs : List Loc) (ls : Array Slot), K_59 y_62 = some (r, iY') → va_P G.1 vwCl (gY G uY (va_up iY 0 0) sY tY jY) H → va_D A (gY G uY (va_up iY 0 0) sY tY jY) → va_S A s.heap H locs → lv_has ls 5 [(0, .ref (uY 0)), (1, .int p1), (3, .int v3_56)] → W p l e (RM 4) s m args below meth c H locs 0 0 QQ (F0 m 53 ls [.int y_62, .int v2_55]) := by
            intro y_62 H locs ls hf hP hD hS hl
            rw [eK_61] at hf
            try dsimp only at hf
            refine lv_ior X.hx X.hb dX11_serve_53 ?_
            refine lv_istore_n (lv' := [(2, .int (v2_55 ||| y_62)), (0, .ref (uY 0)), (1, .int p1), (3, .int v3_56)]) X.hx X.hb dX11_serve_54 rfl hl (by decide) rfl (fun ls hl => ?_)
            refine lv_iinc (v := (v3_56 + 1)) (lv' := [(3, .int (v3_56 + 1)), (2, .int (v2_55 ||| y_62)), (0, .ref (uY 0)), (1, .int p1)]) X.hx X.hb dX11_serve_55 hl (k := 3) rfl rfl (by decide) rfl (fun ls hl => ?_)
            refine lv_goto (tgt := 19) X.hx X.hb dX11_serve_58 (by decide) ?_
            exact ih _ _ _ _ _ hf hP hD hS (lv_sub hl [2, 3, 1, 0] rfl)
          refine lv_if_le (tgt := 52) X.hx X.hb dX11_serve_43 (by decide) (fun hc_63 => ?_) (fun hc_63 => ?_)
          · replace hf := if_t hf hc_63
            refine lv_iconst (v := 0) X.hx X.hb dX11_serve_52 (by decide) ?_
            exact hj_60 _ _ _ _ hf hP hD hS (lv_sub hl [0, 1, 3] rfl)
          · replace hf := if_f hf hc_63
            refine lv_iconst (v := 1) X.hx X.hb dX11_serve_46 (by decide) ?_
            refine lv_iload_n X.hx X.hb dX11_serve_47 rfl (lv_at hl 3 rfl) ?_
            refine lv_ishl X.hx X.hb dX11_serve_48 ?_
            refine lv_goto (tgt := 53) X.hx X.hb dX11_serve_49 (by decide) ?_
            exact hj_60 _ _ _ _ hf hP hD hS (lv_sub hl [0, 1, 3] rfl)
    exact hlo_54 N _ _ _ _ _ hf hP hD hS (lv_sub hl [2, 3, 1, 0] rfl)
  · replace hf := if_t hf hc_3
    refine lv_iconst (v := (-1)) X.hx X.hb dX11_serve_13 (by decide) ?_
    cases hf
    subst hQ
    exact r_iret X hP hD hS dX11_serve_14

def f_X11_serving (N : Nat) (iY : Nat → Int32) (sY : Nat → Nat → Int32) (tY : Nat → Nat → Int64) (jY : Nat → Int64) : Option (Int32 × (Nat → Int32)) :=
  (if (iY 30) = 0 then some ((-1), (va_up iY 0 0)) else some ((iY 29), (va_up iY 0 0)))
set_option maxHeartbeats 4000000 in
set_option maxRecDepth 100000 in
theorem c_X11_serving (l : Launch) (G : GT) (N : Nat) (uY : Nat → Nat) (iY : Nat → Int32) (sY : Nat → Nat → Int32) (tY : Nat → Nat → Int64) (jY : Nat → Int64) {r : Int32} {iY' : Nat → Int32} (hf : f_X11_serving N iY sY tY jY = some (r, iY')) : CI l G yX11_serving cX11_serving 1 .int 1 [.ref (uY 0)] (gY G uY iY sY tY jY) r (gY G uY iY' sY tY jY) := by
  refine CI.of (by decide) (Nat.le_of_ble_eq_true rfl) ?_
  intro p e s m args below meth c A X hA hP hD hS ls hl
  have hl : lv_has ls 1 [(0, .ref (uY 0))] := hl
  generalize hQ : MQ below (QI G A r (gY G uY iY' sY tY jY)) args s 0 0 A = QQ
  unfold f_X11_serving at hf
  refine lv_aload_n X.hx X.hb dX11_serving_0 rfl (lv_at hl 0 rfl) ?_
  refine lv_iconst (v := 0) X.hx X.hb dX11_serving_1 (by decide) ?_
  refine pf_X11_1 X hP hD hS 0 rfl rfl rfl (Nat.le_of_ble_eq_true rfl) (wo := (gY G uY (va_up iY 0 0) sY tY jY)) rfl dX11_serving_2 (fun H locs hP hD hS => ?_)
  refine lv_aload_n X.hx X.hb dX11_serving_5 rfl (lv_at hl 0 rfl) ?_
  refine gf_X11_361 X hP 0 rfl (v := .int (iY 30)) rfl dX11_serving_6 ?_
  refine lv_if_eq (tgt := 19) X.hx X.hb dX11_serving_9 (by decide) (fun hc_1 => ?_) (fun hc_1 => ?_)
  · replace hf := if_t hf hc_1
    refine lv_iconst (v := (-1)) X.hx X.hb dX11_serving_19 (by decide) ?_
    cases hf
    subst hQ
    exact r_iret X hP hD hS dX11_serving_20
  · replace hf := if_f hf hc_1
    refine lv_aload_n X.hx X.hb dX11_serving_12 rfl (lv_at hl 0 rfl) ?_
    refine gf_X11_364 X hP 0 rfl (v := .int (iY 29)) rfl dX11_serving_13 ?_
    refine lv_goto (tgt := 20) X.hx X.hb dX11_serving_16 (by decide) ?_
    cases hf
    subst hQ
    exact r_iret X hP hD hS dX11_serving_20

def f_X11_laysSteps_62 (N : Nat) (iY : Nat → Int32) (tY : Nat → Nat → Int64) (jY : Nat → Int64) (v2 : Int32) (v3 : Int32) (v4 : Int32) (K_19 : ((Nat → Nat → Int32)) → Option ((Nat → Nat → Int32))) (K_9 : ((Nat → Nat → Int32)) → Option ((Nat → Nat → Int32))) : Nat → (Nat → Nat → Int32) → (Int32) → Option ((Nat → Nat → Int32))
  | 0, _, _ => none
  | k + 1, sY, v5 => (if ((sY 6) 0) ≤ v5 then K_19 sY else bd (f_X11_bitOf N v4 v5) (fun r_41 => jn (fun (z : (Nat → Nat → Int32)) => match z with | sY_46 => f_X11_laysSteps_62 N iY tY jY v2 v3 v4 K_19 K_9 k sY_46 (v5 + 1)) (fun K_43 => (if r_41 = 0 then K_43 sY else ck v5 7 (ck v3 7 ((if ((sY 31) (ix v3)) ≤ (((sY 31) (ix v5)) + 1) then K_43 sY else ck v5 7 (ck v3 7 (nv (upd (sY 31) (ix v3) (((sY 31) (ix v5)) + 1)) (fun g_53 => K_43 (va_up sY 31 g_53)))))))))))
def f_X11_laysSteps_42 (N : Nat) (iY : Nat → Int32) (tY : Nat → Nat → Int64) (jY : Nat → Int64) (v2 : Int32) (K_9 : ((Nat → Nat → Int32)) → Option ((Nat → Nat → Int32))) : Nat → (Nat → Nat → Int32) → (Int32) → Option ((Nat → Nat → Int32))
  | 0, _, _ => none
  | k + 1, sY, v3 => (if ((sY 6) 0) ≤ v3 then K_9 sY else bd (f_X11_mayBy N iY sY tY jY v3) (fun r_55 => jn (fun (z : (Nat → Nat → Int32)) => match z with | sY_60 => f_X11_laysSteps_42 N iY tY jY v2 K_9 k sY_60 (v3 + 1)) (fun K_57 => f_X11_laysSteps_62 N iY tY jY v2 v3 r_55 K_57 K_9 N sY 0)))
def f_X11_laysSteps_34 (N : Nat) (iY : Nat → Int32) (tY : Nat → Nat → Int64) (jY : Nat → Int64) : Nat → (Nat → Nat → Int32) → (Int32) → Option ((Nat → Nat → Int32))
  | 0, _, _ => none
  | k + 1, sY, v2 => (if (7 : Int32) ≤ v2 then some sY else jn (fun (z : (Nat → Nat → Int32)) => match z with | sY_96 => f_X11_laysSteps_34 N iY tY jY k sY_96 (v2 + 1)) (fun K_93 => f_X11_laysSteps_42 N iY tY jY v2 K_93 N sY 0))
def f_X11_laysSteps_2 (N : Nat) (iY : Nat → Int32) (tY : Nat → Nat → Int64) (jY : Nat → Int64) (v1 : Int32) (K_1 : ((Nat → Nat → Int32)) → Option ((Nat → Nat → Int32))) : Nat → (Nat → Nat → Int32) → (Int32) → Option ((Nat → Nat → Int32))
  | 0, _, _ => none
  | k + 1, sY, v2 => (if (7 : Int32) ≤ v2 then K_1 sY else jn (fun (z : (Int32)) => match z with | y_191 => ck v2 7 (nv (upd (sY 31) (ix v2) y_191) (fun g_193 => f_X11_laysSteps_2 N iY tY jY v1 K_1 k (va_up sY 31 g_193) (v2 + 1)))) (fun K_188 => (if v2 = v1 then K_188 0 else K_188 1000000)))
def f_X11_laysSteps (N : Nat) (iY : Nat → Int32) (sY : Nat → Nat → Int32) (tY : Nat → Nat → Int64) (jY : Nat → Int64) (p1 : Int32) : Option ((Nat → Nat → Int32)) :=
  jn (fun (z : (Nat → Nat → Int32)) => match z with | sY_4 => f_X11_laysSteps_34 N iY tY jY N sY_4 0) (fun K_1 => f_X11_laysSteps_2 N iY tY jY p1 K_1 N sY 0)
set_option maxHeartbeats 4000000 in
set_option maxRecDepth 100000 in
theorem c_X11_laysSteps (l : Launch) (G : GT) (N : Nat) (uY : Nat → Nat) (iY : Nat → Int32) (sY : Nat → Nat → Int32) (tY : Nat → Nat → Int64) (jY : Nat → Int64) (p1 : Int32) {sY' : Nat → Nat → Int32} (hf : f_X11_laysSteps N iY sY tY jY p1 = some sY') : CV l G yX11_laysSteps cX11_laysSteps 6 3 [.ref (uY 0), .int p1] (gY G uY iY sY tY jY) (gY G uY iY sY' tY jY) := by
  refine CV.of (by decide) (Nat.le_of_ble_eq_true rfl) ?_
  intro p e s m args below meth c A X hA hP hD hS ls hl
  have hl : lv_has ls 6 [(0, .ref (uY 0)), (1, .int p1)] := hl
  generalize hQ : MQ below (QV G A (gY G uY iY sY' tY jY)) args s 0 0 A = QQ
  unfold f_X11_laysSteps at hf
  refine lv_iconst (v := 0) X.hx X.hb dX11_laysSteps_0 (by decide) ?_
  refine lv_istore_n (lv' := [(2, .int 0), (0, .ref (uY 0)), (1, .int p1)]) X.hx X.hb dX11_laysSteps_1 rfl hl (by decide) rfl (fun ls hl => ?_)
  obtain ⟨K_1, eK_3, hf⟩ := jn_i hf
  have hj_2 : ∀ (sY_4 : Nat → Nat → Int32) (H : Heap) (locs : List Loc) (ls : Array Slot), K_1 sY_4 = some sY' → va_P G.1 vwCl (gY G uY iY sY_4 tY jY) H → va_D A (gY G uY iY sY_4 tY jY) → va_S A s.heap H locs → lv_has ls 6 [(0, .ref (uY 0))] → W p l e (RM 3) s m args below meth c H locs 0 0 QQ (F0 m 32 ls []) := by
    intro sY_4 H locs ls hf hP hD hS hl
    rw [eK_3] at hf
    try dsimp only at hf
    refine lv_iconst (v := 0) X.hx X.hb dX11_laysSteps_32 (by decide) ?_
    refine lv_istore_n (lv' := [(2, .int 0), (0, .ref (uY 0))]) X.hx X.hb dX11_laysSteps_33 rfl hl (by decide) rfl (fun ls hl => ?_)
    have hlo_5 : ∀ (k : Nat) (sY_6 : Nat → Nat → Int32) (v2_7 : Int32) (H : Heap) (locs : List Loc) (ls : Array Slot), f_X11_laysSteps_34 N iY tY jY k sY_6 v2_7 = some sY' → va_P G.1 vwCl (gY G uY iY sY_6 tY jY) H → va_D A (gY G uY iY sY_6 tY jY) → va_S A s.heap H locs → lv_has ls 6 [(0, .ref (uY 0)), (2, .int v2_7)] → W p l e (RM 3) s m args below meth c H locs 0 0 QQ (F0 m 34 ls []) := by
      intro k
      induction k with
      | zero => intro sY_6 v2_7 H locs ls hf; exact absurd hf (by intro q; cases q)
      | succ k ih =>
        intro sY_6 v2_7 H locs ls hf hP hD hS hl
        unfold f_X11_laysSteps_34 at hf
        refine lv_iload_n X.hx X.hb dX11_laysSteps_34 rfl (lv_at hl 1 rfl) ?_
        refine lv_bipush (v := 7) X.hx X.hb dX11_laysSteps_35 (by decide) ?_
        refine lv_icmp_ge (tgt := 134) X.hx X.hb dX11_laysSteps_37 (by decide) (fun hc_8 => ?_) (fun hc_8 => ?_)
        · replace hf := if_t hf hc_8
          cases hf
          subst hQ
          exact r_vret X hP hD hS dX11_laysSteps_134
        · replace hf := if_f hf hc_8
          refine lv_iconst (v := 0) X.hx X.hb dX11_laysSteps_40 (by decide) ?_
          refine lv_istore_n (lv' := [(3, .int 0), (0, .ref (uY 0)), (2, .int v2_7)]) X.hx X.hb dX11_laysSteps_41 rfl hl (by decide) rfl (fun ls hl => ?_)
          obtain ⟨K_9, eK_11, hf⟩ := jn_i hf
          have hj_10 : ∀ (sY_12 : Nat → Nat → Int32) (H : Heap) (locs : List Loc) (ls : Array Slot), K_9 sY_12 = some sY' → va_P G.1 vwCl (gY G uY iY sY_12 tY jY) H → va_D A (gY G uY iY sY_12 tY jY) → va_S A s.heap H locs → lv_has ls 6 [(0, .ref (uY 0)), (2, .int v2_7)] → W p l e (RM 3) s m args below meth c H locs 0 0 QQ (F0 m 128 ls []) := by
            intro sY_12 H locs ls hf hP hD hS hl
            rw [eK_11] at hf
            try dsimp only at hf
            refine lv_iinc (v := (v2_7 + 1)) (lv' := [(2, .int (v2_7 + 1)), (0, .ref (uY 0))]) X.hx X.hb dX11_laysSteps_128 hl (k := 1) rfl rfl (by decide) rfl (fun ls hl => ?_)
            refine lv_goto (tgt := 34) X.hx X.hb dX11_laysSteps_131 (by decide) ?_
            exact ih _ _ _ _ _ hf hP hD hS (lv_sub hl [1, 0] rfl)
          have hlo_13 : ∀ (k : Nat) (sY_14 : Nat → Nat → Int32) (v3_15 : Int32) (H : Heap) (locs : List Loc) (ls : Array Slot), f_X11_laysSteps_42 N iY tY jY v2_7 K_9 k sY_14 v3_15 = some sY' → va_P G.1 vwCl (gY G uY iY sY_14 tY jY) H → va_D A (gY G uY iY sY_14 tY jY) → va_S A s.heap H locs → lv_has ls 6 [(0, .ref (uY 0)), (2, .int v2_7), (3, .int v3_15)] → W p l e (RM 3) s m args below meth c H locs 0 0 QQ (F0 m 42 ls []) := by
            intro k
            induction k with
            | zero => intro sY_14 v3_15 H locs ls hf; exact absurd hf (by intro q; cases q)
            | succ k ih =>
              intro sY_14 v3_15 H locs ls hf hP hD hS hl
              unfold f_X11_laysSteps_42 at hf
              refine lv_iload_n X.hx X.hb dX11_laysSteps_42 rfl (lv_at hl 2 rfl) ?_
              refine lv_aload_n X.hx X.hb dX11_laysSteps_43 rfl (lv_at hl 0 rfl) ?_
              refine gf_X11_33 X hP 0 rfl (v := .ref (uY 7)) rfl dX11_laysSteps_44 ?_
              refine lv_iconst (v := 0) X.hx X.hb dX11_laysSteps_47 (by decide) ?_
              refine r_iald X hP 2 (f := (sY_14 6)) rfl (vp_c rfl) dX11_laysSteps_48 ?_
              refine W.eq (g2 := F0 m 49 ls [.int ((sY_14 6) 0), .int v3_15]) rfl ?_
              refine lv_icmp_ge (tgt := 128) X.hx X.hb dX11_laysSteps_49 (by decide) (fun hc_16 => ?_) (fun hc_16 => ?_)
              · replace hf := if_t hf hc_16
                exact hj_10 _ _ _ _ hf hP hD hS (lv_sub hl [0, 1] rfl)
              · replace hf := if_f hf hc_16
                refine lv_aload_n X.hx X.hb dX11_laysSteps_52 rfl (lv_at hl 0 rfl) ?_
                refine lv_iload_n X.hx X.hb dX11_laysSteps_53 rfl (lv_at hl 2 rfl) ?_
                obtain ⟨r_17, hc_18, hf⟩ := bd_i hf
                refine r_cvi (As := [.int v3_15]) (rest := []) X sm_X11_278 (c_X11_mayBy l G N uY iY sY_14 tY jY v3_15 hc_18) hP hD hS hA 0 rfl rfl [0, 1, 2, 3, 4, 5, 6, 7, 8, 9, 10, 11, 12, 13, 14, 15, 16, 17, 18, 19, 20] rfl rfl rfl (wo := (gY G uY iY sY_14 tY jY)) rfl rfl hl.1 (lv_room (Nat.le_of_ble_eq_true rfl)) ⟨Nat.le_of_ble_eq_true rfl, Nat.le_of_ble_eq_true rfl⟩ ⟨Nat.zero_le _, Nat.zero_le _⟩ dX11_laysSteps_54 (fun H locs hP hD hS => ?_)
                refine lv_istore (lv' := [(4, .int r_17), (0, .ref (uY 0)), (2, .int v2_7), (3, .int v3_15)]) X.hx X.hb dX11_laysSteps_57 hl (by decide) rfl (fun ls hl => ?_)
                refine lv_iconst (v := 0) X.hx X.hb dX11_laysSteps_59 (by decide) ?_
                refine lv_istore (lv' := [(5, .int 0), (4, .int r_17), (0, .ref (uY 0)), (2, .int v2_7), (3, .int v3_15)]) X.hx X.hb dX11_laysSteps_60 hl (by decide) rfl (fun ls hl => ?_)
                obtain ⟨K_19, eK_21, hf⟩ := jn_i hf
                have hj_20 : ∀ (sY_22 : Nat → Nat → Int32) (H : Heap) (locs : List Loc) (ls : Array Slot), K_19 sY_22 = some sY' → va_P G.1 vwCl (gY G uY iY sY_22 tY jY) H → va_D A (gY G uY iY sY_22 tY jY) → va_S A s.heap H locs → lv_has ls 6 [(0, .ref (uY 0)), (2, .int v2_7), (3, .int v3_15)] → W p l e (RM 3) s m args below meth c H locs 0 0 QQ (F0 m 122 ls []) := by
                  intro sY_22 H locs ls hf hP hD hS hl
                  rw [eK_21] at hf
                  try dsimp only at hf
                  refine lv_iinc (v := (v3_15 + 1)) (lv' := [(3, .int (v3_15 + 1)), (0, .ref (uY 0)), (2, .int v2_7)]) X.hx X.hb dX11_laysSteps_122 hl (k := 2) rfl rfl (by decide) rfl (fun ls hl => ?_)
                  refine lv_goto (tgt := 42) X.hx X.hb dX11_laysSteps_125 (by decide) ?_
                  exact ih _ _ _ _ _ hf hP hD hS (lv_sub hl [1, 2, 0] rfl)
                have hlo_23 : ∀ (k : Nat) (sY_24 : Nat → Nat → Int32) (v5_25 : Int32) (H : Heap) (locs : List Loc) (ls : Array Slot), f_X11_laysSteps_62 N iY tY jY v2_7 v3_15 r_17 K_19 K_9 k sY_24 v5_25 = some sY' → va_P G.1 vwCl (gY G uY iY sY_24 tY jY) H → va_D A (gY G uY iY sY_24 tY jY) → va_S A s.heap H locs → lv_has ls 6 [(0, .ref (uY 0)), (2, .int v2_7), (3, .int v3_15), (4, .int r_17), (5, .int v5_25)] → W p l e (RM 3) s m args below meth c H locs 0 0 QQ (F0 m 62 ls []) := by
                  intro k
                  induction k with
                  | zero => intro sY_24 v5_25 H locs ls hf; exact absurd hf (by intro q; cases q)
                  | succ k ih =>
                    intro sY_24 v5_25 H locs ls hf hP hD hS hl
                    unfold f_X11_laysSteps_62 at hf
                    refine lv_iload X.hx X.hb dX11_laysSteps_62 (lv_at hl 4 rfl) ?_
                    refine lv_aload_n X.hx X.hb dX11_laysSteps_64 rfl (lv_at hl 0 rfl) ?_
                    refine gf_X11_33 X hP 0 rfl (v := .ref (uY 7)) rfl dX11_laysSteps_65 ?_
                    refine lv_iconst (v := 0) X.hx X.hb dX11_laysSteps_68 (by decide) ?_
                    refine r_iald X hP 2 (f := (sY_24 6)) rfl (vp_c rfl) dX11_laysSteps_69 ?_
                    refine W.eq (g2 := F0 m 70 ls [.int ((sY_24 6) 0), .int v5_25]) rfl ?_
                    refine lv_icmp_ge (tgt := 122) X.hx X.hb dX11_laysSteps_70 (by decide) (fun hc_26 => ?_) (fun hc_26 => ?_)
                    · replace hf := if_t hf hc_26
                      exact hj_20 _ _ _ _ hf hP hD hS (lv_sub hl [0, 1, 2] rfl)
                    · replace hf := if_f hf hc_26
                      refine lv_iload X.hx X.hb dX11_laysSteps_73 (lv_at hl 3 rfl) ?_
                      refine lv_iload X.hx X.hb dX11_laysSteps_75 (lv_at hl 4 rfl) ?_
                      obtain ⟨r_27, hc_28, hf⟩ := bd_i hf
                      refine r_cs0 (As := [.int r_17, .int v5_25]) (rest := []) X sm_X11_214 (c_X11_bitOf l G N r_17 v5_25 hc_28) hP hD hS hA rfl hl.1 (lv_room (Nat.le_of_ble_eq_true rfl)) ⟨Nat.le_of_ble_eq_true rfl, Nat.le_of_ble_eq_true rfl⟩ ⟨Nat.zero_le _, Nat.zero_le _⟩ dX11_laysSteps_77 (fun H locs hP hD hS => ?_)
                      obtain ⟨K_29, eK_31, hf⟩ := jn_i hf
                      have hj_30 : ∀ (sY_32 : Nat → Nat → Int32) (H : Heap) (locs : List Loc) (ls : Array Slot), K_29 sY_32 = some sY' → va_P G.1 vwCl (gY G uY iY sY_32 tY jY) H → va_D A (gY G uY iY sY_32 tY jY) → va_S A s.heap H locs → lv_has ls 6 [(0, .ref (uY 0)), (2, .int v2_7), (3, .int v3_15), (4, .int r_17), (5, .int v5_25)] → W p l e (RM 3) s m args below meth c H locs 0 0 QQ (F0 m 116 ls []) := by
                        intro sY_32 H locs ls hf hP hD hS hl
                        rw [eK_31] at hf
                        try dsimp only at hf
                        refine lv_iinc (v := (v5_25 + 1)) (lv' := [(5, .int (v5_25 + 1)), (0, .ref (uY 0)), (2, .int v2_7), (3, .int v3_15), (4, .int r_17)]) X.hx X.hb dX11_laysSteps_116 hl (k := 4) rfl rfl (by decide) rfl (fun ls hl => ?_)
                        refine lv_goto (tgt := 62) X.hx X.hb dX11_laysSteps_119 (by decide) ?_
                        exact ih _ _ _ _ _ hf hP hD hS (lv_sub hl [1, 2, 3, 4, 0] rfl)
                      refine lv_if_eq (tgt := 116) X.hx X.hb dX11_laysSteps_80 (by decide) (fun hc_33 => ?_) (fun hc_33 => ?_)
                      · replace hf := if_t hf hc_33
                        exact hj_30 _ _ _ _ hf hP hD hS (lv_sub hl [0, 1, 2, 3, 4] rfl)
                      · replace hf := if_f hf hc_33
                        refine lv_aload_n X.hx X.hb dX11_laysSteps_83 rfl (lv_at hl 0 rfl) ?_
                        refine gf_X11_65 X hP 0 rfl (v := .ref (uY 32)) rfl dX11_laysSteps_84 ?_
                        refine lv_iload X.hx X.hb dX11_laysSteps_87 (lv_at hl 4 rfl) ?_
                        obtain ⟨hi_34, hf⟩ := ck_i hf
                        refine r_iald X hP 12 (f := (sY_24 31)) rfl hi_34 dX11_laysSteps_89 ?_
                        refine lv_iconst (v := 1) X.hx X.hb dX11_laysSteps_90 (by decide) ?_
                        refine lv_iadd X.hx X.hb dX11_laysSteps_91 ?_
                        refine lv_aload_n X.hx X.hb dX11_laysSteps_92 rfl (lv_at hl 0 rfl) ?_
                        refine gf_X11_65 X hP 0 rfl (v := .ref (uY 32)) rfl dX11_laysSteps_93 ?_
                        refine lv_iload_n X.hx X.hb dX11_laysSteps_96 rfl (lv_at hl 2 rfl) ?_
                        obtain ⟨hi_35, hf⟩ := ck_i hf
                        refine r_iald X hP 12 (f := (sY_24 31)) rfl hi_35 dX11_laysSteps_97 ?_
                        refine lv_icmp_ge (tgt := 116) X.hx X.hb dX11_laysSteps_98 (by decide) (fun hc_36 => ?_) (fun hc_36 => ?_)
                        · replace hf := if_t hf hc_36
                          exact hj_30 _ _ _ _ hf hP hD hS (lv_sub hl [0, 1, 2, 3, 4] rfl)
                        · replace hf := if_f hf hc_36
                          refine lv_aload_n X.hx X.hb dX11_laysSteps_101 rfl (lv_at hl 0 rfl) ?_
                          refine gf_X11_65 X hP 0 rfl (v := .ref (uY 32)) rfl dX11_laysSteps_102 ?_
                          refine lv_iload_n X.hx X.hb dX11_laysSteps_105 rfl (lv_at hl 2 rfl) ?_
                          refine lv_aload_n X.hx X.hb dX11_laysSteps_106 rfl (lv_at hl 0 rfl) ?_
                          refine gf_X11_65 X hP 0 rfl (v := .ref (uY 32)) rfl dX11_laysSteps_107 ?_
                          refine lv_iload X.hx X.hb dX11_laysSteps_110 (lv_at hl 4 rfl) ?_
                          obtain ⟨hi_37, hf⟩ := ck_i hf
                          refine r_iald X hP 12 (f := (sY_24 31)) rfl hi_37 dX11_laysSteps_112 ?_
                          refine lv_iconst (v := 1) X.hx X.hb dX11_laysSteps_113 (by decide) ?_
                          refine lv_iadd X.hx X.hb dX11_laysSteps_114 ?_
                          obtain ⟨hi_38, hf⟩ := ck_i hf
                          obtain ⟨g_39, eg_39, hf⟩ := nv_i hf
                          refine r_iast X hP hD hS 12 (f := (sY_24 31)) rfl hi_38 (wo := (gY G uY iY (va_up sY_24 31 g_39) tY jY)) (by subst eg_39; rfl) dX11_laysSteps_115 (fun H locs hP hD hS => ?_)
                          exact hj_30 _ _ _ _ hf hP hD hS (lv_sub hl [0, 1, 2, 3, 4] rfl)
                exact hlo_23 N _ _ _ _ _ hf hP hD hS (lv_sub hl [2, 3, 4, 1, 0] rfl)
          exact hlo_13 N _ _ _ _ _ hf hP hD hS (lv_sub hl [1, 2, 0] rfl)
    exact hlo_5 N _ _ _ _ _ hf hP hD hS (lv_sub hl [1, 0] rfl)
  have hlo_176 : ∀ (k : Nat) (sY_177 : Nat → Nat → Int32) (v2_178 : Int32) (H : Heap) (locs : List Loc) (ls : Array Slot), f_X11_laysSteps_2 N iY tY jY p1 K_1 k sY_177 v2_178 = some sY' → va_P G.1 vwCl (gY G uY iY sY_177 tY jY) H → va_D A (gY G uY iY sY_177 tY jY) → va_S A s.heap H locs → lv_has ls 6 [(0, .ref (uY 0)), (1, .int p1), (2, .int v2_178)] → W p l e (RM 3) s m args below meth c H locs 0 0 QQ (F0 m 2 ls []) := by
    intro k
    induction k with
    | zero => intro sY_177 v2_178 H locs ls hf; exact absurd hf (by intro q; cases q)
    | succ k ih =>
      intro sY_177 v2_178 H locs ls hf hP hD hS hl
      unfold f_X11_laysSteps_2 at hf
      refine lv_iload_n X.hx X.hb dX11_laysSteps_2 rfl (lv_at hl 2 rfl) ?_
      refine lv_bipush (v := 7) X.hx X.hb dX11_laysSteps_3 (by decide) ?_
      refine lv_icmp_ge (tgt := 32) X.hx X.hb dX11_laysSteps_5 (by decide) (fun hc_179 => ?_) (fun hc_179 => ?_)
      · replace hf := if_t hf hc_179
        exact hj_2 _ _ _ _ hf hP hD hS (lv_sub hl [0] rfl)
      · replace hf := if_f hf hc_179
        refine lv_aload_n X.hx X.hb dX11_laysSteps_8 rfl (lv_at hl 0 rfl) ?_
        refine gf_X11_65 X hP 0 rfl (v := .ref (uY 32)) rfl dX11_laysSteps_9 ?_
        refine lv_iload_n X.hx X.hb dX11_laysSteps_12 rfl (lv_at hl 2 rfl) ?_
        refine lv_iload_n X.hx X.hb dX11_laysSteps_13 rfl (lv_at hl 2 rfl) ?_
        refine lv_iload_n X.hx X.hb dX11_laysSteps_14 rfl (lv_at hl 1 rfl) ?_
        obtain ⟨K_180, eK_182, hf⟩ := jn_i hf
        have hj_181 : ∀ (y_183 : Int32) (H : Heap) (locs : List Loc) (ls : Array Slot), K_180 y_183 = some sY' → va_P G.1 vwCl (gY G uY iY sY_177 tY jY) H → va_D A (gY G uY iY sY_177 tY jY) → va_S A s.heap H locs → lv_has ls 6 [(0, .ref (uY 0)), (1, .int p1), (2, .int v2_178)] → W p l e (RM 3) s m args below meth c H locs 0 0 QQ (F0 m 25 ls [.int y_183, .int v2_178, .ref (uY 32)]) := by
          intro y_183 H locs ls hf hP hD hS hl
          rw [eK_182] at hf
          try dsimp only at hf
          obtain ⟨hi_184, hf⟩ := ck_i hf
          obtain ⟨g_185, eg_185, hf⟩ := nv_i hf
          refine r_iast X hP hD hS 12 (f := (sY_177 31)) rfl hi_184 (wo := (gY G uY iY (va_up sY_177 31 g_185) tY jY)) (by subst eg_185; rfl) dX11_laysSteps_25 (fun H locs hP hD hS => ?_)
          refine lv_iinc (v := (v2_178 + 1)) (lv' := [(2, .int (v2_178 + 1)), (0, .ref (uY 0)), (1, .int p1)]) X.hx X.hb dX11_laysSteps_26 hl (k := 2) rfl rfl (by decide) rfl (fun ls hl => ?_)
          refine lv_goto (tgt := 2) X.hx X.hb dX11_laysSteps_29 (by decide) ?_
          exact ih _ _ _ _ _ hf hP hD hS (lv_sub hl [1, 2, 0] rfl)
        refine lv_icmp_ne (tgt := 22) X.hx X.hb dX11_laysSteps_15 (by decide) (fun hc_186 => ?_) (fun hc_186 => ?_)
        · replace hf := if_f hf hc_186
          refine lv_ldcw (v := 1000000) X.hx X.hb X.hown (X.hts _ tw_1710) dX11_laysSteps_22 ?_
          exact hj_181 _ _ _ _ hf hP hD hS (lv_sub hl [0, 1, 2] rfl)
        · replace hf := if_t hf hc_186
          refine lv_iconst (v := 0) X.hx X.hb dX11_laysSteps_18 (by decide) ?_
          refine lv_goto (tgt := 25) X.hx X.hb dX11_laysSteps_19 (by decide) ?_
          exact hj_181 _ _ _ _ hf hP hD hS (lv_sub hl [0, 1, 2] rfl)
  exact hlo_176 N _ _ _ _ _ hf hP hD hS (lv_sub hl [1, 2, 0] rfl)

def f_X11_chain_76 (N : Nat) (iY : Nat → Int32) (sY : Nat → Nat → Int32) (tY : Nat → Nat → Int64) (jY : Nat → Int64) (v3 : Int32) (v4 : Int32) (K_19 : ((Int32)) → Option (Int32 × (Nat → Int32) × (Nat → Nat → Int32))) : Nat → (Int32) → Option (Int32 × (Nat → Int32) × (Nat → Nat → Int32))
  | 0, _ => none
  | k + 1, v5 => bd (f_X11_mayBy N iY sY tY jY v3) (fun r_37 => bd (f_X11_bitOf N r_37 v5) (fun r_39 => jn (fun (z : Unit) => match z with | () => f_X11_chain_76 N iY sY tY jY v3 v4 K_19 k (v5 + 1)) (fun K_41 => (if r_39 = 0 then K_41 () else ck v5 7 ((if ((sY 31) (ix v5)) = ((iY 33) - v4) then K_19 v5 else K_41 ()))))))
def f_X11_chain_64 (N : Nat) (iY : Nat → Int32) (tY : Nat → Nat → Int64) (jY : Nat → Int64) : Nat → (Nat → Nat → Int32) → (Int32) → (Int32) → Option (Int32 × (Nat → Int32) × (Nat → Nat → Int32))
  | 0, _, _, _ => none
  | k + 1, sY, v3, v4 => (if (iY 33) ≤ v4 then some ((iY 33), iY, sY) else jn (fun (z : (Int32)) => match z with | x5_51 => ck v4 7 (nv (upd (sY 32) (ix v4) x5_51) (fun g_53 => f_X11_chain_64 N iY tY jY k (va_up sY 32 g_53) x5_51 (v4 + 1)))) (fun K_48 => f_X11_chain_76 N iY sY tY jY v3 v4 K_48 N 0))
def f_X11_chain (N : Nat) (iY : Nat → Int32) (sY : Nat → Nat → Int32) (tY : Nat → Nat → Int64) (jY : Nat → Int64) (p1 : Int32) (p2 : Int32) : Option (Int32 × (Nat → Int32) × (Nat → Nat → Int32)) :=
  bd (f_X11_isPerson N (va_up iY 0 0) sY tY jY p1) (fun r_1 => (if r_1 = 0 then some ((-1), (va_up iY 0 0), sY) else bd (f_X11_isPerson N (va_up iY 0 0) sY tY jY p2) (fun r_4 => (if r_4 = 0 then some ((-1), (va_up iY 0 0), sY) else (if p1 = p2 then some ((-1), (va_up iY 0 0), sY) else bd (f_X11_laysSteps N (va_up iY 0 0) sY tY jY p2) (fun sY_8 => ck p1 7 ((if ((sY_8 31) (ix p1)) < 1000000 then ck p1 7 (nv (((sY_8 31) (ix p1)) - 1) (fun n_13 => f_X11_chain_64 N (va_up (va_up iY 0 0) 33 n_13) tY jY N sY_8 p1 0)) else some ((-1), (va_up iY 0 0), sY_8)))))))))
set_option maxHeartbeats 4000000 in
set_option maxRecDepth 100000 in
theorem c_X11_chain (l : Launch) (G : GT) (N : Nat) (uY : Nat → Nat) (iY : Nat → Int32) (sY : Nat → Nat → Int32) (tY : Nat → Nat → Int64) (jY : Nat → Int64) (p1 : Int32) (p2 : Int32) {r : Int32} {iY' : Nat → Int32} {sY' : Nat → Nat → Int32} (hf : f_X11_chain N iY sY tY jY p1 p2 = some (r, iY', sY')) : CI l G yX11_chain cX11_chain 6 .int 4 [.ref (uY 0), .int p1, .int p2] (gY G uY iY sY tY jY) r (gY G uY iY' sY' tY jY) := by
  refine CI.of (by decide) (Nat.le_of_ble_eq_true rfl) ?_
  intro p e s m args below meth c A X hA hP hD hS ls hl
  have hl : lv_has ls 6 [(0, .ref (uY 0)), (1, .int p1), (2, .int p2)] := hl
  generalize hQ : MQ below (QI G A r (gY G uY iY' sY' tY jY)) args s 0 0 A = QQ
  unfold f_X11_chain at hf
  refine lv_aload_n X.hx X.hb dX11_chain_0 rfl (lv_at hl 0 rfl) ?_
  refine lv_iconst (v := 0) X.hx X.hb dX11_chain_1 (by decide) ?_
  refine pf_X11_1 X hP hD hS 0 rfl rfl rfl (Nat.le_of_ble_eq_true rfl) (wo := (gY G uY (va_up iY 0 0) sY tY jY)) rfl dX11_chain_2 (fun H locs hP hD hS => ?_)
  refine lv_aload_n X.hx X.hb dX11_chain_5 rfl (lv_at hl 0 rfl) ?_
  refine lv_iload_n X.hx X.hb dX11_chain_6 rfl (lv_at hl 1 rfl) ?_
  obtain ⟨r_1, hc_2, hf⟩ := bd_i hf
  refine r_cvi (As := [.int p1]) (rest := []) X sm_X11_272 (c_X11_isPerson l G N uY (va_up iY 0 0) sY tY jY p1 hc_2) hP hD hS hA 0 rfl rfl [0, 1, 2, 3, 4, 5, 6, 7, 8, 9, 10, 11, 12, 13, 14, 15, 16, 17, 18, 19, 20] rfl rfl rfl (wo := (gY G uY (va_up iY 0 0) sY tY jY)) rfl rfl hl.1 (lv_room (Nat.le_of_ble_eq_true rfl)) ⟨Nat.le_of_ble_eq_true rfl, Nat.le_of_ble_eq_true rfl⟩ ⟨Nat.zero_le _, Nat.zero_le _⟩ dX11_chain_7 (fun H locs hP hD hS => ?_)
  refine lv_if_eq (tgt := 26) X.hx X.hb dX11_chain_10 (by decide) (fun hc_3 => ?_) (fun hc_3 => ?_)
  · replace hf := if_t hf hc_3
    refine lv_iconst (v := (-1)) X.hx X.hb dX11_chain_26 (by decide) ?_
    cases hf
    subst hQ
    exact r_iret X hP hD hS dX11_chain_27
  · replace hf := if_f hf hc_3
    refine lv_aload_n X.hx X.hb dX11_chain_13 rfl (lv_at hl 0 rfl) ?_
    refine lv_iload_n X.hx X.hb dX11_chain_14 rfl (lv_at hl 2 rfl) ?_
    obtain ⟨r_4, hc_5, hf⟩ := bd_i hf
    refine r_cvi (As := [.int p2]) (rest := []) X sm_X11_272 (c_X11_isPerson l G N uY (va_up iY 0 0) sY tY jY p2 hc_5) hP hD hS hA 0 rfl rfl [0, 1, 2, 3, 4, 5, 6, 7, 8, 9, 10, 11, 12, 13, 14, 15, 16, 17, 18, 19, 20] rfl rfl rfl (wo := (gY G uY (va_up iY 0 0) sY tY jY)) rfl rfl hl.1 (lv_room (Nat.le_of_ble_eq_true rfl)) ⟨Nat.le_of_ble_eq_true rfl, Nat.le_of_ble_eq_true rfl⟩ ⟨Nat.zero_le _, Nat.zero_le _⟩ dX11_chain_15 (fun H locs hP hD hS => ?_)
    refine lv_if_eq (tgt := 26) X.hx X.hb dX11_chain_18 (by decide) (fun hc_6 => ?_) (fun hc_6 => ?_)
    · replace hf := if_t hf hc_6
      refine lv_iconst (v := (-1)) X.hx X.hb dX11_chain_26 (by decide) ?_
      cases hf
      subst hQ
      exact r_iret X hP hD hS dX11_chain_27
    · replace hf := if_f hf hc_6
      refine lv_iload_n X.hx X.hb dX11_chain_21 rfl (lv_at hl 1 rfl) ?_
      refine lv_iload_n X.hx X.hb dX11_chain_22 rfl (lv_at hl 2 rfl) ?_
      refine lv_icmp_ne (tgt := 28) X.hx X.hb dX11_chain_23 (by decide) (fun hc_7 => ?_) (fun hc_7 => ?_)
      · replace hf := if_f hf hc_7
        refine lv_aload_n X.hx X.hb dX11_chain_28 rfl (lv_at hl 0 rfl) ?_
        refine lv_iload_n X.hx X.hb dX11_chain_29 rfl (lv_at hl 2 rfl) ?_
        obtain ⟨sY_8, hc_9, hf⟩ := bd_i hf
        refine r_cvv (As := [.int p2]) (rest := []) X sm_X11_367 (c_X11_laysSteps l G N uY (va_up iY 0 0) sY tY jY p2 hc_9) hP hD hS hA 0 rfl rfl [0, 1, 2, 3, 4, 5, 6, 7, 8, 9, 10, 11, 12, 13, 14, 15, 16, 17, 18, 19, 20] rfl rfl rfl (wo := (gY G uY (va_up iY 0 0) sY_8 tY jY)) rfl rfl hl.1 (lv_room (Nat.le_of_ble_eq_true rfl)) ⟨Nat.le_of_ble_eq_true rfl, Nat.le_of_ble_eq_true rfl⟩ ⟨Nat.zero_le _, Nat.zero_le _⟩ dX11_chain_30 (fun H locs hP hD hS => ?_)
        refine lv_aload_n X.hx X.hb dX11_chain_33 rfl (lv_at hl 0 rfl) ?_
        refine gf_X11_65 X hP 0 rfl (v := .ref (uY 32)) rfl dX11_chain_34 ?_
        refine lv_iload_n X.hx X.hb dX11_chain_37 rfl (lv_at hl 1 rfl) ?_
        obtain ⟨hi_10, hf⟩ := ck_i hf
        refine r_iald X hP 12 (f := (sY_8 31)) rfl hi_10 dX11_chain_38 ?_
        refine lv_ldcw (v := 1000000) X.hx X.hb X.hown (X.hts _ tw_1710) dX11_chain_39 ?_
        refine lv_icmp_lt (tgt := 47) X.hx X.hb dX11_chain_42 (by decide) (fun hc_11 => ?_) (fun hc_11 => ?_)
        · replace hf := if_t hf hc_11
          refine lv_aload_n X.hx X.hb dX11_chain_47 rfl (lv_at hl 0 rfl) ?_
          refine lv_aload_n X.hx X.hb dX11_chain_48 rfl (lv_at hl 0 rfl) ?_
          refine gf_X11_65 X hP 0 rfl (v := .ref (uY 32)) rfl dX11_chain_49 ?_
          refine lv_iload_n X.hx X.hb dX11_chain_52 rfl (lv_at hl 1 rfl) ?_
          obtain ⟨hi_12, hf⟩ := ck_i hf
          refine r_iald X hP 12 (f := (sY_8 31)) rfl hi_12 dX11_chain_53 ?_
          refine lv_iconst (v := 1) X.hx X.hb dX11_chain_54 (by decide) ?_
          refine lv_isub X.hx X.hb dX11_chain_55 ?_
          obtain ⟨n_13, en_13, hf⟩ := nv_i hf
          refine r_nm en_13 ?_
          refine pf_X11_71 X hP hD hS 0 rfl rfl rfl (Nat.le_of_ble_eq_true rfl) (wo := (gY G uY (va_up (va_up iY 0 0) 33 n_13) sY_8 tY jY)) rfl dX11_chain_56 (fun H locs hP hD hS => ?_)
          refine lv_iload_n X.hx X.hb dX11_chain_59 rfl (lv_at hl 1 rfl) ?_
          refine lv_istore_n (lv' := [(3, .int p1), (0, .ref (uY 0)), (1, .int p1), (2, .int p2)]) X.hx X.hb dX11_chain_60 rfl hl (by decide) rfl (fun ls hl => ?_)
          refine lv_iconst (v := 0) X.hx X.hb dX11_chain_61 (by decide) ?_
          refine lv_istore (lv' := [(4, .int 0), (3, .int p1), (0, .ref (uY 0)), (1, .int p1), (2, .int p2)]) X.hx X.hb dX11_chain_62 hl (by decide) rfl (fun ls hl => ?_)
          have hlo_14 : ∀ (k : Nat) (sY_15 : Nat → Nat → Int32) (v3_16 : Int32) (v4_17 : Int32) (H : Heap) (locs : List Loc) (ls : Array Slot), f_X11_chain_64 N (va_up (va_up iY 0 0) 33 n_13) tY jY k sY_15 v3_16 v4_17 = some (r, iY', sY') → va_P G.1 vwCl (gY G uY (va_up (va_up iY 0 0) 33 n_13) sY_15 tY jY) H → va_D A (gY G uY (va_up (va_up iY 0 0) 33 n_13) sY_15 tY jY) → va_S A s.heap H locs → lv_has ls 6 [(0, .ref (uY 0)), (3, .int v3_16), (4, .int v4_17)] → W p l e (RM 4) s m args below meth c H locs 0 0 QQ (F0 m 64 ls []) := by
            intro k
            induction k with
            | zero => intro sY_15 v3_16 v4_17 H locs ls hf; exact absurd hf (by intro q; cases q)
            | succ k ih =>
              intro sY_15 v3_16 v4_17 H locs ls hf hP hD hS hl
              unfold f_X11_chain_64 at hf
              refine lv_iload X.hx X.hb dX11_chain_64 (lv_at hl 2 rfl) ?_
              refine lv_aload_n X.hx X.hb dX11_chain_66 rfl (lv_at hl 0 rfl) ?_
              refine gf_X11_71 X hP 0 rfl (v := .int n_13) rfl dX11_chain_67 ?_
              refine lv_icmp_ge (tgt := 130) X.hx X.hb dX11_chain_70 (by decide) (fun hc_18 => ?_) (fun hc_18 => ?_)
              · replace hf := if_t hf hc_18
                refine lv_aload_n X.hx X.hb dX11_chain_130 rfl (lv_at hl 0 rfl) ?_
                refine gf_X11_71 X hP 0 rfl (v := .int n_13) rfl dX11_chain_131 ?_
                cases hf
                subst hQ
                exact r_iret X hP hD hS dX11_chain_134
              · replace hf := if_f hf hc_18
                refine lv_iconst (v := 0) X.hx X.hb dX11_chain_73 (by decide) ?_
                refine lv_istore (lv' := [(5, .int 0), (0, .ref (uY 0)), (3, .int v3_16), (4, .int v4_17)]) X.hx X.hb dX11_chain_74 hl (by decide) rfl (fun ls hl => ?_)
                obtain ⟨K_19, eK_21, hf⟩ := jn_i hf
                have hj_20 : ∀ (x5_22 : Int32) (H : Heap) (locs : List Loc) (ls : Array Slot), K_19 x5_22 = some (r, iY', sY') → va_P G.1 vwCl (gY G uY (va_up (va_up iY 0 0) 33 n_13) sY_15 tY jY) H → va_D A (gY G uY (va_up (va_up iY 0 0) 33 n_13) sY_15 tY jY) → va_S A s.heap H locs → lv_has ls 6 [(0, .ref (uY 0)), (4, .int v4_17), (5, .int x5_22)] → W p l e (RM 4) s m args below meth c H locs 0 0 QQ (F0 m 112 ls []) := by
                  intro x5_22 H locs ls hf hP hD hS hl
                  rw [eK_21] at hf
                  try dsimp only at hf
                  refine lv_aload_n X.hx X.hb dX11_chain_112 rfl (lv_at hl 0 rfl) ?_
                  refine gf_X11_68 X hP 0 rfl (v := .ref (uY 33)) rfl dX11_chain_113 ?_
                  refine lv_iload X.hx X.hb dX11_chain_116 (lv_at hl 1 rfl) ?_
                  refine lv_iload X.hx X.hb dX11_chain_118 (lv_at hl 2 rfl) ?_
                  obtain ⟨hi_23, hf⟩ := ck_i hf
                  obtain ⟨g_24, eg_24, hf⟩ := nv_i hf
                  refine r_iast X hP hD hS 13 (f := (sY_15 32)) rfl hi_23 (wo := (gY G uY (va_up (va_up iY 0 0) 33 n_13) (va_up sY_15 32 g_24) tY jY)) (by subst eg_24; rfl) dX11_chain_120 (fun H locs hP hD hS => ?_)
                  refine lv_iload X.hx X.hb dX11_chain_121 (lv_at hl 2 rfl) ?_
                  refine lv_istore_n (lv' := [(3, .int x5_22), (0, .ref (uY 0)), (4, .int v4_17), (5, .int x5_22)]) X.hx X.hb dX11_chain_123 rfl hl (by decide) rfl (fun ls hl => ?_)
                  refine lv_iinc (v := (v4_17 + 1)) (lv' := [(4, .int (v4_17 + 1)), (3, .int x5_22), (0, .ref (uY 0)), (5, .int x5_22)]) X.hx X.hb dX11_chain_124 hl (k := 2) rfl rfl (by decide) rfl (fun ls hl => ?_)
                  refine lv_goto (tgt := 64) X.hx X.hb dX11_chain_127 (by decide) ?_
                  exact ih _ _ _ _ _ _ hf hP hD hS (lv_sub hl [2, 1, 0] rfl)
                have hlo_25 : ∀ (k : Nat) (v5_26 : Int32) (H : Heap) (locs : List Loc) (ls : Array Slot), f_X11_chain_76 N (va_up (va_up iY 0 0) 33 n_13) sY_15 tY jY v3_16 v4_17 K_19 k v5_26 = some (r, iY', sY') → va_P G.1 vwCl (gY G uY (va_up (va_up iY 0 0) 33 n_13) sY_15 tY jY) H → va_D A (gY G uY (va_up (va_up iY 0 0) 33 n_13) sY_15 tY jY) → va_S A s.heap H locs → lv_has ls 6 [(0, .ref (uY 0)), (3, .int v3_16), (4, .int v4_17), (5, .int v5_26)] → W p l e (RM 4) s m args below meth c H locs 0 0 QQ (F0 m 76 ls []) := by
                  intro k
                  induction k with
                  | zero => intro v5_26 H locs ls hf; exact absurd hf (by intro q; cases q)
                  | succ k ih =>
                    intro v5_26 H locs ls hf hP hD hS hl
                    unfold f_X11_chain_76 at hf
                    refine lv_aload_n X.hx X.hb dX11_chain_76 rfl (lv_at hl 0 rfl) ?_
                    refine lv_iload_n X.hx X.hb dX11_chain_77 rfl (lv_at hl 1 rfl) ?_
                    obtain ⟨r_27, hc_28, hf⟩ := bd_i hf
                    refine r_cvi (As := [.int v3_16]) (rest := []) X sm_X11_278 (c_X11_mayBy l G N uY (va_up (va_up iY 0 0) 33 n_13) sY_15 tY jY v3_16 hc_28) hP hD hS hA 0 rfl rfl [0, 1, 2, 3, 4, 5, 6, 7, 8, 9, 10, 11, 12, 13, 14, 15, 16, 17, 18, 19, 20] rfl rfl rfl (wo := (gY G uY (va_up (va_up iY 0 0) 33 n_13) sY_15 tY jY)) rfl rfl hl.1 (lv_room (Nat.le_of_ble_eq_true rfl)) ⟨Nat.le_of_ble_eq_true rfl, Nat.le_of_ble_eq_true rfl⟩ ⟨Nat.zero_le _, Nat.zero_le _⟩ dX11_chain_78 (fun H locs hP hD hS => ?_)
                    refine lv_iload X.hx X.hb dX11_chain_81 (lv_at hl 3 rfl) ?_
                    obtain ⟨r_29, hc_30, hf⟩ := bd_i hf
                    refine r_cs0 (As := [.int r_27, .int v5_26]) (rest := []) X sm_X11_214 (c_X11_bitOf l G N r_27 v5_26 hc_30) hP hD hS hA rfl hl.1 (lv_room (Nat.le_of_ble_eq_true rfl)) ⟨Nat.le_of_ble_eq_true rfl, Nat.le_of_ble_eq_true rfl⟩ ⟨Nat.zero_le _, Nat.zero_le _⟩ dX11_chain_83 (fun H locs hP hD hS => ?_)
                    obtain ⟨K_31, eK_33, hf⟩ := jn_i hf
                    have hj_32 : ∀ (H : Heap) (locs : List Loc) (ls : Array Slot), K_31 () = some (r, iY', sY') → va_P G.1 vwCl (gY G uY (va_up (va_up iY 0 0) 33 n_13) sY_15 tY jY) H → va_D A (gY G uY (va_up (va_up iY 0 0) 33 n_13) sY_15 tY jY) → va_S A s.heap H locs → lv_has ls 6 [(0, .ref (uY 0)), (3, .int v3_16), (4, .int v4_17), (5, .int v5_26)] → W p l e (RM 4) s m args below meth c H locs 0 0 QQ (F0 m 106 ls []) := by
                      intro  H locs ls hf hP hD hS hl
                      rw [eK_33] at hf
                      try dsimp only at hf
                      refine lv_iinc (v := (v5_26 + 1)) (lv' := [(5, .int (v5_26 + 1)), (0, .ref (uY 0)), (3, .int v3_16), (4, .int v4_17)]) X.hx X.hb dX11_chain_106 hl (k := 3) rfl rfl (by decide) rfl (fun ls hl => ?_)
                      refine lv_goto (tgt := 76) X.hx X.hb dX11_chain_109 (by decide) ?_
                      exact ih _ _ _ _ hf hP hD hS (lv_sub hl [1, 2, 3, 0] rfl)
                    refine lv_if_eq (tgt := 106) X.hx X.hb dX11_chain_86 (by decide) (fun hc_34 => ?_) (fun hc_34 => ?_)
                    · replace hf := if_t hf hc_34
                      exact hj_32 _ _ _ hf hP hD hS (lv_sub hl [0, 1, 2, 3] rfl)
                    · replace hf := if_f hf hc_34
                      refine lv_aload_n X.hx X.hb dX11_chain_89 rfl (lv_at hl 0 rfl) ?_
                      refine gf_X11_65 X hP 0 rfl (v := .ref (uY 32)) rfl dX11_chain_90 ?_
                      refine lv_iload X.hx X.hb dX11_chain_93 (lv_at hl 3 rfl) ?_
                      obtain ⟨hi_35, hf⟩ := ck_i hf
                      refine r_iald X hP 12 (f := (sY_15 31)) rfl hi_35 dX11_chain_95 ?_
                      refine lv_aload_n X.hx X.hb dX11_chain_96 rfl (lv_at hl 0 rfl) ?_
                      refine gf_X11_71 X hP 0 rfl (v := .int n_13) rfl dX11_chain_97 ?_
                      refine lv_iload X.hx X.hb dX11_chain_100 (lv_at hl 2 rfl) ?_
                      refine lv_isub X.hx X.hb dX11_chain_102 ?_
                      refine lv_icmp_eq (tgt := 112) X.hx X.hb dX11_chain_103 (by decide) (fun hc_36 => ?_) (fun hc_36 => ?_)
                      · replace hf := if_t hf hc_36
                        exact hj_20 _ _ _ _ hf hP hD hS (lv_sub hl [0, 2, 3] rfl)
                      · replace hf := if_f hf hc_36
                        exact hj_32 _ _ _ hf hP hD hS (lv_sub hl [0, 1, 2, 3] rfl)
                exact hlo_25 N _ _ _ _ hf hP hD hS (lv_sub hl [1, 2, 3, 0] rfl)
          exact hlo_14 N _ _ _ _ _ _ hf hP hD hS (lv_sub hl [2, 1, 0] rfl)
        · replace hf := if_f hf hc_11
          refine lv_iconst (v := (-1)) X.hx X.hb dX11_chain_45 (by decide) ?_
          cases hf
          subst hQ
          exact r_iret X hP hD hS dX11_chain_46
      · replace hf := if_t hf hc_7
        refine lv_iconst (v := (-1)) X.hx X.hb dX11_chain_26 (by decide) ?_
        cases hf
        subst hQ
        exact r_iret X hP hD hS dX11_chain_27

def f_X11_chainAt (N : Nat) (iY : Nat → Int32) (sY : Nat → Nat → Int32) (tY : Nat → Nat → Int64) (jY : Nat → Int64) (p1 : Int32) : Option (Int32 × (Nat → Int32)) :=
  bd (f_X11_isIn N p1 0 ((iY 33) - 1)) (fun r_1 => (if r_1 = 0 then some ((-1), (va_up iY 0 0)) else ck p1 7 (some (((sY 32) (ix p1)), (va_up iY 0 0)))))
set_option maxHeartbeats 4000000 in
set_option maxRecDepth 100000 in
theorem c_X11_chainAt (l : Launch) (G : GT) (N : Nat) (uY : Nat → Nat) (iY : Nat → Int32) (sY : Nat → Nat → Int32) (tY : Nat → Nat → Int64) (jY : Nat → Int64) (p1 : Int32) {r : Int32} {iY' : Nat → Int32} (hf : f_X11_chainAt N iY sY tY jY p1 = some (r, iY')) : CI l G yX11_chainAt cX11_chainAt 2 .int 2 [.ref (uY 0), .int p1] (gY G uY iY sY tY jY) r (gY G uY iY' sY tY jY) := by
  refine CI.of (by decide) (Nat.le_of_ble_eq_true rfl) ?_
  intro p e s m args below meth c A X hA hP hD hS ls hl
  have hl : lv_has ls 2 [(0, .ref (uY 0)), (1, .int p1)] := hl
  generalize hQ : MQ below (QI G A r (gY G uY iY' sY tY jY)) args s 0 0 A = QQ
  unfold f_X11_chainAt at hf
  refine lv_aload_n X.hx X.hb dX11_chainAt_0 rfl (lv_at hl 0 rfl) ?_
  refine lv_iconst (v := 0) X.hx X.hb dX11_chainAt_1 (by decide) ?_
  refine pf_X11_1 X hP hD hS 0 rfl rfl rfl (Nat.le_of_ble_eq_true rfl) (wo := (gY G uY (va_up iY 0 0) sY tY jY)) rfl dX11_chainAt_2 (fun H locs hP hD hS => ?_)
  refine lv_iload_n X.hx X.hb dX11_chainAt_5 rfl (lv_at hl 1 rfl) ?_
  refine lv_iconst (v := 0) X.hx X.hb dX11_chainAt_6 (by decide) ?_
  refine lv_aload_n X.hx X.hb dX11_chainAt_7 rfl (lv_at hl 0 rfl) ?_
  refine gf_X11_71 X hP 0 rfl (v := .int (iY 33)) rfl dX11_chainAt_8 ?_
  refine lv_iconst (v := 1) X.hx X.hb dX11_chainAt_11 (by decide) ?_
  refine lv_isub X.hx X.hb dX11_chainAt_12 ?_
  obtain ⟨r_1, hc_2, hf⟩ := bd_i hf
  refine r_cs0 (As := [.int p1, .int 0, .int ((iY 33) - 1)]) (rest := []) X sm_X11_189 (c_X11_isIn l G N p1 0 ((iY 33) - 1) hc_2) hP hD hS hA rfl hl.1 (lv_room (Nat.le_of_ble_eq_true rfl)) ⟨Nat.le_of_ble_eq_true rfl, Nat.le_of_ble_eq_true rfl⟩ ⟨Nat.zero_le _, Nat.zero_le _⟩ dX11_chainAt_13 (fun H locs hP hD hS => ?_)
  refine lv_if_eq (tgt := 28) X.hx X.hb dX11_chainAt_16 (by decide) (fun hc_3 => ?_) (fun hc_3 => ?_)
  · replace hf := if_t hf hc_3
    refine lv_iconst (v := (-1)) X.hx X.hb dX11_chainAt_28 (by decide) ?_
    cases hf
    subst hQ
    exact r_iret X hP hD hS dX11_chainAt_29
  · replace hf := if_f hf hc_3
    refine lv_aload_n X.hx X.hb dX11_chainAt_19 rfl (lv_at hl 0 rfl) ?_
    refine gf_X11_68 X hP 0 rfl (v := .ref (uY 33)) rfl dX11_chainAt_20 ?_
    refine lv_iload_n X.hx X.hb dX11_chainAt_23 rfl (lv_at hl 1 rfl) ?_
    obtain ⟨hi_4, hf⟩ := ck_i hf
    refine r_iald X hP 13 (f := (sY 32)) rfl hi_4 dX11_chainAt_24 ?_
    refine lv_goto (tgt := 29) X.hx X.hb dX11_chainAt_25 (by decide) ?_
    cases hf
    subst hQ
    exact r_iret X hP hD hS dX11_chainAt_29

