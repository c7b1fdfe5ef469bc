def f_X11_does (N : Nat) (iY : Nat → Int32) (sY : Nat → Nat → Int32) (tY : Nat → Nat → Int64) (jY : Nat → Int64) (p1 : Int32) (p2 : Int32) (p3 : Int32) (p4 : Int32) : Option (Int32 × (Nat → Nat → Int32)) :=
  jn (fun (z : (Int32) × (Nat → Nat → Int32)) => match z with | (x5_4, sY_5) => (if x5_4 ≤ 0 then some (0, sY_5) else some ((((10 : Int32) * p1) + x5_4), sY_5))) (fun K_1 => (if p1 = 0 then bd (f_X11_whyBuy N iY sY tY jY p2 p3 p4) (fun r_8 => (if r_8 = 0 then bd (f_X11_buys N iY sY tY jY p2 p3 p4) (fun sY_11 => K_1 (r_8, sY_11)) else K_1 (r_8, sY))) else (if p1 = 1 then bd (f_X11_whyNod N iY sY tY jY p2 p3) (fun r_14 => (if r_14 = 0 then bd (f_X11_nods N iY sY tY jY p2 p3) (fun sY_17 => K_1 (r_14, sY_17)) else K_1 (r_14, sY))) else (if p1 = 2 then bd (f_X11_whyVeil N iY sY tY jY p2) (fun r_20 => (if r_20 = 0 then bd (f_X11_veils N iY sY tY jY p2) (fun sY_23 => K_1 (r_20, sY_23)) else K_1 (r_20, sY))) else (if p1 = 3 then bd (f_X11_whyTell N iY sY tY jY p2 p3 p4) (fun r_26 => (if r_26 = 0 then bd (f_X11_meets N iY sY tY jY p3 p4) (fun sY_29 => K_1 (r_26, sY_29)) else K_1 (r_26, sY))) else (if (((sY 6) 131) + p2) ≤ 400 then bd (f_X11_goesOn N iY sY tY jY p2) (fun (r_32, sY_33) => K_1 (0, sY_33)) else some (41, sY)))))))
set_option maxHeartbeats 4000000 in
set_option maxRecDepth 100000 in
theorem c_X11_does (l : Launch) (G : GT) (N : Nat) (uY : Nat → Nat) (iY : Nat → Int32) (sY : Nat → Nat → Int32) (tY : Nat → Nat → Int64) (jY : Nat → Int64) (p1 : Int32) (p2 : Int32) (p3 : Int32) (p4 : Int32) {r : Int32} {sY' : Nat → Nat → Int32} (hf : f_X11_does N iY sY tY jY p1 p2 p3 p4 = some (r, sY')) : CI l G yX11_does cX11_does 6 .int 4 [.ref (uY 0), .int p1, .int p2, .int p3, .int p4] (gY G uY iY sY tY jY) r (gY G uY iY sY' tY jY) := by
  refine CI.of (by decide) (Nat.le_of_ble_eq_true rfl) ?_
  intro p e s m args below meth c A X hA hP hD hS ls hl
  have hl : lv_has ls 6 [(0, .ref (uY 0)), (1, .int p1), (2, .int p2), (3, .int p3), (4, .int p4)] := hl
  generalize hQ : MQ below (QI G A r (gY G uY iY sY' tY jY)) args s 0 0 A = QQ
  unfold f_X11_does at hf
  refine lv_iconst (v := 0) X.hx X.hb dX11_does_0 (by decide) ?_
  refine lv_istore (lv' := [(5, .int 0), (0, .ref (uY 0)), (1, .int p1), (2, .int p2), (3, .int p3), (4, .int p4)]) X.hx X.hb dX11_does_1 hl (by decide) rfl (fun ls hl => ?_)
  refine lv_iload_n X.hx X.hb dX11_does_3 rfl (lv_at hl 2 rfl) ?_
  obtain ⟨K_1, eK_3, hf⟩ := jn_i hf
  have hj_2 : ∀ (x5_4 : Int32) (sY_5 : Nat → Nat → Int32) (H : Heap) (locs : List Loc) (ls : Array Slot), K_1 (x5_4, sY_5) = some (r, sY') → va_P G.1 vwCl (gY G uY iY sY_5 tY jY) H → va_D A (gY G uY iY sY_5 tY jY) → va_S A s.heap H locs → lv_has ls 6 [(1, .int p1), (5, .int x5_4)] → W p l e (RM 4) s m args below meth c H locs 0 0 QQ (F0 m 154 ls []) := by
    intro x5_4 sY_5 H locs ls hf hP hD hS hl
    rw [eK_3] at hf
    try dsimp only at hf
    refine lv_iload X.hx X.hb dX11_does_154 (lv_at hl 1 rfl) ?_
    refine lv_if_le (tgt := 169) X.hx X.hb dX11_does_156 (by decide) (fun hc_6 => ?_) (fun hc_6 => ?_)
    · replace hf := if_t hf hc_6
      refine lv_iconst (v := 0) X.hx X.hb dX11_does_169 (by decide) ?_
      cases hf
      subst hQ
      exact r_iret X hP hD hS dX11_does_170
    · replace hf := if_f hf hc_6
      refine lv_bipush (v := 10) X.hx X.hb dX11_does_159 (by decide) ?_
      refine lv_iload_n X.hx X.hb dX11_does_161 rfl (lv_at hl 0 rfl) ?_
      refine lv_imul X.hx X.hb dX11_does_162 ?_
      refine lv_iload X.hx X.hb dX11_does_163 (lv_at hl 1 rfl) ?_
      refine lv_iadd X.hx X.hb dX11_does_165 ?_
      refine lv_goto (tgt := 170) X.hx X.hb dX11_does_166 (by decide) ?_
      cases hf
      subst hQ
      exact r_iret X hP hD hS dX11_does_170
  by_cases hc_7 : p1 = 0
  · replace hf := if_t hf hc_7
    refine lv_tableIn (tgt := 36) X.hx X.hb dX11_does_4 (by rw [hc_7]; decide) (by rw [hc_7]; decide) (by rw [hc_7]; rfl) (by decide) ?_
    refine lv_aload_n X.hx X.hb dX11_does_36 rfl (lv_at hl 1 rfl) ?_
    refine lv_iload_n X.hx X.hb dX11_does_37 rfl (lv_at hl 3 rfl) ?_
    refine lv_iload_n X.hx X.hb dX11_does_38 rfl (lv_at hl 4 rfl) ?_
    refine lv_iload X.hx X.hb dX11_does_39 (lv_at hl 5 rfl) ?_
    obtain ⟨r_8, hc_9, hf⟩ := bd_i hf
    refine r_wvi (As := [.int p2, .int p3, .int p4]) (rest := []) X sm_X11_306 (c_X11_whyBuy l G N uY iY sY tY jY p2 p3 p4 hc_9) hP hD hS hA 0 rfl rfl rfl hl.1 (lv_room (Nat.le_of_ble_eq_true rfl)) ⟨Nat.le_of_ble_eq_true rfl, Nat.le_of_ble_eq_true rfl⟩ ⟨Nat.zero_le _, Nat.zero_le _⟩ dX11_does_41 (fun H locs hP hD hS => ?_)
    refine lv_istore (lv' := [(5, .int r_8), (0, .ref (uY 0)), (1, .int p1), (2, .int p2), (3, .int p3), (4, .int p4)]) X.hx X.hb dX11_does_44 hl (by decide) rfl (fun ls hl => ?_)
    refine lv_iload X.hx X.hb dX11_does_46 (lv_at hl 0 rfl) ?_
    refine lv_if_ne (tgt := 154) X.hx X.hb dX11_does_48 (by decide) (fun hc_10 => ?_) (fun hc_10 => ?_)
    · replace hf := if_f hf hc_10
      exact hj_2 _ _ _ _ _ hf hP hD hS (lv_sub hl [2, 0] rfl)
    · replace hf := if_t hf hc_10
      refine lv_aload_n X.hx X.hb dX11_does_51 rfl (lv_at hl 1 rfl) ?_
      refine lv_iload_n X.hx X.hb dX11_does_52 rfl (lv_at hl 3 rfl) ?_
      refine lv_iload_n X.hx X.hb dX11_does_53 rfl (lv_at hl 4 rfl) ?_
      refine lv_iload X.hx X.hb dX11_does_54 (lv_at hl 5 rfl) ?_
      obtain ⟨sY_11, hc_12, hf⟩ := bd_i hf
      refine r_wvv (As := [.int p2, .int p3, .int p4]) (rest := []) X sm_X11_313 (c_X11_buys l G N uY iY sY tY jY p2 p3 p4 hc_12) hP hD hS hA 0 rfl rfl rfl hl.1 (lv_room (Nat.le_of_ble_eq_true rfl)) ⟨Nat.le_of_ble_eq_true rfl, Nat.le_of_ble_eq_true rfl⟩ ⟨Nat.zero_le _, Nat.zero_le _⟩ dX11_does_56 (fun H locs hP hD hS => ?_)
      refine lv_goto (tgt := 154) X.hx X.hb dX11_does_59 (by decide) ?_
      exact hj_2 _ _ _ _ _ hf hP hD hS (lv_sub hl [2, 0] rfl)
  replace hf := if_f hf hc_7
  by_cases hc_13 : p1 = 1
  · replace hf := if_t hf hc_13
    refine lv_tableIn (tgt := 62) X.hx X.hb dX11_does_4 (by rw [hc_13]; decide) (by rw [hc_13]; decide) (by rw [hc_13]; rfl) (by decide) ?_
    refine lv_aload_n X.hx X.hb dX11_does_62 rfl (lv_at hl 1 rfl) ?_
    refine lv_iload_n X.hx X.hb dX11_does_63 rfl (lv_at hl 3 rfl) ?_
    refine lv_iload_n X.hx X.hb dX11_does_64 rfl (lv_at hl 4 rfl) ?_
    obtain ⟨r_14, hc_15, hf⟩ := bd_i hf
    refine r_wvi (As := [.int p2, .int p3]) (rest := []) X sm_X11_317 (c_X11_whyNod l G N uY iY sY tY jY p2 p3 hc_15) hP hD hS hA 0 rfl rfl rfl hl.1 (lv_room (Nat.le_of_ble_eq_true rfl)) ⟨Nat.le_of_ble_eq_true rfl, Nat.le_of_ble_eq_true rfl⟩ ⟨Nat.zero_le _, Nat.zero_le _⟩ dX11_does_65 (fun H locs hP hD hS => ?_)
    refine lv_istore (lv' := [(5, .int r_14), (0, .ref (uY 0)), (1, .int p1), (2, .int p2), (3, .int p3), (4, .int p4)]) X.hx X.hb dX11_does_68 hl (by decide) rfl (fun ls hl => ?_)
    refine lv_iload X.hx X.hb dX11_does_70 (lv_at hl 0 rfl) ?_
    refine lv_if_ne (tgt := 154) X.hx X.hb dX11_does_72 (by decide) (fun hc_16 => ?_) (fun hc_16 => ?_)
    · replace hf := if_f hf hc_16
      exact hj_2 _ _ _ _ _ hf hP hD hS (lv_sub hl [2, 0] rfl)
    · replace hf := if_t hf hc_16
      refine lv_aload_n X.hx X.hb dX11_does_75 rfl (lv_at hl 1 rfl) ?_
      refine lv_iload_n X.hx X.hb dX11_does_76 rfl (lv_at hl 3 rfl) ?_
      refine lv_iload_n X.hx X.hb dX11_does_77 rfl (lv_at hl 4 rfl) ?_
      obtain ⟨sY_17, hc_18, hf⟩ := bd_i hf
      refine r_wvv (As := [.int p2, .int p3]) (rest := []) X sm_X11_320 (c_X11_nods l G N uY iY sY tY jY p2 p3 hc_18) hP hD hS hA 0 rfl rfl rfl hl.1 (lv_room (Nat.le_of_ble_eq_true rfl)) ⟨Nat.le_of_ble_eq_true rfl, Nat.le_of_ble_eq_true rfl⟩ ⟨Nat.zero_le _, Nat.zero_le _⟩ dX11_does_78 (fun H locs hP hD hS => ?_)
      refine lv_goto (tgt := 154) X.hx X.hb dX11_does_81 (by decide) ?_
      exact hj_2 _ _ _ _ _ hf hP hD hS (lv_sub hl [2, 0] rfl)
  replace hf := if_f hf hc_13
  by_cases hc_19 : p1 = 2
  · replace hf := if_t hf hc_19
    refine lv_tableIn (tgt := 84) X.hx X.hb dX11_does_4 (by rw [hc_19]; decide) (by rw [hc_19]; decide) (by rw [hc_19]; rfl) (by decide) ?_
    refine lv_aload_n X.hx X.hb dX11_does_84 rfl (lv_at hl 1 rfl) ?_
    refine lv_iload_n X.hx X.hb dX11_does_85 rfl (lv_at hl 3 rfl) ?_
    obtain ⟨r_20, hc_21, hf⟩ := bd_i hf
    refine r_wvi (As := [.int p2]) (rest := []) X sm_X11_323 (c_X11_whyVeil l G N uY iY sY tY jY p2 hc_21) hP hD hS hA 0 rfl rfl rfl hl.1 (lv_room (Nat.le_of_ble_eq_true rfl)) ⟨Nat.le_of_ble_eq_true rfl, Nat.le_of_ble_eq_true rfl⟩ ⟨Nat.zero_le _, Nat.zero_le _⟩ dX11_does_86 (fun H locs hP hD hS => ?_)
    refine lv_istore (lv' := [(5, .int r_20), (0, .ref (uY 0)), (1, .int p1), (2, .int p2), (3, .int p3), (4, .int p4)]) X.hx X.hb dX11_does_89 hl (by decide) rfl (fun ls hl => ?_)
    refine lv_iload X.hx X.hb dX11_does_91 (lv_at hl 0 rfl) ?_
    refine lv_if_ne (tgt := 154) X.hx X.hb dX11_does_93 (by decide) (fun hc_22 => ?_) (fun hc_22 => ?_)
    · replace hf := if_f hf hc_22
      exact hj_2 _ _ _ _ _ hf hP hD hS (lv_sub hl [2, 0] rfl)
    · replace hf := if_t hf hc_22
      refine lv_aload_n X.hx X.hb dX11_does_96 rfl (lv_at hl 1 rfl) ?_
      refine lv_iload_n X.hx X.hb dX11_does_97 rfl (lv_at hl 3 rfl) ?_
      obtain ⟨sY_23, hc_24, hf⟩ := bd_i hf
      refine r_wvv (As := [.int p2]) (rest := []) X sm_X11_326 (c_X11_veils l G N uY iY sY tY jY p2 hc_24) hP hD hS hA 0 rfl rfl rfl hl.1 (lv_room (Nat.le_of_ble_eq_true rfl)) ⟨Nat.le_of_ble_eq_true rfl, Nat.le_of_ble_eq_true rfl⟩ ⟨Nat.zero_le _, Nat.zero_le _⟩ dX11_does_98 (fun H locs hP hD hS => ?_)
      refine lv_goto (tgt := 154) X.hx X.hb dX11_does_101 (by decide) ?_
      exact hj_2 _ _ _ _ _ hf hP hD hS (lv_sub hl [2, 0] rfl)
  replace hf := if_f hf hc_19
  by_cases hc_25 : p1 = 3
  · replace hf := if_t hf hc_25
    refine lv_tableIn (tgt := 104) X.hx X.hb dX11_does_4 (by rw [hc_25]; decide) (by rw [hc_25]; decide) (by rw [hc_25]; rfl) (by decide) ?_
    refine lv_aload_n X.hx X.hb dX11_does_104 rfl (lv_at hl 1 rfl) ?_
    refine lv_iload_n X.hx X.hb dX11_does_105 rfl (lv_at hl 3 rfl) ?_
    refine lv_iload_n X.hx X.hb dX11_does_106 rfl (lv_at hl 4 rfl) ?_
    refine lv_iload X.hx X.hb dX11_does_107 (lv_at hl 5 rfl) ?_
    obtain ⟨r_26, hc_27, hf⟩ := bd_i hf
    refine r_wvi (As := [.int p2, .int p3, .int p4]) (rest := []) X sm_X11_329 (c_X11_whyTell l G N uY iY sY tY jY p2 p3 p4 hc_27) hP hD hS hA 0 rfl rfl rfl hl.1 (lv_room (Nat.le_of_ble_eq_true rfl)) ⟨Nat.le_of_ble_eq_true rfl, Nat.le_of_ble_eq_true rfl⟩ ⟨Nat.zero_le _, Nat.zero_le _⟩ dX11_does_109 (fun H locs hP hD hS => ?_)
    refine lv_istore (lv' := [(5, .int r_26), (0, .ref (uY 0)), (1, .int p1), (2, .int p2), (3, .int p3), (4, .int p4)]) X.hx X.hb dX11_does_112 hl (by decide) rfl (fun ls hl => ?_)
    refine lv_iload X.hx X.hb dX11_does_114 (lv_at hl 0 rfl) ?_
    refine lv_if_ne (tgt := 154) X.hx X.hb dX11_does_116 (by decide) (fun hc_28 => ?_) (fun hc_28 => ?_)
    · replace hf := if_f hf hc_28
      exact hj_2 _ _ _ _ _ hf hP hD hS (lv_sub hl [2, 0] rfl)
    · replace hf := if_t hf hc_28
      refine lv_aload_n X.hx X.hb dX11_does_119 rfl (lv_at hl 1 rfl) ?_
      refine lv_iload_n X.hx X.hb dX11_does_120 rfl (lv_at hl 4 rfl) ?_
      refine lv_iload X.hx X.hb dX11_does_121 (lv_at hl 5 rfl) ?_
      obtain ⟨sY_29, hc_30, hf⟩ := bd_i hf
      refine r_wvv (As := [.int p3, .int p4]) (rest := []) X sm_X11_296 (c_X11_meets l G N uY iY sY tY jY p3 p4 hc_30) hP hD hS hA 0 rfl rfl rfl hl.1 (lv_room (Nat.le_of_ble_eq_true rfl)) ⟨Nat.le_of_ble_eq_true rfl, Nat.le_of_ble_eq_true rfl⟩ ⟨Nat.zero_le _, Nat.zero_le _⟩ dX11_does_123 (fun H locs hP hD hS => ?_)
      refine lv_goto (tgt := 154) X.hx X.hb dX11_does_126 (by decide) ?_
      exact hj_2 _ _ _ _ _ hf hP hD hS (lv_sub hl [2, 0] rfl)
  replace hf := if_f hf hc_25
  refine r_tbd (tgt := 129) X.hx X.hb dX11_does_4 [0, 1, 2, 3] (by decide) (List.forall_mem_cons.mpr ⟨lv_neT hc_7 rfl, List.forall_mem_cons.mpr ⟨lv_neT hc_13 rfl, List.forall_mem_cons.mpr ⟨lv_neT hc_19 rfl, List.forall_mem_cons.mpr ⟨lv_neT hc_25 rfl, fun _ h => absurd h List.not_mem_nil⟩⟩⟩⟩) (by decide) ?_
  refine lv_aload_n X.hx X.hb dX11_does_129 rfl (lv_at hl 1 rfl) ?_
  refine gf_X11_33 X hP 0 rfl (v := .ref (uY 7)) rfl dX11_does_130 ?_
  refine lv_sipush (v := 131) X.hx X.hb dX11_does_133 (by decide) ?_
  refine r_iald X hP 2 (f := (sY 6)) rfl (vp_c rfl) dX11_does_136 ?_
  refine W.eq (g2 := F0 m 137 ls [.int ((sY 6) 131)]) rfl ?_
  refine lv_iload_n X.hx X.hb dX11_does_137 rfl (lv_at hl 3 rfl) ?_
  refine lv_iadd X.hx X.hb dX11_does_138 ?_
  refine lv_sipush (v := 400) X.hx X.hb dX11_does_139 (by decide) ?_
  refine lv_icmp_le (tgt := 148) X.hx X.hb dX11_does_142 (by decide) (fun hc_31 => ?_) (fun hc_31 => ?_)
  · replace hf := if_t hf hc_31
    refine lv_aload_n X.hx X.hb dX11_does_148 rfl (lv_at hl 1 rfl) ?_
    refine lv_iload_n X.hx X.hb dX11_does_149 rfl (lv_at hl 3 rfl) ?_
    obtain ⟨⟨r_32, sY_33⟩, hc_34, hf⟩ := bd_i hf
    refine r_wvi (As := [.int p2]) (rest := []) X sm_X11_332 (c_X11_goesOn l G N uY iY sY tY jY p2 hc_34) hP hD hS hA 0 rfl rfl rfl hl.1 (lv_room (Nat.le_of_ble_eq_true rfl)) ⟨Nat.le_of_ble_eq_true rfl, Nat.le_of_ble_eq_true rfl⟩ ⟨Nat.zero_le _, Nat.zero_le _⟩ dX11_does_150 (fun H locs hP hD hS => ?_)
    refine lv_pop X.hx X.hb dX11_does_153 rfl ?_
    exact hj_2 _ _ _ _ _ hf hP hD hS (lv_sub hl [2, 0] rfl)
  · replace hf := if_f hf hc_31
    refine lv_bipush (v := 41) X.hx X.hb dX11_does_145 (by decide) ?_
    cases hf
    subst hQ
    exact r_iret X hP hD hS dX11_does_147

def f_X11_book_250 (N : Nat) (iY : Nat → Int32) (tY : Nat → Nat → Int64) (jY : Nat → Int64) (v1 : Int32) (v2 : Int32) (K_30 : ((Nat → Int32) × (Nat → Nat → Int32)) → Option (Int32 × (Nat → Int32) × (Nat → Nat → Int32) × (Nat → Int64))) : Nat → (Nat → Nat → Int32) → (Int32) → Option (Int32 × (Nat → Int32) × (Nat → Nat → Int32) × (Nat → Int64))
  | 0, _, _ => none
  | k + 1, sY, v3 => (if (145 : Int32) ≤ v3 then K_30 (iY, sY) else ck v3 145 (ck (((145 : Int32) * ((iY 23) - 1)) + v3) 1160 (nv (upd (sY 21) (ix (((145 : Int32) * ((iY 23) - 1)) + v3)) ((sY 22) (ix v3))) (fun g_53 => f_X11_book_250 N iY tY jY v1 v2 K_30 k (va_up sY 21 g_53) (v3 + 1)))))
def f_X11_book_111 (N : Nat) (iY : Nat → Int32) (tY : Nat → Nat → Int64) (jY : Nat → Int64) (v1 : Int32) (K_21 : ((Int32) × (Nat → Nat → Int32)) → Option (Int32 × (Nat → Int32) × (Nat → Nat → Int32) × (Nat → Int64))) : Nat → (Nat → Nat → Int32) → (Int32) → (Int32) → Option (Int32 × (Nat → Int32) × (Nat → Nat → Int32) × (Nat → Int64))
  | 0, _, _, _ => none
  | k + 1, sY, v2, v3 => (if (iY 39) ≤ v3 then K_21 (v2, sY) else (if (0 : Int32) ≤ v2 then K_21 (v2, sY) else ck ((4 : Int32) * v3) 160 (ck (((4 : Int32) * v3) + 1) 160 (ck (((4 : Int32) * v3) + 2) 160 (ck (((4 : Int32) * v3) + 3) 160 (bd (f_X11_does N iY sY tY jY ((sY 8) (ix ((4 : Int32) * v3))) ((sY 8) (ix (((4 : Int32) * v3) + 1))) ((sY 8) (ix (((4 : Int32) * v3) + 2))) ((sY 8) (ix (((4 : Int32) * v3) + 3)))) (fun (r_81, sY_82) => nv (upd (sY_82 40) 0 r_81) (fun g_84 => jn (fun (z : (Int32) × (Nat → Nat → Int32)) => match z with | (x2_88, sY_89) => f_X11_book_111 N iY tY jY v1 K_21 k sY_89 x2_88 (v3 + 1)) (fun K_85 => (if (g_84 0) ≤ 0 then nv (upd g_84 1 ((g_84 1) + 1)) (fun g_91 => K_85 (v2, (va_up sY_82 40 g_91))) else K_85 (v3, (va_up sY_82 40 g_84))))))))))))
def f_X11_book_89 (N : Nat) (iY : Nat → Int32) (tY : Nat → Nat → Int64) (jY : Nat → Int64) (v1 : Int32) (K_17 : ((Nat → Nat → Int32)) → Option (Int32 × (Nat → Int32) × (Nat → Nat → Int32) × (Nat → Int64))) : Nat → (Nat → Nat → Int32) → (Int32) → Option (Int32 × (Nat → Int32) × (Nat → Nat → Int32) × (Nat → Int64))
  | 0, _, _ => none
  | k + 1, sY, v2 => (if (4 : Int32) ≤ v2 then K_17 sY else ck v2 4 (nv (upd (sY 40) (ix v2) 0) (fun g_100 => f_X11_book_89 N iY tY jY v1 K_17 k (va_up sY 40 g_100) (v2 + 1))))
def f_X11_book_39 (N : Nat) (tY : Nat → Nat → Int64) (v1 : Int32) (K_101 : ((Nat → Int32) × (Nat → Nat → Int32) × (Nat → Int64)) → Option (Int32 × (Nat → Int32) × (Nat → Nat → Int32) × (Nat → Int64))) (K_9 : ((Nat → Int32) × (Nat → Nat → Int32) × (Nat → Int64)) → Option (Int32 × (Nat → Int32) × (Nat → Nat → Int32) × (Nat → Int64))) : Nat → (Nat → Int32) → (Nat → Nat → Int32) → (Nat → Int64) → Option (Int32 × (Nat → Int32) × (Nat → Nat → Int32) × (Nat → Int64))
  | 0, _, _, _ => none
  | k + 1, iY, sY, jY => (if (iY 11) = 0 then K_9 (iY, sY, jY) else bd (f_X11_bookLine N iY sY tY jY) (fun (r_124, iY_125, sY_126, jY_127) => (if r_124 = 0 then K_101 (iY_125, sY_126, jY_127) else bd (f_X11_sign N iY_125 sY_126 tY jY_127 59) (fun (r_130, iY_131, jY_132) => (if r_130 = 0 then K_101 (iY_131, sY_126, jY_132) else f_X11_book_39 N tY v1 K_101 K_9 k (va_up iY_131 39 ((iY_131 39) + 1)) sY_126 jY_132)))))
def f_X11_book (N : Nat) (iY : Nat → Int32) (sY : Nat → Nat → Int32) (tY : Nat → Nat → Int64) (jY : Nat → Int64) (p1 : Int32) : Option (Int32 × (Nat → Int32) × (Nat → Nat → Int32) × (Nat → Int64)) :=
  bd (f_X11_isIn N p1 0 1) (fun r_1 => (if r_1 = 0 then some ((-1000), (va_up iY 0 0), sY, jY) else bd (f_X11_taken N (va_up iY 0 0) sY tY jY 400) (fun iY_4 => bd (f_X11_next N (va_up (va_up iY_4 15 0) 39 0) sY tY jY) (fun (iY_6, jY_7) => jn (fun (z : (Nat → Int32) × (Nat → Nat → Int32) × (Nat → Int64)) => match z with | (iY_12, sY_13, jY_14) => bd (f_X11_tries N iY_12 sY_13 tY jY_14) (fun sY_15 => jn (fun (z : (Nat → Nat → Int32)) => match z with | sY_20 => jn (fun (z : (Int32) × (Nat → Nat → Int32)) => match z with | (x2_24, sY_25) => nv (upd (sY_25 40) 2 ((sY_25 6) 131)) (fun g_26 => bd (f_X11_fed N iY_12 (va_up sY_25 40 g_26) tY jY_14) (fun r_27 => nv (upd g_26 3 r_27) (fun g_29 => jn (fun (z : (Nat → Int32) × (Nat → Nat → Int32)) => match z with | (iY_33, sY_34) => (if p1 = 0 then bd (f_X11_back N iY_33 sY_34 tY jY_14) (fun sY_36 => some (x2_24, iY_33, sY_36, jY_14)) else some (x2_24, iY_33, sY_34, jY_14))) (fun K_30 => (if p1 = 1 then (if (g_29 1) ≤ 0 then K_30 ((va_up iY_12 41 1), (va_up sY_25 40 g_29)) else bd (f_X11_keep N (va_up iY_12 41 1) (va_up sY_25 40 g_29) tY jY_14) (fun (iY_40, sY_41) => f_X11_book_250 N iY_40 tY jY_14 p1 x2_24 K_30 N sY_41 0)) else K_30 ((va_up iY_12 41 1), (va_up sY_25 40 g_29)))))))) (fun K_21 => f_X11_book_111 N iY_12 tY jY_14 p1 K_21 N sY_20 (-1) 0)) (fun K_17 => f_X11_book_89 N iY_12 tY jY_14 p1 K_17 N sY_15 0))) (fun K_9 => jn (fun (z : (Nat → Int32) × (Nat → Nat → Int32) × (Nat → Int64)) => match z with | (iY_104, sY_105, jY_106) => some (((-2 : Int32) - (iY_104 16)), iY_104, sY_105, jY_106)) (fun K_101 => f_X11_book_39 N tY p1 K_101 K_9 N iY_6 sY jY_7))))))
set_option maxHeartbeats 4000000 in
set_option maxRecDepth 100000 in
theorem c_X11_book (l : Launch) (G : GT) (N : Nat) (uY : Nat → Nat) (iY : Nat → Int32) (sY : Nat → Nat → Int32) (tY : Nat → Nat → Int64) (jY : Nat → Int64) (p1 : Int32) {r : Int32} {iY' : Nat → Int32} {sY' : Nat → Nat → Int32} {jY' : Nat → Int64} (hf : f_X11_book N iY sY tY jY p1 = some (r, iY', sY', jY')) : CI l G yX11_book cX11_book 4 .int 5 [.ref (uY 0), .int p1] (gY G uY iY sY tY jY) r (gY G uY iY' sY' tY jY') := by
  refine CI.of (by decide) (Nat.le_of_ble_eq_true rfl) ?_
  intro p e s m args below meth c A X hA hP hD hS ls hl
  have hl : lv_has ls 4 [(0, .ref (uY 0)), (1, .int p1)] := hl
  generalize hQ : MQ below (QI G A r (gY G uY iY' sY' tY jY')) args s 0 0 A = QQ
  unfold f_X11_book at hf
  refine lv_aload_n X.hx X.hb dX11_book_0 rfl (lv_at hl 0 rfl) ?_
  refine lv_iconst (v := 0) X.hx X.hb dX11_book_1 (by decide) ?_
  refine pf_X11_1 X hP hD hS 0 rfl rfl rfl (Nat.le_of_ble_eq_true rfl) (wo := (gY G uY (va_up iY 0 0) sY tY jY)) rfl dX11_book_2 (fun H locs hP hD hS => ?_)
  refine lv_iload_n X.hx X.hb dX11_book_5 rfl (lv_at hl 1 rfl) ?_
  refine lv_iconst (v := 0) X.hx X.hb dX11_book_6 (by decide) ?_
  refine lv_iconst (v := 1) X.hx X.hb dX11_book_7 (by decide) ?_
  obtain ⟨r_1, hc_2, hf⟩ := bd_i hf
  refine r_cs0 (As := [.int p1, .int 0, .int 1]) (rest := []) X sm_X11_189 (c_X11_isIn l G N p1 0 1 hc_2) hP hD hS hA rfl hl.1 (lv_room (Nat.le_of_ble_eq_true rfl)) ⟨Nat.le_of_ble_eq_true rfl, Nat.le_of_ble_eq_true rfl⟩ ⟨Nat.zero_le _, Nat.zero_le _⟩ dX11_book_8 (fun H locs hP hD hS => ?_)
  refine lv_if_ne (tgt := 18) X.hx X.hb dX11_book_11 (by decide) (fun hc_3 => ?_) (fun hc_3 => ?_)
  · replace hf := if_f hf hc_3
    refine lv_aload_n X.hx X.hb dX11_book_18 rfl (lv_at hl 0 rfl) ?_
    refine lv_sipush (v := 400) X.hx X.hb dX11_book_19 (by decide) ?_
    obtain ⟨iY_4, hc_5, hf⟩ := bd_i hf
    refine r_wvv (As := [.int 400]) (rest := []) X sm_X11_247 (c_X11_taken l G N uY (va_up iY 0 0) sY tY jY 400 hc_5) hP hD hS hA 0 rfl rfl rfl hl.1 (lv_room (Nat.le_of_ble_eq_true rfl)) ⟨Nat.le_of_ble_eq_true rfl, Nat.le_of_ble_eq_true rfl⟩ ⟨Nat.zero_le _, Nat.zero_le _⟩ dX11_book_22 (fun H locs hP hD hS => ?_)
    refine lv_aload_n X.hx X.hb dX11_book_25 rfl (lv_at hl 0 rfl) ?_
    refine lv_iconst (v := 0) X.hx X.hb dX11_book_26 (by decide) ?_
    refine pf_X11_174 X hP hD hS 0 rfl rfl rfl (Nat.le_of_ble_eq_true rfl) (wo := (gY G uY (va_up iY_4 15 0) sY tY jY)) rfl dX11_book_27 (fun H locs hP hD hS => ?_)
    refine lv_aload_n X.hx X.hb dX11_book_30 rfl (lv_at hl 0 rfl) ?_
    refine lv_iconst (v := 0) X.hx X.hb dX11_book_31 (by decide) ?_
    refine pf_X11_418 X hP hD hS 0 rfl rfl rfl (Nat.le_of_ble_eq_true rfl) (wo := (gY G uY (va_up (va_up iY_4 15 0) 39 0) sY tY jY)) rfl dX11_book_32 (fun H locs hP hD hS => ?_)
    refine lv_aload_n X.hx X.hb dX11_book_35 rfl (lv_at hl 0 rfl) ?_
    obtain ⟨⟨iY_6, jY_7⟩, hc_8, hf⟩ := bd_i hf
    refine r_wvv (As := []) (rest := []) X sm_X11_186 (c_X11_next l G N uY (va_up (va_up iY_4 15 0) 39 0) sY tY jY hc_8) hP hD hS hA 0 rfl rfl rfl hl.1 (lv_room (Nat.le_of_ble_eq_true rfl)) ⟨Nat.le_of_ble_eq_true rfl, Nat.le_of_ble_eq_true rfl⟩ ⟨Nat.zero_le _, Nat.zero_le _⟩ dX11_book_36 (fun H locs hP hD hS => ?_)
    obtain ⟨K_9, eK_11, hf⟩ := jn_i hf
    have hj_10 : ∀ (iY_12 : Nat → Int32) (sY_13 : Nat → Nat → Int32) (jY_14 : Nat → Int64) (H : Heap) (locs : List Loc) (ls : Array Slot), K_9 (iY_12, sY_13, jY_14) = some (r, iY', sY', jY') → va_P G.1 vwCl (gY G uY iY_12 sY_13 tY jY_14) H → va_D A (gY G uY iY_12 sY_13 tY jY_14) → va_S A s.heap H locs → lv_has ls 4 [(0, .ref (uY 0)), (1, .int p1)] → W p l e (RM 5) s m args below meth c H locs 0 0 QQ (F0 m 83 ls []) := by
      intro iY_12 sY_13 jY_14 H locs ls hf hP hD hS hl
      rw [eK_11] at hf
      try dsimp only at hf
      refine lv_aload_n X.hx X.hb dX11_book_83 rfl (lv_at hl 0 rfl) ?_
      obtain ⟨sY_15, hc_16, hf⟩ := bd_i hf
      refine r_wvv (As := []) (rest := []) X sm_X11_412 (c_X11_tries l G N uY iY_12 sY_13 tY jY_14 hc_16) hP hD hS hA 0 rfl rfl rfl hl.1 (lv_room (Nat.le_of_ble_eq_true rfl)) ⟨Nat.le_of_ble_eq_true rfl, Nat.le_of_ble_eq_true rfl⟩ ⟨Nat.zero_le _, Nat.zero_le _⟩ dX11_book_84 (fun H locs hP hD hS => ?_)
      refine lv_iconst (v := 0) X.hx X.hb dX11_book_87 (by decide) ?_
      refine lv_istore_n (lv' := [(2, .int 0), (0, .ref (uY 0)), (1, .int p1)]) X.hx X.hb dX11_book_88 rfl hl (by decide) rfl (fun ls hl => ?_)
      obtain ⟨K_17, eK_19, hf⟩ := jn_i hf
      have hj_18 : ∀ (sY_20 : Nat → Nat → Int32) (H : Heap) (locs : List Loc) (ls : Array Slot), K_17 sY_20 = some (r, iY', sY', jY') → va_P G.1 vwCl (gY G uY iY_12 sY_20 tY jY_14) H → va_D A (gY G uY iY_12 sY_20 tY jY_14) → va_S A s.heap H locs → lv_has ls 4 [(0, .ref (uY 0)), (1, .int p1)] → W p l e (RM 5) s m args below meth c H locs 0 0 QQ (F0 m 107 ls []) := by
        intro sY_20 H locs ls hf hP hD hS hl
        rw [eK_19] at hf
        try dsimp only at hf
        refine lv_iconst (v := (-1)) X.hx X.hb dX11_book_107 (by decide) ?_
        refine lv_istore_n (lv' := [(2, .int (-1)), (0, .ref (uY 0)), (1, .int p1)]) X.hx X.hb dX11_book_108 rfl hl (by decide) rfl (fun ls hl => ?_)
        refine lv_iconst (v := 0) X.hx X.hb dX11_book_109 (by decide) ?_
        refine lv_istore_n (lv' := [(3, .int 0), (2, .int (-1)), (0, .ref (uY 0)), (1, .int p1)]) X.hx X.hb dX11_book_110 rfl hl (by decide) rfl (fun ls hl => ?_)
        obtain ⟨K_21, eK_23, hf⟩ := jn_i hf
        have hj_22 : ∀ (x2_24 : Int32) (sY_25 : Nat → Nat → Int32) (H : Heap) (locs : List Loc) (ls : Array Slot), K_21 (x2_24, sY_25) = some (r, iY', sY', jY') → va_P G.1 vwCl (gY G uY iY_12 sY_25 tY jY_14) H → va_D A (gY G uY iY_12 sY_25 tY jY_14) → va_S A s.heap H locs → lv_has ls 4 [(0, .ref (uY 0)), (1, .int p1), (2, .int x2_24)] → W p l e (RM 5) s m args below meth c H locs 0 0 QQ (F0 m 201 ls []) := by
          intro x2_24 sY_25 H locs ls hf hP hD hS hl
          rw [eK_23] at hf
          try dsimp only at hf
          refine lv_aload_n X.hx X.hb dX11_book_201 rfl (lv_at hl 0 rfl) ?_
          refine gf_X11_77 X hP 0 rfl (v := .ref (uY 41)) rfl dX11_book_202 ?_
          refine lv_iconst (v := 2) X.hx X.hb dX11_book_205 (by decide) ?_
          refine lv_aload_n X.hx X.hb dX11_book_206 rfl (lv_at hl 0 rfl) ?_
          refine gf_X11_33 X hP 0 rfl (v := .ref (uY 7)) rfl dX11_book_207 ?_
          refine lv_sipush (v := 131) X.hx X.hb dX11_book_210 (by decide) ?_
          refine r_iald X hP 2 (f := (sY_25 6)) rfl (vp_c rfl) dX11_book_213 ?_
          refine W.eq (g2 := F0 m 214 ls [.int ((sY_25 6) 131), .int 2, .ref (uY 41)]) rfl ?_
          obtain ⟨g_26, eg_26, hf⟩ := nv_i hf
          refine r_iast X hP hD hS 15 (f := (sY_25 40)) rfl (vp_c rfl) (wo := (gY G uY iY_12 (va_up sY_25 40 g_26) tY jY_14)) (by subst eg_26; rfl) dX11_book_214 (fun H locs hP hD hS => ?_)
          refine lv_aload_n X.hx X.hb dX11_book_215 rfl (lv_at hl 0 rfl) ?_
          refine gf_X11_77 X hP 0 rfl (v := .ref (uY 41)) rfl dX11_book_216 ?_
          refine lv_iconst (v := 3) X.hx X.hb dX11_book_219 (by decide) ?_
          refine lv_aload_n X.hx X.hb dX11_book_220 rfl (lv_at hl 0 rfl) ?_
          obtain ⟨r_27, hc_28, hf⟩ := bd_i hf
          refine r_wvi (As := []) (rest := [.int 3, .ref (uY 41)]) X sm_X11_287 (c_X11_fed l G N uY iY_12 (va_up sY_25 40 g_26) tY jY_14 hc_28) hP hD hS hA 0 rfl rfl rfl hl.1 (lv_room (Nat.le_of_ble_eq_true rfl)) ⟨Nat.le_of_ble_eq_true rfl, Nat.le_of_ble_eq_true rfl⟩ ⟨Nat.zero_le _, Nat.zero_le _⟩ dX11_book_221 (fun H locs hP hD hS => ?_)
          obtain ⟨g_29, eg_29, hf⟩ := nv_i hf
          refine r_iast X hP hD hS 15 (f := g_26) rfl (vp_c rfl) (wo := (gY G uY iY_12 (va_up sY_25 40 g_29) tY jY_14)) (by subst eg_29; rfl) dX11_book_224 (fun H locs hP hD hS => ?_)
          refine lv_aload_n X.hx X.hb dX11_book_225 rfl (lv_at hl 0 rfl) ?_
          refine lv_iconst (v := 1) X.hx X.hb dX11_book_226 (by decide) ?_
          refine pf_X11_428 X hP hD hS 0 rfl (by decide) (by decide) (Nat.le_of_ble_eq_true rfl) (wo := (gY G uY (va_up iY_12 41 1) (va_up sY_25 40 g_29) tY jY_14)) rfl dX11_book_227 (fun H locs hP hD hS => ?_)
          refine lv_iload_n X.hx X.hb dX11_book_230 rfl (lv_at hl 1 rfl) ?_
          refine lv_iconst (v := 1) X.hx X.hb dX11_book_231 (by decide) ?_
          obtain ⟨K_30, eK_32, hf⟩ := jn_i hf
          have hj_31 : ∀ (iY_33 : Nat → Int32) (sY_34 : Nat → Nat → Int32) (H : Heap) (locs : List Loc) (ls : Array Slot), K_30 (iY_33, sY_34) = some (r, iY', sY', jY') → va_P G.1 vwCl (gY G uY iY_33 sY_34 tY jY_14) H → va_D A (gY G uY iY_33 sY_34 tY jY_14) → va_S A s.heap H locs → lv_has ls 4 [(0, .ref (uY 0)), (1, .int p1), (2, .int x2_24)] → W p l e (RM 5) s m args below meth c H locs 0 0 QQ (F0 m 286 ls []) := by
            intro iY_33 sY_34 H locs ls hf hP hD hS hl
            rw [eK_32] at hf
            try dsimp only at hf
            refine lv_iload_n X.hx X.hb dX11_book_286 rfl (lv_at hl 1 rfl) ?_
            refine lv_if_ne (tgt := 294) X.hx X.hb dX11_book_287 (by decide) (fun hc_35 => ?_) (fun hc_35 => ?_)
            · replace hf := if_f hf hc_35
              refine lv_iload_n X.hx X.hb dX11_book_294 rfl (lv_at hl 2 rfl) ?_
              cases hf
              subst hQ
              exact r_iret X hP hD hS dX11_book_295
            · replace hf := if_t hf hc_35
              refine lv_aload_n X.hx X.hb dX11_book_290 rfl (lv_at hl 0 rfl) ?_
              obtain ⟨sY_36, hc_37, hf⟩ := bd_i hf
              refine r_wvv (As := []) (rest := []) X sm_X11_415 (c_X11_back l G N uY iY_33 sY_34 tY jY_14 hc_37) hP hD hS hA 0 rfl rfl rfl hl.1 (lv_room (Nat.le_of_ble_eq_true rfl)) ⟨Nat.le_of_ble_eq_true rfl, Nat.le_of_ble_eq_true rfl⟩ ⟨Nat.zero_le _, Nat.zero_le _⟩ dX11_book_291 (fun H locs hP hD hS => ?_)
              refine lv_iload_n X.hx X.hb dX11_book_294 rfl (lv_at hl 2 rfl) ?_
              cases hf
              subst hQ
              exact r_iret X hP hD hS dX11_book_295
          refine lv_icmp_ne (tgt := 286) X.hx X.hb dX11_book_232 (by decide) (fun hc_38 => ?_) (fun hc_38 => ?_)
          · replace hf := if_f hf hc_38
            exact hj_31 _ _ _ _ _ hf hP hD hS (lv_sub hl [0, 1, 2] rfl)
          · replace hf := if_t hf hc_38
            refine lv_aload_n X.hx X.hb dX11_book_235 rfl (lv_at hl 0 rfl) ?_
            refine gf_X11_77 X hP 0 rfl (v := .ref (uY 41)) rfl dX11_book_236 ?_
            refine lv_iconst (v := 1) X.hx X.hb dX11_book_239 (by decide) ?_
            refine r_iald X hP 15 (f := g_29) rfl (vp_c rfl) dX11_book_240 ?_
            refine W.eq (g2 := F0 m 241 ls [.int (g_29 1)]) rfl ?_
            refine lv_if_le (tgt := 286) X.hx X.hb dX11_book_241 (by decide) (fun hc_39 => ?_) (fun hc_39 => ?_)
            · replace hf := if_t hf hc_39
              exact hj_31 _ _ _ _ _ hf hP hD hS (lv_sub hl [0, 1, 2] rfl)
            · replace hf := if_f hf hc_39
              refine lv_aload_n X.hx X.hb dX11_book_244 rfl (lv_at hl 0 rfl) ?_
              obtain ⟨⟨iY_40, sY_41⟩, hc_42, hf⟩ := bd_i hf
              refine r_wvv (As := []) (rest := []) X sm_X11_310 (c_X11_keep l G N uY (va_up iY_12 41 1) (va_up sY_25 40 g_29) tY jY_14 hc_42) hP hD hS hA 0 rfl rfl rfl hl.1 (lv_room (Nat.le_of_ble_eq_true rfl)) ⟨Nat.le_of_ble_eq_true rfl, Nat.le_of_ble_eq_true rfl⟩ ⟨Nat.zero_le _, Nat.zero_le _⟩ dX11_book_245 (fun H locs hP hD hS => ?_)
              refine lv_iconst (v := 0) X.hx X.hb dX11_book_248 (by decide) ?_
              refine lv_istore_n (lv' := [(3, .int 0), (0, .ref (uY 0)), (1, .int p1), (2, .int x2_24)]) X.hx X.hb dX11_book_249 rfl hl (by decide) rfl (fun ls hl => ?_)
              have hlo_43 : ∀ (k : Nat) (sY_44 : Nat → Nat → Int32) (v3_45 : Int32) (H : Heap) (locs : List Loc) (ls : Array Slot), f_X11_book_250 N iY_40 tY jY_14 p1 x2_24 K_30 k sY_44 v3_45 = some (r, iY', sY', jY') → va_P G.1 vwCl (gY G uY iY_40 sY_44 tY jY_14) H → va_D A (gY G uY iY_40 sY_44 tY jY_14) → va_S A s.heap H locs → lv_has ls 4 [(0, .ref (uY 0)), (1, .int p1), (2, .int x2_24), (3, .int v3_45)] → W p l e (RM 5) s m args below meth c H locs 0 0 QQ (F0 m 250 ls []) := by
                intro k
                induction k with
                | zero => intro sY_44 v3_45 H locs ls hf; exact absurd hf (by intro q; cases q)
                | succ k ih =>
                  intro sY_44 v3_45 H locs ls hf hP hD hS hl
                  unfold f_X11_book_250 at hf
                  refine lv_iload_n X.hx X.hb dX11_book_250 rfl (lv_at hl 3 rfl) ?_
                  refine lv_sipush (v := 145) X.hx X.hb dX11_book_251 (by decide) ?_
                  refine lv_icmp_ge (tgt := 286) X.hx X.hb dX11_book_254 (by decide) (fun hc_46 => ?_) (fun hc_46 => ?_)
                  · replace hf := if_t hf hc_46
                    exact hj_31 _ _ _ _ _ hf hP hD hS (lv_sub hl [0, 1, 2] rfl)
                  · replace hf := if_f hf hc_46
                    refine lv_aload_n X.hx X.hb dX11_book_257 rfl (lv_at hl 0 rfl) ?_
                    refine gf_X11_50 X hP 0 rfl (v := .ref (uY 22)) rfl dX11_book_258 ?_
                    refine lv_sipush (v := 145) X.hx X.hb dX11_book_261 (by decide) ?_
                    refine lv_aload_n X.hx X.hb dX11_book_264 rfl (lv_at hl 0 rfl) ?_
                    refine gf_X11_262 X hP 0 rfl (v := .int (iY_40 23)) rfl dX11_book_265 ?_
                    refine lv_iconst (v := 1) X.hx X.hb dX11_book_268 (by decide) ?_
                    refine lv_isub X.hx X.hb dX11_book_269 ?_
                    refine lv_imul X.hx X.hb dX11_book_270 ?_
                    refine lv_iload_n X.hx X.hb dX11_book_271 rfl (lv_at hl 3 rfl) ?_
                    refine lv_iadd X.hx X.hb dX11_book_272 ?_
                    refine lv_aload_n X.hx X.hb dX11_book_273 rfl (lv_at hl 0 rfl) ?_
                    refine gf_X11_53 X hP 0 rfl (v := .ref (uY 23)) rfl dX11_book_274 ?_
                    refine lv_iload_n X.hx X.hb dX11_book_277 rfl (lv_at hl 3 rfl) ?_
                    obtain ⟨hi_47, hf⟩ := ck_i hf
                    refine r_iald X hP 8 (f := (sY_44 22)) rfl hi_47 dX11_book_278 ?_
                    obtain ⟨hi_48, hf⟩ := ck_i hf
                    obtain ⟨g_49, eg_49, hf⟩ := nv_i hf
                    refine r_iast X hP hD hS 7 (f := (sY_44 21)) rfl hi_48 (wo := (gY G uY iY_40 (va_up sY_44 21 g_49) tY jY_14)) (by subst eg_49; rfl) dX11_book_279 (fun H locs hP hD hS => ?_)
                    refine lv_iinc (v := (v3_45 + 1)) (lv' := [(3, .int (v3_45 + 1)), (0, .ref (uY 0)), (1, .int p1), (2, .int x2_24)]) X.hx X.hb dX11_book_280 hl (k := 3) rfl rfl (by decide) rfl (fun ls hl => ?_)
                    refine lv_goto (tgt := 250) X.hx X.hb dX11_book_283 (by decide) ?_
                    exact ih _ _ _ _ _ hf hP hD hS (lv_sub hl [1, 2, 3, 0] rfl)
              exact hlo_43 N _ _ _ _ _ hf hP hD hS (lv_sub hl [1, 2, 3, 0] rfl)
        have hlo_54 : ∀ (k : Nat) (sY_55 : Nat → Nat → Int32) (v2_56 : Int32) (v3_57 : Int32) (H : Heap) (locs : List Loc) (ls : Array Slot), f_X11_book_111 N iY_12 tY jY_14 p1 K_21 k sY_55 v2_56 v3_57 = some (r, iY', sY', jY') → va_P G.1 vwCl (gY G uY iY_12 sY_55 tY jY_14) H → va_D A (gY G uY iY_12 sY_55 tY jY_14) → va_S A s.heap H locs → lv_has ls 4 [(0, .ref (uY 0)), (1, .int p1), (2, .int v2_56), (3, .int v3_57)] → W p l e (RM 5) s m args below meth c H locs 0 0 QQ (F0 m 111 ls []) := by
          intro k
          induction k with
          | zero => intro sY_55 v2_56 v3_57 H locs ls hf; exact absurd hf (by intro q; cases q)
          | succ k ih =>
            intro sY_55 v2_56 v3_57 H locs ls hf hP hD hS hl
            unfold f_X11_book_111 at hf
            refine lv_iload_n X.hx X.hb dX11_book_111 rfl (lv_at hl 3 rfl) ?_
            refine lv_aload_n X.hx X.hb dX11_book_112 rfl (lv_at hl 0 rfl) ?_
            refine gf_X11_418 X hP 0 rfl (v := .int (iY_12 39)) rfl dX11_book_113 ?_
            refine lv_icmp_ge (tgt := 201) X.hx X.hb dX11_book_116 (by decide) (fun hc_58 => ?_) (fun hc_58 => ?_)
            · replace hf := if_t hf hc_58
              exact hj_22 _ _ _ _ _ hf hP hD hS (lv_sub hl [0, 1, 2] rfl)
            · replace hf := if_f hf hc_58
              refine lv_iload_n X.hx X.hb dX11_book_119 rfl (lv_at hl 2 rfl) ?_
              refine lv_if_ge (tgt := 201) X.hx X.hb dX11_book_120 (by decide) (fun hc_59 => ?_) (fun hc_59 => ?_)
              · replace hf := if_t hf hc_59
                exact hj_22 _ _ _ _ _ hf hP hD hS (lv_sub hl [0, 1, 2] rfl)
              · replace hf := if_f hf hc_59
                refine lv_aload_n X.hx X.hb dX11_book_123 rfl (lv_at hl 0 rfl) ?_
                refine gf_X11_77 X hP 0 rfl (v := .ref (uY 41)) rfl dX11_book_124 ?_
                refine lv_iconst (v := 0) X.hx X.hb dX11_book_127 (by decide) ?_
                refine lv_aload_n X.hx X.hb dX11_book_128 rfl (lv_at hl 0 rfl) ?_
                refine lv_aload_n X.hx X.hb dX11_book_129 rfl (lv_at hl 0 rfl) ?_
                refine gf_X11_40 X hP 0 rfl (v := .ref (uY 9)) rfl dX11_book_130 ?_
                refine lv_iconst (v := 4) X.hx X.hb dX11_book_133 (by decide) ?_
                refine lv_iload_n X.hx X.hb dX11_book_134 rfl (lv_at hl 3 rfl) ?_
                refine lv_imul X.hx X.hb dX11_book_135 ?_
                obtain ⟨hi_60, hf⟩ := ck_i hf
                refine r_iald X hP 4 (f := (sY_55 8)) rfl hi_60 dX11_book_136 ?_
                refine lv_aload_n X.hx X.hb dX11_book_137 rfl (lv_at hl 0 rfl) ?_
                refine gf_X11_40 X hP 0 rfl (v := .ref (uY 9)) rfl dX11_book_138 ?_
                refine lv_iconst (v := 4) X.hx X.hb dX11_book_141 (by decide) ?_
                refine lv_iload_n X.hx X.hb dX11_book_142 rfl (lv_at hl 3 rfl) ?_
                refine lv_imul X.hx X.hb dX11_book_143 ?_
                refine lv_iconst (v := 1) X.hx X.hb dX11_book_144 (by decide) ?_
                refine lv_iadd X.hx X.hb dX11_book_145 ?_
                obtain ⟨hi_61, hf⟩ := ck_i hf
                refine r_iald X hP 4 (f := (sY_55 8)) rfl hi_61 dX11_book_146 ?_
                refine lv_aload_n X.hx X.hb dX11_book_147 rfl (lv_at hl 0 rfl) ?_
                refine gf_X11_40 X hP 0 rfl (v := .ref (uY 9)) rfl dX11_book_148 ?_
                refine lv_iconst (v := 4) X.hx X.hb dX11_book_151 (by decide) ?_
                refine lv_iload_n X.hx X.hb dX11_book_152 rfl (lv_at hl 3 rfl) ?_
                refine lv_imul X.hx X.hb dX11_book_153 ?_
                refine lv_iconst (v := 2) X.hx X.hb dX11_book_154 (by decide) ?_
                refine lv_iadd X.hx X.hb dX11_book_155 ?_
                obtain ⟨hi_62, hf⟩ := ck_i hf
                refine r_iald X hP 4 (f := (sY_55 8)) rfl hi_62 dX11_book_156 ?_
                refine lv_aload_n X.hx X.hb dX11_book_157 rfl (lv_at hl 0 rfl) ?_
                refine gf_X11_40 X hP 0 rfl (v := .ref (uY 9)) rfl dX11_book_158 ?_
                refine lv_iconst (v := 4) X.hx X.hb dX11_book_161 (by decide) ?_
                refine lv_iload_n X.hx X.hb dX11_book_162 rfl (lv_at hl 3 rfl) ?_
                refine lv_imul X.hx X.hb dX11_book_163 ?_
                refine lv_iconst (v := 3) X.hx X.hb dX11_book_164 (by decide) ?_
                refine lv_iadd X.hx X.hb dX11_book_165 ?_
                obtain ⟨hi_63, hf⟩ := ck_i hf
                refine r_iald X hP 4 (f := (sY_55 8)) rfl hi_63 dX11_book_166 ?_
                obtain ⟨⟨r_64, sY_65⟩, hc_66, hf⟩ := bd_i hf
                refine r_wvi (As := [.int ((sY_55 8) (ix ((4 : Int32) * v3_57))), .int ((sY_55 8) (ix (((4 : Int32) * v3_57) + 1))), .int ((sY_55 8) (ix (((4 : Int32) * v3_57) + 2))), .int ((sY_55 8) (ix (((4 : Int32) * v3_57) + 3)))]) (rest := [.int 0, .ref (uY 41)]) X sm_X11_424 (c_X11_does l G N uY iY_12 sY_55 tY jY_14 ((sY_55 8) (ix ((4 : Int32) * v3_57))) ((sY_55 8) (ix (((4 : Int32) * v3_57) + 1))) ((sY_55 8) (ix (((4 : Int32) * v3_57) + 2))) ((sY_55 8) (ix (((4 : Int32) * v3_57) + 3))) hc_66) hP hD hS hA 0 rfl rfl rfl hl.1 (lv_room (Nat.le_of_ble_eq_true rfl)) ⟨Nat.le_of_ble_eq_true rfl, Nat.le_of_ble_eq_true rfl⟩ ⟨Nat.zero_le _, Nat.zero_le _⟩ dX11_book_167 (fun H locs hP hD hS => ?_)
                obtain ⟨g_67, eg_67, hf⟩ := nv_i hf
                refine r_iast X hP hD hS 15 (f := (sY_65 40)) rfl (vp_c rfl) (wo := (gY G uY iY_12 (va_up sY_65 40 g_67) tY jY_14)) (by subst eg_67; rfl) dX11_book_170 (fun H locs hP hD hS => ?_)
                refine lv_aload_n X.hx X.hb dX11_book_171 rfl (lv_at hl 0 rfl) ?_
                refine gf_X11_77 X hP 0 rfl (v := .ref (uY 41)) rfl dX11_book_172 ?_
                refine lv_iconst (v := 0) X.hx X.hb dX11_book_175 (by decide) ?_
                refine r_iald X hP 15 (f := g_67) rfl (vp_c rfl) dX11_book_176 ?_
                refine W.eq (g2 := F0 m 177 ls [.int (g_67 0)]) rfl ?_
                obtain ⟨K_68, eK_70, hf⟩ := jn_i hf
                have hj_69 : ∀ (x2_71 : Int32) (sY_72 : Nat → Nat → Int32) (H : Heap) (locs : List Loc) (ls : Array Slot), K_68 (x2_71, sY_72) = some (r, iY', sY', jY') → va_P G.1 vwCl (gY G uY iY_12 sY_72 tY jY_14) H → va_D A (gY G uY iY_12 sY_72 tY jY_14) → va_S A s.heap H locs → lv_has ls 4 [(0, .ref (uY 0)), (1, .int p1), (2, .int x2_71), (3, .int v3_57)] → W p l e (RM 5) s m args below meth c H locs 0 0 QQ (F0 m 195 ls []) := by
                  intro x2_71 sY_72 H locs ls hf hP hD hS hl
                  rw [eK_70] at hf
                  try dsimp only at hf
                  refine lv_iinc (v := (v3_57 + 1)) (lv' := [(3, .int (v3_57 + 1)), (0, .ref (uY 0)), (1, .int p1), (2, .int x2_71)]) X.hx X.hb dX11_book_195 hl (k := 3) rfl rfl (by decide) rfl (fun ls hl => ?_)
                  refine lv_goto (tgt := 111) X.hx X.hb dX11_book_198 (by decide) ?_
                  exact ih _ _ _ _ _ _ hf hP hD hS (lv_sub hl [1, 2, 3, 0] rfl)
                refine lv_if_le (tgt := 185) X.hx X.hb dX11_book_177 (by decide) (fun hc_73 => ?_) (fun hc_73 => ?_)
                · replace hf := if_t hf hc_73
                  refine lv_aload_n X.hx X.hb dX11_book_185 rfl (lv_at hl 0 rfl) ?_
                  refine gf_X11_77 X hP 0 rfl (v := .ref (uY 41)) rfl dX11_book_186 ?_
                  refine lv_iconst (v := 1) X.hx X.hb dX11_book_189 (by decide) ?_
                  refine lv_dup2_11 X.hx X.hb dX11_book_190 rfl rfl ?_
                  refine r_iald X hP 15 (f := g_67) rfl (vp_c rfl) dX11_book_191 ?_
                  refine W.eq (g2 := F0 m 192 ls [.int (g_67 1), .int 1, .ref (uY 41)]) rfl ?_
                  refine lv_iconst (v := 1) X.hx X.hb dX11_book_192 (by decide) ?_
                  refine lv_iadd X.hx X.hb dX11_book_193 ?_
                  obtain ⟨g_74, eg_74, hf⟩ := nv_i hf
                  refine r_iast X hP hD hS 15 (f := g_67) rfl (vp_c rfl) (wo := (gY G uY iY_12 (va_up sY_65 40 g_74) tY jY_14)) (by subst eg_74; rfl) dX11_book_194 (fun H locs hP hD hS => ?_)
                  exact hj_69 _ _ _ _ _ hf hP hD hS (lv_sub hl [0, 1, 2, 3] rfl)
                · replace hf := if_f hf hc_73
                  refine lv_iload_n X.hx X.hb dX11_book_180 rfl (lv_at hl 3 rfl) ?_
                  refine lv_istore_n (lv' := [(2, .int v3_57), (0, .ref (uY 0)), (1, .int p1), (3, .int v3_57)]) X.hx X.hb dX11_book_181 rfl hl (by decide) rfl (fun ls hl => ?_)
                  refine lv_goto (tgt := 195) X.hx X.hb dX11_book_182 (by decide) ?_
                  exact hj_69 _ _ _ _ _ hf hP hD hS (lv_sub hl [1, 2, 0, 3] rfl)
        exact hlo_54 N _ _ _ _ _ _ hf hP hD hS (lv_sub hl [2, 3, 1, 0] rfl)
      have hlo_92 : ∀ (k : Nat) (sY_93 : Nat → Nat → Int32) (v2_94 : Int32) (H : Heap) (locs : List Loc) (ls : Array Slot), f_X11_book_89 N iY_12 tY jY_14 p1 K_17 k sY_93 v2_94 = some (r, iY', sY', jY') → va_P G.1 vwCl (gY G uY iY_12 sY_93 tY jY_14) H → va_D A (gY G uY iY_12 sY_93 tY jY_14) → va_S A s.heap H locs → lv_has ls 4 [(0, .ref (uY 0)), (1, .int p1), (2, .int v2_94)] → W p l e (RM 5) s m args below meth c H locs 0 0 QQ (F0 m 89 ls []) := by
        intro k
        induction k with
        | zero => intro sY_93 v2_94 H locs ls hf; exact absurd hf (by intro q; cases q)
        | succ k ih =>
          intro sY_93 v2_94 H locs ls hf hP hD hS hl
          unfold f_X11_book_89 at hf
          refine lv_iload_n X.hx X.hb dX11_book_89 rfl (lv_at hl 2 rfl) ?_
          refine lv_iconst (v := 4) X.hx X.hb dX11_book_90 (by decide) ?_
          refine lv_icmp_ge (tgt := 107) X.hx X.hb dX11_book_91 (by decide) (fun hc_95 => ?_) (fun hc_95 => ?_)
          · replace hf := if_t hf hc_95
            exact hj_18 _ _ _ _ hf hP hD hS (lv_sub hl [0, 1] rfl)
          · replace hf := if_f hf hc_95
            refine lv_aload_n X.hx X.hb dX11_book_94 rfl (lv_at hl 0 rfl) ?_
            refine gf_X11_77 X hP 0 rfl (v := .ref (uY 41)) rfl dX11_book_95 ?_
            refine lv_iload_n X.hx X.hb dX11_book_98 rfl (lv_at hl 2 rfl) ?_
            refine lv_iconst (v := 0) X.hx X.hb dX11_book_99 (by decide) ?_
            obtain ⟨hi_96, hf⟩ := ck_i hf
            obtain ⟨g_97, eg_97, hf⟩ := nv_i hf
            refine r_iast X hP hD hS 15 (f := (sY_93 40)) rfl hi_96 (wo := (gY G uY iY_12 (va_up sY_93 40 g_97) tY jY_14)) (by subst eg_97; rfl) dX11_book_100 (fun H locs hP hD hS => ?_)
            refine lv_iinc (v := (v2_94 + 1)) (lv' := [(2, .int (v2_94 + 1)), (0, .ref (uY 0)), (1, .int p1)]) X.hx X.hb dX11_book_101 hl (k := 2) rfl rfl (by decide) rfl (fun ls hl => ?_)
            refine lv_goto (tgt := 89) X.hx X.hb dX11_book_104 (by decide) ?_
            exact ih _ _ _ _ _ hf hP hD hS (lv_sub hl [1, 2, 0] rfl)
      exact hlo_92 N _ _ _ _ _ hf hP hD hS (lv_sub hl [1, 2, 0] rfl)
    obtain ⟨K_101, eK_103, hf⟩ := jn_i hf
    have hj_102 : ∀ (iY_104 : Nat → Int32) (sY_105 : Nat → Nat → Int32) (jY_106 : Nat → Int64) (H : Heap) (locs : List Loc) (ls : Array Slot), K_101 (iY_104, sY_105, jY_106) = some (r, iY', sY', jY') → va_P G.1 vwCl (gY G uY iY_104 sY_105 tY jY_106) H → va_D A (gY G uY iY_104 sY_105 tY jY_106) → va_S A s.heap H locs → lv_has ls 4 [(0, .ref (uY 0))] → W p l e (RM 5) s m args below meth c H locs 0 0 QQ (F0 m 62 ls []) := by
      intro iY_104 sY_105 jY_106 H locs ls hf hP hD hS hl
      rw [eK_103] at hf
      try dsimp only at hf
      refine lv_bipush (v := (-2)) X.hx X.hb dX11_book_62 (by decide) ?_
      refine lv_aload_n X.hx X.hb dX11_book_64 rfl (lv_at hl 0 rfl) ?_
      refine gf_X11_177 X hP 0 rfl (v := .int (iY_104 16)) rfl dX11_book_65 ?_
      refine lv_isub X.hx X.hb dX11_book_68 ?_
      obtain ⟨rfl, he_0⟩ := Prod.mk.inj (Option.some.inj hf)
      obtain ⟨rfl, he_1⟩ := Prod.mk.inj he_0
      obtain ⟨rfl, he_2⟩ := Prod.mk.inj he_1
      subst he_2
      subst hQ
      exact r_iret X hP hD hS dX11_book_69
    have hlo_107 : ∀ (k : Nat) (iY_108 : Nat → Int32) (sY_109 : Nat → Nat → Int32) (jY_110 : Nat → Int64) (H : Heap) (locs : List Loc) (ls : Array Slot), f_X11_book_39 N tY p1 K_101 K_9 k iY_108 sY_109 jY_110 = some (r, iY', sY', jY') → va_P G.1 vwCl (gY G uY iY_108 sY_109 tY jY_110) H → va_D A (gY G uY iY_108 sY_109 tY jY_110) → va_S A s.heap H locs → lv_has ls 4 [(0, .ref (uY 0)), (1, .int p1)] → W p l e (RM 5) s m args below meth c H locs 0 0 QQ (F0 m 39 ls []) := by
      intro k
      induction k with
      | zero => intro iY_108 sY_109 jY_110 H locs ls hf; exact absurd hf (by intro q; cases q)
      | succ k ih =>
        intro iY_108 sY_109 jY_110 H locs ls hf hP hD hS hl
        unfold f_X11_book_39 at hf
        refine lv_aload_n X.hx X.hb dX11_book_39 rfl (lv_at hl 0 rfl) ?_
        refine gf_X11_157 X hP 0 rfl (v := .int (iY_108 11)) rfl dX11_book_40 ?_
        refine lv_if_eq (tgt := 83) X.hx X.hb dX11_book_43 (by decide) (fun hc_111 => ?_) (fun hc_111 => ?_)
        · replace hf := if_t hf hc_111
          exact hj_10 _ _ _ _ _ _ hf hP hD hS (lv_sub hl [0, 1] rfl)
        · replace hf := if_f hf hc_111
          refine lv_aload_n X.hx X.hb dX11_book_46 rfl (lv_at hl 0 rfl) ?_
          obtain ⟨⟨r_112, iY_113, sY_114, jY_115⟩, hc_116, hf⟩ := bd_i hf
          refine r_wvi (As := []) (rest := []) X sm_X11_421 (c_X11_bookLine l G N uY iY_108 sY_109 tY jY_110 hc_116) hP hD hS hA 0 rfl rfl rfl hl.1 (lv_room (Nat.le_of_ble_eq_true rfl)) ⟨Nat.le_of_ble_eq_true rfl, Nat.le_of_ble_eq_true rfl⟩ ⟨Nat.zero_le _, Nat.zero_le _⟩ dX11_book_47 (fun H locs hP hD hS => ?_)
          refine lv_if_eq (tgt := 62) X.hx X.hb dX11_book_50 (by decide) (fun hc_117 => ?_) (fun hc_117 => ?_)
          · replace hf := if_t hf hc_117
            exact hj_102 _ _ _ _ _ _ hf hP hD hS (lv_sub hl [0] rfl)
          · replace hf := if_f hf hc_117
            refine lv_aload_n X.hx X.hb dX11_book_53 rfl (lv_at hl 0 rfl) ?_
            refine lv_bipush (v := 59) X.hx X.hb dX11_book_54 (by decide) ?_
            obtain ⟨⟨r_118, iY_119, jY_120⟩, hc_121, hf⟩ := bd_i hf
            refine r_wvi (As := [.int 59]) (rest := []) X sm_X11_256 (c_X11_sign l G N uY iY_113 sY_114 tY jY_115 59 hc_121) hP hD hS hA 0 rfl rfl rfl hl.1 (lv_room (Nat.le_of_ble_eq_true rfl)) ⟨Nat.le_of_ble_eq_true rfl, Nat.le_of_ble_eq_true rfl⟩ ⟨Nat.zero_le _, Nat.zero_le _⟩ dX11_book_56 (fun H locs hP hD hS => ?_)
            refine lv_if_ne (tgt := 70) X.hx X.hb dX11_book_59 (by decide) (fun hc_122 => ?_) (fun hc_122 => ?_)
            · replace hf := if_f hf hc_122
              refine lv_aload_n X.hx X.hb dX11_book_70 rfl (lv_at hl 0 rfl) ?_
              refine lv_dup X.hx X.hb dX11_book_71 rfl ?_
              refine gf_X11_418 X hP 0 rfl (v := .int (iY_119 39)) rfl dX11_book_72 ?_
              refine lv_iconst (v := 1) X.hx X.hb dX11_book_75 (by decide) ?_
              refine lv_iadd X.hx X.hb dX11_book_76 ?_
              refine pf_X11_418 X hP hD hS 0 rfl rfl rfl (Nat.le_of_ble_eq_true rfl) (wo := (gY G uY (va_up iY_119 39 ((iY_119 39) + 1)) sY_114 tY jY_120)) rfl dX11_book_77 (fun H locs hP hD hS => ?_)
              refine lv_goto (tgt := 39) X.hx X.hb dX11_book_80 (by decide) ?_
              exact ih _ _ _ _ _ _ hf hP hD hS (lv_sub hl [0, 1] rfl)
            · replace hf := if_t hf hc_122
              exact hj_102 _ _ _ _ _ _ hf hP hD hS (lv_sub hl [0] rfl)
    exact hlo_107 N _ _ _ _ _ _ hf hP hD hS (lv_sub hl [0, 1] rfl)
  · replace hf := if_t hf hc_3
    refine lv_sipush (v := (-1000)) X.hx X.hb dX11_book_14 (by decide) ?_
    cases hf
    subst hQ
    exact r_iret X hP hD hS dX11_book_17

def f_X11_told (N : Nat) (iY : Nat → Int32) (sY : Nat → Nat → Int32) (tY : Nat → Nat → Int64) (jY : Nat → Int64) (p1 : Int32) : Option (Int32 × (Nat → Int32)) :=
  (if (iY 41) = 0 then some ((-1), (va_up iY 0 0)) else bd (f_X11_isIn N p1 0 3) (fun r_2 => (if r_2 = 0 then some ((-1), (va_up iY 0 0)) else ck p1 4 (some (((sY 40) (ix p1)), (va_up iY 0 0))))))
set_option maxHeartbeats 4000000 in
set_option maxRecDepth 100000 in
theorem c_X11_told (l : Launch) (G : GT) (N : Nat) (uY : Nat → Nat) (iY : Nat → Int32) (sY : Nat → Nat → Int32) (tY : Nat → Nat → Int64) (jY : Nat → Int64) (p1 : Int32) {r : Int32} {iY' : Nat → Int32} (hf : f_X11_told N iY sY tY jY p1 = some (r, iY')) : CI l G yX11_told cX11_told 2 .int 2 [.ref (uY 0), .int p1] (gY G uY iY sY tY jY) r (gY G uY iY' sY tY jY) := by
  refine CI.of (by decide) (Nat.le_of_ble_eq_true rfl) ?_
  intro p e s m args below meth c A X hA hP hD hS ls hl
  have hl : lv_has ls 2 [(0, .ref (uY 0)), (1, .int p1)] := hl
  generalize hQ : MQ below (QI G A r (gY G uY iY' sY tY jY)) args s 0 0 A = QQ
  unfold f_X11_told at hf
  refine lv_aload_n X.hx X.hb dX11_told_0 rfl (lv_at hl 0 rfl) ?_
  refine lv_iconst (v := 0) X.hx X.hb dX11_told_1 (by decide) ?_
  refine pf_X11_1 X hP hD hS 0 rfl rfl rfl (Nat.le_of_ble_eq_true rfl) (wo := (gY G uY (va_up iY 0 0) sY tY jY)) rfl dX11_told_2 (fun H locs hP hD hS => ?_)
  refine lv_aload_n X.hx X.hb dX11_told_5 rfl (lv_at hl 0 rfl) ?_
  refine gf_X11_428 X hP 0 rfl (v := .int (iY 41)) rfl dX11_told_6 ?_
  refine lv_if_eq (tgt := 30) X.hx X.hb dX11_told_9 (by decide) (fun hc_1 => ?_) (fun hc_1 => ?_)
  · replace hf := if_t hf hc_1
    refine lv_iconst (v := (-1)) X.hx X.hb dX11_told_30 (by decide) ?_
    cases hf
    subst hQ
    exact r_iret X hP hD hS dX11_told_31
  · replace hf := if_f hf hc_1
    refine lv_iload_n X.hx X.hb dX11_told_12 rfl (lv_at hl 1 rfl) ?_
    refine lv_iconst (v := 0) X.hx X.hb dX11_told_13 (by decide) ?_
    refine lv_iconst (v := 3) X.hx X.hb dX11_told_14 (by decide) ?_
    obtain ⟨r_2, hc_3, hf⟩ := bd_i hf
    refine r_cs0 (As := [.int p1, .int 0, .int 3]) (rest := []) X sm_X11_189 (c_X11_isIn l G N p1 0 3 hc_3) hP hD hS hA rfl hl.1 (lv_room (Nat.le_of_ble_eq_true rfl)) ⟨Nat.le_of_ble_eq_true rfl, Nat.le_of_ble_eq_true rfl⟩ ⟨Nat.zero_le _, Nat.zero_le _⟩ dX11_told_15 (fun H locs hP hD hS => ?_)
    refine lv_if_eq (tgt := 30) X.hx X.hb dX11_told_18 (by decide) (fun hc_4 => ?_) (fun hc_4 => ?_)
    · replace hf := if_t hf hc_4
      refine lv_iconst (v := (-1)) X.hx X.hb dX11_told_30 (by decide) ?_
      cases hf
      subst hQ
      exact r_iret X hP hD hS dX11_told_31
    · replace hf := if_f hf hc_4
      refine lv_aload_n X.hx X.hb dX11_told_21 rfl (lv_at hl 0 rfl) ?_
      refine gf_X11_77 X hP 0 rfl (v := .ref (uY 41)) rfl dX11_told_22 ?_
      refine lv_iload_n X.hx X.hb dX11_told_25 rfl (lv_at hl 1 rfl) ?_
      obtain ⟨hi_5, hf⟩ := ck_i hf
      refine r_iald X hP 15 (f := (sY 40)) rfl hi_5 dX11_told_26 ?_
      refine lv_goto (tgt := 31) X.hx X.hb dX11_told_27 (by decide) ?_
      cases hf
      subst hQ
      exact r_iret X hP hD hS dX11_told_31

def f_X11_code (N : Nat) (iY : Nat → Int32) (sY : Nat → Nat → Int32) (tY : Nat → Nat → Int64) (jY : Nat → Int64) (p1 : Int32) (p2 : Int32) (p3 : Int32) : Option ((Nat → Int32) × (Nat → Nat → Int32)) :=
  ck ((3 : Int32) * (iY 43)) 160 (nv (upd (sY 8) (ix ((3 : Int32) * (iY 43))) p1) (fun g_2 => ck (((3 : Int32) * (iY 43)) + 1) 160 (nv (upd g_2 (ix (((3 : Int32) * (iY 43)) + 1)) p2) (fun g_4 => ck (((3 : Int32) * (iY 43)) + 2) 160 (nv (upd g_4 (ix (((3 : Int32) * (iY 43)) + 2)) p3) (fun g_6 => some ((va_up iY 43 ((iY 43) + 1)), (va_up sY 8 g_6))))))))
set_option maxHeartbeats 4000000 in
set_option maxRecDepth 100000 in
theorem c_X11_code (l : Launch) (G : GT) (N : Nat) (uY : Nat → Nat) (iY : Nat → Int32) (sY : Nat → Nat → Int32) (tY : Nat → Nat → Int64) (jY : Nat → Int64) (p1 : Int32) (p2 : Int32) (p3 : Int32) {iY' : Nat → Int32} {sY' : Nat → Nat → Int32} (hf : f_X11_code N iY sY tY jY p1 p2 p3 = some (iY', sY')) : CV l G yX11_code cX11_code 4 1 [.ref (uY 0), .int p1, .int p2, .int p3] (gY G uY iY sY tY jY) (gY G uY iY' sY' tY jY) := by
  refine CV.of (by decide) (Nat.le_of_ble_eq_true rfl) ?_
  intro p e s m args below meth c A X hA hP hD hS ls hl
  have hl : lv_has ls 4 [(0, .ref (uY 0)), (1, .int p1), (2, .int p2), (3, .int p3)] := hl
  generalize hQ : MQ below (QV G A (gY G uY iY' sY' tY jY)) args s 0 0 A = QQ
  unfold f_X11_code at hf
  refine lv_aload_n X.hx X.hb dX11_code_0 rfl (lv_at hl 0 rfl) ?_
  refine gf_X11_40 X hP 0 rfl (v := .ref (uY 9)) rfl dX11_code_1 ?_
  refine lv_iconst (v := 3) X.hx X.hb dX11_code_4 (by decide) ?_
  refine lv_aload_n X.hx X.hb dX11_code_5 rfl (lv_at hl 0 rfl) ?_
  refine gf_X11_431 X hP 0 rfl (v := .int (iY 43)) rfl dX11_code_6 ?_
  refine lv_imul X.hx X.hb dX11_code_9 ?_
  refine lv_iload_n X.hx X.hb dX11_code_10 rfl (lv_at hl 1 rfl) ?_
  obtain ⟨hi_1, hf⟩ := ck_i hf
  obtain ⟨g_2, eg_2, hf⟩ := nv_i hf
  refine r_iast X hP hD hS 4 (f := (sY 8)) rfl hi_1 (wo := (gY G uY iY (va_up sY 8 g_2) tY jY)) (by subst eg_2; rfl) dX11_code_11 (fun H locs hP hD hS => ?_)
  refine lv_aload_n X.hx X.hb dX11_code_12 rfl (lv_at hl 0 rfl) ?_
  refine gf_X11_40 X hP 0 rfl (v := .ref (uY 9)) rfl dX11_code_13 ?_
  refine lv_iconst (v := 3) X.hx X.hb dX11_code_16 (by decide) ?_
  refine lv_aload_n X.hx X.hb dX11_code_17 rfl (lv_at hl 0 rfl) ?_
  refine gf_X11_431 X hP 0 rfl (v := .int (iY 43)) rfl dX11_code_18 ?_
  refine lv_imul X.hx X.hb dX11_code_21 ?_
  refine lv_iconst (v := 1) X.hx X.hb dX11_code_22 (by decide) ?_
  refine lv_iadd X.hx X.hb dX11_code_23 ?_
  refine lv_iload_n X.hx X.hb dX11_code_24 rfl (lv_at hl 2 rfl) ?_
  obtain ⟨hi_3, hf⟩ := ck_i hf
  obtain ⟨g_4, eg_4, hf⟩ := nv_i hf
  refine r_iast X hP hD hS 4 (f := g_2) rfl hi_3 (wo := (gY G uY iY (va_up sY 8 g_4) tY jY)) (by subst eg_4; rfl) dX11_code_25 (fun H locs hP hD hS => ?_)
  refine lv_aload_n X.hx X.hb dX11_code_26 rfl (lv_at hl 0 rfl) ?_
  refine gf_X11_40 X hP 0 rfl (v := .ref (uY 9)) rfl dX11_code_27 ?_
  refine lv_iconst (v := 3) X.hx X.hb dX11_code_30 (by decide) ?_
  refine lv_aload_n X.hx X.hb dX11_code_31 rfl (lv_at hl 0 rfl) ?_
  refine gf_X11_431 X hP 0 rfl (v := .int (iY 43)) rfl dX11_code_32 ?_
  refine lv_imul X.hx X.hb dX11_code_35 ?_
  refine lv_iconst (v := 2) X.hx X.hb dX11_code_36 (by decide) ?_
  refine lv_iadd X.hx X.hb dX11_code_37 ?_
  refine lv_iload_n X.hx X.hb dX11_code_38 rfl (lv_at hl 3 rfl) ?_
  obtain ⟨hi_5, hf⟩ := ck_i hf
  obtain ⟨g_6, eg_6, hf⟩ := nv_i hf
  refine r_iast X hP hD hS 4 (f := g_4) rfl hi_5 (wo := (gY G uY iY (va_up sY 8 g_6) tY jY)) (by subst eg_6; rfl) dX11_code_39 (fun H locs hP hD hS => ?_)
  refine lv_aload_n X.hx X.hb dX11_code_40 rfl (lv_at hl 0 rfl) ?_
  refine lv_dup X.hx X.hb dX11_code_41 rfl ?_
  refine gf_X11_431 X hP 0 rfl (v := .int (iY 43)) rfl dX11_code_42 ?_
  refine lv_iconst (v := 1) X.hx X.hb dX11_code_45 (by decide) ?_
  refine lv_iadd X.hx X.hb dX11_code_46 ?_
  refine pf_X11_431 X hP hD hS 0 rfl rfl rfl (Nat.le_of_ble_eq_true rfl) (wo := (gY G uY (va_up iY 43 ((iY 43) + 1)) (va_up sY 8 g_6) tY jY)) rfl dX11_code_47 (fun H locs hP hD hS => ?_)
  cases hf
  subst hQ
  exact r_vret X hP hD hS dX11_code_50

def f_X11_joins_0 (N : Nat) (tY : Nat → Nat → Int64) (jY : Nat → Int64) (v1 : Int32) : Nat → (Nat → Int32) → (Nat → Nat → Int32) → Option ((Nat → Int32) × (Nat → Nat → Int32))
  | 0, _, _ => none
  | k + 1, iY, sY => (if (iY 45) ≤ 0 then some (iY, sY) else ck ((iY 45) - 1) 45 (jn (fun (z : Unit) => match z with | () => ck ((iY 45) - 1) 45 (bd (f_X11_code N (va_up iY 45 ((iY 45) - 1)) sY tY jY ((sY 42) (ix ((iY 45) - 1))) 0 0) (fun (iY_23, sY_24) => f_X11_joins_0 N tY jY v1 k iY_23 sY_24))) (fun K_19 => (if ((sY 42) (ix ((iY 45) - 1))) = 21 then K_19 () else ck ((iY 45) - 1) 45 ((if ((sY 42) (ix ((iY 45) - 1))) = 22 then (if v1 = 22 then K_19 () else some (iY, sY)) else some (iY, sY)))))))
def f_X11_joins (N : Nat) (iY : Nat → Int32) (sY : Nat → Nat → Int32) (tY : Nat → Nat → Int64) (jY : Nat → Int64) (p1 : Int32) : Option ((Nat → Int32) × (Nat → Nat → Int32)) :=
  f_X11_joins_0 N tY jY p1 N iY sY
set_option maxHeartbeats 4000000 in
set_option maxRecDepth 100000 in
theorem c_X11_joins (l : Launch) (G : GT) (N : Nat) (uY : Nat → Nat) (iY : Nat → Int32) (sY : Nat → Nat → Int32) (tY : Nat → Nat → Int64) (jY : Nat → Int64) (p1 : Int32) {iY' : Nat → Int32} {sY' : Nat → Nat → Int32} (hf : f_X11_joins N iY sY tY jY p1 = some (iY', sY')) : CV l G yX11_joins cX11_joins 2 2 [.ref (uY 0), .int p1] (gY G uY iY sY tY jY) (gY G uY iY' sY' tY jY) := by
  refine CV.of (by decide) (Nat.le_of_ble_eq_true rfl) ?_
  intro p e s m args below meth c A X hA hP hD hS ls hl
  have hl : lv_has ls 2 [(0, .ref (uY 0)), (1, .int p1)] := hl
  generalize hQ : MQ below (QV G A (gY G uY iY' sY' tY jY)) args s 0 0 A = QQ
  unfold f_X11_joins at hf
  have hlo_1 : ∀ (k : Nat) (iY_2 : Nat → Int32) (sY_3 : Nat → Nat → Int32) (H : Heap) (locs : List Loc) (ls : Array Slot), f_X11_joins_0 N tY jY p1 k iY_2 sY_3 = some (iY', sY') → va_P G.1 vwCl (gY G uY iY_2 sY_3 tY jY) H → va_D A (gY G uY iY_2 sY_3 tY jY) → va_S A s.heap H locs → lv_has ls 2 [(0, .ref (uY 0)), (1, .int p1)] → W p l e (RM 2) s m args below meth c H locs 0 0 QQ (F0 m 0 ls []) := by
    intro k
    induction k with
    | zero => intro iY_2 sY_3 H locs ls hf; exact absurd hf (by intro q; cases q)
    | succ k ih =>
      intro iY_2 sY_3 H locs ls hf hP hD hS hl
      unfold f_X11_joins_0 at hf
      refine lv_aload_n X.hx X.hb dX11_joins_0 rfl (lv_at hl 0 rfl) ?_
      refine gf_X11_434 X hP 0 rfl (v := .int (iY_2 45)) rfl dX11_joins_1 ?_
      refine lv_if_le (tgt := 73) X.hx X.hb dX11_joins_4 (by decide) (fun hc_4 => ?_) (fun hc_4 => ?_)
      · replace hf := if_t hf hc_4
        cases hf
        subst hQ
        exact r_vret X hP hD hS dX11_joins_73
      · replace hf := if_f hf hc_4
        refine lv_aload_n X.hx X.hb dX11_joins_7 rfl (lv_at hl 0 rfl) ?_
        refine gf_X11_80 X hP 0 rfl (v := .ref (uY 43)) rfl dX11_joins_8 ?_
        refine lv_aload_n X.hx X.hb dX11_joins_11 rfl (lv_at hl 0 rfl) ?_
        refine gf_X11_434 X hP 0 rfl (v := .int (iY_2 45)) rfl dX11_joins_12 ?_
        refine lv_iconst (v := 1) X.hx X.hb dX11_joins_15 (by decide) ?_
        refine lv_isub X.hx X.hb dX11_joins_16 ?_
        obtain ⟨hi_5, hf⟩ := ck_i hf
        refine r_iald X hP 16 (f := (sY_3 42)) rfl hi_5 dX11_joins_17 ?_
        refine lv_bipush (v := 21) X.hx X.hb dX11_joins_18 (by decide) ?_
        obtain ⟨K_6, eK_8, hf⟩ := jn_i hf
        have hj_7 : ∀ (H : Heap) (locs : List Loc) (ls : Array Slot), K_6 () = some (iY', sY') → va_P G.1 vwCl (gY G uY iY_2 sY_3 tY jY) H → va_D A (gY G uY iY_2 sY_3 tY jY) → va_S A s.heap H locs → lv_has ls 2 [(0, .ref (uY 0)), (1, .int p1)] → W p l e (RM 2) s m args below meth c H locs 0 0 QQ (F0 m 45 ls []) := by
          intro  H locs ls hf hP hD hS hl
          rw [eK_8] at hf
          try dsimp only at hf
          refine lv_aload_n X.hx X.hb dX11_joins_45 rfl (lv_at hl 0 rfl) ?_
          refine lv_dup X.hx X.hb dX11_joins_46 rfl ?_
          refine gf_X11_434 X hP 0 rfl (v := .int (iY_2 45)) rfl dX11_joins_47 ?_
          refine lv_iconst (v := 1) X.hx X.hb dX11_joins_50 (by decide) ?_
          refine lv_isub X.hx X.hb dX11_joins_51 ?_
          refine pf_X11_434 X hP hD hS 0 rfl rfl rfl (Nat.le_of_ble_eq_true rfl) (wo := (gY G uY (va_up iY_2 45 ((iY_2 45) - 1)) sY_3 tY jY)) rfl dX11_joins_52 (fun H locs hP hD hS => ?_)
          refine lv_aload_n X.hx X.hb dX11_joins_55 rfl (lv_at hl 0 rfl) ?_
          refine lv_aload_n X.hx X.hb dX11_joins_56 rfl (lv_at hl 0 rfl) ?_
          refine gf_X11_80 X hP 0 rfl (v := .ref (uY 43)) rfl dX11_joins_57 ?_
          refine lv_aload_n X.hx X.hb dX11_joins_60 rfl (lv_at hl 0 rfl) ?_
          refine gf_X11_434 X hP 0 rfl (v := .int ((iY_2 45) - 1)) rfl dX11_joins_61 ?_
          obtain ⟨hi_9, hf⟩ := ck_i hf
          refine r_iald X hP 16 (f := (sY_3 42)) rfl hi_9 dX11_joins_64 ?_
          refine lv_iconst (v := 0) X.hx X.hb dX11_joins_65 (by decide) ?_
          refine lv_iconst (v := 0) X.hx X.hb dX11_joins_66 (by decide) ?_
          obtain ⟨⟨iY_10, sY_11⟩, hc_12, hf⟩ := bd_i hf
          refine r_wvv (As := [.int ((sY_3 42) (ix ((iY_2 45) - 1))), .int 0, .int 0]) (rest := []) X sm_X11_437 (c_X11_code l G N uY (va_up iY_2 45 ((iY_2 45) - 1)) sY_3 tY jY ((sY_3 42) (ix ((iY_2 45) - 1))) 0 0 hc_12) hP hD hS hA 0 rfl rfl rfl hl.1 (lv_room (Nat.le_of_ble_eq_true rfl)) ⟨Nat.le_of_ble_eq_true rfl, Nat.le_of_ble_eq_true rfl⟩ ⟨Nat.zero_le _, Nat.zero_le _⟩ dX11_joins_67 (fun H locs hP hD hS => ?_)
          refine lv_goto (tgt := 0) X.hx X.hb dX11_joins_70 (by decide) ?_
          exact ih _ _ _ _ _ hf hP hD hS (lv_sub hl [0, 1] rfl)
        refine lv_icmp_eq (tgt := 45) X.hx X.hb dX11_joins_20 (by decide) (fun hc_13 => ?_) (fun hc_13 => ?_)
        · replace hf := if_t hf hc_13
          exact hj_7 _ _ _ hf hP hD hS (lv_sub hl [0, 1] rfl)
        · replace hf := if_f hf hc_13
          refine lv_aload_n X.hx X.hb dX11_joins_23 rfl (lv_at hl 0 rfl) ?_
          refine gf_X11_80 X hP 0 rfl (v := .ref (uY 43)) rfl dX11_joins_24 ?_
          refine lv_aload_n X.hx X.hb dX11_joins_27 rfl (lv_at hl 0 rfl) ?_
          refine gf_X11_434 X hP 0 rfl (v := .int (iY_2 45)) rfl dX11_joins_28 ?_
          refine lv_iconst (v := 1) X.hx X.hb dX11_joins_31 (by decide) ?_
          refine lv_isub X.hx X.hb dX11_joins_32 ?_
          obtain ⟨hi_14, hf⟩ := ck_i hf
          refine r_iald X hP 16 (f := (sY_3 42)) rfl hi_14 dX11_joins_33 ?_
          refine lv_bipush (v := 22) X.hx X.hb dX11_joins_34 (by decide) ?_
          refine lv_icmp_ne (tgt := 73) X.hx X.hb dX11_joins_36 (by decide) (fun hc_15 => ?_) (fun hc_15 => ?_)
          · replace hf := if_f hf hc_15
            cases hf
            subst hQ
            exact r_vret X hP hD hS dX11_joins_73
          · replace hf := if_t hf hc_15
            refine lv_iload_n X.hx X.hb dX11_joins_39 rfl (lv_at hl 1 rfl) ?_
            refine lv_bipush (v := 22) X.hx X.hb dX11_joins_40 (by decide) ?_
            refine lv_icmp_ne (tgt := 73) X.hx X.hb dX11_joins_42 (by decide) (fun hc_16 => ?_) (fun hc_16 => ?_)
            · replace hf := if_f hf hc_16
              cases hf
              subst hQ
              exact r_vret X hP hD hS dX11_joins_73
            · replace hf := if_t hf hc_16
              exact hj_7 _ _ _ hf hP hD hS (lv_sub hl [0, 1] rfl)
  exact hlo_1 N _ _ _ _ _ hf hP hD hS (lv_sub hl [0, 1] rfl)

def f_X11_nots_0 (N : Nat) (tY : Nat → Nat → Int64) (jY : Nat → Int64) : Nat → (Nat → Int32) → (Nat → Nat → Int32) → Option ((Nat → Int32) × (Nat → Nat → Int32))
  | 0, _, _ => none
  | k + 1, iY, sY => (if (iY 45) ≤ 0 then some (iY, sY) else ck ((iY 45) - 1) 45 ((if ((sY 42) (ix ((iY 45) - 1))) = 20 then bd (f_X11_code N (va_up (va_up iY 45 ((iY 45) - 1)) 46 ((iY 46) - 1)) sY tY jY 20 0 0) (fun (iY_13, sY_14) => f_X11_nots_0 N tY jY k iY_13 sY_14) else some (iY, sY))))
def f_X11_nots (N : Nat) (iY : Nat → Int32) (sY : Nat → Nat → Int32) (tY : Nat → Nat → Int64) (jY : Nat → Int64) : Option ((Nat → Int32) × (Nat → Nat → Int32)) :=
  f_X11_nots_0 N tY jY N iY sY
set_option maxHeartbeats 4000000 in
set_option maxRecDepth 100000 in
theorem c_X11_nots (l : Launch) (G : GT) (N : Nat) (uY : Nat → Nat) (iY : Nat → Int32) (sY : Nat → Nat → Int32) (tY : Nat → Nat → Int64) (jY : Nat → Int64) {iY' : Nat → Int32} {sY' : Nat → Nat → Int32} (hf : f_X11_nots N iY sY tY jY = some (iY', sY')) : CV l G yX11_nots cX11_nots 1 2 [.ref (uY 0)] (gY G uY iY sY tY jY) (gY G uY iY' sY' tY jY) := by
  refine CV.of (by decide) (Nat.le_of_ble_eq_true rfl) ?_
  intro p e s m args below meth c A X hA hP hD hS ls hl
  have hl : lv_has ls 1 [(0, .ref (uY 0))] := hl
  generalize hQ : MQ below (QV G A (gY G uY iY' sY' tY jY)) args s 0 0 A = QQ
  unfold f_X11_nots at hf
  have hlo_1 : ∀ (k : Nat) (iY_2 : Nat → Int32) (sY_3 : Nat → Nat → Int32) (H : Heap) (locs : List Loc) (ls : Array Slot), f_X11_nots_0 N tY jY k iY_2 sY_3 = some (iY', sY') → va_P G.1 vwCl (gY G uY iY_2 sY_3 tY jY) H → va_D A (gY G uY iY_2 sY_3 tY jY) → va_S A s.heap H locs → lv_has ls 1 [(0, .ref (uY 0))] → W p l e (RM 2) s m args below meth c H locs 0 0 QQ (F0 m 0 ls []) := by
    intro k
    induction k with
    | zero => intro iY_2 sY_3 H locs ls hf; exact absurd hf (by intro q; cases q)
    | succ k ih =>
      intro iY_2 sY_3 H locs ls hf hP hD hS hl
      unfold f_X11_nots_0 at hf
      refine lv_aload_n X.hx X.hb dX11_nots_0 rfl (lv_at hl 0 rfl) ?_
      refine gf_X11_434 X hP 0 rfl (v := .int (iY_2 45)) rfl dX11_nots_1 ?_
      refine lv_if_le (tgt := 54) X.hx X.hb dX11_nots_4 (by decide) (fun hc_4 => ?_) (fun hc_4 => ?_)
      · replace hf := if_t hf hc_4
        cases hf
        subst hQ
        exact r_vret X hP hD hS dX11_nots_54
      · replace hf := if_f hf hc_4
        refine lv_aload_n X.hx X.hb dX11_nots_7 rfl (lv_at hl 0 rfl) ?_
        refine gf_X11_80 X hP 0 rfl (v := .ref (uY 43)) rfl dX11_nots_8 ?_
        refine lv_aload_n X.hx X.hb dX11_nots_11 rfl (lv_at hl 0 rfl) ?_
        refine gf_X11_434 X hP 0 rfl (v := .int (iY_2 45)) rfl dX11_nots_12 ?_
        refine lv_iconst (v := 1) X.hx X.hb dX11_nots_15 (by decide) ?_
        refine lv_isub X.hx X.hb dX11_nots_16 ?_
        obtain ⟨hi_5, hf⟩ := ck_i hf
        refine r_iald X hP 16 (f := (sY_3 42)) rfl hi_5 dX11_nots_17 ?_
        refine lv_bipush (v := 20) X.hx X.hb dX11_nots_18 (by decide) ?_
        refine lv_icmp_ne (tgt := 54) X.hx X.hb dX11_nots_20 (by decide) (fun hc_6 => ?_) (fun hc_6 => ?_)
        · replace hf := if_f hf hc_6
          cases hf
          subst hQ
          exact r_vret X hP hD hS dX11_nots_54
        · replace hf := if_t hf hc_6
          refine lv_aload_n X.hx X.hb dX11_nots_23 rfl (lv_at hl 0 rfl) ?_
          refine lv_dup X.hx X.hb dX11_nots_24 rfl ?_
          refine gf_X11_434 X hP 0 rfl (v := .int (iY_2 45)) rfl dX11_nots_25 ?_
          refine lv_iconst (v := 1) X.hx X.hb dX11_nots_28 (by decide) ?_
          refine lv_isub X.hx X.hb dX11_nots_29 ?_
          refine pf_X11_434 X hP hD hS 0 rfl rfl rfl (Nat.le_of_ble_eq_true rfl) (wo := (gY G uY (va_up iY_2 45 ((iY_2 45) - 1)) sY_3 tY jY)) rfl dX11_nots_30 (fun H locs hP hD hS => ?_)
          refine lv_aload_n X.hx X.hb dX11_nots_33 rfl (lv_at hl 0 rfl) ?_
          refine lv_dup X.hx X.hb dX11_nots_34 rfl ?_
          refine gf_X11_440 X hP 0 rfl (v := .int (iY_2 46)) rfl dX11_nots_35 ?_
          refine lv_iconst (v := 1) X.hx X.hb dX11_nots_38 (by decide) ?_
          refine lv_isub X.hx X.hb dX11_nots_39 ?_
          refine pf_X11_440 X hP hD hS 0 rfl rfl rfl (Nat.le_of_ble_eq_true rfl) (wo := (gY G uY (va_up (va_up iY_2 45 ((iY_2 45) - 1)) 46 ((iY_2 46) - 1)) sY_3 tY jY)) rfl dX11_nots_40 (fun H locs hP hD hS => ?_)
          refine lv_aload_n X.hx X.hb dX11_nots_43 rfl (lv_at hl 0 rfl) ?_
          refine lv_bipush (v := 20) X.hx X.hb dX11_nots_44 (by decide) ?_
          refine lv_iconst (v := 0) X.hx X.hb dX11_nots_46 (by decide) ?_
          refine lv_iconst (v := 0) X.hx X.hb dX11_nots_47 (by decide) ?_
          obtain ⟨⟨iY_7, sY_8⟩, hc_9, hf⟩ := bd_i hf
          refine r_wvv (As := [.int 20, .int 0, .int 0]) (rest := []) X sm_X11_437 (c_X11_code l G N uY (va_up (va_up iY_2 45 ((iY_2 45) - 1)) 46 ((iY_2 46) - 1)) sY_3 tY jY 20 0 0 hc_9) hP hD hS hA 0 rfl rfl rfl hl.1 (lv_room (Nat.le_of_ble_eq_true rfl)) ⟨Nat.le_of_ble_eq_true rfl, Nat.le_of_ble_eq_true rfl⟩ ⟨Nat.zero_le _, Nat.zero_le _⟩ dX11_nots_48 (fun H locs hP hD hS => ?_)
          refine lv_goto (tgt := 0) X.hx X.hb dX11_nots_51 (by decide) ?_
          exact ih _ _ _ _ _ hf hP hD hS (lv_sub hl [0] rfl)
  exact hlo_1 N _ _ _ _ _ hf hP hD hS (lv_sub hl [0] rfl)

def f_X11_leafOf (N : Nat) (iY : Nat → Int32) (sY : Nat → Nat → Int32) (tY : Nat → Nat → Int64) (jY : Nat → Int64) : Option (Int32) :=
  bd (f_X11_isWord N iY sY tY jY 1752132965) (fun r_1 => (if r_1 = 0 then bd (f_X11_isWord N iY sY tY jY 130177932485988) (fun r_4 => (if r_4 = 0 then bd (f_X11_isWord N iY sY tY jY 6710628) (fun r_7 => (if r_7 = 0 then bd (f_X11_isWord N iY sY tY jY 1936682084) (fun r_10 => (if r_10 = 0 then bd (f_X11_isWord N iY sY tY jY 461414299507) (fun r_13 => (if r_13 = 0 then bd (f_X11_isWord N iY sY tY jY 512735736947) (fun r_16 => (if r_16 = 0 then bd (f_X11_isWord N iY sY tY jY 427070942835) (fun r_19 => (if r_19 = 0 then bd (f_X11_isWord N iY sY tY jY 28836244623352947) (fun r_22 => (if r_22 = 0 then bd (f_X11_isWord N iY sY tY jY 114853572732274) (fun r_25 => (if r_25 = 0 then bd (f_X11_isWord N iY sY tY jY 121450625394034) (fun r_28 => (if r_28 = 0 then some (-1) else some 9)) else some 8)) else some 7)) else some 6)) else some 5)) else some 4)) else some 3)) else some 2)) else some 1)) else some 0))
set_option maxHeartbeats 4000000 in
set_option maxRecDepth 100000 in
theorem c_X11_leafOf (l : Launch) (G : GT) (N : Nat) (uY : Nat → Nat) (iY : Nat → Int32) (sY : Nat → Nat → Int32) (tY : Nat → Nat → Int64) (jY : Nat → Int64) {r : Int32} (hf : f_X11_leafOf N iY sY tY jY = some r) : CI l G yX11_leafOf cX11_leafOf 1 .int 2 [.ref (uY 0)] (gY G uY iY sY tY jY) r (gY G uY iY sY tY jY) := by
  refine CI.of (by decide) (Nat.le_of_ble_eq_true rfl) ?_
  intro p e s m args below meth c A X hA hP hD hS ls hl
  have hl : lv_has ls 1 [(0, .ref (uY 0))] := hl
  generalize hQ : MQ below (QI G A r (gY G uY iY sY tY jY)) args s 0 0 A = QQ
  unfold f_X11_leafOf at hf
  refine lv_aload_n X.hx X.hb dX11_leafOf_0 rfl (lv_at hl 0 rfl) ?_
  refine lv_ldc2 (v := 1752132965) X.hx X.hb X.hown (X.hts _ tw_1310) dX11_leafOf_1 ?_
  obtain ⟨r_1, hc_2, hf⟩ := bd_i hf
  refine r_wvi (As := [.long 1752132965]) (rest := []) X sm_X11_220 (c_X11_isWord l G N uY iY sY tY jY 1752132965 hc_2) hP hD hS hA 0 rfl rfl rfl hl.1 (lv_room (Nat.le_of_ble_eq_true rfl)) ⟨Nat.le_of_ble_eq_true rfl, Nat.le_of_ble_eq_true rfl⟩ ⟨Nat.zero_le _, Nat.zero_le _⟩ dX11_leafOf_4 (fun H locs hP hD hS => ?_)
  refine lv_if_eq (tgt := 14) X.hx X.hb dX11_leafOf_7 (by decide) (fun hc_3 => ?_) (fun hc_3 => ?_)
  · replace hf := if_t hf hc_3
    refine lv_aload_n X.hx X.hb dX11_leafOf_14 rfl (lv_at hl 0 rfl) ?_
    refine lv_ldc2 (v := 130177932485988) X.hx X.hb X.hown (X.hts _ tw_1311) dX11_leafOf_15 ?_
    obtain ⟨r_4, hc_5, hf⟩ := bd_i hf
    refine r_wvi (As := [.long 130177932485988]) (rest := []) X sm_X11_220 (c_X11_isWord l G N uY iY sY tY jY 130177932485988 hc_5) hP hD hS hA 0 rfl rfl rfl hl.1 (lv_room (Nat.le_of_ble_eq_true rfl)) ⟨Nat.le_of_ble_eq_true rfl, Nat.le_of_ble_eq_true rfl⟩ ⟨Nat.zero_le _, Nat.zero_le _⟩ dX11_leafOf_18 (fun H locs hP hD hS => ?_)
    refine lv_if_eq (tgt := 28) X.hx X.hb dX11_leafOf_21 (by decide) (fun hc_6 => ?_) (fun hc_6 => ?_)
    · replace hf := if_t hf hc_6
      refine lv_aload_n X.hx X.hb dX11_leafOf_28 rfl (lv_at hl 0 rfl) ?_
      refine lv_ldc2 (v := 6710628) X.hx X.hb X.hown (X.hts _ tw_1312) dX11_leafOf_29 ?_
      obtain ⟨r_7, hc_8, hf⟩ := bd_i hf
      refine r_wvi (As := [.long 6710628]) (rest := []) X sm_X11_220 (c_X11_isWord l G N uY iY sY tY jY 6710628 hc_8) hP hD hS hA 0 rfl rfl rfl hl.1 (lv_room (Nat.le_of_ble_eq_true rfl)) ⟨Nat.le_of_ble_eq_true rfl, Nat.le_of_ble_eq_true rfl⟩ ⟨Nat.zero_le _, Nat.zero_le _⟩ dX11_leafOf_32 (fun H locs hP hD hS => ?_)
      refine lv_if_eq (tgt := 42) X.hx X.hb dX11_leafOf_35 (by decide) (fun hc_9 => ?_) (fun hc_9 => ?_)
      · replace hf := if_t hf hc_9
        refine lv_aload_n X.hx X.hb dX11_leafOf_42 rfl (lv_at hl 0 rfl) ?_
        refine lv_ldc2 (v := 1936682084) X.hx X.hb X.hown (X.hts _ tw_1313) dX11_leafOf_43 ?_
        obtain ⟨r_10, hc_11, hf⟩ := bd_i hf
        refine r_wvi (As := [.long 1936682084]) (rest := []) X sm_X11_220 (c_X11_isWord l G N uY iY sY tY jY 1936682084 hc_11) hP hD hS hA 0 rfl rfl rfl hl.1 (lv_room (Nat.le_of_ble_eq_true rfl)) ⟨Nat.le_of_ble_eq_true rfl, Nat.le_of_ble_eq_true rfl⟩ ⟨Nat.zero_le _, Nat.zero_le _⟩ dX11_leafOf_46 (fun H locs hP hD hS => ?_)
        refine lv_if_eq (tgt := 56) X.hx X.hb dX11_leafOf_49 (by decide) (fun hc_12 => ?_) (fun hc_12 => ?_)
        · replace hf := if_t hf hc_12
          refine lv_aload_n X.hx X.hb dX11_leafOf_56 rfl (lv_at hl 0 rfl) ?_
          refine lv_ldc2 (v := 461414299507) X.hx X.hb X.hown (X.hts _ tw_1298) dX11_leafOf_57 ?_
          obtain ⟨r_13, hc_14, hf⟩ := bd_i hf
          refine r_wvi (As := [.long 461414299507]) (rest := []) X sm_X11_220 (c_X11_isWord l G N uY iY sY tY jY 461414299507 hc_14) hP hD hS hA 0 rfl rfl rfl hl.1 (lv_room (Nat.le_of_ble_eq_true rfl)) ⟨Nat.le_of_ble_eq_true rfl, Nat.le_of_ble_eq_true rfl⟩ ⟨Nat.zero_le _, Nat.zero_le _⟩ dX11_leafOf_60 (fun H locs hP hD hS => ?_)
          refine lv_if_eq (tgt := 70) X.hx X.hb dX11_leafOf_63 (by decide) (fun hc_15 => ?_) (fun hc_15 => ?_)
          · replace hf := if_t hf hc_15
            refine lv_aload_n X.hx X.hb dX11_leafOf_70 rfl (lv_at hl 0 rfl) ?_
            refine lv_ldc2 (v := 512735736947) X.hx X.hb X.hown (X.hts _ tw_1297) dX11_leafOf_71 ?_
            obtain ⟨r_16, hc_17, hf⟩ := bd_i hf
            refine r_wvi (As := [.long 512735736947]) (rest := []) X sm_X11_220 (c_X11_isWord l G N uY iY sY tY jY 512735736947 hc_17) hP hD hS hA 0 rfl rfl rfl hl.1 (lv_room (Nat.le_of_ble_eq_true rfl)) ⟨Nat.le_of_ble_eq_true rfl, Nat.le_of_ble_eq_true rfl⟩ ⟨Nat.zero_le _, Nat.zero_le _⟩ dX11_leafOf_74 (fun H locs hP hD hS => ?_)
            refine lv_if_eq (tgt := 84) X.hx X.hb dX11_leafOf_77 (by decide) (fun hc_18 => ?_) (fun hc_18 => ?_)
            · replace hf := if_t hf hc_18
              refine lv_aload_n X.hx X.hb dX11_leafOf_84 rfl (lv_at hl 0 rfl) ?_
              refine lv_ldc2 (v := 427070942835) X.hx X.hb X.hown (X.hts _ tw_1314) dX11_leafOf_85 ?_
              obtain ⟨r_19, hc_20, hf⟩ := bd_i hf
              refine r_wvi (As := [.long 427070942835]) (rest := []) X sm_X11_220 (c_X11_isWord l G N uY iY sY tY jY 427070942835 hc_20) hP hD hS hA 0 rfl rfl rfl hl.1 (lv_room (Nat.le_of_ble_eq_true rfl)) ⟨Nat.le_of_ble_eq_true rfl, Nat.le_of_ble_eq_true rfl⟩ ⟨Nat.zero_le _, Nat.zero_le _⟩ dX11_leafOf_88 (fun H locs hP hD hS => ?_)
              refine lv_if_eq (tgt := 99) X.hx X.hb dX11_leafOf_91 (by decide) (fun hc_21 => ?_) (fun hc_21 => ?_)
              · replace hf := if_t hf hc_21
                refine lv_aload_n X.hx X.hb dX11_leafOf_99 rfl (lv_at hl 0 rfl) ?_
                refine lv_ldc2 (v := 28836244623352947) X.hx X.hb X.hown (X.hts _ tw_1315) dX11_leafOf_100 ?_
                obtain ⟨r_22, hc_23, hf⟩ := bd_i hf
                refine r_wvi (As := [.long 28836244623352947]) (rest := []) X sm_X11_220 (c_X11_isWord l G N uY iY sY tY jY 28836244623352947 hc_23) hP hD hS hA 0 rfl rfl rfl hl.1 (lv_room (Nat.le_of_ble_eq_true rfl)) ⟨Nat.le_of_ble_eq_true rfl, Nat.le_of_ble_eq_true rfl⟩ ⟨Nat.zero_le _, Nat.zero_le _⟩ dX11_leafOf_103 (fun H locs hP hD hS => ?_)
                refine lv_if_eq (tgt := 114) X.hx X.hb dX11_leafOf_106 (by decide) (fun hc_24 => ?_) (fun hc_24 => ?_)
                · replace hf := if_t hf hc_24
                  refine lv_aload_n X.hx X.hb dX11_leafOf_114 rfl (lv_at hl 0 rfl) ?_
                  refine lv_ldc2 (v := 114853572732274) X.hx X.hb X.hown (X.hts _ tw_1316) dX11_leafOf_115 ?_
                  obtain ⟨r_25, hc_26, hf⟩ := bd_i hf
                  refine r_wvi (As := [.long 114853572732274]) (rest := []) X sm_X11_220 (c_X11_isWord l G N uY iY sY tY jY 114853572732274 hc_26) hP hD hS hA 0 rfl rfl rfl hl.1 (lv_room (Nat.le_of_ble_eq_true rfl)) ⟨Nat.le_of_ble_eq_true rfl, Nat.le_of_ble_eq_true rfl⟩ ⟨Nat.zero_le _, Nat.zero_le _⟩ dX11_leafOf_118 (fun H locs hP hD hS => ?_)
                  refine lv_if_eq (tgt := 129) X.hx X.hb dX11_leafOf_121 (by decide) (fun hc_27 => ?_) (fun hc_27 => ?_)
                  · replace hf := if_t hf hc_27
                    refine lv_aload_n X.hx X.hb dX11_leafOf_129 rfl (lv_at hl 0 rfl) ?_
                    refine lv_ldc2 (v := 121450625394034) X.hx X.hb X.hown (X.hts _ tw_1317) dX11_leafOf_130 ?_
                    obtain ⟨r_28, hc_29, hf⟩ := bd_i hf
                    refine r_wvi (As := [.long 121450625394034]) (rest := []) X sm_X11_220 (c_X11_isWord l G N uY iY sY tY jY 121450625394034 hc_29) hP hD hS hA 0 rfl rfl rfl hl.1 (lv_room (Nat.le_of_ble_eq_true rfl)) ⟨Nat.le_of_ble_eq_true rfl, Nat.le_of_ble_eq_true rfl⟩ ⟨Nat.zero_le _, Nat.zero_le _⟩ dX11_leafOf_133 (fun H locs hP hD hS => ?_)
                    refine lv_if_eq (tgt := 144) X.hx X.hb dX11_leafOf_136 (by decide) (fun hc_30 => ?_) (fun hc_30 => ?_)
                    · replace hf := if_t hf hc_30
                      refine lv_iconst (v := (-1)) X.hx X.hb dX11_leafOf_144 (by decide) ?_
                      cases hf
                      subst hQ
                      exact r_iret X hP hD hS dX11_leafOf_145
                    · replace hf := if_f hf hc_30
                      refine lv_bipush (v := 9) X.hx X.hb dX11_leafOf_139 (by decide) ?_
                      refine lv_goto (tgt := 145) X.hx X.hb dX11_leafOf_141 (by decide) ?_
                      cases hf
                      subst hQ
                      exact r_iret X hP hD hS dX11_leafOf_145
                  · replace hf := if_f hf hc_27
                    refine lv_bipush (v := 8) X.hx X.hb dX11_leafOf_124 (by decide) ?_
                    refine lv_goto (tgt := 145) X.hx X.hb dX11_leafOf_126 (by decide) ?_
                    cases hf
                    subst hQ
                    exact r_iret X hP hD hS dX11_leafOf_145
                · replace hf := if_f hf hc_24
                  refine lv_bipush (v := 7) X.hx X.hb dX11_leafOf_109 (by decide) ?_
                  refine lv_goto (tgt := 145) X.hx X.hb dX11_leafOf_111 (by decide) ?_
                  cases hf
                  subst hQ
                  exact r_iret X hP hD hS dX11_leafOf_145
              · replace hf := if_f hf hc_21
                refine lv_bipush (v := 6) X.hx X.hb dX11_leafOf_94 (by decide) ?_
                refine lv_goto (tgt := 145) X.hx X.hb dX11_leafOf_96 (by decide) ?_
                cases hf
                subst hQ
                exact r_iret X hP hD hS dX11_leafOf_145
            · replace hf := if_f hf hc_18
              refine lv_iconst (v := 5) X.hx X.hb dX11_leafOf_80 (by decide) ?_
              refine lv_goto (tgt := 145) X.hx X.hb dX11_leafOf_81 (by decide) ?_
              cases hf
              subst hQ
              exact r_iret X hP hD hS dX11_leafOf_145
          · replace hf := if_f hf hc_15
            refine lv_iconst (v := 4) X.hx X.hb dX11_leafOf_66 (by decide) ?_
            refine lv_goto (tgt := 145) X.hx X.hb dX11_leafOf_67 (by decide) ?_
            cases hf
            subst hQ
            exact r_iret X hP hD hS dX11_leafOf_145
        · replace hf := if_f hf hc_12
          refine lv_iconst (v := 3) X.hx X.hb dX11_leafOf_52 (by decide) ?_
          refine lv_goto (tgt := 145) X.hx X.hb dX11_leafOf_53 (by decide) ?_
          cases hf
          subst hQ
          exact r_iret X hP hD hS dX11_leafOf_145
      · replace hf := if_f hf hc_9
        refine lv_iconst (v := 2) X.hx X.hb dX11_leafOf_38 (by decide) ?_
        refine lv_goto (tgt := 145) X.hx X.hb dX11_leafOf_39 (by decide) ?_
        cases hf
        subst hQ
        exact r_iret X hP hD hS dX11_leafOf_145
    · replace hf := if_f hf hc_6
      refine lv_iconst (v := 1) X.hx X.hb dX11_leafOf_24 (by decide) ?_
      refine lv_goto (tgt := 145) X.hx X.hb dX11_leafOf_25 (by decide) ?_
      cases hf
      subst hQ
      exact r_iret X hP hD hS dX11_leafOf_145
  · replace hf := if_f hf hc_3
    refine lv_iconst (v := 0) X.hx X.hb dX11_leafOf_10 (by decide) ?_
    refine lv_goto (tgt := 145) X.hx X.hb dX11_leafOf_11 (by decide) ?_
    cases hf
    subst hQ
    exact r_iret X hP hD hS dX11_leafOf_145

def f_X11_operand (N : Nat) (iY : Nat → Int32) (sY : Nat → Nat → Int32) (tY : Nat → Nat → Int64) (jY : Nat → Int64) : Option (Int32 × (Nat → Int32) × (Nat → Nat → Int32) × (Nat → Int64)) :=
  bd (f_X11_isWord N iY sY tY jY 7237492) (fun r_1 => bd (f_X11_isSign N iY sY tY jY 40) (fun r_3 => bd (f_X11_leafOf N iY sY tY jY) (fun r_5 => jn (fun (z : Unit) => match z with | () => jn (fun (z : Unit) => match z with | () => bd (f_X11_bad N iY sY tY jY 4) (fun (r_13, iY_14) => zb r_13 (some (r_13, iY_14, sY, jY)))) (fun K_10 => (if (iY 44) = 20 then K_10 () else (if (iY 46) ≤ 8 then bd (f_X11_next N (va_up iY 44 ((iY 44) + 1)) sY tY jY) (fun (iY_19, jY_20) => jn (fun (z : Unit) => match z with | () => jn (fun (z : (Int32)) => match z with | y_28 => ck (iY_19 45) 45 (nv (upd (sY 42) (ix (iY_19 45)) y_28) (fun g_30 => some (1, (va_up (va_up iY_19 45 ((iY_19 45) + 1)) 46 ((iY_19 46) + 1)), (va_up sY 42 g_30), jY_20)))) (fun K_25 => (if r_1 = 0 then K_25 23 else K_25 20))) (fun K_22 => (if r_1 = 0 then (if r_3 = 0 then (if (4 : Int32) ≤ r_5 then (if (6 : Int32) ≤ r_5 then jn (fun (z : Unit) => match z with | () => bd (f_X11_bad N (va_up iY_19 47 1) sY tY jY_20 1) (fun (r_39, iY_40) => zb r_39 (some (r_39, iY_40, sY, jY_20)))) (fun K_36 => (if (iY_19 11) = 3 then (if (iY_19 14) < 60 then K_36 () else (if (iY_19 14) ≤ 62 then bd (f_X11_next N (va_up iY_19 47 1) sY tY jY_20) (fun (iY_46, jY_47) => (if (iY_46 11) = 2 then bd (f_X11_code N iY_46 sY tY jY_47 r_5 (iY_19 14) (iY_46 14)) (fun (iY_50, sY_51) => bd (f_X11_next N iY_50 sY_51 tY jY_47) (fun (iY_53, jY_54) => some (1, iY_53, sY_51, jY_54))) else bd (f_X11_bad N iY_46 sY tY jY_47 1) (fun (r_56, iY_57) => zb r_56 (some (r_56, iY_57, sY, jY_47))))) else K_36 ())) else K_36 ())) else jn (fun (z : (Int32) × (Nat → Int32)) => match z with | (y_63, iY_64) => (if y_63 = 0 then some (0, iY_64, sY, jY_20) else bd (f_X11_code N iY_64 sY tY jY_20 r_5 0 (iY_64 18)) (fun (iY_66, sY_67) => bd (f_X11_next N iY_66 sY_67 tY jY_20) (fun (iY_69, jY_70) => some (1, iY_69, sY_67, jY_70))))) (fun K_60 => (if r_5 = 4 then bd (f_X11_looksAt N (va_up iY_19 47 1) sY tY jY_20 0 ((sY 6) 0)) (fun (r_76, iY_77) => K_60 (r_76, iY_77)) else bd (f_X11_looksAt N (va_up iY_19 47 1) sY tY jY_20 7 ((sY 6) 1)) (fun (r_73, iY_74) => K_60 (r_73, iY_74))))) else bd (f_X11_code N (va_up iY_19 47 1) sY tY jY_20 r_5 0 0) (fun (iY_79, sY_80) => some (1, iY_79, sY_80, jY_20))) else K_22 ()) else K_22 ()))) else K_10 ())))) (fun K_7 => (if r_1 = 0 then (if r_3 = 0 then (if (0 : Int32) ≤ r_5 then K_7 () else bd (f_X11_bad N iY sY tY jY 1) (fun (r_85, iY_86) => zb r_85 (some (r_85, iY_86, sY, jY)))) else K_7 ()) else K_7 ())))))
set_option maxHeartbeats 4000000 in
set_option maxRecDepth 100000 in
theorem c_X11_operand (l : Launch) (G : GT) (N : Nat) (uY : Nat → Nat) (iY : Nat → Int32) (sY : Nat → Nat → Int32) (tY : Nat → Nat → Int64) (jY : Nat → Int64) {r : Int32} {iY' : Nat → Int32} {sY' : Nat → Nat → Int32} {jY' : Nat → Int64} (hf : f_X11_operand N iY sY tY jY = some (r, iY', sY', jY')) : CI l G yX11_operand cX11_operand 5 .boolean 3 [.ref (uY 0)] (gY G uY iY sY tY jY) r (gY G uY iY' sY' tY jY') := by
  refine CI.of (by decide) (Nat.le_of_ble_eq_true rfl) ?_
  intro p e s m args below meth c A X hA hP hD hS ls hl
  have hl : lv_has ls 5 [(0, .ref (uY 0))] := hl
  generalize hQ : MQ below (QI G A r (gY G uY iY' sY' tY jY')) args s 0 0 A = QQ
  unfold f_X11_operand at hf
  refine lv_aload_n X.hx X.hb dX11_operand_0 rfl (lv_at hl 0 rfl) ?_
  refine lv_ldc2 (v := 7237492) X.hx X.hb X.hown (X.hts _ tw_1309) dX11_operand_1 ?_
  obtain ⟨r_1, hc_2, hf⟩ := bd_i hf
  refine r_wvi (As := [.long 7237492]) (rest := []) X sm_X11_220 (c_X11_isWord l G N uY iY sY tY jY 7237492 hc_2) hP hD hS hA 0 rfl rfl rfl hl.1 (lv_room (Nat.le_of_ble_eq_true rfl)) ⟨Nat.le_of_ble_eq_true rfl, Nat.le_of_ble_eq_true rfl⟩ ⟨Nat.zero_le _, Nat.zero_le _⟩ dX11_operand_4 (fun H locs hP hD hS => ?_)
  refine lv_istore_n (lv' := [(1, .int r_1), (0, .ref (uY 0))]) X.hx X.hb dX11_operand_7 rfl hl (by decide) rfl (fun ls hl => ?_)
  refine lv_aload_n X.hx X.hb dX11_operand_8 rfl (lv_at hl 1 rfl) ?_
  refine lv_bipush (v := 40) X.hx X.hb dX11_operand_9 (by decide) ?_
  obtain ⟨r_3, hc_4, hf⟩ := bd_i hf
  refine r_wvi (As := [.int 40]) (rest := []) X sm_X11_180 (c_X11_isSign l G N uY iY sY tY jY 40 hc_4) hP hD hS hA 0 rfl rfl rfl hl.1 (lv_room (Nat.le_of_ble_eq_true rfl)) ⟨Nat.le_of_ble_eq_true rfl, Nat.le_of_ble_eq_true rfl⟩ ⟨Nat.zero_le _, Nat.zero_le _⟩ dX11_operand_11 (fun H locs hP hD hS => ?_)
  refine lv_istore_n (lv' := [(2, .int r_3), (1, .int r_1), (0, .ref (uY 0))]) X.hx X.hb dX11_operand_14 rfl hl (by decide) rfl (fun ls hl => ?_)
  refine lv_aload_n X.hx X.hb dX11_operand_15 rfl (lv_at hl 2 rfl) ?_
  obtain ⟨r_5, hc_6, hf⟩ := bd_i hf
  refine r_wvi (As := []) (rest := []) X sm_X11_443 (c_X11_leafOf l G N uY iY sY tY jY hc_6) hP hD hS hA 0 rfl rfl rfl hl.1 (lv_room (Nat.le_of_ble_eq_true rfl)) ⟨Nat.le_of_ble_eq_true rfl, Nat.le_of_ble_eq_true rfl⟩ ⟨Nat.zero_le _, Nat.zero_le _⟩ dX11_operand_16 (fun H locs hP hD hS => ?_)
  refine lv_istore_n (lv' := [(3, .int r_5), (2, .int r_3), (1, .int r_1), (0, .ref (uY 0))]) X.hx X.hb dX11_operand_19 rfl hl (by decide) rfl (fun ls hl => ?_)
  refine lv_iload_n X.hx X.hb dX11_operand_20 rfl (lv_at hl 2 rfl) ?_
  obtain ⟨K_7, eK_9, hf⟩ := jn_i hf
  have hj_8 : ∀ (H : Heap) (locs : List Loc) (ls : Array Slot), K_7 () = some (r, iY', sY', jY') → va_P G.1 vwCl (gY G uY iY sY tY jY) H → va_D A (gY G uY iY sY tY jY) → va_S A s.heap H locs → lv_has ls 5 [(0, .ref (uY 0)), (1, .int r_1), (2, .int r_3), (3, .int r_5)] → W p l e (RM 3) s m args below meth c H locs 0 0 QQ (F0 m 38 ls []) := by
    intro  H locs ls hf hP hD hS hl
    rw [eK_9] at hf
    try dsimp only at hf
    refine lv_aload_n X.hx X.hb dX11_operand_38 rfl (lv_at hl 0 rfl) ?_
    refine gf_X11_446 X hP 0 rfl (v := .int (iY 44)) rfl dX11_operand_39 ?_
    refine lv_bipush (v := 20) X.hx X.hb dX11_operand_42 (by decide) ?_
    obtain ⟨K_10, eK_12, hf⟩ := jn_i hf
    have hj_11 : ∀ (H : Heap) (locs : List Loc) (ls : Array Slot), K_10 () = some (r, iY', sY', jY') → va_P G.1 vwCl (gY G uY iY sY tY jY) H → va_D A (gY G uY iY sY tY jY) → va_S A s.heap H locs → lv_has ls 5 [(0, .ref (uY 0))] → W p l e (RM 3) s m args below meth c H locs 0 0 QQ (F0 m 56 ls []) := by
      intro  H locs ls hf hP hD hS hl
      rw [eK_12] at hf
      try dsimp only at hf
      refine lv_aload_n X.hx X.hb dX11_operand_56 rfl (lv_at hl 0 rfl) ?_
      refine lv_iconst (v := 4) X.hx X.hb dX11_operand_57 (by decide) ?_
      obtain ⟨⟨r_13, iY_14⟩, hc_15, hf⟩ := bd_i hf
      refine r_wvi (As := [.int 4]) (rest := []) X sm_X11_183 (c_X11_bad l G N uY iY sY tY jY 4 hc_15) hP hD hS hA 0 rfl rfl rfl hl.1 (lv_room (Nat.le_of_ble_eq_true rfl)) ⟨Nat.le_of_ble_eq_true rfl, Nat.le_of_ble_eq_true rfl⟩ ⟨Nat.zero_le _, Nat.zero_le _⟩ dX11_operand_58 (fun H locs hP hD hS => ?_)
      obtain ⟨hb_16, hf⟩ := zb_i hf
      cases hf
      subst hQ
      exact r_zret X hP hD hS hb_16 dX11_operand_61
    refine lv_icmp_eq (tgt := 56) X.hx X.hb dX11_operand_44 (by decide) (fun hc_17 => ?_) (fun hc_17 => ?_)
    · replace hf := if_t hf hc_17
      exact hj_11 _ _ _ hf hP hD hS (lv_sub hl [0] rfl)
    · replace hf := if_f hf hc_17
      refine lv_aload_n X.hx X.hb dX11_operand_47 rfl (lv_at hl 0 rfl) ?_
      refine gf_X11_440 X hP 0 rfl (v := .int (iY 46)) rfl dX11_operand_48 ?_
      refine lv_bipush (v := 8) X.hx X.hb dX11_operand_51 (by decide) ?_
      refine lv_icmp_le (tgt := 62) X.hx X.hb dX11_operand_53 (by decide) (fun hc_18 => ?_) (fun hc_18 => ?_)
      · replace hf := if_t hf hc_18
        refine lv_aload_n X.hx X.hb dX11_operand_62 rfl (lv_at hl 0 rfl) ?_
        refine lv_dup X.hx X.hb dX11_operand_63 rfl ?_
        refine gf_X11_446 X hP 0 rfl (v := .int (iY 44)) rfl dX11_operand_64 ?_
        refine lv_iconst (v := 1) X.hx X.hb dX11_operand_67 (by decide) ?_
        refine lv_iadd X.hx X.hb dX11_operand_68 ?_
        refine pf_X11_446 X hP hD hS 0 rfl rfl rfl (Nat.le_of_ble_eq_true rfl) (wo := (gY G uY (va_up iY 44 ((iY 44) + 1)) sY tY jY)) rfl dX11_operand_69 (fun H locs hP hD hS => ?_)
        refine lv_aload_n X.hx X.hb dX11_operand_72 rfl (lv_at hl 0 rfl) ?_
        obtain ⟨⟨iY_19, jY_20⟩, hc_21, hf⟩ := bd_i hf
        refine r_wvv (As := []) (rest := []) X sm_X11_186 (c_X11_next l G N uY (va_up iY 44 ((iY 44) + 1)) sY tY jY hc_21) hP hD hS hA 0 rfl rfl rfl hl.1 (lv_room (Nat.le_of_ble_eq_true rfl)) ⟨Nat.le_of_ble_eq_true rfl, Nat.le_of_ble_eq_true rfl⟩ ⟨Nat.zero_le _, Nat.zero_le _⟩ dX11_operand_73 (fun H locs hP hD hS => ?_)
        refine lv_iload_n X.hx X.hb dX11_operand_76 rfl (lv_at hl 1 rfl) ?_
        obtain ⟨K_22, eK_24, hf⟩ := jn_i hf
        have hj_23 : ∀ (H : Heap) (locs : List Loc) (ls : Array Slot), K_22 () = some (r, iY', sY', jY') → va_P G.1 vwCl (gY G uY iY_19 sY tY jY_20) H → va_D A (gY G uY iY_19 sY tY jY_20) → va_S A s.heap H locs → lv_has ls 5 [(0, .ref (uY 0)), (1, .int r_1)] → W p l e (RM 3) s m args below meth c H locs 0 0 QQ (F0 m 84 ls []) := by
          intro  H locs ls hf hP hD hS hl
          rw [eK_24] at hf
          try dsimp only at hf
          refine lv_aload_n X.hx X.hb dX11_operand_84 rfl (lv_at hl 0 rfl) ?_
          refine gf_X11_80 X hP 0 rfl (v := .ref (uY 43)) rfl dX11_operand_85 ?_
          refine lv_aload_n X.hx X.hb dX11_operand_88 rfl (lv_at hl 0 rfl) ?_
          refine gf_X11_434 X hP 0 rfl (v := .int (iY_19 45)) rfl dX11_operand_89 ?_
          refine lv_iload_n X.hx X.hb dX11_operand_92 rfl (lv_at hl 1 rfl) ?_
          obtain ⟨K_25, eK_27, hf⟩ := jn_i hf
          have hj_26 : ∀ (y_28 : Int32) (H : Heap) (locs : List Loc) (ls : Array Slot), K_25 y_28 = some (r, iY', sY', jY') → va_P G.1 vwCl (gY G uY iY_19 sY tY jY_20) H → va_D A (gY G uY iY_19 sY tY jY_20) → va_S A s.heap H locs → lv_has ls 5 [(0, .ref (uY 0))] → W p l e (RM 3) s m args below meth c H locs 0 0 QQ (F0 m 103 ls [.int y_28, .int (iY_19 45), .ref (uY 43)]) := by
            intro y_28 H locs ls hf hP hD hS hl
            rw [eK_27] at hf
            try dsimp only at hf
            obtain ⟨hi_29, hf⟩ := ck_i hf
            obtain ⟨g_30, eg_30, hf⟩ := nv_i hf
            refine r_iast X hP hD hS 16 (f := (sY 42)) rfl hi_29 (wo := (gY G uY iY_19 (va_up sY 42 g_30) tY jY_20)) (by subst eg_30; rfl) dX11_operand_103 (fun H locs hP hD hS => ?_)
            refine lv_aload_n X.hx X.hb dX11_operand_104 rfl (lv_at hl 0 rfl) ?_
            refine lv_dup X.hx X.hb dX11_operand_105 rfl ?_
            refine gf_X11_434 X hP 0 rfl (v := .int (iY_19 45)) rfl dX11_operand_106 ?_
            refine lv_iconst (v := 1) X.hx X.hb dX11_operand_109 (by decide) ?_
            refine lv_iadd X.hx X.hb dX11_operand_110 ?_
            refine pf_X11_434 X hP hD hS 0 rfl rfl rfl (Nat.le_of_ble_eq_true rfl) (wo := (gY G uY (va_up iY_19 45 ((iY_19 45) + 1)) (va_up sY 42 g_30) tY jY_20)) rfl dX11_operand_111 (fun H locs hP hD hS => ?_)
            refine lv_aload_n X.hx X.hb dX11_operand_114 rfl (lv_at hl 0 rfl) ?_
            refine lv_dup X.hx X.hb dX11_operand_115 rfl ?_
            refine gf_X11_440 X hP 0 rfl (v := .int (iY_19 46)) rfl dX11_operand_116 ?_
            refine lv_iconst (v := 1) X.hx X.hb dX11_operand_119 (by decide) ?_
            refine lv_iadd X.hx X.hb dX11_operand_120 ?_
            refine pf_X11_440 X hP hD hS 0 rfl rfl rfl (Nat.le_of_ble_eq_true rfl) (wo := (gY G uY (va_up (va_up iY_19 45 ((iY_19 45) + 1)) 46 ((iY_19 46) + 1)) (va_up sY 42 g_30) tY jY_20)) rfl dX11_operand_121 (fun H locs hP hD hS => ?_)
            refine lv_iconst (v := 1) X.hx X.hb dX11_operand_124 (by decide) ?_
            cases hf
            subst hQ
            exact r_zret X hP hD hS (by decide) dX11_operand_125
          refine lv_if_eq (tgt := 101) X.hx X.hb dX11_operand_93 (by decide) (fun hc_31 => ?_) (fun hc_31 => ?_)
          · replace hf := if_t hf hc_31
            refine lv_bipush (v := 23) X.hx X.hb dX11_operand_101 (by decide) ?_
            exact hj_26 _ _ _ _ hf hP hD hS (lv_sub hl [0] rfl)
          · replace hf := if_f hf hc_31
            refine lv_bipush (v := 20) X.hx X.hb dX11_operand_96 (by decide) ?_
            refine lv_goto (tgt := 103) X.hx X.hb dX11_operand_98 (by decide) ?_
            exact hj_26 _ _ _ _ hf hP hD hS (lv_sub hl [0] rfl)
        refine lv_if_ne (tgt := 84) X.hx X.hb dX11_operand_77 (by decide) (fun hc_32 => ?_) (fun hc_32 => ?_)
        · replace hf := if_f hf hc_32
          exact hj_23 _ _ _ hf hP hD hS (lv_sub hl [0, 1] rfl)
        · replace hf := if_t hf hc_32
          refine lv_iload_n X.hx X.hb dX11_operand_80 rfl (lv_at hl 2 rfl) ?_
          refine lv_if_eq (tgt := 126) X.hx X.hb dX11_operand_81 (by decide) (fun hc_33 => ?_) (fun hc_33 => ?_)
          · replace hf := if_t hf hc_33
            refine lv_aload_n X.hx X.hb dX11_operand_126 rfl (lv_at hl 0 rfl) ?_
            refine lv_iconst (v := 1) X.hx X.hb dX11_operand_127 (by decide) ?_
            refine pf_X11_449 X hP hD hS 0 rfl (by decide) (by decide) (Nat.le_of_ble_eq_true rfl) (wo := (gY G uY (va_up iY_19 47 1) sY tY jY_20)) rfl dX11_operand_128 (fun H locs hP hD hS => ?_)
            refine lv_iload_n X.hx X.hb dX11_operand_131 rfl (lv_at hl 3 rfl) ?_
            refine lv_iconst (v := 4) X.hx X.hb dX11_operand_132 (by decide) ?_
            refine lv_icmp_ge (tgt := 145) X.hx X.hb dX11_operand_133 (by decide) (fun hc_34 => ?_) (fun hc_34 => ?_)
            · replace hf := if_t hf hc_34
              refine lv_iload_n X.hx X.hb dX11_operand_145 rfl (lv_at hl 3 rfl) ?_
              refine lv_bipush (v := 6) X.hx X.hb dX11_operand_146 (by decide) ?_
              refine lv_icmp_ge (tgt := 207) X.hx X.hb dX11_operand_148 (by decide) (fun hc_35 => ?_) (fun hc_35 => ?_)
              · replace hf := if_t hf hc_35
                refine lv_aload_n X.hx X.hb dX11_operand_207 rfl (lv_at hl 0 rfl) ?_
                refine gf_X11_157 X hP 0 rfl (v := .int (iY_19 11)) rfl dX11_operand_208 ?_
                refine lv_iconst (v := 3) X.hx X.hb dX11_operand_211 (by decide) ?_
                obtain ⟨K_36, eK_38, hf⟩ := jn_i hf
                have hj_37 : ∀ (H : Heap) (locs : List Loc) (ls : Array Slot), K_36 () = some (r, iY', sY', jY') → va_P G.1 vwCl (gY G uY (va_up iY_19 47 1) sY tY jY_20) H → va_D A (gY G uY (va_up iY_19 47 1) sY tY jY_20) → va_S A s.heap H locs → lv_has ls 5 [(0, .ref (uY 0))] → W p l e (RM 3) s m args below meth c H locs 0 0 QQ (F0 m 233 ls []) := by
                  intro  H locs ls hf hP hD hS hl
                  rw [eK_38] at hf
                  try dsimp only at hf
                  refine lv_aload_n X.hx X.hb dX11_operand_233 rfl (lv_at hl 0 rfl) ?_
                  refine lv_iconst (v := 1) X.hx X.hb dX11_operand_234 (by decide) ?_
                  obtain ⟨⟨r_39, iY_40⟩, hc_41, hf⟩ := bd_i hf
                  refine r_wvi (As := [.int 1]) (rest := []) X sm_X11_183 (c_X11_bad l G N uY (va_up iY_19 47 1) sY tY jY_20 1 hc_41) hP hD hS hA 0 rfl rfl rfl hl.1 (lv_room (Nat.le_of_ble_eq_true rfl)) ⟨Nat.le_of_ble_eq_true rfl, Nat.le_of_ble_eq_true rfl⟩ ⟨Nat.zero_le _, Nat.zero_le _⟩ dX11_operand_235 (fun H locs hP hD hS => ?_)
                  obtain ⟨hb_42, hf⟩ := zb_i hf
                  cases hf
                  subst hQ
                  exact r_zret X hP hD hS hb_42 dX11_operand_238
                refine lv_icmp_ne (tgt := 233) X.hx X.hb dX11_operand_212 (by decide) (fun hc_43 => ?_) (fun hc_43 => ?_)
                · replace hf := if_f hf hc_43
                  exact hj_37 _ _ _ hf hP hD hS (lv_sub hl [0] rfl)
                · replace hf := if_t hf hc_43
                  refine lv_aload_n X.hx X.hb dX11_operand_215 rfl (lv_at hl 0 rfl) ?_
                  refine gf_X11_167 X hP 0 rfl (v := .int (iY_19 14)) rfl dX11_operand_216 ?_
                  refine lv_bipush (v := 60) X.hx X.hb dX11_operand_219 (by decide) ?_
                  refine lv_icmp_lt (tgt := 233) X.hx X.hb dX11_operand_221 (by decide) (fun hc_44 => ?_) (fun hc_44 => ?_)
                  · replace hf := if_t hf hc_44
                    exact hj_37 _ _ _ hf hP hD hS (lv_sub hl [0] rfl)
                  · replace hf := if_f hf hc_44
                    refine lv_aload_n X.hx X.hb dX11_operand_224 rfl (lv_at hl 0 rfl) ?_
                    refine gf_X11_167 X hP 0 rfl (v := .int (iY_19 14)) rfl dX11_operand_225 ?_
                    refine lv_bipush (v := 62) X.hx X.hb dX11_operand_228 (by decide) ?_
                    refine lv_icmp_le (tgt := 239) X.hx X.hb dX11_operand_230 (by decide) (fun hc_45 => ?_) (fun hc_45 => ?_)
                    · replace hf := if_t hf hc_45
                      refine lv_aload_n X.hx X.hb dX11_operand_239 rfl (lv_at hl 0 rfl) ?_
                      refine gf_X11_167 X hP 0 rfl (v := .int (iY_19 14)) rfl dX11_operand_240 ?_
                      refine lv_istore (lv' := [(4, .int (iY_19 14)), (0, .ref (uY 0)), (1, .int r_1), (2, .int r_3), (3, .int r_5)]) X.hx X.hb dX11_operand_243 hl (by decide) rfl (fun ls hl => ?_)
                      refine lv_aload_n X.hx X.hb dX11_operand_245 rfl (lv_at hl 1 rfl) ?_
                      obtain ⟨⟨iY_46, jY_47⟩, hc_48, hf⟩ := bd_i hf
                      refine r_wvv (As := []) (rest := []) X sm_X11_186 (c_X11_next l G N uY (va_up iY_19 47 1) sY tY jY_20 hc_48) hP hD hS hA 0 rfl rfl rfl hl.1 (lv_room (Nat.le_of_ble_eq_true rfl)) ⟨Nat.le_of_ble_eq_true rfl, Nat.le_of_ble_eq_true rfl⟩ ⟨Nat.zero_le _, Nat.zero_le _⟩ dX11_operand_246 (fun H locs hP hD hS => ?_)
                      refine lv_aload_n X.hx X.hb dX11_operand_249 rfl (lv_at hl 1 rfl) ?_
                      refine gf_X11_157 X hP 0 rfl (v := .int (iY_46 11)) rfl dX11_operand_250 ?_
                      refine lv_iconst (v := 2) X.hx X.hb dX11_operand_253 (by decide) ?_
                      refine lv_icmp_eq (tgt := 263) X.hx X.hb dX11_operand_254 (by decide) (fun hc_49 => ?_) (fun hc_49 => ?_)
                      · replace hf := if_t hf hc_49
                        refine lv_aload_n X.hx X.hb dX11_operand_263 rfl (lv_at hl 1 rfl) ?_
                        refine lv_iload_n X.hx X.hb dX11_operand_264 rfl (lv_at hl 4 rfl) ?_
                        refine lv_iload X.hx X.hb dX11_operand_265 (lv_at hl 0 rfl) ?_
                        refine lv_aload_n X.hx X.hb dX11_operand_267 rfl (lv_at hl 1 rfl) ?_
                        refine gf_X11_167 X hP 0 rfl (v := .int (iY_46 14)) rfl dX11_operand_268 ?_
                        obtain ⟨⟨iY_50, sY_51⟩, hc_52, hf⟩ := bd_i hf
                        refine r_wvv (As := [.int r_5, .int (iY_19 14), .int (iY_46 14)]) (rest := []) X sm_X11_437 (c_X11_code l G N uY iY_46 sY tY jY_47 r_5 (iY_19 14) (iY_46 14) hc_52) hP hD hS hA 0 rfl rfl rfl hl.1 (lv_room (Nat.le_of_ble_eq_true rfl)) ⟨Nat.le_of_ble_eq_true rfl, Nat.le_of_ble_eq_true rfl⟩ ⟨Nat.zero_le _, Nat.zero_le _⟩ dX11_operand_271 (fun H locs hP hD hS => ?_)
                        refine lv_aload_n X.hx X.hb dX11_operand_274 rfl (lv_at hl 1 rfl) ?_
                        obtain ⟨⟨iY_53, jY_54⟩, hc_55, hf⟩ := bd_i hf
                        refine r_wvv (As := []) (rest := []) X sm_X11_186 (c_X11_next l G N uY iY_50 sY_51 tY jY_47 hc_55) hP hD hS hA 0 rfl rfl rfl hl.1 (lv_room (Nat.le_of_ble_eq_true rfl)) ⟨Nat.le_of_ble_eq_true rfl, Nat.le_of_ble_eq_true rfl⟩ ⟨Nat.zero_le _, Nat.zero_le _⟩ dX11_operand_275 (fun H locs hP hD hS => ?_)
                        refine lv_iconst (v := 1) X.hx X.hb dX11_operand_278 (by decide) ?_
                        cases hf
                        subst hQ
                        exact r_zret X hP hD hS (by decide) dX11_operand_279
                      · replace hf := if_f hf hc_49
                        refine lv_aload_n X.hx X.hb dX11_operand_257 rfl (lv_at hl 1 rfl) ?_
                        refine lv_iconst (v := 1) X.hx X.hb dX11_operand_258 (by decide) ?_
                        obtain ⟨⟨r_56, iY_57⟩, hc_58, hf⟩ := bd_i hf
                        refine r_wvi (As := [.int 1]) (rest := []) X sm_X11_183 (c_X11_bad l G N uY iY_46 sY tY jY_47 1 hc_58) hP hD hS hA 0 rfl rfl rfl hl.1 (lv_room (Nat.le_of_ble_eq_true rfl)) ⟨Nat.le_of_ble_eq_true rfl, Nat.le_of_ble_eq_true rfl⟩ ⟨Nat.zero_le _, Nat.zero_le _⟩ dX11_operand_259 (fun H locs hP hD hS => ?_)
                        obtain ⟨hb_59, hf⟩ := zb_i hf
                        cases hf
                        subst hQ
                        exact r_zret X hP hD hS hb_59 dX11_operand_262
                    · replace hf := if_f hf hc_45
                      exact hj_37 _ _ _ hf hP hD hS (lv_sub hl [0] rfl)
              · replace hf := if_f hf hc_35
                refine lv_iload_n X.hx X.hb dX11_operand_151 rfl (lv_at hl 3 rfl) ?_
                refine lv_iconst (v := 4) X.hx X.hb dX11_operand_152 (by decide) ?_
                obtain ⟨K_60, eK_62, hf⟩ := jn_i hf
                have hj_61 : ∀ (y_63 : Int32) (iY_64 : Nat → Int32) (H : Heap) (locs : List Loc) (ls : Array Slot), K_60 (y_63, iY_64) = some (r, iY', sY', jY') → va_P G.1 vwCl (gY G uY iY_64 sY tY jY_20) H → va_D A (gY G uY iY_64 sY tY jY_20) → va_S A s.heap H locs → lv_has ls 5 [(0, .ref (uY 0)), (3, .int r_5)] → W p l e (RM 3) s m args below meth c H locs 0 0 QQ (F0 m 182 ls [.int y_63]) := by
                  intro y_63 iY_64 H locs ls hf hP hD hS hl
                  rw [eK_62] at hf
                  try dsimp only at hf
                  refine lv_istore (lv' := [(4, .int y_63), (0, .ref (uY 0)), (3, .int r_5)]) X.hx X.hb dX11_operand_182 hl (by decide) rfl (fun ls hl => ?_)
                  refine lv_iload X.hx X.hb dX11_operand_184 (lv_at hl 0 rfl) ?_
                  refine lv_if_ne (tgt := 191) X.hx X.hb dX11_operand_186 (by decide) (fun hc_65 => ?_) (fun hc_65 => ?_)
                  · replace hf := if_f hf hc_65
                    refine lv_aload_n X.hx X.hb dX11_operand_191 rfl (lv_at hl 1 rfl) ?_
                    refine lv_iload_n X.hx X.hb dX11_operand_192 rfl (lv_at hl 2 rfl) ?_
                    refine lv_iconst (v := 0) X.hx X.hb dX11_operand_193 (by decide) ?_
                    refine lv_aload_n X.hx X.hb dX11_operand_194 rfl (lv_at hl 1 rfl) ?_
                    refine gf_X11_193 X hP 0 rfl (v := .int (iY_64 18)) rfl dX11_operand_195 ?_
                    obtain ⟨⟨iY_66, sY_67⟩, hc_68, hf⟩ := bd_i hf
                    refine r_wvv (As := [.int r_5, .int 0, .int (iY_64 18)]) (rest := []) X sm_X11_437 (c_X11_code l G N uY iY_64 sY tY jY_20 r_5 0 (iY_64 18) hc_68) hP hD hS hA 0 rfl rfl rfl hl.1 (lv_room (Nat.le_of_ble_eq_true rfl)) ⟨Nat.le_of_ble_eq_true rfl, Nat.le_of_ble_eq_true rfl⟩ ⟨Nat.zero_le _, Nat.zero_le _⟩ dX11_operand_198 (fun H locs hP hD hS => ?_)
                    refine lv_aload_n X.hx X.hb dX11_operand_201 rfl (lv_at hl 1 rfl) ?_
                    obtain ⟨⟨iY_69, jY_70⟩, hc_71, hf⟩ := bd_i hf
                    refine r_wvv (As := []) (rest := []) X sm_X11_186 (c_X11_next l G N uY iY_66 sY_67 tY jY_20 hc_71) hP hD hS hA 0 rfl rfl rfl hl.1 (lv_room (Nat.le_of_ble_eq_true rfl)) ⟨Nat.le_of_ble_eq_true rfl, Nat.le_of_ble_eq_true rfl⟩ ⟨Nat.zero_le _, Nat.zero_le _⟩ dX11_operand_202 (fun H locs hP hD hS => ?_)
                    refine lv_iconst (v := 1) X.hx X.hb dX11_operand_205 (by decide) ?_
                    cases hf
                    subst hQ
                    exact r_zret X hP hD hS (by decide) dX11_operand_206
                  · replace hf := if_t hf hc_65
                    refine lv_iconst (v := 0) X.hx X.hb dX11_operand_189 (by decide) ?_
                    cases hf
                    subst hQ
                    exact r_zret X hP hD hS (by decide) dX11_operand_190
                refine lv_icmp_ne (tgt := 170) X.hx X.hb dX11_operand_153 (by decide) (fun hc_72 => ?_) (fun hc_72 => ?_)
                · replace hf := if_f hf hc_72
                  refine lv_aload_n X.hx X.hb dX11_operand_170 rfl (lv_at hl 0 rfl) ?_
                  refine lv_bipush (v := 7) X.hx X.hb dX11_operand_171 (by decide) ?_
                  refine lv_aload_n X.hx X.hb dX11_operand_173 rfl (lv_at hl 0 rfl) ?_
                  refine gf_X11_33 X hP 0 rfl (v := .ref (uY 7)) rfl dX11_operand_174 ?_
                  refine lv_iconst (v := 1) X.hx X.hb dX11_operand_177 (by decide) ?_
                  refine r_iald X hP 2 (f := (sY 6)) rfl (vp_c rfl) dX11_operand_178 ?_
                  refine W.eq (g2 := F0 m 179 ls [.int ((sY 6) 1), .int 7, .ref (uY 0)]) rfl ?_
                  obtain ⟨⟨r_73, iY_74⟩, hc_75, hf⟩ := bd_i hf
                  refine r_wvi (As := [.int 7, .int ((sY 6) 1)]) (rest := []) X sm_X11_208 (c_X11_looksAt l G N uY (va_up iY_19 47 1) sY tY jY_20 7 ((sY 6) 1) hc_75) hP hD hS hA 0 rfl rfl rfl hl.1 (lv_room (Nat.le_of_ble_eq_true rfl)) ⟨Nat.le_of_ble_eq_true rfl, Nat.le_of_ble_eq_true rfl⟩ ⟨Nat.zero_le _, Nat.zero_le _⟩ dX11_operand_179 (fun H locs hP hD hS => ?_)
                  exact hj_61 _ _ _ _ _ hf hP hD hS (lv_sub hl [0, 3] rfl)
                · replace hf := if_t hf hc_72
                  refine lv_aload_n X.hx X.hb dX11_operand_156 rfl (lv_at hl 0 rfl) ?_
                  refine lv_iconst (v := 0) X.hx X.hb dX11_operand_157 (by decide) ?_
                  refine lv_aload_n X.hx X.hb dX11_operand_158 rfl (lv_at hl 0 rfl) ?_
                  refine gf_X11_33 X hP 0 rfl (v := .ref (uY 7)) rfl dX11_operand_159 ?_
                  refine lv_iconst (v := 0) X.hx X.hb dX11_operand_162 (by decide) ?_
                  refine r_iald X hP 2 (f := (sY 6)) rfl (vp_c rfl) dX11_operand_163 ?_
                  refine W.eq (g2 := F0 m 164 ls [.int ((sY 6) 0), .int 0, .ref (uY 0)]) rfl ?_
                  obtain ⟨⟨r_76, iY_77⟩, hc_78, hf⟩ := bd_i hf
                  refine r_wvi (As := [.int 0, .int ((sY 6) 0)]) (rest := []) X sm_X11_208 (c_X11_looksAt l G N uY (va_up iY_19 47 1) sY tY jY_20 0 ((sY 6) 0) hc_78) hP hD hS hA 0 rfl rfl rfl hl.1 (lv_room (Nat.le_of_ble_eq_true rfl)) ⟨Nat.le_of_ble_eq_true rfl, Nat.le_of_ble_eq_true rfl⟩ ⟨Nat.zero_le _, Nat.zero_le _⟩ dX11_operand_164 (fun H locs hP hD hS => ?_)
                  refine lv_goto (tgt := 182) X.hx X.hb dX11_operand_167 (by decide) ?_
                  exact hj_61 _ _ _ _ _ hf hP hD hS (lv_sub hl [0, 3] rfl)
            · replace hf := if_f hf hc_34
              refine lv_aload_n X.hx X.hb dX11_operand_136 rfl (lv_at hl 0 rfl) ?_
              refine lv_iload_n X.hx X.hb dX11_operand_137 rfl (lv_at hl 3 rfl) ?_
              refine lv_iconst (v := 0) X.hx X.hb dX11_operand_138 (by decide) ?_
              refine lv_iconst (v := 0) X.hx X.hb dX11_operand_139 (by decide) ?_
              obtain ⟨⟨iY_79, sY_80⟩, hc_81, hf⟩ := bd_i hf
              refine r_wvv (As := [.int r_5, .int 0, .int 0]) (rest := []) X sm_X11_437 (c_X11_code l G N uY (va_up iY_19 47 1) sY tY jY_20 r_5 0 0 hc_81) hP hD hS hA 0 rfl rfl rfl hl.1 (lv_room (Nat.le_of_ble_eq_true rfl)) ⟨Nat.le_of_ble_eq_true rfl, Nat.le_of_ble_eq_true rfl⟩ ⟨Nat.zero_le _, Nat.zero_le _⟩ dX11_operand_140 (fun H locs hP hD hS => ?_)
              refine lv_iconst (v := 1) X.hx X.hb dX11_operand_143 (by decide) ?_
              cases hf
              subst hQ
              exact r_zret X hP hD hS (by decide) dX11_operand_144
          · replace hf := if_f hf hc_33
            exact hj_23 _ _ _ hf hP hD hS (lv_sub hl [0, 1] rfl)
      · replace hf := if_f hf hc_18
        exact hj_11 _ _ _ hf hP hD hS (lv_sub hl [0] rfl)
  refine lv_if_ne (tgt := 38) X.hx X.hb dX11_operand_21 (by decide) (fun hc_82 => ?_) (fun hc_82 => ?_)
  · replace hf := if_f hf hc_82
    exact hj_8 _ _ _ hf hP hD hS (lv_sub hl [3, 2, 1, 0] rfl)
  · replace hf := if_t hf hc_82
    refine lv_iload_n X.hx X.hb dX11_operand_24 rfl (lv_at hl 1 rfl) ?_
    refine lv_if_ne (tgt := 38) X.hx X.hb dX11_operand_25 (by decide) (fun hc_83 => ?_) (fun hc_83 => ?_)
    · replace hf := if_f hf hc_83
      exact hj_8 _ _ _ hf hP hD hS (lv_sub hl [3, 2, 1, 0] rfl)
    · replace hf := if_t hf hc_83
      refine lv_iload_n X.hx X.hb dX11_operand_28 rfl (lv_at hl 0 rfl) ?_
      refine lv_if_ge (tgt := 38) X.hx X.hb dX11_operand_29 (by decide) (fun hc_84 => ?_) (fun hc_84 => ?_)
      · replace hf := if_t hf hc_84
        exact hj_8 _ _ _ hf hP hD hS (lv_sub hl [3, 2, 1, 0] rfl)
      · replace hf := if_f hf hc_84
        refine lv_aload_n X.hx X.hb dX11_operand_32 rfl (lv_at hl 3 rfl) ?_
        refine lv_iconst (v := 1) X.hx X.hb dX11_operand_33 (by decide) ?_
        obtain ⟨⟨r_85, iY_86⟩, hc_87, hf⟩ := bd_i hf
        refine r_wvi (As := [.int 1]) (rest := []) X sm_X11_183 (c_X11_bad l G N uY iY sY tY jY 1 hc_87) hP hD hS hA 0 rfl rfl rfl hl.1 (lv_room (Nat.le_of_ble_eq_true rfl)) ⟨Nat.le_of_ble_eq_true rfl, Nat.le_of_ble_eq_true rfl⟩ ⟨Nat.zero_le _, Nat.zero_le _⟩ dX11_operand_34 (fun H locs hP hD hS => ?_)
        obtain ⟨hb_88, hf⟩ := zb_i hf
        cases hf
        subst hQ
        exact r_zret X hP hD hS hb_88 dX11_operand_37

